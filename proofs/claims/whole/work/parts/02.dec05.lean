theorem dX11_destinationAt_12 : decode cX11_destinationAt 12 = .ok (.getfield 24, 3) := by decide +kernel
theorem dX11_destinationAt_15 : decode cX11_destinationAt 15 = .ok (.sipush 330, 3) := by decide +kernel
theorem dX11_destinationAt_18 : decode cX11_destinationAt 18 = .ok (.iload_n 1, 1) := by decide +kernel
theorem dX11_destinationAt_19 : decode cX11_destinationAt 19 = .ok (.iadd, 1) := by decide +kernel
theorem dX11_destinationAt_20 : decode cX11_destinationAt 20 = .ok (.iaload, 1) := by decide +kernel
theorem dX11_destinationAt_21 : decode cX11_destinationAt 21 = .ok (.ifCond .ne 9, 3) := by decide +kernel
theorem dX11_destinationAt_24 : decode cX11_destinationAt 24 = .ok (.iload_n 2, 1) := by decide +kernel
theorem dX11_destinationAt_25 : decode cX11_destinationAt 25 = .ok (.ifCond .ne 5, 3) := by decide +kernel
theorem dX11_destinationAt_28 : decode cX11_destinationAt 28 = .ok (.iconst 0, 1) := by decide +kernel
theorem dX11_destinationAt_29 : decode cX11_destinationAt 29 = .ok (.ireturn, 1) := by decide +kernel
theorem dX11_destinationAt_30 : decode cX11_destinationAt 30 = .ok (.aload_n 0, 1) := by decide +kernel
theorem dX11_destinationAt_31 : decode cX11_destinationAt 31 = .ok (.getfield 24, 3) := by decide +kernel
theorem dX11_destinationAt_34 : decode cX11_destinationAt 34 = .ok (.sipush 330, 3) := by decide +kernel
theorem dX11_destinationAt_37 : decode cX11_destinationAt 37 = .ok (.iload_n 1, 1) := by decide +kernel
theorem dX11_destinationAt_38 : decode cX11_destinationAt 38 = .ok (.iadd, 1) := by decide +kernel
theorem dX11_destinationAt_39 : decode cX11_destinationAt 39 = .ok (.iaload, 1) := by decide +kernel
theorem dX11_destinationAt_40 : decode cX11_destinationAt 40 = .ok (.aload_n 0, 1) := by decide +kernel
theorem dX11_destinationAt_41 : decode cX11_destinationAt 41 = .ok (.getfield 17, 3) := by decide +kernel
theorem dX11_destinationAt_44 : decode cX11_destinationAt 44 = .ok (.iconst 3, 1) := by decide +kernel
theorem dX11_destinationAt_45 : decode cX11_destinationAt 45 = .ok (.iaload, 1) := by decide +kernel
theorem dX11_destinationAt_46 : decode cX11_destinationAt 46 = .ok (.if_icmp .gt 7, 3) := by decide +kernel
theorem dX11_destinationAt_49 : decode cX11_destinationAt 49 = .ok (.iload_n 2, 1) := by decide +kernel
theorem dX11_destinationAt_50 : decode cX11_destinationAt 50 = .ok (.ifCond .gt 6, 3) := by decide +kernel
theorem dX11_destinationAt_53 : decode cX11_destinationAt 53 = .ok (.bipush 6, 2) := by decide +kernel
theorem dX11_destinationAt_55 : decode cX11_destinationAt 55 = .ok (.ireturn, 1) := by decide +kernel
theorem dX11_destinationAt_56 : decode cX11_destinationAt 56 = .ok (.aload_n 0, 1) := by decide +kernel
theorem dX11_destinationAt_57 : decode cX11_destinationAt 57 = .ok (.getfield 24, 3) := by decide +kernel
theorem dX11_destinationAt_60 : decode cX11_destinationAt 60 = .ok (.sipush 270, 3) := by decide +kernel
theorem dX11_destinationAt_63 : decode cX11_destinationAt 63 = .ok (.iload_n 1, 1) := by decide +kernel
theorem dX11_destinationAt_64 : decode cX11_destinationAt 64 = .ok (.iadd, 1) := by decide +kernel
theorem dX11_destinationAt_65 : decode cX11_destinationAt 65 = .ok (.iaload, 1) := by decide +kernel
theorem dX11_destinationAt_66 : decode cX11_destinationAt 66 = .ok (.ifCond .ne 5, 3) := by decide +kernel
theorem dX11_destinationAt_69 : decode cX11_destinationAt 69 = .ok (.iconst 4, 1) := by decide +kernel
theorem dX11_destinationAt_70 : decode cX11_destinationAt 70 = .ok (.ireturn, 1) := by decide +kernel
theorem dX11_destinationAt_71 : decode cX11_destinationAt 71 = .ok (.aload_n 0, 1) := by decide +kernel
theorem dX11_destinationAt_72 : decode cX11_destinationAt 72 = .ok (.iload_n 2, 1) := by decide +kernel
theorem dX11_destinationAt_73 : decode cX11_destinationAt 73 = .ok (.invokevirtual 189, 3) := by decide +kernel
theorem dX11_destinationAt_76 : decode cX11_destinationAt 76 = .ok (.istore_n 3, 1) := by decide +kernel
theorem dX11_destinationAt_77 : decode cX11_destinationAt 77 = .ok (.iload_n 3, 1) := by decide +kernel
theorem dX11_destinationAt_78 : decode cX11_destinationAt 78 = .ok (.ifCond .lt 12, 3) := by decide +kernel
theorem dX11_destinationAt_81 : decode cX11_destinationAt 81 = .ok (.aload_n 0, 1) := by decide +kernel
theorem dX11_destinationAt_82 : decode cX11_destinationAt 82 = .ok (.iload_n 3, 1) := by decide +kernel
theorem dX11_destinationAt_83 : decode cX11_destinationAt 83 = .ok (.invokevirtual 192, 3) := by decide +kernel
theorem dX11_destinationAt_86 : decode cX11_destinationAt 86 = .ok (.iconst 2, 1) := by decide +kernel
theorem dX11_destinationAt_87 : decode cX11_destinationAt 87 = .ok (.if_icmp .ne 6, 3) := by decide +kernel
theorem dX11_destinationAt_90 : decode cX11_destinationAt 90 = .ok (.bipush 6, 2) := by decide +kernel
theorem dX11_destinationAt_92 : decode cX11_destinationAt 92 = .ok (.ireturn, 1) := by decide +kernel
theorem dX11_destinationAt_93 : decode cX11_destinationAt 93 = .ok (.aload_n 0, 1) := by decide +kernel
theorem dX11_destinationAt_94 : decode cX11_destinationAt 94 = .ok (.iload_n 3, 1) := by decide +kernel
theorem dX11_destinationAt_95 : decode cX11_destinationAt 95 = .ok (.invokevirtual 192, 3) := by decide +kernel
theorem dX11_destinationAt_98 : decode cX11_destinationAt 98 = .ok (.ifCond .ne 7, 3) := by decide +kernel
theorem dX11_destinationAt_101 : decode cX11_destinationAt 101 = .ok (.iconst 5, 1) := by decide +kernel
theorem dX11_destinationAt_102 : decode cX11_destinationAt 102 = .ok (.goto 12, 3) := by decide +kernel
theorem dX11_destinationAt_105 : decode cX11_destinationAt 105 = .ok (.bipush 10, 2) := by decide +kernel
theorem dX11_destinationAt_107 : decode cX11_destinationAt 107 = .ok (.aload_n 0, 1) := by decide +kernel
theorem dX11_destinationAt_108 : decode cX11_destinationAt 108 = .ok (.iload_n 3, 1) := by decide +kernel
theorem dX11_destinationAt_109 : decode cX11_destinationAt 109 = .ok (.iconst 1, 1) := by decide +kernel
theorem dX11_destinationAt_110 : decode cX11_destinationAt 110 = .ok (.invokevirtual 186, 3) := by decide +kernel
theorem dX11_destinationAt_113 : decode cX11_destinationAt 113 = .ok (.iadd, 1) := by decide +kernel
theorem dX11_destinationAt_114 : decode cX11_destinationAt 114 = .ok (.ireturn, 1) := by decide +kernel
theorem dX11_manyIn_0 : decode cX11_manyIn 0 = .ok (.iconst 0, 1) := by decide +kernel
theorem dX11_manyIn_1 : decode cX11_manyIn 1 = .ok (.istore_n 3, 1) := by decide +kernel
theorem dX11_manyIn_2 : decode cX11_manyIn 2 = .ok (.iconst 0, 1) := by decide +kernel
theorem dX11_manyIn_3 : decode cX11_manyIn 3 = .ok (.istore 4, 2) := by decide +kernel
theorem dX11_manyIn_5 : decode cX11_manyIn 5 = .ok (.iload 4, 2) := by decide +kernel
theorem dX11_manyIn_7 : decode cX11_manyIn 7 = .ok (.aload_n 0, 1) := by decide +kernel
theorem dX11_manyIn_8 : decode cX11_manyIn 8 = .ok (.getfield 24, 3) := by decide +kernel
theorem dX11_manyIn_11 : decode cX11_manyIn 11 = .ok (.iconst 1, 1) := by decide +kernel
theorem dX11_manyIn_12 : decode cX11_manyIn 12 = .ok (.iaload, 1) := by decide +kernel
theorem dX11_manyIn_13 : decode cX11_manyIn 13 = .ok (.if_icmp .ge 39, 3) := by decide +kernel
theorem dX11_manyIn_16 : decode cX11_manyIn 16 = .ok (.iload_n 3, 1) := by decide +kernel
theorem dX11_manyIn_17 : decode cX11_manyIn 17 = .ok (.aload_n 0, 1) := by decide +kernel
theorem dX11_manyIn_18 : decode cX11_manyIn 18 = .ok (.iload 4, 2) := by decide +kernel
theorem dX11_manyIn_20 : decode cX11_manyIn 20 = .ok (.iconst 0, 1) := by decide +kernel
theorem dX11_manyIn_21 : decode cX11_manyIn 21 = .ok (.invokevirtual 198, 3) := by decide +kernel
theorem dX11_manyIn_24 : decode cX11_manyIn 24 = .ok (.iload_n 1, 1) := by decide +kernel
theorem dX11_manyIn_25 : decode cX11_manyIn 25 = .ok (.if_icmp .ne 18, 3) := by decide +kernel
theorem dX11_manyIn_28 : decode cX11_manyIn 28 = .ok (.aload_n 0, 1) := by decide +kernel
theorem dX11_manyIn_29 : decode cX11_manyIn 29 = .ok (.iload 4, 2) := by decide +kernel
theorem dX11_manyIn_31 : decode cX11_manyIn 31 = .ok (.iconst 1, 1) := by decide +kernel
theorem dX11_manyIn_32 : decode cX11_manyIn 32 = .ok (.invokevirtual 198, 3) := by decide +kernel
theorem dX11_manyIn_35 : decode cX11_manyIn 35 = .ok (.iload_n 2, 1) := by decide +kernel
theorem dX11_manyIn_36 : decode cX11_manyIn 36 = .ok (.if_icmp .ne 7, 3) := by decide +kernel
theorem dX11_manyIn_39 : decode cX11_manyIn 39 = .ok (.iconst 1, 1) := by decide +kernel
theorem dX11_manyIn_40 : decode cX11_manyIn 40 = .ok (.goto 4, 3) := by decide +kernel
theorem dX11_manyIn_43 : decode cX11_manyIn 43 = .ok (.iconst 0, 1) := by decide +kernel
theorem dX11_manyIn_44 : decode cX11_manyIn 44 = .ok (.iadd, 1) := by decide +kernel
theorem dX11_manyIn_45 : decode cX11_manyIn 45 = .ok (.istore_n 3, 1) := by decide +kernel
theorem dX11_manyIn_46 : decode cX11_manyIn 46 = .ok (.iinc 4 1, 3) := by decide +kernel
theorem dX11_manyIn_49 : decode cX11_manyIn 49 = .ok (.goto (-44), 3) := by decide +kernel
theorem dX11_manyIn_52 : decode cX11_manyIn 52 = .ok (.iload_n 3, 1) := by decide +kernel
theorem dX11_manyIn_53 : decode cX11_manyIn 53 = .ok (.ireturn, 1) := by decide +kernel
theorem dX11_firstIn_0 : decode cX11_firstIn 0 = .ok (.bipush (-2), 2) := by decide +kernel
theorem dX11_firstIn_2 : decode cX11_firstIn 2 = .ok (.istore_n 3, 1) := by decide +kernel
theorem dX11_firstIn_3 : decode cX11_firstIn 3 = .ok (.iconst 0, 1) := by decide +kernel
theorem dX11_firstIn_4 : decode cX11_firstIn 4 = .ok (.istore 4, 2) := by decide +kernel
theorem dX11_firstIn_6 : decode cX11_firstIn 6 = .ok (.iload 4, 2) := by decide +kernel
theorem dX11_firstIn_8 : decode cX11_firstIn 8 = .ok (.aload_n 0, 1) := by decide +kernel
theorem dX11_firstIn_9 : decode cX11_firstIn 9 = .ok (.getfield 24, 3) := by decide +kernel
theorem dX11_firstIn_12 : decode cX11_firstIn 12 = .ok (.iconst 1, 1) := by decide +kernel
theorem dX11_firstIn_13 : decode cX11_firstIn 13 = .ok (.iaload, 1) := by decide +kernel
theorem dX11_firstIn_14 : decode cX11_firstIn 14 = .ok (.if_icmp .ge 66, 3) := by decide +kernel
theorem dX11_firstIn_17 : decode cX11_firstIn 17 = .ok (.aload_n 0, 1) := by decide +kernel
theorem dX11_firstIn_18 : decode cX11_firstIn 18 = .ok (.iload 4, 2) := by decide +kernel
theorem dX11_firstIn_20 : decode cX11_firstIn 20 = .ok (.iconst 0, 1) := by decide +kernel
theorem dX11_firstIn_21 : decode cX11_firstIn 21 = .ok (.invokevirtual 198, 3) := by decide +kernel
theorem dX11_firstIn_24 : decode cX11_firstIn 24 = .ok (.iload_n 1, 1) := by decide +kernel
theorem dX11_firstIn_25 : decode cX11_firstIn 25 = .ok (.if_icmp .ne 18, 3) := by decide +kernel
theorem dX11_firstIn_28 : decode cX11_firstIn 28 = .ok (.aload_n 0, 1) := by decide +kernel
theorem dX11_firstIn_29 : decode cX11_firstIn 29 = .ok (.iload 4, 2) := by decide +kernel
theorem dX11_firstIn_31 : decode cX11_firstIn 31 = .ok (.iconst 1, 1) := by decide +kernel
theorem dX11_firstIn_32 : decode cX11_firstIn 32 = .ok (.invokevirtual 198, 3) := by decide +kernel
theorem dX11_firstIn_35 : decode cX11_firstIn 35 = .ok (.iload_n 2, 1) := by decide +kernel
theorem dX11_firstIn_36 : decode cX11_firstIn 36 = .ok (.if_icmp .ne 7, 3) := by decide +kernel
theorem dX11_firstIn_39 : decode cX11_firstIn 39 = .ok (.iconst 1, 1) := by decide +kernel
theorem dX11_firstIn_40 : decode cX11_firstIn 40 = .ok (.goto 4, 3) := by decide +kernel
theorem dX11_firstIn_43 : decode cX11_firstIn 43 = .ok (.iconst 0, 1) := by decide +kernel
theorem dX11_firstIn_44 : decode cX11_firstIn 44 = .ok (.istore 5, 2) := by decide +kernel
theorem dX11_firstIn_46 : decode cX11_firstIn 46 = .ok (.iload 5, 2) := by decide +kernel
theorem dX11_firstIn_48 : decode cX11_firstIn 48 = .ok (.ifCond .eq 26, 3) := by decide +kernel
theorem dX11_firstIn_51 : decode cX11_firstIn 51 = .ok (.iload_n 3, 1) := by decide +kernel
theorem dX11_firstIn_52 : decode cX11_firstIn 52 = .ok (.ifCond .lt 19, 3) := by decide +kernel
theorem dX11_firstIn_55 : decode cX11_firstIn 55 = .ok (.aload_n 0, 1) := by decide +kernel
theorem dX11_firstIn_56 : decode cX11_firstIn 56 = .ok (.iload 4, 2) := by decide +kernel
theorem dX11_firstIn_58 : decode cX11_firstIn 58 = .ok (.iconst 2, 1) := by decide +kernel
theorem dX11_firstIn_59 : decode cX11_firstIn 59 = .ok (.invokevirtual 198, 3) := by decide +kernel
theorem dX11_firstIn_62 : decode cX11_firstIn 62 = .ok (.aload_n 0, 1) := by decide +kernel
theorem dX11_firstIn_63 : decode cX11_firstIn 63 = .ok (.iload_n 3, 1) := by decide +kernel
theorem dX11_firstIn_64 : decode cX11_firstIn 64 = .ok (.iconst 2, 1) := by decide +kernel
theorem dX11_firstIn_65 : decode cX11_firstIn 65 = .ok (.invokevirtual 198, 3) := by decide +kernel
theorem dX11_firstIn_68 : decode cX11_firstIn 68 = .ok (.if_icmp .ge 6, 3) := by decide +kernel
theorem dX11_firstIn_71 : decode cX11_firstIn 71 = .ok (.iload 4, 2) := by decide +kernel
theorem dX11_firstIn_73 : decode cX11_firstIn 73 = .ok (.istore_n 3, 1) := by decide +kernel
theorem dX11_firstIn_74 : decode cX11_firstIn 74 = .ok (.iinc 4 1, 3) := by decide +kernel
theorem dX11_firstIn_77 : decode cX11_firstIn 77 = .ok (.goto (-71), 3) := by decide +kernel
theorem dX11_firstIn_80 : decode cX11_firstIn 80 = .ok (.iload_n 3, 1) := by decide +kernel
theorem dX11_firstIn_81 : decode cX11_firstIn 81 = .ok (.ireturn, 1) := by decide +kernel
theorem dX11_goes_0 : decode cX11_goes 0 = .ok (.aload_n 0, 1) := by decide +kernel
theorem dX11_goes_1 : decode cX11_goes 1 = .ok (.getfield 24, 3) := by decide +kernel
theorem dX11_goes_4 : decode cX11_goes 4 = .ok (.sipush 400, 3) := by decide +kernel
theorem dX11_goes_7 : decode cX11_goes 7 = .ok (.bipush 8, 2) := by decide +kernel
theorem dX11_goes_9 : decode cX11_goes 9 = .ok (.iload_n 1, 1) := by decide +kernel
theorem dX11_goes_10 : decode cX11_goes 10 = .ok (.imul, 1) := by decide +kernel
theorem dX11_goes_11 : decode cX11_goes 11 = .ok (.iadd, 1) := by decide +kernel
theorem dX11_goes_12 : decode cX11_goes 12 = .ok (.iconst 0, 1) := by decide +kernel
theorem dX11_goes_13 : decode cX11_goes 13 = .ok (.iadd, 1) := by decide +kernel
theorem dX11_goes_14 : decode cX11_goes 14 = .ok (.iload_n 2, 1) := by decide +kernel
theorem dX11_goes_15 : decode cX11_goes 15 = .ok (.iastore, 1) := by decide +kernel
theorem dX11_goes_16 : decode cX11_goes 16 = .ok (.aload_n 0, 1) := by decide +kernel
theorem dX11_goes_17 : decode cX11_goes 17 = .ok (.getfield 24, 3) := by decide +kernel
theorem dX11_goes_20 : decode cX11_goes 20 = .ok (.sipush 400, 3) := by decide +kernel
theorem dX11_goes_23 : decode cX11_goes 23 = .ok (.bipush 8, 2) := by decide +kernel
theorem dX11_goes_25 : decode cX11_goes 25 = .ok (.iload_n 1, 1) := by decide +kernel
theorem dX11_goes_26 : decode cX11_goes 26 = .ok (.imul, 1) := by decide +kernel
theorem dX11_goes_27 : decode cX11_goes 27 = .ok (.iadd, 1) := by decide +kernel
theorem dX11_goes_28 : decode cX11_goes 28 = .ok (.iconst 1, 1) := by decide +kernel
theorem dX11_goes_29 : decode cX11_goes 29 = .ok (.iadd, 1) := by decide +kernel
theorem dX11_goes_30 : decode cX11_goes 30 = .ok (.iload_n 3, 1) := by decide +kernel
theorem dX11_goes_31 : decode cX11_goes 31 = .ok (.iastore, 1) := by decide +kernel
theorem dX11_goes_32 : decode cX11_goes 32 = .ok (.aload_n 0, 1) := by decide +kernel
theorem dX11_goes_33 : decode cX11_goes 33 = .ok (.getfield 24, 3) := by decide +kernel
theorem dX11_goes_36 : decode cX11_goes 36 = .ok (.sipush 400, 3) := by decide +kernel
theorem dX11_goes_39 : decode cX11_goes 39 = .ok (.bipush 8, 2) := by decide +kernel
theorem dX11_goes_41 : decode cX11_goes 41 = .ok (.iload_n 1, 1) := by decide +kernel
theorem dX11_goes_42 : decode cX11_goes 42 = .ok (.imul, 1) := by decide +kernel
theorem dX11_goes_43 : decode cX11_goes 43 = .ok (.iadd, 1) := by decide +kernel
theorem dX11_goes_44 : decode cX11_goes 44 = .ok (.iconst 2, 1) := by decide +kernel
theorem dX11_goes_45 : decode cX11_goes 45 = .ok (.iadd, 1) := by decide +kernel
theorem dX11_goes_46 : decode cX11_goes 46 = .ok (.aload_n 0, 1) := by decide +kernel
theorem dX11_goes_47 : decode cX11_goes 47 = .ok (.getfield 24, 3) := by decide +kernel
theorem dX11_goes_50 : decode cX11_goes 50 = .ok (.iconst 2, 1) := by decide +kernel
theorem dX11_goes_51 : decode cX11_goes 51 = .ok (.iaload, 1) := by decide +kernel
theorem dX11_goes_52 : decode cX11_goes 52 = .ok (.iastore, 1) := by decide +kernel
theorem dX11_goes_53 : decode cX11_goes 53 = .ok (.aload_n 0, 1) := by decide +kernel
theorem dX11_goes_54 : decode cX11_goes 54 = .ok (.getfield 24, 3) := by decide +kernel
theorem dX11_goes_57 : decode cX11_goes 57 = .ok (.iconst 2, 1) := by decide +kernel
theorem dX11_goes_58 : decode cX11_goes 58 = .ok (.dup2, 1) := by decide +kernel
theorem dX11_goes_59 : decode cX11_goes 59 = .ok (.iaload, 1) := by decide +kernel
theorem dX11_goes_60 : decode cX11_goes 60 = .ok (.iconst 1, 1) := by decide +kernel
theorem dX11_goes_61 : decode cX11_goes 61 = .ok (.iadd, 1) := by decide +kernel
theorem dX11_goes_62 : decode cX11_goes 62 = .ok (.iastore, 1) := by decide +kernel
theorem dX11_goes_63 : decode cX11_goes 63 = .ok (.return_, 1) := by decide +kernel
theorem dX11_counts_0 : decode cX11_counts 0 = .ok (.aload_n 0, 1) := by decide +kernel
theorem dX11_counts_1 : decode cX11_counts 1 = .ok (.getfield 24, 3) := by decide +kernel
theorem dX11_counts_4 : decode cX11_counts 4 = .ok (.iconst 3, 1) := by decide +kernel
theorem dX11_counts_5 : decode cX11_counts 5 = .ok (.iload_n 1, 1) := by decide +kernel
theorem dX11_counts_6 : decode cX11_counts 6 = .ok (.iadd, 1) := by decide +kernel
theorem dX11_counts_7 : decode cX11_counts 7 = .ok (.dup2, 1) := by decide +kernel
theorem dX11_counts_8 : decode cX11_counts 8 = .ok (.iaload, 1) := by decide +kernel
theorem dX11_counts_9 : decode cX11_counts 9 = .ok (.iconst 1, 1) := by decide +kernel
theorem dX11_counts_10 : decode cX11_counts 10 = .ok (.iadd, 1) := by decide +kernel
theorem dX11_counts_11 : decode cX11_counts 11 = .ok (.iastore, 1) := by decide +kernel
theorem dX11_counts_12 : decode cX11_counts 12 = .ok (.return_, 1) := by decide +kernel
theorem dX11_turns_0 : decode cX11_turns 0 = .ok (.aload_n 0, 1) := by decide +kernel
theorem dX11_turns_1 : decode cX11_turns 1 = .ok (.getfield 17, 3) := by decide +kernel
theorem dX11_turns_4 : decode cX11_turns 4 = .ok (.iconst 0, 1) := by decide +kernel
theorem dX11_turns_5 : decode cX11_turns 5 = .ok (.iaload, 1) := by decide +kernel
theorem dX11_turns_6 : decode cX11_turns 6 = .ok (.istore_n 2, 1) := by decide +kernel
theorem dX11_turns_7 : decode cX11_turns 7 = .ok (.aload_n 0, 1) := by decide +kernel
theorem dX11_turns_8 : decode cX11_turns 8 = .ok (.getfield 24, 3) := by decide +kernel
theorem dX11_turns_11 : decode cX11_turns 11 = .ok (.iload_n 1, 1) := by decide +kernel
theorem dX11_turns_12 : decode cX11_turns 12 = .ok (.iload_n 2, 1) := by decide +kernel
theorem dX11_turns_13 : decode cX11_turns 13 = .ok (.iadd, 1) := by decide +kernel
theorem dX11_turns_14 : decode cX11_turns 14 = .ok (.iconst 1, 1) := by decide +kernel
theorem dX11_turns_15 : decode cX11_turns 15 = .ok (.isub, 1) := by decide +kernel
theorem dX11_turns_16 : decode cX11_turns 16 = .ok (.iaload, 1) := by decide +kernel
theorem dX11_turns_17 : decode cX11_turns 17 = .ok (.istore_n 3, 1) := by decide +kernel
theorem dX11_turns_18 : decode cX11_turns 18 = .ok (.iload_n 2, 1) := by decide +kernel
theorem dX11_turns_19 : decode cX11_turns 19 = .ok (.iconst 1, 1) := by decide +kernel
theorem dX11_turns_20 : decode cX11_turns 20 = .ok (.isub, 1) := by decide +kernel
theorem dX11_turns_21 : decode cX11_turns 21 = .ok (.istore 4, 2) := by decide +kernel
theorem dX11_turns_23 : decode cX11_turns 23 = .ok (.iload 4, 2) := by decide +kernel
theorem dX11_turns_25 : decode cX11_turns 25 = .ok (.ifCond .le 29, 3) := by decide +kernel
theorem dX11_turns_28 : decode cX11_turns 28 = .ok (.aload_n 0, 1) := by decide +kernel
theorem dX11_turns_29 : decode cX11_turns 29 = .ok (.getfield 24, 3) := by decide +kernel
theorem dX11_turns_32 : decode cX11_turns 32 = .ok (.iload_n 1, 1) := by decide +kernel
theorem dX11_turns_33 : decode cX11_turns 33 = .ok (.iload 4, 2) := by decide +kernel
theorem dX11_turns_35 : decode cX11_turns 35 = .ok (.iadd, 1) := by decide +kernel
theorem dX11_turns_36 : decode cX11_turns 36 = .ok (.aload_n 0, 1) := by decide +kernel
theorem dX11_turns_37 : decode cX11_turns 37 = .ok (.getfield 24, 3) := by decide +kernel
theorem dX11_turns_40 : decode cX11_turns 40 = .ok (.iload_n 1, 1) := by decide +kernel
theorem dX11_turns_41 : decode cX11_turns 41 = .ok (.iload 4, 2) := by decide +kernel
theorem dX11_turns_43 : decode cX11_turns 43 = .ok (.iadd, 1) := by decide +kernel
theorem dX11_turns_44 : decode cX11_turns 44 = .ok (.iconst 1, 1) := by decide +kernel
theorem dX11_turns_45 : decode cX11_turns 45 = .ok (.isub, 1) := by decide +kernel
theorem dX11_turns_46 : decode cX11_turns 46 = .ok (.iaload, 1) := by decide +kernel
theorem dX11_turns_47 : decode cX11_turns 47 = .ok (.iastore, 1) := by decide +kernel
theorem dX11_turns_48 : decode cX11_turns 48 = .ok (.iinc 4 (-1), 3) := by decide +kernel
theorem dX11_turns_51 : decode cX11_turns 51 = .ok (.goto (-28), 3) := by decide +kernel
theorem dX11_turns_54 : decode cX11_turns 54 = .ok (.aload_n 0, 1) := by decide +kernel
theorem dX11_turns_55 : decode cX11_turns 55 = .ok (.getfield 24, 3) := by decide +kernel
theorem dX11_turns_58 : decode cX11_turns 58 = .ok (.iload_n 1, 1) := by decide +kernel
theorem dX11_turns_59 : decode cX11_turns 59 = .ok (.iload_n 3, 1) := by decide +kernel
theorem dX11_turns_60 : decode cX11_turns 60 = .ok (.iastore, 1) := by decide +kernel
theorem dX11_turns_61 : decode cX11_turns 61 = .ok (.return_, 1) := by decide +kernel
theorem dX11_moves_0 : decode cX11_moves 0 = .ok (.aload_n 0, 1) := by decide +kernel
theorem dX11_moves_1 : decode cX11_moves 1 = .ok (.bipush 90, 2) := by decide +kernel
theorem dX11_moves_3 : decode cX11_moves 3 = .ok (.invokevirtual 201, 3) := by decide +kernel
theorem dX11_moves_6 : decode cX11_moves 6 = .ok (.aload_n 0, 1) := by decide +kernel
theorem dX11_moves_7 : decode cX11_moves 7 = .ok (.sipush 150, 3) := by decide +kernel
theorem dX11_moves_10 : decode cX11_moves 10 = .ok (.invokevirtual 201, 3) := by decide +kernel
theorem dX11_moves_13 : decode cX11_moves 13 = .ok (.aload_n 0, 1) := by decide +kernel
theorem dX11_moves_14 : decode cX11_moves 14 = .ok (.sipush 210, 3) := by decide +kernel
theorem dX11_moves_17 : decode cX11_moves 17 = .ok (.invokevirtual 201, 3) := by decide +kernel
theorem dX11_moves_20 : decode cX11_moves 20 = .ok (.aload_n 0, 1) := by decide +kernel
theorem dX11_moves_21 : decode cX11_moves 21 = .ok (.sipush 270, 3) := by decide +kernel
theorem dX11_moves_24 : decode cX11_moves 24 = .ok (.invokevirtual 201, 3) := by decide +kernel
theorem dX11_moves_27 : decode cX11_moves 27 = .ok (.aload_n 0, 1) := by decide +kernel
theorem dX11_moves_28 : decode cX11_moves 28 = .ok (.sipush 330, 3) := by decide +kernel
theorem dX11_moves_31 : decode cX11_moves 31 = .ok (.invokevirtual 201, 3) := by decide +kernel
theorem dX11_moves_34 : decode cX11_moves 34 = .ok (.iconst 0, 1) := by decide +kernel
theorem dX11_moves_35 : decode cX11_moves 35 = .ok (.istore_n 1, 1) := by decide +kernel
theorem dX11_moves_36 : decode cX11_moves 36 = .ok (.iload_n 1, 1) := by decide +kernel
theorem dX11_moves_37 : decode cX11_moves 37 = .ok (.aload_n 0, 1) := by decide +kernel
theorem dX11_moves_38 : decode cX11_moves 38 = .ok (.getfield 17, 3) := by decide +kernel
theorem dX11_moves_41 : decode cX11_moves 41 = .ok (.iconst 0, 1) := by decide +kernel
theorem dX11_moves_42 : decode cX11_moves 42 = .ok (.iaload, 1) := by decide +kernel
theorem dX11_moves_43 : decode cX11_moves 43 = .ok (.if_icmp .ge 39, 3) := by decide +kernel
theorem dX11_moves_46 : decode cX11_moves 46 = .ok (.aload_n 0, 1) := by decide +kernel
theorem dX11_moves_47 : decode cX11_moves 47 = .ok (.getfield 24, 3) := by decide +kernel
theorem dX11_moves_50 : decode cX11_moves 50 = .ok (.bipush 90, 2) := by decide +kernel
theorem dX11_moves_52 : decode cX11_moves 52 = .ok (.iload_n 1, 1) := by decide +kernel
theorem dX11_moves_53 : decode cX11_moves 53 = .ok (.iadd, 1) := by decide +kernel
theorem dX11_moves_54 : decode cX11_moves 54 = .ok (.iaload, 1) := by decide +kernel
theorem dX11_moves_55 : decode cX11_moves 55 = .ok (.istore_n 2, 1) := by decide +kernel
theorem dX11_moves_56 : decode cX11_moves 56 = .ok (.iload_n 2, 1) := by decide +kernel
theorem dX11_moves_57 : decode cX11_moves 57 = .ok (.ifCond .lt 19, 3) := by decide +kernel
theorem dX11_moves_60 : decode cX11_moves 60 = .ok (.aload_n 0, 1) := by decide +kernel
theorem dX11_moves_61 : decode cX11_moves 61 = .ok (.getfield 24, 3) := by decide +kernel
theorem dX11_moves_64 : decode cX11_moves 64 = .ok (.sipush 400, 3) := by decide +kernel
theorem dX11_moves_67 : decode cX11_moves 67 = .ok (.bipush 8, 2) := by decide +kernel
theorem dX11_moves_69 : decode cX11_moves 69 = .ok (.iload_n 2, 1) := by decide +kernel
theorem dX11_moves_70 : decode cX11_moves 70 = .ok (.imul, 1) := by decide +kernel
theorem dX11_moves_71 : decode cX11_moves 71 = .ok (.iadd, 1) := by decide +kernel
theorem dX11_moves_72 : decode cX11_moves 72 = .ok (.iconst 1, 1) := by decide +kernel
theorem dX11_moves_73 : decode cX11_moves 73 = .ok (.iadd, 1) := by decide +kernel
theorem dX11_moves_74 : decode cX11_moves 74 = .ok (.iload_n 1, 1) := by decide +kernel
theorem dX11_moves_75 : decode cX11_moves 75 = .ok (.iastore, 1) := by decide +kernel
theorem dX11_moves_76 : decode cX11_moves 76 = .ok (.iinc 1 1, 3) := by decide +kernel
theorem dX11_moves_79 : decode cX11_moves 79 = .ok (.goto (-43), 3) := by decide +kernel
theorem dX11_moves_82 : decode cX11_moves 82 = .ok (.return_, 1) := by decide +kernel
theorem dX11_stationWorks_0 : decode cX11_stationWorks 0 = .ok (.aload_n 0, 1) := by decide +kernel
theorem dX11_stationWorks_1 : decode cX11_stationWorks 1 = .ok (.bipush 6, 2) := by decide +kernel
theorem dX11_stationWorks_3 : decode cX11_stationWorks 3 = .ok (.iload_n 1, 1) := by decide +kernel
theorem dX11_stationWorks_4 : decode cX11_stationWorks 4 = .ok (.invokevirtual 204, 3) := by decide +kernel
theorem dX11_stationWorks_7 : decode cX11_stationWorks 7 = .ok (.istore_n 2, 1) := by decide +kernel
theorem dX11_stationWorks_8 : decode cX11_stationWorks 8 = .ok (.iload_n 2, 1) := by decide +kernel
theorem dX11_stationWorks_9 : decode cX11_stationWorks 9 = .ok (.ifCond .ge 4, 3) := by decide +kernel
theorem dX11_stationWorks_12 : decode cX11_stationWorks 12 = .ok (.return_, 1) := by decide +kernel
theorem dX11_stationWorks_13 : decode cX11_stationWorks 13 = .ok (.aload_n 0, 1) := by decide +kernel
theorem dX11_stationWorks_14 : decode cX11_stationWorks 14 = .ok (.getfield 24, 3) := by decide +kernel
theorem dX11_stationWorks_17 : decode cX11_stationWorks 17 = .ok (.bipush 79, 2) := by decide +kernel
theorem dX11_stationWorks_19 : decode cX11_stationWorks 19 = .ok (.iload_n 1, 1) := by decide +kernel
theorem dX11_stationWorks_20 : decode cX11_stationWorks 20 = .ok (.iadd, 1) := by decide +kernel
theorem dX11_stationWorks_21 : decode cX11_stationWorks 21 = .ok (.dup2, 1) := by decide +kernel
theorem dX11_stationWorks_22 : decode cX11_stationWorks 22 = .ok (.iaload, 1) := by decide +kernel
theorem dX11_stationWorks_23 : decode cX11_stationWorks 23 = .ok (.iconst 1, 1) := by decide +kernel
theorem dX11_stationWorks_24 : decode cX11_stationWorks 24 = .ok (.iadd, 1) := by decide +kernel
theorem dX11_stationWorks_25 : decode cX11_stationWorks 25 = .ok (.iastore, 1) := by decide +kernel
theorem dX11_stationWorks_26 : decode cX11_stationWorks 26 = .ok (.aload_n 0, 1) := by decide +kernel
theorem dX11_stationWorks_27 : decode cX11_stationWorks 27 = .ok (.getfield 24, 3) := by decide +kernel
theorem dX11_stationWorks_30 : decode cX11_stationWorks 30 = .ok (.bipush 79, 2) := by decide +kernel
theorem dX11_stationWorks_32 : decode cX11_stationWorks 32 = .ok (.iload_n 1, 1) := by decide +kernel
theorem dX11_stationWorks_33 : decode cX11_stationWorks 33 = .ok (.iadd, 1) := by decide +kernel
theorem dX11_stationWorks_34 : decode cX11_stationWorks 34 = .ok (.iaload, 1) := by decide +kernel
theorem dX11_stationWorks_35 : decode cX11_stationWorks 35 = .ok (.aload_n 0, 1) := by decide +kernel
theorem dX11_stationWorks_36 : decode cX11_stationWorks 36 = .ok (.bipush 6, 2) := by decide +kernel
theorem dX11_stationWorks_38 : decode cX11_stationWorks 38 = .ok (.iload_n 1, 1) := by decide +kernel
theorem dX11_stationWorks_39 : decode cX11_stationWorks 39 = .ok (.iconst 4, 1) := by decide +kernel
theorem dX11_stationWorks_40 : decode cX11_stationWorks 40 = .ok (.invokevirtual 207, 3) := by decide +kernel
theorem dX11_stationWorks_43 : decode cX11_stationWorks 43 = .ok (.if_icmp .ge 4, 3) := by decide +kernel
theorem dX11_stationWorks_46 : decode cX11_stationWorks 46 = .ok (.return_, 1) := by decide +kernel
theorem dX11_stationWorks_47 : decode cX11_stationWorks 47 = .ok (.aload_n 0, 1) := by decide +kernel
theorem dX11_stationWorks_48 : decode cX11_stationWorks 48 = .ok (.getfield 24, 3) := by decide +kernel
theorem dX11_stationWorks_51 : decode cX11_stationWorks 51 = .ok (.bipush 79, 2) := by decide +kernel
theorem dX11_stationWorks_53 : decode cX11_stationWorks 53 = .ok (.iload_n 1, 1) := by decide +kernel
theorem dX11_stationWorks_54 : decode cX11_stationWorks 54 = .ok (.iadd, 1) := by decide +kernel
theorem dX11_stationWorks_55 : decode cX11_stationWorks 55 = .ok (.iconst 0, 1) := by decide +kernel
theorem dX11_stationWorks_56 : decode cX11_stationWorks 56 = .ok (.iastore, 1) := by decide +kernel
theorem dX11_stationWorks_57 : decode cX11_stationWorks 57 = .ok (.aload_n 0, 1) := by decide +kernel
theorem dX11_stationWorks_58 : decode cX11_stationWorks 58 = .ok (.iload_n 2, 1) := by decide +kernel
theorem dX11_stationWorks_59 : decode cX11_stationWorks 59 = .ok (.invokevirtual 211, 3) := by decide +kernel
theorem dX11_stationWorks_62 : decode cX11_stationWorks 62 = .ok (.istore_n 3, 1) := by decide +kernel
theorem dX11_stationWorks_63 : decode cX11_stationWorks 63 = .ok (.iload_n 3, 1) := by decide +kernel
theorem dX11_stationWorks_64 : decode cX11_stationWorks 64 = .ok (.bipush (-2), 2) := by decide +kernel
theorem dX11_stationWorks_66 : decode cX11_stationWorks 66 = .ok (.if_icmp .ne 18, 3) := by decide +kernel
theorem dX11_stationWorks_69 : decode cX11_stationWorks 69 = .ok (.aload_n 0, 1) := by decide +kernel
theorem dX11_stationWorks_70 : decode cX11_stationWorks 70 = .ok (.iload_n 2, 1) := by decide +kernel
theorem dX11_stationWorks_71 : decode cX11_stationWorks 71 = .ok (.bipush 8, 2) := by decide +kernel
theorem dX11_stationWorks_73 : decode cX11_stationWorks 73 = .ok (.bipush (-2), 2) := by decide +kernel
theorem dX11_stationWorks_75 : decode cX11_stationWorks 75 = .ok (.invokevirtual 214, 3) := by decide +kernel
theorem dX11_stationWorks_78 : decode cX11_stationWorks 78 = .ok (.aload_n 0, 1) := by decide +kernel
theorem dX11_stationWorks_79 : decode cX11_stationWorks 79 = .ok (.iconst 5, 1) := by decide +kernel
theorem dX11_stationWorks_80 : decode cX11_stationWorks 80 = .ok (.invokevirtual 217, 3) := by decide +kernel
theorem dX11_stationWorks_83 : decode cX11_stationWorks 83 = .ok (.return_, 1) := by decide +kernel
theorem dX11_stationWorks_84 : decode cX11_stationWorks 84 = .ok (.aload_n 0, 1) := by decide +kernel
theorem dX11_stationWorks_85 : decode cX11_stationWorks 85 = .ok (.getfield 24, 3) := by decide +kernel
theorem dX11_stationWorks_88 : decode cX11_stationWorks 88 = .ok (.sipush 400, 3) := by decide +kernel
theorem dX11_stationWorks_91 : decode cX11_stationWorks 91 = .ok (.bipush 8, 2) := by decide +kernel
theorem dX11_stationWorks_93 : decode cX11_stationWorks 93 = .ok (.iload_n 2, 1) := by decide +kernel
theorem dX11_stationWorks_94 : decode cX11_stationWorks 94 = .ok (.imul, 1) := by decide +kernel
theorem dX11_stationWorks_95 : decode cX11_stationWorks 95 = .ok (.iadd, 1) := by decide +kernel
theorem dX11_stationWorks_96 : decode cX11_stationWorks 96 = .ok (.iconst 3, 1) := by decide +kernel
theorem dX11_stationWorks_97 : decode cX11_stationWorks 97 = .ok (.iadd, 1) := by decide +kernel
theorem dX11_stationWorks_98 : decode cX11_stationWorks 98 = .ok (.iload_n 3, 1) := by decide +kernel
theorem dX11_stationWorks_99 : decode cX11_stationWorks 99 = .ok (.iastore, 1) := by decide +kernel
theorem dX11_stationWorks_100 : decode cX11_stationWorks 100 = .ok (.aload_n 0, 1) := by decide +kernel
theorem dX11_stationWorks_101 : decode cX11_stationWorks 101 = .ok (.getfield 24, 3) := by decide +kernel
theorem dX11_stationWorks_104 : decode cX11_stationWorks 104 = .ok (.sipush 400, 3) := by decide +kernel
theorem dX11_stationWorks_107 : decode cX11_stationWorks 107 = .ok (.bipush 8, 2) := by decide +kernel
theorem dX11_stationWorks_109 : decode cX11_stationWorks 109 = .ok (.iload_n 2, 1) := by decide +kernel
theorem dX11_stationWorks_110 : decode cX11_stationWorks 110 = .ok (.imul, 1) := by decide +kernel
theorem dX11_stationWorks_111 : decode cX11_stationWorks 111 = .ok (.iadd, 1) := by decide +kernel
theorem dX11_stationWorks_112 : decode cX11_stationWorks 112 = .ok (.iconst 5, 1) := by decide +kernel
theorem dX11_stationWorks_113 : decode cX11_stationWorks 113 = .ok (.iadd, 1) := by decide +kernel
theorem dX11_stationWorks_114 : decode cX11_stationWorks 114 = .ok (.iconst 0, 1) := by decide +kernel
theorem dX11_stationWorks_115 : decode cX11_stationWorks 115 = .ok (.iastore, 1) := by decide +kernel
theorem dX11_stationWorks_116 : decode cX11_stationWorks 116 = .ok (.aload_n 0, 1) := by decide +kernel
theorem dX11_stationWorks_117 : decode cX11_stationWorks 117 = .ok (.iload_n 2, 1) := by decide +kernel
theorem dX11_stationWorks_118 : decode cX11_stationWorks 118 = .ok (.bipush 7, 2) := by decide +kernel
theorem dX11_stationWorks_120 : decode cX11_stationWorks 120 = .ok (.aload_n 0, 1) := by decide +kernel
theorem dX11_stationWorks_121 : decode cX11_stationWorks 121 = .ok (.bipush 6, 2) := by decide +kernel
theorem dX11_stationWorks_123 : decode cX11_stationWorks 123 = .ok (.iload_n 1, 1) := by decide +kernel
theorem dX11_stationWorks_124 : decode cX11_stationWorks 124 = .ok (.bipush 7, 2) := by decide +kernel
theorem dX11_stationWorks_126 : decode cX11_stationWorks 126 = .ok (.invokevirtual 207, 3) := by decide +kernel
theorem dX11_stationWorks_129 : decode cX11_stationWorks 129 = .ok (.invokevirtual 214, 3) := by decide +kernel
theorem dX11_stationWorks_132 : decode cX11_stationWorks 132 = .ok (.return_, 1) := by decide +kernel
theorem dX11_screenWorks_0 : decode cX11_screenWorks 0 = .ok (.aload_n 0, 1) := by decide +kernel
theorem dX11_screenWorks_1 : decode cX11_screenWorks 1 = .ok (.iconst 4, 1) := by decide +kernel
theorem dX11_screenWorks_2 : decode cX11_screenWorks 2 = .ok (.iload_n 1, 1) := by decide +kernel
theorem dX11_screenWorks_3 : decode cX11_screenWorks 3 = .ok (.invokevirtual 204, 3) := by decide +kernel
theorem dX11_screenWorks_6 : decode cX11_screenWorks 6 = .ok (.istore_n 2, 1) := by decide +kernel
theorem dX11_screenWorks_7 : decode cX11_screenWorks 7 = .ok (.iload_n 2, 1) := by decide +kernel
theorem dX11_screenWorks_8 : decode cX11_screenWorks 8 = .ok (.ifCond .ge 4, 3) := by decide +kernel
theorem dX11_screenWorks_11 : decode cX11_screenWorks 11 = .ok (.return_, 1) := by decide +kernel
theorem dX11_screenWorks_12 : decode cX11_screenWorks 12 = .ok (.aload_n 0, 1) := by decide +kernel
theorem dX11_screenWorks_13 : decode cX11_screenWorks 13 = .ok (.getfield 24, 3) := by decide +kernel
theorem dX11_screenWorks_16 : decode cX11_screenWorks 16 = .ok (.bipush 77, 2) := by decide +kernel
theorem dX11_screenWorks_18 : decode cX11_screenWorks 18 = .ok (.iload_n 1, 1) := by decide +kernel
theorem dX11_screenWorks_19 : decode cX11_screenWorks 19 = .ok (.iadd, 1) := by decide +kernel
theorem dX11_screenWorks_20 : decode cX11_screenWorks 20 = .ok (.iaload, 1) := by decide +kernel
theorem dX11_screenWorks_21 : decode cX11_screenWorks 21 = .ok (.iconst 1, 1) := by decide +kernel
theorem dX11_screenWorks_22 : decode cX11_screenWorks 22 = .ok (.iadd, 1) := by decide +kernel
theorem dX11_screenWorks_23 : decode cX11_screenWorks 23 = .ok (.istore_n 3, 1) := by decide +kernel
theorem dX11_screenWorks_24 : decode cX11_screenWorks 24 = .ok (.aload_n 0, 1) := by decide +kernel
theorem dX11_screenWorks_25 : decode cX11_screenWorks 25 = .ok (.getfield 24, 3) := by decide +kernel
theorem dX11_screenWorks_28 : decode cX11_screenWorks 28 = .ok (.bipush 75, 2) := by decide +kernel
theorem dX11_screenWorks_30 : decode cX11_screenWorks 30 = .ok (.iload_n 1, 1) := by decide +kernel
theorem dX11_screenWorks_31 : decode cX11_screenWorks 31 = .ok (.iadd, 1) := by decide +kernel
theorem dX11_screenWorks_32 : decode cX11_screenWorks 32 = .ok (.dup2, 1) := by decide +kernel
theorem dX11_screenWorks_33 : decode cX11_screenWorks 33 = .ok (.iaload, 1) := by decide +kernel
theorem dX11_screenWorks_34 : decode cX11_screenWorks 34 = .ok (.iconst 1, 1) := by decide +kernel
theorem dX11_screenWorks_35 : decode cX11_screenWorks 35 = .ok (.iadd, 1) := by decide +kernel
theorem dX11_screenWorks_36 : decode cX11_screenWorks 36 = .ok (.iastore, 1) := by decide +kernel
theorem dX11_screenWorks_37 : decode cX11_screenWorks 37 = .ok (.aload_n 0, 1) := by decide +kernel
theorem dX11_screenWorks_38 : decode cX11_screenWorks 38 = .ok (.getfield 24, 3) := by decide +kernel
theorem dX11_screenWorks_41 : decode cX11_screenWorks 41 = .ok (.bipush 75, 2) := by decide +kernel
theorem dX11_screenWorks_43 : decode cX11_screenWorks 43 = .ok (.iload_n 1, 1) := by decide +kernel
theorem dX11_screenWorks_44 : decode cX11_screenWorks 44 = .ok (.iadd, 1) := by decide +kernel
theorem dX11_screenWorks_45 : decode cX11_screenWorks 45 = .ok (.iaload, 1) := by decide +kernel
theorem dX11_screenWorks_46 : decode cX11_screenWorks 46 = .ok (.aload_n 0, 1) := by decide +kernel
theorem dX11_screenWorks_47 : decode cX11_screenWorks 47 = .ok (.iconst 4, 1) := by decide +kernel
theorem dX11_screenWorks_48 : decode cX11_screenWorks 48 = .ok (.iload_n 1, 1) := by decide +kernel
theorem dX11_screenWorks_49 : decode cX11_screenWorks 49 = .ok (.iconst 3, 1) := by decide +kernel
theorem dX11_screenWorks_50 : decode cX11_screenWorks 50 = .ok (.iload_n 3, 1) := by decide +kernel
theorem dX11_screenWorks_51 : decode cX11_screenWorks 51 = .ok (.iadd, 1) := by decide +kernel
theorem dX11_screenWorks_52 : decode cX11_screenWorks 52 = .ok (.invokevirtual 207, 3) := by decide +kernel
theorem dX11_screenWorks_55 : decode cX11_screenWorks 55 = .ok (.if_icmp .ge 4, 3) := by decide +kernel
theorem dX11_screenWorks_58 : decode cX11_screenWorks 58 = .ok (.return_, 1) := by decide +kernel
theorem dX11_screenWorks_59 : decode cX11_screenWorks 59 = .ok (.aload_n 0, 1) := by decide +kernel
theorem dX11_screenWorks_60 : decode cX11_screenWorks 60 = .ok (.getfield 24, 3) := by decide +kernel
theorem dX11_screenWorks_63 : decode cX11_screenWorks 63 = .ok (.bipush 75, 2) := by decide +kernel
theorem dX11_screenWorks_65 : decode cX11_screenWorks 65 = .ok (.iload_n 1, 1) := by decide +kernel
theorem dX11_screenWorks_66 : decode cX11_screenWorks 66 = .ok (.iadd, 1) := by decide +kernel
theorem dX11_screenWorks_67 : decode cX11_screenWorks 67 = .ok (.iconst 0, 1) := by decide +kernel
theorem dX11_screenWorks_68 : decode cX11_screenWorks 68 = .ok (.iastore, 1) := by decide +kernel
theorem dX11_screenWorks_69 : decode cX11_screenWorks 69 = .ok (.aload_n 0, 1) := by decide +kernel
theorem dX11_screenWorks_70 : decode cX11_screenWorks 70 = .ok (.getfield 24, 3) := by decide +kernel
theorem dX11_screenWorks_73 : decode cX11_screenWorks 73 = .ok (.bipush 77, 2) := by decide +kernel
theorem dX11_screenWorks_75 : decode cX11_screenWorks 75 = .ok (.iload_n 1, 1) := by decide +kernel
theorem dX11_screenWorks_76 : decode cX11_screenWorks 76 = .ok (.iadd, 1) := by decide +kernel
theorem dX11_screenWorks_77 : decode cX11_screenWorks 77 = .ok (.iconst 0, 1) := by decide +kernel
theorem dX11_screenWorks_78 : decode cX11_screenWorks 78 = .ok (.iastore, 1) := by decide +kernel
theorem dX11_screenWorks_79 : decode cX11_screenWorks 79 = .ok (.aload_n 0, 1) := by decide +kernel
theorem dX11_screenWorks_80 : decode cX11_screenWorks 80 = .ok (.getfield 45, 3) := by decide +kernel
theorem dX11_screenWorks_83 : decode cX11_screenWorks 83 = .ok (.iload_n 2, 1) := by decide +kernel
theorem dX11_screenWorks_84 : decode cX11_screenWorks 84 = .ok (.iaload, 1) := by decide +kernel
theorem dX11_screenWorks_85 : decode cX11_screenWorks 85 = .ok (.iload_n 3, 1) := by decide +kernel
theorem dX11_screenWorks_86 : decode cX11_screenWorks 86 = .ok (.if_icmp .ge 37, 3) := by decide +kernel
theorem dX11_screenWorks_89 : decode cX11_screenWorks 89 = .ok (.aload_n 0, 1) := by decide +kernel
theorem dX11_screenWorks_90 : decode cX11_screenWorks 90 = .ok (.getfield 24, 3) := by decide +kernel
theorem dX11_screenWorks_93 : decode cX11_screenWorks 93 = .ok (.sipush 400, 3) := by decide +kernel
theorem dX11_screenWorks_96 : decode cX11_screenWorks 96 = .ok (.bipush 8, 2) := by decide +kernel
theorem dX11_screenWorks_98 : decode cX11_screenWorks 98 = .ok (.iload_n 2, 1) := by decide +kernel
theorem dX11_screenWorks_99 : decode cX11_screenWorks 99 = .ok (.imul, 1) := by decide +kernel
theorem dX11_screenWorks_100 : decode cX11_screenWorks 100 = .ok (.iadd, 1) := by decide +kernel
theorem dX11_screenWorks_101 : decode cX11_screenWorks 101 = .ok (.iconst 4, 1) := by decide +kernel
theorem dX11_screenWorks_102 : decode cX11_screenWorks 102 = .ok (.iadd, 1) := by decide +kernel
theorem dX11_screenWorks_103 : decode cX11_screenWorks 103 = .ok (.iconst 1, 1) := by decide +kernel
theorem dX11_screenWorks_104 : decode cX11_screenWorks 104 = .ok (.iastore, 1) := by decide +kernel
theorem dX11_screenWorks_105 : decode cX11_screenWorks 105 = .ok (.aload_n 0, 1) := by decide +kernel
theorem dX11_screenWorks_106 : decode cX11_screenWorks 106 = .ok (.iload_n 2, 1) := by decide +kernel
theorem dX11_screenWorks_107 : decode cX11_screenWorks 107 = .ok (.bipush 7, 2) := by decide +kernel
theorem dX11_screenWorks_109 : decode cX11_screenWorks 109 = .ok (.aload_n 0, 1) := by decide +kernel
theorem dX11_screenWorks_110 : decode cX11_screenWorks 110 = .ok (.iconst 4, 1) := by decide +kernel
theorem dX11_screenWorks_111 : decode cX11_screenWorks 111 = .ok (.iload_n 1, 1) := by decide +kernel
theorem dX11_screenWorks_112 : decode cX11_screenWorks 112 = .ok (.bipush 7, 2) := by decide +kernel
theorem dX11_screenWorks_114 : decode cX11_screenWorks 114 = .ok (.invokevirtual 207, 3) := by decide +kernel
theorem dX11_screenWorks_117 : decode cX11_screenWorks 117 = .ok (.invokevirtual 214, 3) := by decide +kernel
theorem dX11_screenWorks_120 : decode cX11_screenWorks 120 = .ok (.goto 36, 3) := by decide +kernel
theorem dX11_screenWorks_123 : decode cX11_screenWorks 123 = .ok (.iload_n 3, 1) := by decide +kernel
theorem dX11_screenWorks_124 : decode cX11_screenWorks 124 = .ok (.iconst 3, 1) := by decide +kernel
theorem dX11_screenWorks_125 : decode cX11_screenWorks 125 = .ok (.if_icmp .ge 16, 3) := by decide +kernel
theorem dX11_screenWorks_128 : decode cX11_screenWorks 128 = .ok (.aload_n 0, 1) := by decide +kernel
theorem dX11_screenWorks_129 : decode cX11_screenWorks 129 = .ok (.getfield 24, 3) := by decide +kernel
theorem dX11_screenWorks_132 : decode cX11_screenWorks 132 = .ok (.bipush 77, 2) := by decide +kernel
theorem dX11_screenWorks_134 : decode cX11_screenWorks 134 = .ok (.iload_n 1, 1) := by decide +kernel
theorem dX11_screenWorks_135 : decode cX11_screenWorks 135 = .ok (.iadd, 1) := by decide +kernel
theorem dX11_screenWorks_136 : decode cX11_screenWorks 136 = .ok (.iload_n 3, 1) := by decide +kernel
theorem dX11_screenWorks_137 : decode cX11_screenWorks 137 = .ok (.iastore, 1) := by decide +kernel
theorem dX11_screenWorks_138 : decode cX11_screenWorks 138 = .ok (.goto 18, 3) := by decide +kernel
theorem dX11_screenWorks_141 : decode cX11_screenWorks 141 = .ok (.aload_n 0, 1) := by decide +kernel
theorem dX11_screenWorks_142 : decode cX11_screenWorks 142 = .ok (.iload_n 2, 1) := by decide +kernel
theorem dX11_screenWorks_143 : decode cX11_screenWorks 143 = .ok (.bipush 9, 2) := by decide +kernel
theorem dX11_screenWorks_145 : decode cX11_screenWorks 145 = .ok (.bipush (-2), 2) := by decide +kernel
theorem dX11_screenWorks_147 : decode cX11_screenWorks 147 = .ok (.invokevirtual 214, 3) := by decide +kernel
theorem dX11_screenWorks_150 : decode cX11_screenWorks 150 = .ok (.aload_n 0, 1) := by decide +kernel
theorem dX11_screenWorks_151 : decode cX11_screenWorks 151 = .ok (.bipush 6, 2) := by decide +kernel
theorem dX11_screenWorks_153 : decode cX11_screenWorks 153 = .ok (.invokevirtual 217, 3) := by decide +kernel
theorem dX11_screenWorks_156 : decode cX11_screenWorks 156 = .ok (.return_, 1) := by decide +kernel
theorem dX11_storeWorks_0 : decode cX11_storeWorks 0 = .ok (.bipush (-2), 2) := by decide +kernel
theorem dX11_storeWorks_2 : decode cX11_storeWorks 2 = .ok (.istore_n 2, 1) := by decide +kernel
theorem dX11_storeWorks_3 : decode cX11_storeWorks 3 = .ok (.iconst 0, 1) := by decide +kernel
theorem dX11_storeWorks_4 : decode cX11_storeWorks 4 = .ok (.istore_n 3, 1) := by decide +kernel
theorem dX11_storeWorks_5 : decode cX11_storeWorks 5 = .ok (.iconst 0, 1) := by decide +kernel
theorem dX11_storeWorks_6 : decode cX11_storeWorks 6 = .ok (.istore 4, 2) := by decide +kernel
theorem dX11_storeWorks_8 : decode cX11_storeWorks 8 = .ok (.iload 4, 2) := by decide +kernel
theorem dX11_storeWorks_10 : decode cX11_storeWorks 10 = .ok (.aload_n 0, 1) := by decide +kernel
theorem dX11_storeWorks_11 : decode cX11_storeWorks 11 = .ok (.getfield 24, 3) := by decide +kernel
theorem dX11_storeWorks_14 : decode cX11_storeWorks 14 = .ok (.iconst 1, 1) := by decide +kernel
theorem dX11_storeWorks_15 : decode cX11_storeWorks 15 = .ok (.iaload, 1) := by decide +kernel
theorem dX11_storeWorks_16 : decode cX11_storeWorks 16 = .ok (.if_icmp .ge 113, 3) := by decide +kernel
theorem dX11_storeWorks_19 : decode cX11_storeWorks 19 = .ok (.aload_n 0, 1) := by decide +kernel
theorem dX11_storeWorks_20 : decode cX11_storeWorks 20 = .ok (.iload 4, 2) := by decide +kernel
theorem dX11_storeWorks_22 : decode cX11_storeWorks 22 = .ok (.iconst 0, 1) := by decide +kernel
theorem dX11_storeWorks_23 : decode cX11_storeWorks 23 = .ok (.invokevirtual 198, 3) := by decide +kernel
theorem dX11_storeWorks_26 : decode cX11_storeWorks 26 = .ok (.iconst 5, 1) := by decide +kernel
theorem dX11_storeWorks_27 : decode cX11_storeWorks 27 = .ok (.if_icmp .ne 28, 3) := by decide +kernel
theorem dX11_storeWorks_30 : decode cX11_storeWorks 30 = .ok (.aload_n 0, 1) := by decide +kernel
theorem dX11_storeWorks_31 : decode cX11_storeWorks 31 = .ok (.iload 4, 2) := by decide +kernel
theorem dX11_storeWorks_33 : decode cX11_storeWorks 33 = .ok (.iconst 1, 1) := by decide +kernel
theorem dX11_storeWorks_34 : decode cX11_storeWorks 34 = .ok (.invokevirtual 198, 3) := by decide +kernel
theorem dX11_storeWorks_37 : decode cX11_storeWorks 37 = .ok (.iload_n 1, 1) := by decide +kernel
theorem dX11_storeWorks_38 : decode cX11_storeWorks 38 = .ok (.if_icmp .ne 17, 3) := by decide +kernel
theorem dX11_storeWorks_41 : decode cX11_storeWorks 41 = .ok (.aload_n 0, 1) := by decide +kernel
theorem dX11_storeWorks_42 : decode cX11_storeWorks 42 = .ok (.aload_n 0, 1) := by decide +kernel
theorem dX11_storeWorks_43 : decode cX11_storeWorks 43 = .ok (.iload 4, 2) := by decide +kernel
theorem dX11_storeWorks_45 : decode cX11_storeWorks 45 = .ok (.iconst 3, 1) := by decide +kernel
theorem dX11_storeWorks_46 : decode cX11_storeWorks 46 = .ok (.invokevirtual 198, 3) := by decide +kernel
theorem dX11_storeWorks_49 : decode cX11_storeWorks 49 = .ok (.invokevirtual 189, 3) := by decide +kernel
theorem dX11_storeWorks_52 : decode cX11_storeWorks 52 = .ok (.goto 5, 3) := by decide +kernel
theorem dX11_storeWorks_55 : decode cX11_storeWorks 55 = .ok (.bipush (-2), 2) := by decide +kernel
theorem dX11_storeWorks_57 : decode cX11_storeWorks 57 = .ok (.istore 5, 2) := by decide +kernel
theorem dX11_storeWorks_59 : decode cX11_storeWorks 59 = .ok (.iload 5, 2) := by decide +kernel
theorem dX11_storeWorks_61 : decode cX11_storeWorks 61 = .ok (.ifCond .lt 62, 3) := by decide +kernel
theorem dX11_storeWorks_64 : decode cX11_storeWorks 64 = .ok (.aload_n 0, 1) := by decide +kernel
theorem dX11_storeWorks_65 : decode cX11_storeWorks 65 = .ok (.iload 5, 2) := by decide +kernel
theorem dX11_storeWorks_67 : decode cX11_storeWorks 67 = .ok (.invokevirtual 192, 3) := by decide +kernel
theorem dX11_storeWorks_70 : decode cX11_storeWorks 70 = .ok (.ifCond .ne 6, 3) := by decide +kernel
theorem dX11_storeWorks_73 : decode cX11_storeWorks 73 = .ok (.goto 50, 3) := by decide +kernel
theorem dX11_storeWorks_76 : decode cX11_storeWorks 76 = .ok (.aload_n 0, 1) := by decide +kernel
theorem dX11_storeWorks_77 : decode cX11_storeWorks 77 = .ok (.iload 5, 2) := by decide +kernel
theorem dX11_storeWorks_79 : decode cX11_storeWorks 79 = .ok (.iconst 3, 1) := by decide +kernel
theorem dX11_storeWorks_80 : decode cX11_storeWorks 80 = .ok (.invokevirtual 186, 3) := by decide +kernel
theorem dX11_storeWorks_83 : decode cX11_storeWorks 83 = .ok (.istore 6, 2) := by decide +kernel
theorem dX11_storeWorks_85 : decode cX11_storeWorks 85 = .ok (.iload_n 2, 1) := by decide +kernel
theorem dX11_storeWorks_86 : decode cX11_storeWorks 86 = .ok (.ifCond .lt 31, 3) := by decide +kernel
theorem dX11_storeWorks_89 : decode cX11_storeWorks 89 = .ok (.iload 6, 2) := by decide +kernel
theorem dX11_storeWorks_91 : decode cX11_storeWorks 91 = .ok (.iload_n 3, 1) := by decide +kernel
theorem dX11_storeWorks_92 : decode cX11_storeWorks 92 = .ok (.if_icmp .lt 25, 3) := by decide +kernel
theorem dX11_storeWorks_95 : decode cX11_storeWorks 95 = .ok (.iload 6, 2) := by decide +kernel
theorem dX11_storeWorks_97 : decode cX11_storeWorks 97 = .ok (.iload_n 3, 1) := by decide +kernel
theorem dX11_storeWorks_98 : decode cX11_storeWorks 98 = .ok (.if_icmp .ne 25, 3) := by decide +kernel
theorem dX11_storeWorks_101 : decode cX11_storeWorks 101 = .ok (.aload_n 0, 1) := by decide +kernel
theorem dX11_storeWorks_102 : decode cX11_storeWorks 102 = .ok (.iload 4, 2) := by decide +kernel
theorem dX11_storeWorks_104 : decode cX11_storeWorks 104 = .ok (.iconst 2, 1) := by decide +kernel
theorem dX11_storeWorks_105 : decode cX11_storeWorks 105 = .ok (.invokevirtual 198, 3) := by decide +kernel
theorem dX11_storeWorks_108 : decode cX11_storeWorks 108 = .ok (.aload_n 0, 1) := by decide +kernel
theorem dX11_storeWorks_109 : decode cX11_storeWorks 109 = .ok (.iload_n 2, 1) := by decide +kernel
theorem dX11_storeWorks_110 : decode cX11_storeWorks 110 = .ok (.iconst 2, 1) := by decide +kernel
theorem dX11_storeWorks_111 : decode cX11_storeWorks 111 = .ok (.invokevirtual 198, 3) := by decide +kernel
theorem dX11_storeWorks_114 : decode cX11_storeWorks 114 = .ok (.if_icmp .ge 9, 3) := by decide +kernel
theorem dX11_storeWorks_117 : decode cX11_storeWorks 117 = .ok (.iload 4, 2) := by decide +kernel
theorem dX11_storeWorks_119 : decode cX11_storeWorks 119 = .ok (.istore_n 2, 1) := by decide +kernel
theorem dX11_storeWorks_120 : decode cX11_storeWorks 120 = .ok (.iload 6, 2) := by decide +kernel
theorem dX11_storeWorks_122 : decode cX11_storeWorks 122 = .ok (.istore_n 3, 1) := by decide +kernel
theorem dX11_storeWorks_123 : decode cX11_storeWorks 123 = .ok (.iinc 4 1, 3) := by decide +kernel
theorem dX11_storeWorks_126 : decode cX11_storeWorks 126 = .ok (.goto (-118), 3) := by decide +kernel
theorem dX11_storeWorks_129 : decode cX11_storeWorks 129 = .ok (.iload_n 2, 1) := by decide +kernel
theorem dX11_storeWorks_130 : decode cX11_storeWorks 130 = .ok (.ifCond .lt 18, 3) := by decide +kernel
theorem dX11_storeWorks_133 : decode cX11_storeWorks 133 = .ok (.aload_n 0, 1) := by decide +kernel
theorem dX11_storeWorks_134 : decode cX11_storeWorks 134 = .ok (.iload_n 2, 1) := by decide +kernel
theorem dX11_storeWorks_135 : decode cX11_storeWorks 135 = .ok (.bipush 7, 2) := by decide +kernel
theorem dX11_storeWorks_137 : decode cX11_storeWorks 137 = .ok (.aload_n 0, 1) := by decide +kernel
theorem dX11_storeWorks_138 : decode cX11_storeWorks 138 = .ok (.iconst 5, 1) := by decide +kernel
theorem dX11_storeWorks_139 : decode cX11_storeWorks 139 = .ok (.iload_n 1, 1) := by decide +kernel
theorem dX11_storeWorks_140 : decode cX11_storeWorks 140 = .ok (.bipush 7, 2) := by decide +kernel
theorem dX11_storeWorks_142 : decode cX11_storeWorks 142 = .ok (.invokevirtual 207, 3) := by decide +kernel
theorem dX11_storeWorks_145 : decode cX11_storeWorks 145 = .ok (.invokevirtual 214, 3) := by decide +kernel
theorem dX11_storeWorks_148 : decode cX11_storeWorks 148 = .ok (.return_, 1) := by decide +kernel
theorem dX11_isClear_0 : decode cX11_isClear 0 = .ok (.aload_n 0, 1) := by decide +kernel
theorem dX11_isClear_1 : decode cX11_isClear 1 = .ok (.getfield 24, 3) := by decide +kernel
theorem dX11_isClear_4 : decode cX11_isClear 4 = .ok (.bipush 90, 2) := by decide +kernel
theorem dX11_isClear_6 : decode cX11_isClear 6 = .ok (.iload_n 1, 1) := by decide +kernel
theorem dX11_isClear_7 : decode cX11_isClear 7 = .ok (.iadd, 1) := by decide +kernel
theorem dX11_isClear_8 : decode cX11_isClear 8 = .ok (.iaload, 1) := by decide +kernel
theorem dX11_isClear_9 : decode cX11_isClear 9 = .ok (.ifCond .ge 20, 3) := by decide +kernel
theorem dX11_isClear_12 : decode cX11_isClear 12 = .ok (.aload_n 0, 1) := by decide +kernel
theorem dX11_isClear_13 : decode cX11_isClear 13 = .ok (.getfield 24, 3) := by decide +kernel
theorem dX11_isClear_16 : decode cX11_isClear 16 = .ok (.sipush 150, 3) := by decide +kernel
theorem dX11_isClear_19 : decode cX11_isClear 19 = .ok (.iload_n 1, 1) := by decide +kernel
theorem dX11_isClear_20 : decode cX11_isClear 20 = .ok (.iadd, 1) := by decide +kernel
theorem dX11_isClear_21 : decode cX11_isClear 21 = .ok (.iaload, 1) := by decide +kernel
theorem dX11_isClear_22 : decode cX11_isClear 22 = .ok (.ifCond .ne 7, 3) := by decide +kernel
theorem dX11_isClear_25 : decode cX11_isClear 25 = .ok (.iconst 1, 1) := by decide +kernel
theorem dX11_isClear_26 : decode cX11_isClear 26 = .ok (.goto 4, 3) := by decide +kernel
theorem dX11_isClear_29 : decode cX11_isClear 29 = .ok (.iconst 0, 1) := by decide +kernel
theorem dX11_isClear_30 : decode cX11_isClear 30 = .ok (.ireturn, 1) := by decide +kernel
theorem dX11_newRecord_0 : decode cX11_newRecord 0 = .ok (.aload_n 0, 1) := by decide +kernel
theorem dX11_newRecord_1 : decode cX11_newRecord 1 = .ok (.getfield 24, 3) := by decide +kernel
theorem dX11_newRecord_4 : decode cX11_newRecord 4 = .ok (.sipush 150, 3) := by decide +kernel
theorem dX11_newRecord_7 : decode cX11_newRecord 7 = .ok (.iload_n 1, 1) := by decide +kernel
theorem dX11_newRecord_8 : decode cX11_newRecord 8 = .ok (.iadd, 1) := by decide +kernel
theorem dX11_newRecord_9 : decode cX11_newRecord 9 = .ok (.iconst 1, 1) := by decide +kernel
theorem dX11_newRecord_10 : decode cX11_newRecord 10 = .ok (.iastore, 1) := by decide +kernel
theorem dX11_newRecord_11 : decode cX11_newRecord 11 = .ok (.aload_n 0, 1) := by decide +kernel
theorem dX11_newRecord_12 : decode cX11_newRecord 12 = .ok (.getfield 24, 3) := by decide +kernel
theorem dX11_newRecord_15 : decode cX11_newRecord 15 = .ok (.sipush 210, 3) := by decide +kernel
theorem dX11_newRecord_18 : decode cX11_newRecord 18 = .ok (.iload_n 1, 1) := by decide +kernel
theorem dX11_newRecord_19 : decode cX11_newRecord 19 = .ok (.iadd, 1) := by decide +kernel
theorem dX11_newRecord_20 : decode cX11_newRecord 20 = .ok (.iconst 0, 1) := by decide +kernel
theorem dX11_newRecord_21 : decode cX11_newRecord 21 = .ok (.iastore, 1) := by decide +kernel
theorem dX11_newRecord_22 : decode cX11_newRecord 22 = .ok (.aload_n 0, 1) := by decide +kernel
theorem dX11_newRecord_23 : decode cX11_newRecord 23 = .ok (.getfield 24, 3) := by decide +kernel
theorem dX11_newRecord_26 : decode cX11_newRecord 26 = .ok (.sipush 270, 3) := by decide +kernel
theorem dX11_newRecord_29 : decode cX11_newRecord 29 = .ok (.iload_n 1, 1) := by decide +kernel
theorem dX11_newRecord_30 : decode cX11_newRecord 30 = .ok (.iadd, 1) := by decide +kernel
theorem dX11_newRecord_31 : decode cX11_newRecord 31 = .ok (.iconst 0, 1) := by decide +kernel
theorem dX11_newRecord_32 : decode cX11_newRecord 32 = .ok (.iastore, 1) := by decide +kernel
theorem dX11_newRecord_33 : decode cX11_newRecord 33 = .ok (.aload_n 0, 1) := by decide +kernel
theorem dX11_newRecord_34 : decode cX11_newRecord 34 = .ok (.getfield 24, 3) := by decide +kernel
theorem dX11_newRecord_37 : decode cX11_newRecord 37 = .ok (.sipush 330, 3) := by decide +kernel
theorem dX11_newRecord_40 : decode cX11_newRecord 40 = .ok (.iload_n 1, 1) := by decide +kernel
theorem dX11_newRecord_41 : decode cX11_newRecord 41 = .ok (.iadd, 1) := by decide +kernel
theorem dX11_newRecord_42 : decode cX11_newRecord 42 = .ok (.iconst 0, 1) := by decide +kernel
theorem dX11_newRecord_43 : decode cX11_newRecord 43 = .ok (.iastore, 1) := by decide +kernel
theorem dX11_newRecord_44 : decode cX11_newRecord 44 = .ok (.return_, 1) := by decide +kernel
theorem dX11_dropRecord_0 : decode cX11_dropRecord 0 = .ok (.aload_n 0, 1) := by decide +kernel
theorem dX11_dropRecord_1 : decode cX11_dropRecord 1 = .ok (.iload_n 1, 1) := by decide +kernel
theorem dX11_dropRecord_2 : decode cX11_dropRecord 2 = .ok (.invokevirtual 220, 3) := by decide +kernel
theorem dX11_dropRecord_5 : decode cX11_dropRecord 5 = .ok (.aload_n 0, 1) := by decide +kernel
theorem dX11_dropRecord_6 : decode cX11_dropRecord 6 = .ok (.getfield 24, 3) := by decide +kernel
theorem dX11_dropRecord_9 : decode cX11_dropRecord 9 = .ok (.sipush 150, 3) := by decide +kernel
theorem dX11_dropRecord_12 : decode cX11_dropRecord 12 = .ok (.iload_n 1, 1) := by decide +kernel
theorem dX11_dropRecord_13 : decode cX11_dropRecord 13 = .ok (.iadd, 1) := by decide +kernel
theorem dX11_dropRecord_14 : decode cX11_dropRecord 14 = .ok (.iconst 0, 1) := by decide +kernel
theorem dX11_dropRecord_15 : decode cX11_dropRecord 15 = .ok (.iastore, 1) := by decide +kernel
theorem dX11_dropRecord_16 : decode cX11_dropRecord 16 = .ok (.return_, 1) := by decide +kernel
theorem dX11_entersRing_0 : decode cX11_entersRing 0 = .ok (.aload_n 0, 1) := by decide +kernel
theorem dX11_entersRing_1 : decode cX11_entersRing 1 = .ok (.getfield 24, 3) := by decide +kernel
theorem dX11_entersRing_4 : decode cX11_entersRing 4 = .ok (.bipush 90, 2) := by decide +kernel
theorem dX11_entersRing_6 : decode cX11_entersRing 6 = .ok (.iload_n 2, 1) := by decide +kernel
theorem dX11_entersRing_7 : decode cX11_entersRing 7 = .ok (.iadd, 1) := by decide +kernel
theorem dX11_entersRing_8 : decode cX11_entersRing 8 = .ok (.iload_n 1, 1) := by decide +kernel
theorem dX11_entersRing_9 : decode cX11_entersRing 9 = .ok (.iastore, 1) := by decide +kernel
theorem dX11_entersRing_10 : decode cX11_entersRing 10 = .ok (.aload_n 0, 1) := by decide +kernel
theorem dX11_entersRing_11 : decode cX11_entersRing 11 = .ok (.iload_n 1, 1) := by decide +kernel
theorem dX11_entersRing_12 : decode cX11_entersRing 12 = .ok (.iconst 1, 1) := by decide +kernel
theorem dX11_entersRing_13 : decode cX11_entersRing 13 = .ok (.iload_n 2, 1) := by decide +kernel
theorem dX11_entersRing_14 : decode cX11_entersRing 14 = .ok (.invokevirtual 214, 3) := by decide +kernel
theorem dX11_entersRing_17 : decode cX11_entersRing 17 = .ok (.return_, 1) := by decide +kernel
theorem dX11_inletWorks_0 : decode cX11_inletWorks 0 = .ok (.aload_n 0, 1) := by decide +kernel
theorem dX11_inletWorks_1 : decode cX11_inletWorks 1 = .ok (.iload_n 1, 1) := by decide +kernel
theorem dX11_inletWorks_2 : decode cX11_inletWorks 2 = .ok (.invokevirtual 223, 3) := by decide +kernel
theorem dX11_inletWorks_5 : decode cX11_inletWorks 5 = .ok (.ifCond .eq 20, 3) := by decide +kernel
theorem dX11_inletWorks_8 : decode cX11_inletWorks 8 = .ok (.aload_n 0, 1) := by decide +kernel
theorem dX11_inletWorks_9 : decode cX11_inletWorks 9 = .ok (.iconst 0, 1) := by decide +kernel
theorem dX11_inletWorks_10 : decode cX11_inletWorks 10 = .ok (.aload_n 0, 1) := by decide +kernel
theorem dX11_inletWorks_11 : decode cX11_inletWorks 11 = .ok (.getfield 17, 3) := by decide +kernel
theorem dX11_inletWorks_14 : decode cX11_inletWorks 14 = .ok (.bipush 80, 2) := by decide +kernel
theorem dX11_inletWorks_16 : decode cX11_inletWorks 16 = .ok (.iload_n 1, 1) := by decide +kernel
theorem dX11_inletWorks_17 : decode cX11_inletWorks 17 = .ok (.iadd, 1) := by decide +kernel
theorem dX11_inletWorks_18 : decode cX11_inletWorks 18 = .ok (.iaload, 1) := by decide +kernel
theorem dX11_inletWorks_19 : decode cX11_inletWorks 19 = .ok (.invokevirtual 204, 3) := by decide +kernel
theorem dX11_inletWorks_22 : decode cX11_inletWorks 22 = .ok (.goto 5, 3) := by decide +kernel
theorem dX11_inletWorks_25 : decode cX11_inletWorks 25 = .ok (.bipush (-2), 2) := by decide +kernel
theorem dX11_inletWorks_27 : decode cX11_inletWorks 27 = .ok (.istore_n 2, 1) := by decide +kernel
theorem dX11_inletWorks_28 : decode cX11_inletWorks 28 = .ok (.iload_n 2, 1) := by decide +kernel
theorem dX11_inletWorks_29 : decode cX11_inletWorks 29 = .ok (.ifCond .lt 14, 3) := by decide +kernel
theorem dX11_inletWorks_32 : decode cX11_inletWorks 32 = .ok (.aload_n 0, 1) := by decide +kernel
theorem dX11_inletWorks_33 : decode cX11_inletWorks 33 = .ok (.iload_n 2, 1) := by decide +kernel
theorem dX11_inletWorks_34 : decode cX11_inletWorks 34 = .ok (.iload_n 1, 1) := by decide +kernel
theorem dX11_inletWorks_35 : decode cX11_inletWorks 35 = .ok (.invokevirtual 226, 3) := by decide +kernel
theorem dX11_inletWorks_38 : decode cX11_inletWorks 38 = .ok (.aload_n 0, 1) := by decide +kernel
theorem dX11_inletWorks_39 : decode cX11_inletWorks 39 = .ok (.iload_n 1, 1) := by decide +kernel
theorem dX11_inletWorks_40 : decode cX11_inletWorks 40 = .ok (.invokevirtual 220, 3) := by decide +kernel
theorem dX11_inletWorks_43 : decode cX11_inletWorks 43 = .ok (.return_, 1) := by decide +kernel
theorem dX11_exitWorks_0 : decode cX11_exitWorks 0 = .ok (.aload_n 0, 1) := by decide +kernel
theorem dX11_exitWorks_1 : decode cX11_exitWorks 1 = .ok (.iload_n 1, 1) := by decide +kernel
theorem dX11_exitWorks_2 : decode cX11_exitWorks 2 = .ok (.invokevirtual 223, 3) := by decide +kernel
theorem dX11_exitWorks_5 : decode cX11_exitWorks 5 = .ok (.ifCond .eq 13, 3) := by decide +kernel
theorem dX11_exitWorks_8 : decode cX11_exitWorks 8 = .ok (.aload_n 0, 1) := by decide +kernel
theorem dX11_exitWorks_9 : decode cX11_exitWorks 9 = .ok (.bipush 7, 2) := by decide +kernel
theorem dX11_exitWorks_11 : decode cX11_exitWorks 11 = .ok (.iload_n 1, 1) := by decide +kernel
theorem dX11_exitWorks_12 : decode cX11_exitWorks 12 = .ok (.invokevirtual 204, 3) := by decide +kernel
theorem dX11_exitWorks_15 : decode cX11_exitWorks 15 = .ok (.goto 5, 3) := by decide +kernel
theorem dX11_exitWorks_18 : decode cX11_exitWorks 18 = .ok (.bipush (-2), 2) := by decide +kernel
theorem dX11_exitWorks_20 : decode cX11_exitWorks 20 = .ok (.istore_n 2, 1) := by decide +kernel
theorem dX11_exitWorks_21 : decode cX11_exitWorks 21 = .ok (.iload_n 2, 1) := by decide +kernel
theorem dX11_exitWorks_22 : decode cX11_exitWorks 22 = .ok (.ifCond .lt 68, 3) := by decide +kernel
theorem dX11_exitWorks_25 : decode cX11_exitWorks 25 = .ok (.aload_n 0, 1) := by decide +kernel
theorem dX11_exitWorks_26 : decode cX11_exitWorks 26 = .ok (.iload_n 2, 1) := by decide +kernel
theorem dX11_exitWorks_27 : decode cX11_exitWorks 27 = .ok (.iload_n 1, 1) := by decide +kernel
theorem dX11_exitWorks_28 : decode cX11_exitWorks 28 = .ok (.invokevirtual 226, 3) := by decide +kernel
theorem dX11_exitWorks_31 : decode cX11_exitWorks 31 = .ok (.aload_n 0, 1) := by decide +kernel
theorem dX11_exitWorks_32 : decode cX11_exitWorks 32 = .ok (.getfield 24, 3) := by decide +kernel
theorem dX11_exitWorks_35 : decode cX11_exitWorks 35 = .ok (.sipush 150, 3) := by decide +kernel
theorem dX11_exitWorks_38 : decode cX11_exitWorks 38 = .ok (.iload_n 1, 1) := by decide +kernel
theorem dX11_exitWorks_39 : decode cX11_exitWorks 39 = .ok (.iadd, 1) := by decide +kernel
theorem dX11_exitWorks_40 : decode cX11_exitWorks 40 = .ok (.iconst 1, 1) := by decide +kernel
theorem dX11_exitWorks_41 : decode cX11_exitWorks 41 = .ok (.iastore, 1) := by decide +kernel
theorem dX11_exitWorks_42 : decode cX11_exitWorks 42 = .ok (.aload_n 0, 1) := by decide +kernel
theorem dX11_exitWorks_43 : decode cX11_exitWorks 43 = .ok (.getfield 24, 3) := by decide +kernel
theorem dX11_exitWorks_46 : decode cX11_exitWorks 46 = .ok (.sipush 210, 3) := by decide +kernel
theorem dX11_exitWorks_49 : decode cX11_exitWorks 49 = .ok (.iload_n 1, 1) := by decide +kernel
theorem dX11_exitWorks_50 : decode cX11_exitWorks 50 = .ok (.iadd, 1) := by decide +kernel
theorem dX11_exitWorks_51 : decode cX11_exitWorks 51 = .ok (.aload_n 0, 1) := by decide +kernel
theorem dX11_exitWorks_52 : decode cX11_exitWorks 52 = .ok (.iload_n 2, 1) := by decide +kernel
theorem dX11_exitWorks_53 : decode cX11_exitWorks 53 = .ok (.iconst 3, 1) := by decide +kernel
theorem dX11_exitWorks_54 : decode cX11_exitWorks 54 = .ok (.invokevirtual 198, 3) := by decide +kernel
theorem dX11_exitWorks_57 : decode cX11_exitWorks 57 = .ok (.iastore, 1) := by decide +kernel
theorem dX11_exitWorks_58 : decode cX11_exitWorks 58 = .ok (.aload_n 0, 1) := by decide +kernel
theorem dX11_exitWorks_59 : decode cX11_exitWorks 59 = .ok (.getfield 24, 3) := by decide +kernel
theorem dX11_exitWorks_62 : decode cX11_exitWorks 62 = .ok (.sipush 270, 3) := by decide +kernel
theorem dX11_exitWorks_65 : decode cX11_exitWorks 65 = .ok (.iload_n 1, 1) := by decide +kernel
theorem dX11_exitWorks_66 : decode cX11_exitWorks 66 = .ok (.iadd, 1) := by decide +kernel
theorem dX11_exitWorks_67 : decode cX11_exitWorks 67 = .ok (.aload_n 0, 1) := by decide +kernel
theorem dX11_exitWorks_68 : decode cX11_exitWorks 68 = .ok (.iload_n 2, 1) := by decide +kernel
theorem dX11_exitWorks_69 : decode cX11_exitWorks 69 = .ok (.iconst 4, 1) := by decide +kernel
theorem dX11_exitWorks_70 : decode cX11_exitWorks 70 = .ok (.invokevirtual 198, 3) := by decide +kernel
theorem dX11_exitWorks_73 : decode cX11_exitWorks 73 = .ok (.iastore, 1) := by decide +kernel
theorem dX11_exitWorks_74 : decode cX11_exitWorks 74 = .ok (.aload_n 0, 1) := by decide +kernel
theorem dX11_exitWorks_75 : decode cX11_exitWorks 75 = .ok (.getfield 24, 3) := by decide +kernel
theorem dX11_exitWorks_78 : decode cX11_exitWorks 78 = .ok (.sipush 330, 3) := by decide +kernel
theorem dX11_exitWorks_81 : decode cX11_exitWorks 81 = .ok (.iload_n 1, 1) := by decide +kernel
theorem dX11_exitWorks_82 : decode cX11_exitWorks 82 = .ok (.iadd, 1) := by decide +kernel
theorem dX11_exitWorks_83 : decode cX11_exitWorks 83 = .ok (.aload_n 0, 1) := by decide +kernel
theorem dX11_exitWorks_84 : decode cX11_exitWorks 84 = .ok (.iload_n 2, 1) := by decide +kernel
theorem dX11_exitWorks_85 : decode cX11_exitWorks 85 = .ok (.iconst 5, 1) := by decide +kernel
theorem dX11_exitWorks_86 : decode cX11_exitWorks 86 = .ok (.invokevirtual 198, 3) := by decide +kernel
theorem dX11_exitWorks_89 : decode cX11_exitWorks 89 = .ok (.iastore, 1) := by decide +kernel
theorem dX11_exitWorks_90 : decode cX11_exitWorks 90 = .ok (.return_, 1) := by decide +kernel
theorem dX11_moveRecord_0 : decode cX11_moveRecord 0 = .ok (.aload_n 0, 1) := by decide +kernel
theorem dX11_moveRecord_1 : decode cX11_moveRecord 1 = .ok (.getfield 24, 3) := by decide +kernel
theorem dX11_moveRecord_4 : decode cX11_moveRecord 4 = .ok (.sipush 150, 3) := by decide +kernel
theorem dX11_moveRecord_7 : decode cX11_moveRecord 7 = .ok (.iload_n 2, 1) := by decide +kernel
theorem dX11_moveRecord_8 : decode cX11_moveRecord 8 = .ok (.iadd, 1) := by decide +kernel
theorem dX11_moveRecord_9 : decode cX11_moveRecord 9 = .ok (.iconst 1, 1) := by decide +kernel
theorem dX11_moveRecord_10 : decode cX11_moveRecord 10 = .ok (.iastore, 1) := by decide +kernel
theorem dX11_moveRecord_11 : decode cX11_moveRecord 11 = .ok (.aload_n 0, 1) := by decide +kernel
theorem dX11_moveRecord_12 : decode cX11_moveRecord 12 = .ok (.getfield 24, 3) := by decide +kernel
theorem dX11_moveRecord_15 : decode cX11_moveRecord 15 = .ok (.sipush 210, 3) := by decide +kernel
theorem dX11_moveRecord_18 : decode cX11_moveRecord 18 = .ok (.iload_n 2, 1) := by decide +kernel
theorem dX11_moveRecord_19 : decode cX11_moveRecord 19 = .ok (.iadd, 1) := by decide +kernel
theorem dX11_moveRecord_20 : decode cX11_moveRecord 20 = .ok (.aload_n 0, 1) := by decide +kernel
theorem dX11_moveRecord_21 : decode cX11_moveRecord 21 = .ok (.getfield 24, 3) := by decide +kernel
theorem dX11_moveRecord_24 : decode cX11_moveRecord 24 = .ok (.sipush 210, 3) := by decide +kernel
theorem dX11_moveRecord_27 : decode cX11_moveRecord 27 = .ok (.iload_n 1, 1) := by decide +kernel
theorem dX11_moveRecord_28 : decode cX11_moveRecord 28 = .ok (.iadd, 1) := by decide +kernel
theorem dX11_moveRecord_29 : decode cX11_moveRecord 29 = .ok (.iaload, 1) := by decide +kernel
theorem dX11_moveRecord_30 : decode cX11_moveRecord 30 = .ok (.iastore, 1) := by decide +kernel
theorem dX11_moveRecord_31 : decode cX11_moveRecord 31 = .ok (.aload_n 0, 1) := by decide +kernel
theorem dX11_moveRecord_32 : decode cX11_moveRecord 32 = .ok (.getfield 24, 3) := by decide +kernel
theorem dX11_moveRecord_35 : decode cX11_moveRecord 35 = .ok (.sipush 270, 3) := by decide +kernel
theorem dX11_moveRecord_38 : decode cX11_moveRecord 38 = .ok (.iload_n 2, 1) := by decide +kernel
theorem dX11_moveRecord_39 : decode cX11_moveRecord 39 = .ok (.iadd, 1) := by decide +kernel
theorem dX11_moveRecord_40 : decode cX11_moveRecord 40 = .ok (.aload_n 0, 1) := by decide +kernel
theorem dX11_moveRecord_41 : decode cX11_moveRecord 41 = .ok (.getfield 24, 3) := by decide +kernel
theorem dX11_moveRecord_44 : decode cX11_moveRecord 44 = .ok (.sipush 270, 3) := by decide +kernel
theorem dX11_moveRecord_47 : decode cX11_moveRecord 47 = .ok (.iload_n 1, 1) := by decide +kernel
theorem dX11_moveRecord_48 : decode cX11_moveRecord 48 = .ok (.iadd, 1) := by decide +kernel
theorem dX11_moveRecord_49 : decode cX11_moveRecord 49 = .ok (.iaload, 1) := by decide +kernel
theorem dX11_moveRecord_50 : decode cX11_moveRecord 50 = .ok (.iastore, 1) := by decide +kernel
theorem dX11_moveRecord_51 : decode cX11_moveRecord 51 = .ok (.aload_n 0, 1) := by decide +kernel
theorem dX11_moveRecord_52 : decode cX11_moveRecord 52 = .ok (.getfield 24, 3) := by decide +kernel
theorem dX11_moveRecord_55 : decode cX11_moveRecord 55 = .ok (.sipush 330, 3) := by decide +kernel
theorem dX11_moveRecord_58 : decode cX11_moveRecord 58 = .ok (.iload_n 2, 1) := by decide +kernel
theorem dX11_moveRecord_59 : decode cX11_moveRecord 59 = .ok (.iadd, 1) := by decide +kernel
theorem dX11_moveRecord_60 : decode cX11_moveRecord 60 = .ok (.aload_n 0, 1) := by decide +kernel
theorem dX11_moveRecord_61 : decode cX11_moveRecord 61 = .ok (.getfield 24, 3) := by decide +kernel
theorem dX11_moveRecord_64 : decode cX11_moveRecord 64 = .ok (.sipush 330, 3) := by decide +kernel
theorem dX11_moveRecord_67 : decode cX11_moveRecord 67 = .ok (.iload_n 1, 1) := by decide +kernel
theorem dX11_moveRecord_68 : decode cX11_moveRecord 68 = .ok (.iadd, 1) := by decide +kernel
theorem dX11_moveRecord_69 : decode cX11_moveRecord 69 = .ok (.iaload, 1) := by decide +kernel
theorem dX11_moveRecord_70 : decode cX11_moveRecord 70 = .ok (.iastore, 1) := by decide +kernel
theorem dX11_moveRecord_71 : decode cX11_moveRecord 71 = .ok (.aload_n 0, 1) := by decide +kernel
theorem dX11_moveRecord_72 : decode cX11_moveRecord 72 = .ok (.iload_n 1, 1) := by decide +kernel
theorem dX11_moveRecord_73 : decode cX11_moveRecord 73 = .ok (.invokevirtual 230, 3) := by decide +kernel
theorem dX11_moveRecord_76 : decode cX11_moveRecord 76 = .ok (.return_, 1) := by decide +kernel
theorem dX11_nearest_0 : decode cX11_nearest 0 = .ok (.aload_n 0, 1) := by decide +kernel
theorem dX11_nearest_1 : decode cX11_nearest 1 = .ok (.getfield 17, 3) := by decide +kernel
theorem dX11_nearest_4 : decode cX11_nearest 4 = .ok (.iconst 0, 1) := by decide +kernel
theorem dX11_nearest_5 : decode cX11_nearest 5 = .ok (.iaload, 1) := by decide +kernel
theorem dX11_nearest_6 : decode cX11_nearest 6 = .ok (.istore_n 3, 1) := by decide +kernel
theorem dX11_nearest_7 : decode cX11_nearest 7 = .ok (.iconst 2, 1) := by decide +kernel
theorem dX11_nearest_8 : decode cX11_nearest 8 = .ok (.istore 4, 2) := by decide +kernel
theorem dX11_nearest_10 : decode cX11_nearest 10 = .ok (.iload 4, 2) := by decide +kernel
theorem dX11_nearest_12 : decode cX11_nearest 12 = .ok (.iconst 2, 1) := by decide +kernel
theorem dX11_nearest_13 : decode cX11_nearest 13 = .ok (.iconst 2, 1) := by decide +kernel
theorem dX11_nearest_14 : decode cX11_nearest 14 = .ok (.aload_n 0, 1) := by decide +kernel
theorem dX11_nearest_15 : decode cX11_nearest 15 = .ok (.getfield 17, 3) := by decide +kernel
theorem dX11_nearest_18 : decode cX11_nearest 18 = .ok (.iconst 2, 1) := by decide +kernel
theorem dX11_nearest_19 : decode cX11_nearest 19 = .ok (.iaload, 1) := by decide +kernel
theorem dX11_nearest_20 : decode cX11_nearest 20 = .ok (.imul, 1) := by decide +kernel
theorem dX11_nearest_21 : decode cX11_nearest 21 = .ok (.iadd, 1) := by decide +kernel
theorem dX11_nearest_22 : decode cX11_nearest 22 = .ok (.if_icmp .ge 99, 3) := by decide +kernel
theorem dX11_nearest_25 : decode cX11_nearest 25 = .ok (.iload 4, 2) := by decide +kernel
theorem dX11_nearest_27 : decode cX11_nearest 27 = .ok (.iconst 2, 1) := by decide +kernel
theorem dX11_nearest_28 : decode cX11_nearest 28 = .ok (.idiv, 1) := by decide +kernel
theorem dX11_nearest_29 : decode cX11_nearest 29 = .ok (.istore 5, 2) := by decide +kernel
theorem dX11_nearest_31 : decode cX11_nearest 31 = .ok (.iload 4, 2) := by decide +kernel
theorem dX11_nearest_33 : decode cX11_nearest 33 = .ok (.iconst 2, 1) := by decide +kernel
theorem dX11_nearest_34 : decode cX11_nearest 34 = .ok (.irem, 1) := by decide +kernel
theorem dX11_nearest_35 : decode cX11_nearest 35 = .ok (.ifCond .ne 14, 3) := by decide +kernel
theorem dX11_nearest_38 : decode cX11_nearest 38 = .ok (.iload_n 1, 1) := by decide +kernel
theorem dX11_nearest_39 : decode cX11_nearest 39 = .ok (.iload_n 3, 1) := by decide +kernel
theorem dX11_nearest_40 : decode cX11_nearest 40 = .ok (.iadd, 1) := by decide +kernel
theorem dX11_nearest_41 : decode cX11_nearest 41 = .ok (.iload 5, 2) := by decide +kernel
theorem dX11_nearest_43 : decode cX11_nearest 43 = .ok (.isub, 1) := by decide +kernel
theorem dX11_nearest_44 : decode cX11_nearest 44 = .ok (.iload_n 3, 1) := by decide +kernel
theorem dX11_nearest_45 : decode cX11_nearest 45 = .ok (.irem, 1) := by decide +kernel
theorem dX11_nearest_46 : decode cX11_nearest 46 = .ok (.goto 9, 3) := by decide +kernel
theorem dX11_nearest_49 : decode cX11_nearest 49 = .ok (.iload_n 1, 1) := by decide +kernel
theorem dX11_nearest_50 : decode cX11_nearest 50 = .ok (.iload 5, 2) := by decide +kernel
theorem dX11_nearest_52 : decode cX11_nearest 52 = .ok (.iadd, 1) := by decide +kernel
theorem dX11_nearest_53 : decode cX11_nearest 53 = .ok (.iload_n 3, 1) := by decide +kernel
theorem dX11_nearest_54 : decode cX11_nearest 54 = .ok (.irem, 1) := by decide +kernel
theorem dX11_nearest_55 : decode cX11_nearest 55 = .ok (.istore 6, 2) := by decide +kernel
theorem dX11_nearest_57 : decode cX11_nearest 57 = .ok (.aload_n 0, 1) := by decide +kernel
theorem dX11_nearest_58 : decode cX11_nearest 58 = .ok (.getfield 24, 3) := by decide +kernel
theorem dX11_nearest_61 : decode cX11_nearest 61 = .ok (.bipush 90, 2) := by decide +kernel
theorem dX11_nearest_63 : decode cX11_nearest 63 = .ok (.iload 6, 2) := by decide +kernel
theorem dX11_nearest_65 : decode cX11_nearest 65 = .ok (.iadd, 1) := by decide +kernel
theorem dX11_nearest_66 : decode cX11_nearest 66 = .ok (.iaload, 1) := by decide +kernel
theorem dX11_nearest_67 : decode cX11_nearest 67 = .ok (.ifCond .lt 7, 3) := by decide +kernel
theorem dX11_nearest_70 : decode cX11_nearest 70 = .ok (.iconst 1, 1) := by decide +kernel
theorem dX11_nearest_71 : decode cX11_nearest 71 = .ok (.goto 4, 3) := by decide +kernel
theorem dX11_nearest_74 : decode cX11_nearest 74 = .ok (.iconst 0, 1) := by decide +kernel
theorem dX11_nearest_75 : decode cX11_nearest 75 = .ok (.istore 7, 2) := by decide +kernel
theorem dX11_nearest_77 : decode cX11_nearest 77 = .ok (.aload_n 0, 1) := by decide +kernel
theorem dX11_nearest_78 : decode cX11_nearest 78 = .ok (.getfield 24, 3) := by decide +kernel
theorem dX11_nearest_81 : decode cX11_nearest 81 = .ok (.sipush 150, 3) := by decide +kernel
theorem dX11_nearest_84 : decode cX11_nearest 84 = .ok (.iload 6, 2) := by decide +kernel
theorem dX11_nearest_86 : decode cX11_nearest 86 = .ok (.iadd, 1) := by decide +kernel
theorem dX11_nearest_87 : decode cX11_nearest 87 = .ok (.iaload, 1) := by decide +kernel
theorem dX11_nearest_88 : decode cX11_nearest 88 = .ok (.iconst 1, 1) := by decide +kernel
theorem dX11_nearest_89 : decode cX11_nearest 89 = .ok (.if_icmp .ne 7, 3) := by decide +kernel
theorem dX11_nearest_92 : decode cX11_nearest 92 = .ok (.iconst 1, 1) := by decide +kernel
theorem dX11_nearest_93 : decode cX11_nearest 93 = .ok (.goto 4, 3) := by decide +kernel
theorem dX11_nearest_96 : decode cX11_nearest 96 = .ok (.iconst 0, 1) := by decide +kernel
theorem dX11_nearest_97 : decode cX11_nearest 97 = .ok (.istore 8, 2) := by decide +kernel
theorem dX11_nearest_99 : decode cX11_nearest 99 = .ok (.iload 7, 2) := by decide +kernel
theorem dX11_nearest_101 : decode cX11_nearest 101 = .ok (.iload 8, 2) := by decide +kernel
theorem dX11_nearest_103 : decode cX11_nearest 103 = .ok (.if_icmp .eq 12, 3) := by decide +kernel
theorem dX11_nearest_106 : decode cX11_nearest 106 = .ok (.iload 8, 2) := by decide +kernel
theorem dX11_nearest_108 : decode cX11_nearest 108 = .ok (.iload_n 2, 1) := by decide +kernel
theorem dX11_nearest_109 : decode cX11_nearest 109 = .ok (.if_icmp .ne 6, 3) := by decide +kernel
theorem dX11_nearest_112 : decode cX11_nearest 112 = .ok (.iload 6, 2) := by decide +kernel
theorem dX11_nearest_114 : decode cX11_nearest 114 = .ok (.ireturn, 1) := by decide +kernel
theorem dX11_nearest_115 : decode cX11_nearest 115 = .ok (.iinc 4 1, 3) := by decide +kernel
theorem dX11_nearest_118 : decode cX11_nearest 118 = .ok (.goto (-108), 3) := by decide +kernel
theorem dX11_nearest_121 : decode cX11_nearest 121 = .ok (.bipush (-2), 2) := by decide +kernel
theorem dX11_nearest_123 : decode cX11_nearest 123 = .ok (.ireturn, 1) := by decide +kernel
theorem dX11_isSeen_0 : decode cX11_isSeen 0 = .ok (.iconst 0, 1) := by decide +kernel
theorem dX11_isSeen_1 : decode cX11_isSeen 1 = .ok (.istore_n 3, 1) := by decide +kernel
theorem dX11_isSeen_2 : decode cX11_isSeen 2 = .ok (.iconst 0, 1) := by decide +kernel
theorem dX11_isSeen_3 : decode cX11_isSeen 3 = .ok (.istore 4, 2) := by decide +kernel
theorem dX11_isSeen_5 : decode cX11_isSeen 5 = .ok (.iload 4, 2) := by decide +kernel
theorem dX11_isSeen_7 : decode cX11_isSeen 7 = .ok (.iconst 4, 1) := by decide +kernel
theorem dX11_isSeen_8 : decode cX11_isSeen 8 = .ok (.if_icmp .ge 25, 3) := by decide +kernel
theorem dX11_isSeen_11 : decode cX11_isSeen 11 = .ok (.iload_n 3, 1) := by decide +kernel
theorem dX11_isSeen_12 : decode cX11_isSeen 12 = .ok (.aload_n 0, 1) := by decide +kernel
theorem dX11_isSeen_13 : decode cX11_isSeen 13 = .ok (.getfield 24, 3) := by decide +kernel
theorem dX11_isSeen_16 : decode cX11_isSeen 16 = .ok (.bipush 11, 2) := by decide +kernel
theorem dX11_isSeen_18 : decode cX11_isSeen 18 = .ok (.iload 4, 2) := by decide +kernel
theorem dX11_isSeen_20 : decode cX11_isSeen 20 = .ok (.iadd, 1) := by decide +kernel
theorem dX11_isSeen_21 : decode cX11_isSeen 21 = .ok (.iaload, 1) := by decide +kernel
theorem dX11_isSeen_22 : decode cX11_isSeen 22 = .ok (.iload 4, 2) := by decide +kernel
theorem dX11_isSeen_24 : decode cX11_isSeen 24 = .ok (.ishl, 1) := by decide +kernel
theorem dX11_isSeen_25 : decode cX11_isSeen 25 = .ok (.ior, 1) := by decide +kernel
theorem dX11_isSeen_26 : decode cX11_isSeen 26 = .ok (.istore_n 3, 1) := by decide +kernel
theorem dX11_isSeen_27 : decode cX11_isSeen 27 = .ok (.iinc 4 1, 3) := by decide +kernel
theorem dX11_isSeen_30 : decode cX11_isSeen 30 = .ok (.goto (-25), 3) := by decide +kernel
theorem dX11_isSeen_33 : decode cX11_isSeen 33 = .ok (.iload_n 1, 1) := by decide +kernel
theorem dX11_isSeen_34 : decode cX11_isSeen 34 = .ok (.ifCond .eq 13, 3) := by decide +kernel
theorem dX11_isSeen_37 : decode cX11_isSeen 37 = .ok (.iload_n 2, 1) := by decide +kernel
theorem dX11_isSeen_38 : decode cX11_isSeen 38 = .ok (.iload_n 3, 1) := by decide +kernel
theorem dX11_isSeen_39 : decode cX11_isSeen 39 = .ok (.iand, 1) := by decide +kernel
theorem dX11_isSeen_40 : decode cX11_isSeen 40 = .ok (.ifCond .eq 7, 3) := by decide +kernel
theorem dX11_isSeen_43 : decode cX11_isSeen 43 = .ok (.iconst 1, 1) := by decide +kernel
theorem dX11_isSeen_44 : decode cX11_isSeen 44 = .ok (.goto 4, 3) := by decide +kernel
theorem dX11_isSeen_47 : decode cX11_isSeen 47 = .ok (.iconst 0, 1) := by decide +kernel
theorem dX11_isSeen_48 : decode cX11_isSeen 48 = .ok (.ireturn, 1) := by decide +kernel
theorem dX11_readOf_0 : decode cX11_readOf 0 = .ok (.aload_n 0, 1) := by decide +kernel
theorem dX11_readOf_1 : decode cX11_readOf 1 = .ok (.aload_n 0, 1) := by decide +kernel
theorem dX11_readOf_2 : decode cX11_readOf 2 = .ok (.getfield 33, 3) := by decide +kernel
theorem dX11_readOf_5 : decode cX11_readOf 5 = .ok (.iload_n 1, 1) := by decide +kernel
theorem dX11_readOf_6 : decode cX11_readOf 6 = .ok (.iaload, 1) := by decide +kernel
theorem dX11_readOf_7 : decode cX11_readOf 7 = .ok (.aload_n 0, 1) := by decide +kernel
theorem dX11_readOf_8 : decode cX11_readOf 8 = .ok (.getfield 36, 3) := by decide +kernel
theorem dX11_readOf_11 : decode cX11_readOf 11 = .ok (.iload_n 1, 1) := by decide +kernel
theorem dX11_readOf_12 : decode cX11_readOf 12 = .ok (.iaload, 1) := by decide +kernel
theorem dX11_readOf_13 : decode cX11_readOf 13 = .ok (.invokevirtual 233, 3) := by decide +kernel
theorem dX11_readOf_16 : decode cX11_readOf 16 = .ok (.ifCond .eq 12, 3) := by decide +kernel
theorem dX11_readOf_19 : decode cX11_readOf 19 = .ok (.aload_n 0, 1) := by decide +kernel
theorem dX11_readOf_20 : decode cX11_readOf 20 = .ok (.getfield 33, 3) := by decide +kernel
theorem dX11_readOf_23 : decode cX11_readOf 23 = .ok (.iload_n 1, 1) := by decide +kernel
theorem dX11_readOf_24 : decode cX11_readOf 24 = .ok (.iaload, 1) := by decide +kernel
theorem dX11_readOf_25 : decode cX11_readOf 25 = .ok (.goto 4, 3) := by decide +kernel
theorem dX11_readOf_28 : decode cX11_readOf 28 = .ok (.iconst 0, 1) := by decide +kernel
theorem dX11_readOf_29 : decode cX11_readOf 29 = .ok (.istore_n 2, 1) := by decide +kernel
theorem dX11_readOf_30 : decode cX11_readOf 30 = .ok (.aload_n 0, 1) := by decide +kernel
theorem dX11_readOf_31 : decode cX11_readOf 31 = .ok (.aload_n 0, 1) := by decide +kernel
theorem dX11_readOf_32 : decode cX11_readOf 32 = .ok (.getfield 39, 3) := by decide +kernel
theorem dX11_readOf_35 : decode cX11_readOf 35 = .ok (.iload_n 1, 1) := by decide +kernel
theorem dX11_readOf_36 : decode cX11_readOf 36 = .ok (.iaload, 1) := by decide +kernel
theorem dX11_readOf_37 : decode cX11_readOf 37 = .ok (.aload_n 0, 1) := by decide +kernel
theorem dX11_readOf_38 : decode cX11_readOf 38 = .ok (.getfield 42, 3) := by decide +kernel
theorem dX11_readOf_41 : decode cX11_readOf 41 = .ok (.iload_n 1, 1) := by decide +kernel
theorem dX11_readOf_42 : decode cX11_readOf 42 = .ok (.iaload, 1) := by decide +kernel
theorem dX11_readOf_43 : decode cX11_readOf 43 = .ok (.invokevirtual 233, 3) := by decide +kernel
theorem dX11_readOf_46 : decode cX11_readOf 46 = .ok (.ifCond .eq 12, 3) := by decide +kernel
theorem dX11_readOf_49 : decode cX11_readOf 49 = .ok (.aload_n 0, 1) := by decide +kernel
theorem dX11_readOf_50 : decode cX11_readOf 50 = .ok (.getfield 39, 3) := by decide +kernel
theorem dX11_readOf_53 : decode cX11_readOf 53 = .ok (.iload_n 1, 1) := by decide +kernel
theorem dX11_readOf_54 : decode cX11_readOf 54 = .ok (.iaload, 1) := by decide +kernel
theorem dX11_readOf_55 : decode cX11_readOf 55 = .ok (.goto 4, 3) := by decide +kernel
theorem dX11_readOf_58 : decode cX11_readOf 58 = .ok (.iconst 0, 1) := by decide +kernel
theorem dX11_readOf_59 : decode cX11_readOf 59 = .ok (.istore_n 3, 1) := by decide +kernel
theorem dX11_readOf_60 : decode cX11_readOf 60 = .ok (.iload_n 2, 1) := by decide +kernel
theorem dX11_readOf_61 : decode cX11_readOf 61 = .ok (.ifCond .eq 8, 3) := by decide +kernel
theorem dX11_readOf_64 : decode cX11_readOf 64 = .ok (.iload_n 2, 1) := by decide +kernel
theorem dX11_readOf_65 : decode cX11_readOf 65 = .ok (.iload_n 3, 1) := by decide +kernel
theorem dX11_readOf_66 : decode cX11_readOf 66 = .ok (.if_icmp .ne 5, 3) := by decide +kernel
theorem dX11_readOf_69 : decode cX11_readOf 69 = .ok (.iload_n 3, 1) := by decide +kernel
theorem dX11_readOf_70 : decode cX11_readOf 70 = .ok (.ireturn, 1) := by decide +kernel
theorem dX11_readOf_71 : decode cX11_readOf 71 = .ok (.iload_n 3, 1) := by decide +kernel
theorem dX11_readOf_72 : decode cX11_readOf 72 = .ok (.ifCond .ne 5, 3) := by decide +kernel
theorem dX11_readOf_75 : decode cX11_readOf 75 = .ok (.iload_n 2, 1) := by decide +kernel
theorem dX11_readOf_76 : decode cX11_readOf 76 = .ok (.ireturn, 1) := by decide +kernel
theorem dX11_readOf_77 : decode cX11_readOf 77 = .ok (.aload_n 0, 1) := by decide +kernel
theorem dX11_readOf_78 : decode cX11_readOf 78 = .ok (.iload_n 2, 1) := by decide +kernel
theorem dX11_readOf_79 : decode cX11_readOf 79 = .ok (.invokevirtual 189, 3) := by decide +kernel
theorem dX11_readOf_82 : decode cX11_readOf 82 = .ok (.ifCond .lt 7, 3) := by decide +kernel
theorem dX11_readOf_85 : decode cX11_readOf 85 = .ok (.iconst 1, 1) := by decide +kernel
theorem dX11_readOf_86 : decode cX11_readOf 86 = .ok (.goto 4, 3) := by decide +kernel
theorem dX11_readOf_89 : decode cX11_readOf 89 = .ok (.iconst 0, 1) := by decide +kernel
theorem dX11_readOf_90 : decode cX11_readOf 90 = .ok (.istore 4, 2) := by decide +kernel
theorem dX11_readOf_92 : decode cX11_readOf 92 = .ok (.aload_n 0, 1) := by decide +kernel
theorem dX11_readOf_93 : decode cX11_readOf 93 = .ok (.iload_n 3, 1) := by decide +kernel
theorem dX11_readOf_94 : decode cX11_readOf 94 = .ok (.invokevirtual 189, 3) := by decide +kernel
theorem dX11_readOf_97 : decode cX11_readOf 97 = .ok (.ifCond .lt 7, 3) := by decide +kernel
theorem dX11_readOf_100 : decode cX11_readOf 100 = .ok (.iconst 1, 1) := by decide +kernel
theorem dX11_readOf_101 : decode cX11_readOf 101 = .ok (.goto 4, 3) := by decide +kernel
theorem dX11_readOf_104 : decode cX11_readOf 104 = .ok (.iconst 0, 1) := by decide +kernel
theorem dX11_readOf_105 : decode cX11_readOf 105 = .ok (.istore 5, 2) := by decide +kernel
theorem dX11_readOf_107 : decode cX11_readOf 107 = .ok (.iload 4, 2) := by decide +kernel
theorem dX11_readOf_109 : decode cX11_readOf 109 = .ok (.iload 5, 2) := by decide +kernel
theorem dX11_readOf_111 : decode cX11_readOf 111 = .ok (.if_icmp .ne 7, 3) := by decide +kernel
theorem dX11_readOf_114 : decode cX11_readOf 114 = .ok (.iconst (-1), 1) := by decide +kernel
theorem dX11_readOf_115 : decode cX11_readOf 115 = .ok (.goto 13, 3) := by decide +kernel
theorem dX11_readOf_118 : decode cX11_readOf 118 = .ok (.iload 4, 2) := by decide +kernel
theorem dX11_readOf_120 : decode cX11_readOf 120 = .ok (.ifCond .eq 7, 3) := by decide +kernel
theorem dX11_readOf_123 : decode cX11_readOf 123 = .ok (.iload_n 2, 1) := by decide +kernel
theorem dX11_readOf_124 : decode cX11_readOf 124 = .ok (.goto 4, 3) := by decide +kernel
theorem dX11_readOf_127 : decode cX11_readOf 127 = .ok (.iload_n 3, 1) := by decide +kernel
theorem dX11_readOf_128 : decode cX11_readOf 128 = .ok (.ireturn, 1) := by decide +kernel
theorem dX11_scannerWorks_0 : decode cX11_scannerWorks 0 = .ok (.aload_n 0, 1) := by decide +kernel
theorem dX11_scannerWorks_1 : decode cX11_scannerWorks 1 = .ok (.getfield 24, 3) := by decide +kernel
theorem dX11_scannerWorks_4 : decode cX11_scannerWorks 4 = .ok (.bipush 90, 2) := by decide +kernel
theorem dX11_scannerWorks_6 : decode cX11_scannerWorks 6 = .ok (.iload_n 1, 1) := by decide +kernel
theorem dX11_scannerWorks_7 : decode cX11_scannerWorks 7 = .ok (.iadd, 1) := by decide +kernel
theorem dX11_scannerWorks_8 : decode cX11_scannerWorks 8 = .ok (.iaload, 1) := by decide +kernel
theorem dX11_scannerWorks_9 : decode cX11_scannerWorks 9 = .ok (.ifCond .lt 7, 3) := by decide +kernel
theorem dX11_scannerWorks_12 : decode cX11_scannerWorks 12 = .ok (.iconst 1, 1) := by decide +kernel
theorem dX11_scannerWorks_13 : decode cX11_scannerWorks 13 = .ok (.goto 4, 3) := by decide +kernel
theorem dX11_scannerWorks_16 : decode cX11_scannerWorks 16 = .ok (.iconst 0, 1) := by decide +kernel
theorem dX11_scannerWorks_17 : decode cX11_scannerWorks 17 = .ok (.istore_n 2, 1) := by decide +kernel
theorem dX11_scannerWorks_18 : decode cX11_scannerWorks 18 = .ok (.aload_n 0, 1) := by decide +kernel
theorem dX11_scannerWorks_19 : decode cX11_scannerWorks 19 = .ok (.getfield 24, 3) := by decide +kernel
theorem dX11_scannerWorks_22 : decode cX11_scannerWorks 22 = .ok (.sipush 150, 3) := by decide +kernel
theorem dX11_scannerWorks_25 : decode cX11_scannerWorks 25 = .ok (.iload_n 1, 1) := by decide +kernel
theorem dX11_scannerWorks_26 : decode cX11_scannerWorks 26 = .ok (.iadd, 1) := by decide +kernel
theorem dX11_scannerWorks_27 : decode cX11_scannerWorks 27 = .ok (.iaload, 1) := by decide +kernel
theorem dX11_scannerWorks_28 : decode cX11_scannerWorks 28 = .ok (.iconst 1, 1) := by decide +kernel
theorem dX11_scannerWorks_29 : decode cX11_scannerWorks 29 = .ok (.if_icmp .ne 7, 3) := by decide +kernel
theorem dX11_scannerWorks_32 : decode cX11_scannerWorks 32 = .ok (.iconst 1, 1) := by decide +kernel
theorem dX11_scannerWorks_33 : decode cX11_scannerWorks 33 = .ok (.goto 4, 3) := by decide +kernel
theorem dX11_scannerWorks_36 : decode cX11_scannerWorks 36 = .ok (.iconst 0, 1) := by decide +kernel
theorem dX11_scannerWorks_37 : decode cX11_scannerWorks 37 = .ok (.istore_n 3, 1) := by decide +kernel
theorem dX11_scannerWorks_38 : decode cX11_scannerWorks 38 = .ok (.iload_n 2, 1) := by decide +kernel
theorem dX11_scannerWorks_39 : decode cX11_scannerWorks 39 = .ok (.ifCond .ne 41, 3) := by decide +kernel
theorem dX11_scannerWorks_42 : decode cX11_scannerWorks 42 = .ok (.iload_n 3, 1) := by decide +kernel
theorem dX11_scannerWorks_43 : decode cX11_scannerWorks 43 = .ok (.ifCond .eq 37, 3) := by decide +kernel
theorem dX11_scannerWorks_46 : decode cX11_scannerWorks 46 = .ok (.aload_n 0, 1) := by decide +kernel
theorem dX11_scannerWorks_47 : decode cX11_scannerWorks 47 = .ok (.iload_n 1, 1) := by decide +kernel
theorem dX11_scannerWorks_48 : decode cX11_scannerWorks 48 = .ok (.iconst 0, 1) := by decide +kernel
theorem dX11_scannerWorks_49 : decode cX11_scannerWorks 49 = .ok (.invokevirtual 236, 3) := by decide +kernel
theorem dX11_scannerWorks_52 : decode cX11_scannerWorks 52 = .ok (.istore 4, 2) := by decide +kernel
theorem dX11_scannerWorks_54 : decode cX11_scannerWorks 54 = .ok (.iload 4, 2) := by decide +kernel
theorem dX11_scannerWorks_56 : decode cX11_scannerWorks 56 = .ok (.ifCond .lt 13, 3) := by decide +kernel
theorem dX11_scannerWorks_59 : decode cX11_scannerWorks 59 = .ok (.aload_n 0, 1) := by decide +kernel
theorem dX11_scannerWorks_60 : decode cX11_scannerWorks 60 = .ok (.iload_n 1, 1) := by decide +kernel
theorem dX11_scannerWorks_61 : decode cX11_scannerWorks 61 = .ok (.iload 4, 2) := by decide +kernel
theorem dX11_scannerWorks_63 : decode cX11_scannerWorks 63 = .ok (.invokevirtual 240, 3) := by decide +kernel
theorem dX11_scannerWorks_66 : decode cX11_scannerWorks 66 = .ok (.goto 13, 3) := by decide +kernel
theorem dX11_scannerWorks_69 : decode cX11_scannerWorks 69 = .ok (.aload_n 0, 1) := by decide +kernel
theorem dX11_scannerWorks_70 : decode cX11_scannerWorks 70 = .ok (.iload_n 1, 1) := by decide +kernel
theorem dX11_scannerWorks_71 : decode cX11_scannerWorks 71 = .ok (.invokevirtual 230, 3) := by decide +kernel
theorem dX11_scannerWorks_74 : decode cX11_scannerWorks 74 = .ok (.aload_n 0, 1) := by decide +kernel
theorem dX11_scannerWorks_75 : decode cX11_scannerWorks 75 = .ok (.iconst 1, 1) := by decide +kernel
theorem dX11_scannerWorks_76 : decode cX11_scannerWorks 76 = .ok (.invokevirtual 217, 3) := by decide +kernel
theorem dX11_scannerWorks_79 : decode cX11_scannerWorks 79 = .ok (.return_, 1) := by decide +kernel
theorem dX11_scannerWorks_80 : decode cX11_scannerWorks 80 = .ok (.iload_n 2, 1) := by decide +kernel
theorem dX11_scannerWorks_81 : decode cX11_scannerWorks 81 = .ok (.ifCond .ne 4, 3) := by decide +kernel
theorem dX11_scannerWorks_84 : decode cX11_scannerWorks 84 = .ok (.return_, 1) := by decide +kernel
theorem dX11_scannerWorks_85 : decode cX11_scannerWorks 85 = .ok (.iload_n 3, 1) := by decide +kernel
theorem dX11_scannerWorks_86 : decode cX11_scannerWorks 86 = .ok (.ifCond .ne 36, 3) := by decide +kernel
theorem dX11_scannerWorks_89 : decode cX11_scannerWorks 89 = .ok (.aload_n 0, 1) := by decide +kernel
theorem dX11_scannerWorks_90 : decode cX11_scannerWorks 90 = .ok (.iload_n 1, 1) := by decide +kernel
theorem dX11_scannerWorks_91 : decode cX11_scannerWorks 91 = .ok (.iconst 1, 1) := by decide +kernel
theorem dX11_scannerWorks_92 : decode cX11_scannerWorks 92 = .ok (.invokevirtual 236, 3) := by decide +kernel
theorem dX11_scannerWorks_95 : decode cX11_scannerWorks 95 = .ok (.istore 4, 2) := by decide +kernel
theorem dX11_scannerWorks_97 : decode cX11_scannerWorks 97 = .ok (.iload 4, 2) := by decide +kernel
theorem dX11_scannerWorks_99 : decode cX11_scannerWorks 99 = .ok (.ifCond .lt 13, 3) := by decide +kernel
theorem dX11_scannerWorks_102 : decode cX11_scannerWorks 102 = .ok (.aload_n 0, 1) := by decide +kernel
theorem dX11_scannerWorks_103 : decode cX11_scannerWorks 103 = .ok (.iload 4, 2) := by decide +kernel
theorem dX11_scannerWorks_105 : decode cX11_scannerWorks 105 = .ok (.iload_n 1, 1) := by decide +kernel
theorem dX11_scannerWorks_106 : decode cX11_scannerWorks 106 = .ok (.invokevirtual 240, 3) := by decide +kernel
theorem dX11_scannerWorks_109 : decode cX11_scannerWorks 109 = .ok (.goto 13, 3) := by decide +kernel
theorem dX11_scannerWorks_112 : decode cX11_scannerWorks 112 = .ok (.aload_n 0, 1) := by decide +kernel
theorem dX11_scannerWorks_113 : decode cX11_scannerWorks 113 = .ok (.iload_n 1, 1) := by decide +kernel
theorem dX11_scannerWorks_114 : decode cX11_scannerWorks 114 = .ok (.invokevirtual 220, 3) := by decide +kernel
theorem dX11_scannerWorks_117 : decode cX11_scannerWorks 117 = .ok (.aload_n 0, 1) := by decide +kernel
theorem dX11_scannerWorks_118 : decode cX11_scannerWorks 118 = .ok (.iconst 0, 1) := by decide +kernel
theorem dX11_scannerWorks_119 : decode cX11_scannerWorks 119 = .ok (.invokevirtual 217, 3) := by decide +kernel
theorem dX11_scannerWorks_122 : decode cX11_scannerWorks 122 = .ok (.aload_n 0, 1) := by decide +kernel
theorem dX11_scannerWorks_123 : decode cX11_scannerWorks 123 = .ok (.getfield 24, 3) := by decide +kernel
theorem dX11_scannerWorks_126 : decode cX11_scannerWorks 126 = .ok (.sipush 330, 3) := by decide +kernel
theorem dX11_scannerWorks_129 : decode cX11_scannerWorks 129 = .ok (.iload_n 1, 1) := by decide +kernel
theorem dX11_scannerWorks_130 : decode cX11_scannerWorks 130 = .ok (.iadd, 1) := by decide +kernel
theorem dX11_scannerWorks_131 : decode cX11_scannerWorks 131 = .ok (.dup2, 1) := by decide +kernel
theorem dX11_scannerWorks_132 : decode cX11_scannerWorks 132 = .ok (.iaload, 1) := by decide +kernel
theorem dX11_scannerWorks_133 : decode cX11_scannerWorks 133 = .ok (.iconst 1, 1) := by decide +kernel
theorem dX11_scannerWorks_134 : decode cX11_scannerWorks 134 = .ok (.iadd, 1) := by decide +kernel
theorem dX11_scannerWorks_135 : decode cX11_scannerWorks 135 = .ok (.iastore, 1) := by decide +kernel
theorem dX11_scannerWorks_136 : decode cX11_scannerWorks 136 = .ok (.aload_n 0, 1) := by decide +kernel
theorem dX11_scannerWorks_137 : decode cX11_scannerWorks 137 = .ok (.aload_n 0, 1) := by decide +kernel
theorem dX11_scannerWorks_138 : decode cX11_scannerWorks 138 = .ok (.getfield 24, 3) := by decide +kernel
theorem dX11_scannerWorks_141 : decode cX11_scannerWorks 141 = .ok (.bipush 90, 2) := by decide +kernel
theorem dX11_scannerWorks_143 : decode cX11_scannerWorks 143 = .ok (.iload_n 1, 1) := by decide +kernel
theorem dX11_scannerWorks_144 : decode cX11_scannerWorks 144 = .ok (.iadd, 1) := by decide +kernel
theorem dX11_scannerWorks_145 : decode cX11_scannerWorks 145 = .ok (.iaload, 1) := by decide +kernel
theorem dX11_scannerWorks_146 : decode cX11_scannerWorks 146 = .ok (.invokevirtual 243, 3) := by decide +kernel
theorem dX11_scannerWorks_149 : decode cX11_scannerWorks 149 = .ok (.istore 4, 2) := by decide +kernel
theorem dX11_scannerWorks_151 : decode cX11_scannerWorks 151 = .ok (.iload 4, 2) := by decide +kernel
theorem dX11_scannerWorks_153 : decode cX11_scannerWorks 153 = .ok (.ifCond .le 51, 3) := by decide +kernel
theorem dX11_scannerWorks_156 : decode cX11_scannerWorks 156 = .ok (.aload_n 0, 1) := by decide +kernel
theorem dX11_scannerWorks_157 : decode cX11_scannerWorks 157 = .ok (.getfield 24, 3) := by decide +kernel
theorem dX11_scannerWorks_160 : decode cX11_scannerWorks 160 = .ok (.sipush 210, 3) := by decide +kernel
theorem dX11_scannerWorks_163 : decode cX11_scannerWorks 163 = .ok (.iload_n 1, 1) := by decide +kernel
theorem dX11_scannerWorks_164 : decode cX11_scannerWorks 164 = .ok (.iadd, 1) := by decide +kernel
theorem dX11_scannerWorks_165 : decode cX11_scannerWorks 165 = .ok (.iaload, 1) := by decide +kernel
theorem dX11_scannerWorks_166 : decode cX11_scannerWorks 166 = .ok (.ifCond .le 23, 3) := by decide +kernel
theorem dX11_scannerWorks_169 : decode cX11_scannerWorks 169 = .ok (.aload_n 0, 1) := by decide +kernel
theorem dX11_scannerWorks_170 : decode cX11_scannerWorks 170 = .ok (.getfield 24, 3) := by decide +kernel
theorem dX11_scannerWorks_173 : decode cX11_scannerWorks 173 = .ok (.sipush 210, 3) := by decide +kernel
theorem dX11_scannerWorks_176 : decode cX11_scannerWorks 176 = .ok (.iload_n 1, 1) := by decide +kernel
theorem dX11_scannerWorks_177 : decode cX11_scannerWorks 177 = .ok (.iadd, 1) := by decide +kernel
theorem dX11_scannerWorks_178 : decode cX11_scannerWorks 178 = .ok (.iaload, 1) := by decide +kernel
theorem dX11_scannerWorks_179 : decode cX11_scannerWorks 179 = .ok (.iload 4, 2) := by decide +kernel
theorem dX11_scannerWorks_181 : decode cX11_scannerWorks 181 = .ok (.if_icmp .eq 8, 3) := by decide +kernel
theorem dX11_scannerWorks_184 : decode cX11_scannerWorks 184 = .ok (.aload_n 0, 1) := by decide +kernel
theorem dX11_scannerWorks_185 : decode cX11_scannerWorks 185 = .ok (.iconst 2, 1) := by decide +kernel
theorem dX11_scannerWorks_186 : decode cX11_scannerWorks 186 = .ok (.invokevirtual 217, 3) := by decide +kernel
theorem dX11_scannerWorks_189 : decode cX11_scannerWorks 189 = .ok (.aload_n 0, 1) := by decide +kernel
theorem dX11_scannerWorks_190 : decode cX11_scannerWorks 190 = .ok (.getfield 24, 3) := by decide +kernel
theorem dX11_scannerWorks_193 : decode cX11_scannerWorks 193 = .ok (.sipush 210, 3) := by decide +kernel
theorem dX11_scannerWorks_196 : decode cX11_scannerWorks 196 = .ok (.iload_n 1, 1) := by decide +kernel
theorem dX11_scannerWorks_197 : decode cX11_scannerWorks 197 = .ok (.iadd, 1) := by decide +kernel
theorem dX11_scannerWorks_198 : decode cX11_scannerWorks 198 = .ok (.iload 4, 2) := by decide +kernel
theorem dX11_scannerWorks_200 : decode cX11_scannerWorks 200 = .ok (.iastore, 1) := by decide +kernel
theorem dX11_scannerWorks_201 : decode cX11_scannerWorks 201 = .ok (.goto 32, 3) := by decide +kernel
theorem dX11_scannerWorks_204 : decode cX11_scannerWorks 204 = .ok (.iload 4, 2) := by decide +kernel
theorem dX11_scannerWorks_206 : decode cX11_scannerWorks 206 = .ok (.ifCond .ge 27, 3) := by decide +kernel
theorem dX11_scannerWorks_209 : decode cX11_scannerWorks 209 = .ok (.aload_n 0, 1) := by decide +kernel
theorem dX11_scannerWorks_210 : decode cX11_scannerWorks 210 = .ok (.getfield 24, 3) := by decide +kernel
theorem dX11_scannerWorks_213 : decode cX11_scannerWorks 213 = .ok (.sipush 210, 3) := by decide +kernel
theorem dX11_scannerWorks_216 : decode cX11_scannerWorks 216 = .ok (.iload_n 1, 1) := by decide +kernel
theorem dX11_scannerWorks_217 : decode cX11_scannerWorks 217 = .ok (.iadd, 1) := by decide +kernel
theorem dX11_scannerWorks_218 : decode cX11_scannerWorks 218 = .ok (.iaload, 1) := by decide +kernel
theorem dX11_scannerWorks_219 : decode cX11_scannerWorks 219 = .ok (.ifCond .ne 14, 3) := by decide +kernel
theorem dX11_scannerWorks_222 : decode cX11_scannerWorks 222 = .ok (.aload_n 0, 1) := by decide +kernel
theorem dX11_scannerWorks_223 : decode cX11_scannerWorks 223 = .ok (.getfield 24, 3) := by decide +kernel
theorem dX11_scannerWorks_226 : decode cX11_scannerWorks 226 = .ok (.sipush 210, 3) := by decide +kernel
theorem dX11_scannerWorks_229 : decode cX11_scannerWorks 229 = .ok (.iload_n 1, 1) := by decide +kernel
theorem dX11_scannerWorks_230 : decode cX11_scannerWorks 230 = .ok (.iadd, 1) := by decide +kernel
theorem dX11_scannerWorks_231 : decode cX11_scannerWorks 231 = .ok (.iconst (-1), 1) := by decide +kernel
theorem dX11_scannerWorks_232 : decode cX11_scannerWorks 232 = .ok (.iastore, 1) := by decide +kernel
theorem dX11_scannerWorks_233 : decode cX11_scannerWorks 233 = .ok (.return_, 1) := by decide +kernel
theorem dX11_stateIn_0 : decode cX11_stateIn 0 = .ok (.iload_n 0, 1) := by decide +kernel
theorem dX11_stateIn_1 : decode cX11_stateIn 1 = .ok (.iconst 3, 1) := by decide +kernel
theorem dX11_stateIn_2 : decode cX11_stateIn 2 = .ok (.if_icmp .ne 7, 3) := by decide +kernel
theorem dX11_stateIn_5 : decode cX11_stateIn 5 = .ok (.iconst 2, 1) := by decide +kernel
theorem dX11_stateIn_6 : decode cX11_stateIn 6 = .ok (.goto 23, 3) := by decide +kernel
theorem dX11_stateIn_9 : decode cX11_stateIn 9 = .ok (.iload_n 0, 1) := by decide +kernel
theorem dX11_stateIn_10 : decode cX11_stateIn 10 = .ok (.iconst 4, 1) := by decide +kernel
theorem dX11_stateIn_11 : decode cX11_stateIn 11 = .ok (.if_icmp .ne 7, 3) := by decide +kernel
theorem dX11_stateIn_14 : decode cX11_stateIn 14 = .ok (.iconst 4, 1) := by decide +kernel
theorem dX11_stateIn_15 : decode cX11_stateIn 15 = .ok (.goto 14, 3) := by decide +kernel
theorem dX11_stateIn_18 : decode cX11_stateIn 18 = .ok (.iload_n 0, 1) := by decide +kernel
theorem dX11_stateIn_19 : decode cX11_stateIn 19 = .ok (.iconst 5, 1) := by decide +kernel
theorem dX11_stateIn_20 : decode cX11_stateIn 20 = .ok (.if_icmp .ne 7, 3) := by decide +kernel
theorem dX11_stateIn_23 : decode cX11_stateIn 23 = .ok (.iconst 5, 1) := by decide +kernel
theorem dX11_stateIn_24 : decode cX11_stateIn 24 = .ok (.goto 5, 3) := by decide +kernel
theorem dX11_stateIn_27 : decode cX11_stateIn 27 = .ok (.bipush 6, 2) := by decide +kernel
theorem dX11_stateIn_29 : decode cX11_stateIn 29 = .ok (.ireturn, 1) := by decide +kernel
theorem dX11_outletWorks_0 : decode cX11_outletWorks 0 = .ok (.aload_n 0, 1) := by decide +kernel
theorem dX11_outletWorks_1 : decode cX11_outletWorks 1 = .ok (.getfield 17, 3) := by decide +kernel
theorem dX11_outletWorks_4 : decode cX11_outletWorks 4 = .ok (.bipush 80, 2) := by decide +kernel
theorem dX11_outletWorks_6 : decode cX11_outletWorks 6 = .ok (.iload_n 1, 1) := by decide +kernel
theorem dX11_outletWorks_7 : decode cX11_outletWorks 7 = .ok (.iadd, 1) := by decide +kernel
theorem dX11_outletWorks_8 : decode cX11_outletWorks 8 = .ok (.iaload, 1) := by decide +kernel
theorem dX11_outletWorks_9 : decode cX11_outletWorks 9 = .ok (.istore_n 3, 1) := by decide +kernel
theorem dX11_outletWorks_10 : decode cX11_outletWorks 10 = .ok (.aload_n 0, 1) := by decide +kernel
theorem dX11_outletWorks_11 : decode cX11_outletWorks 11 = .ok (.getfield 24, 3) := by decide +kernel
theorem dX11_outletWorks_14 : decode cX11_outletWorks 14 = .ok (.sipush 150, 3) := by decide +kernel
theorem dX11_outletWorks_17 : decode cX11_outletWorks 17 = .ok (.iload_n 1, 1) := by decide +kernel
theorem dX11_outletWorks_18 : decode cX11_outletWorks 18 = .ok (.iadd, 1) := by decide +kernel
theorem dX11_outletWorks_19 : decode cX11_outletWorks 19 = .ok (.iaload, 1) := by decide +kernel
theorem dX11_outletWorks_20 : decode cX11_outletWorks 20 = .ok (.ifCond .eq 24, 3) := by decide +kernel
theorem dX11_outletWorks_23 : decode cX11_outletWorks 23 = .ok (.aload_n 0, 1) := by decide +kernel
theorem dX11_outletWorks_24 : decode cX11_outletWorks 24 = .ok (.iload_n 1, 1) := by decide +kernel
theorem dX11_outletWorks_25 : decode cX11_outletWorks 25 = .ok (.invokevirtual 246, 3) := by decide +kernel
theorem dX11_outletWorks_28 : decode cX11_outletWorks 28 = .ok (.iload_n 2, 1) := by decide +kernel
theorem dX11_outletWorks_29 : decode cX11_outletWorks 29 = .ok (.iconst 3, 1) := by decide +kernel
theorem dX11_outletWorks_30 : decode cX11_outletWorks 30 = .ok (.if_icmp .ne 10, 3) := by decide +kernel
theorem dX11_outletWorks_33 : decode cX11_outletWorks 33 = .ok (.bipush 10, 2) := by decide +kernel
theorem dX11_outletWorks_35 : decode cX11_outletWorks 35 = .ok (.iload_n 3, 1) := by decide +kernel
theorem dX11_outletWorks_36 : decode cX11_outletWorks 36 = .ok (.iadd, 1) := by decide +kernel
theorem dX11_outletWorks_37 : decode cX11_outletWorks 37 = .ok (.goto 4, 3) := by decide +kernel
theorem dX11_outletWorks_40 : decode cX11_outletWorks 40 = .ok (.iload_n 2, 1) := by decide +kernel
theorem dX11_outletWorks_41 : decode cX11_outletWorks 41 = .ok (.if_icmp .eq 4, 3) := by decide +kernel
theorem dX11_outletWorks_44 : decode cX11_outletWorks 44 = .ok (.return_, 1) := by decide +kernel
theorem dX11_outletWorks_45 : decode cX11_outletWorks 45 = .ok (.aload_n 0, 1) := by decide +kernel
theorem dX11_outletWorks_46 : decode cX11_outletWorks 46 = .ok (.iload_n 2, 1) := by decide +kernel
theorem dX11_outletWorks_47 : decode cX11_outletWorks 47 = .ok (.invokestatic 249, 3) := by decide +kernel
theorem dX11_outletWorks_50 : decode cX11_outletWorks 50 = .ok (.iload_n 3, 1) := by decide +kernel
theorem dX11_outletWorks_51 : decode cX11_outletWorks 51 = .ok (.invokevirtual 252, 3) := by decide +kernel
theorem dX11_outletWorks_54 : decode cX11_outletWorks 54 = .ok (.aload_n 0, 1) := by decide +kernel
theorem dX11_outletWorks_55 : decode cX11_outletWorks 55 = .ok (.iload_n 2, 1) := by decide +kernel
theorem dX11_outletWorks_56 : decode cX11_outletWorks 56 = .ok (.iload_n 3, 1) := by decide +kernel
theorem dX11_outletWorks_57 : decode cX11_outletWorks 57 = .ok (.iconst 2, 1) := by decide +kernel
theorem dX11_outletWorks_58 : decode cX11_outletWorks 58 = .ok (.invokevirtual 207, 3) := by decide +kernel
theorem dX11_outletWorks_61 : decode cX11_outletWorks 61 = .ok (.if_icmp .ge 21, 3) := by decide +kernel
theorem dX11_outletWorks_64 : decode cX11_outletWorks 64 = .ok (.aload_n 0, 1) := by decide +kernel
theorem dX11_outletWorks_65 : decode cX11_outletWorks 65 = .ok (.getfield 24, 3) := by decide +kernel
theorem dX11_outletWorks_68 : decode cX11_outletWorks 68 = .ok (.iconst 0, 1) := by decide +kernel
theorem dX11_outletWorks_69 : decode cX11_outletWorks 69 = .ok (.iaload, 1) := by decide +kernel
theorem dX11_outletWorks_70 : decode cX11_outletWorks 70 = .ok (.aload_n 0, 1) := by decide +kernel
theorem dX11_outletWorks_71 : decode cX11_outletWorks 71 = .ok (.getfield 24, 3) := by decide +kernel
theorem dX11_outletWorks_74 : decode cX11_outletWorks 74 = .ok (.bipush 15, 2) := by decide +kernel
theorem dX11_outletWorks_76 : decode cX11_outletWorks 76 = .ok (.iload_n 1, 1) := by decide +kernel
theorem dX11_outletWorks_77 : decode cX11_outletWorks 77 = .ok (.iadd, 1) := by decide +kernel
theorem dX11_outletWorks_78 : decode cX11_outletWorks 78 = .ok (.iaload, 1) := by decide +kernel
theorem dX11_outletWorks_79 : decode cX11_outletWorks 79 = .ok (.if_icmp .ge 9, 3) := by decide +kernel
theorem dX11_outletWorks_82 : decode cX11_outletWorks 82 = .ok (.aload_n 0, 1) := by decide +kernel
theorem dX11_outletWorks_83 : decode cX11_outletWorks 83 = .ok (.iconst 3, 1) := by decide +kernel
theorem dX11_outletWorks_84 : decode cX11_outletWorks 84 = .ok (.invokevirtual 217, 3) := by decide +kernel
theorem dX11_outletWorks_87 : decode cX11_outletWorks 87 = .ok (.return_, 1) := by decide +kernel
theorem dX11_outletWorks_88 : decode cX11_outletWorks 88 = .ok (.aload_n 0, 1) := by decide +kernel
theorem dX11_outletWorks_89 : decode cX11_outletWorks 89 = .ok (.getfield 24, 3) := by decide +kernel
theorem dX11_outletWorks_92 : decode cX11_outletWorks 92 = .ok (.bipush 15, 2) := by decide +kernel
theorem dX11_outletWorks_94 : decode cX11_outletWorks 94 = .ok (.iload_n 1, 1) := by decide +kernel
theorem dX11_outletWorks_95 : decode cX11_outletWorks 95 = .ok (.iadd, 1) := by decide +kernel
theorem dX11_outletWorks_96 : decode cX11_outletWorks 96 = .ok (.aload_n 0, 1) := by decide +kernel
theorem dX11_outletWorks_97 : decode cX11_outletWorks 97 = .ok (.getfield 24, 3) := by decide +kernel
theorem dX11_outletWorks_100 : decode cX11_outletWorks 100 = .ok (.iconst 0, 1) := by decide +kernel
theorem dX11_outletWorks_101 : decode cX11_outletWorks 101 = .ok (.iaload, 1) := by decide +kernel
theorem dX11_outletWorks_102 : decode cX11_outletWorks 102 = .ok (.aload_n 0, 1) := by decide +kernel
theorem dX11_outletWorks_103 : decode cX11_outletWorks 103 = .ok (.iload_n 2, 1) := by decide +kernel
theorem dX11_outletWorks_104 : decode cX11_outletWorks 104 = .ok (.iload_n 3, 1) := by decide +kernel
theorem dX11_outletWorks_105 : decode cX11_outletWorks 105 = .ok (.iconst 3, 1) := by decide +kernel
theorem dX11_outletWorks_106 : decode cX11_outletWorks 106 = .ok (.invokevirtual 207, 3) := by decide +kernel
theorem dX11_outletWorks_109 : decode cX11_outletWorks 109 = .ok (.iadd, 1) := by decide +kernel
theorem dX11_outletWorks_110 : decode cX11_outletWorks 110 = .ok (.iastore, 1) := by decide +kernel
theorem dX11_outletWorks_111 : decode cX11_outletWorks 111 = .ok (.aload_n 0, 1) := by decide +kernel
theorem dX11_outletWorks_112 : decode cX11_outletWorks 112 = .ok (.getfield 24, 3) := by decide +kernel
theorem dX11_outletWorks_115 : decode cX11_outletWorks 115 = .ok (.bipush 90, 2) := by decide +kernel
theorem dX11_outletWorks_117 : decode cX11_outletWorks 117 = .ok (.iload_n 1, 1) := by decide +kernel
theorem dX11_outletWorks_118 : decode cX11_outletWorks 118 = .ok (.iadd, 1) := by decide +kernel
theorem dX11_outletWorks_119 : decode cX11_outletWorks 119 = .ok (.iaload, 1) := by decide +kernel
theorem dX11_outletWorks_120 : decode cX11_outletWorks 120 = .ok (.istore 4, 2) := by decide +kernel
theorem dX11_outletWorks_122 : decode cX11_outletWorks 122 = .ok (.iload 4, 2) := by decide +kernel
theorem dX11_outletWorks_124 : decode cX11_outletWorks 124 = .ok (.ifCond .ge 11, 3) := by decide +kernel
theorem dX11_outletWorks_127 : decode cX11_outletWorks 127 = .ok (.aload_n 0, 1) := by decide +kernel
theorem dX11_outletWorks_128 : decode cX11_outletWorks 128 = .ok (.iconst 4, 1) := by decide +kernel
theorem dX11_outletWorks_129 : decode cX11_outletWorks 129 = .ok (.invokevirtual 217, 3) := by decide +kernel
theorem dX11_outletWorks_132 : decode cX11_outletWorks 132 = .ok (.goto 12, 3) := by decide +kernel
theorem dX11_outletWorks_135 : decode cX11_outletWorks 135 = .ok (.aload_n 0, 1) := by decide +kernel
theorem dX11_outletWorks_136 : decode cX11_outletWorks 136 = .ok (.iload 4, 2) := by decide +kernel
theorem dX11_outletWorks_138 : decode cX11_outletWorks 138 = .ok (.iload_n 1, 1) := by decide +kernel
theorem dX11_outletWorks_139 : decode cX11_outletWorks 139 = .ok (.iload_n 2, 1) := by decide +kernel
theorem dX11_outletWorks_140 : decode cX11_outletWorks 140 = .ok (.iload_n 3, 1) := by decide +kernel
theorem dX11_outletWorks_141 : decode cX11_outletWorks 141 = .ok (.invokevirtual 255, 3) := by decide +kernel
theorem dX11_outletWorks_144 : decode cX11_outletWorks 144 = .ok (.aload_n 0, 1) := by decide +kernel
theorem dX11_outletWorks_145 : decode cX11_outletWorks 145 = .ok (.iload_n 1, 1) := by decide +kernel
theorem dX11_outletWorks_146 : decode cX11_outletWorks 146 = .ok (.invokevirtual 230, 3) := by decide +kernel
theorem dX11_outletWorks_149 : decode cX11_outletWorks 149 = .ok (.return_, 1) := by decide +kernel
theorem dX11_takesIn_0 : decode cX11_takesIn 0 = .ok (.aload_n 0, 1) := by decide +kernel
theorem dX11_takesIn_1 : decode cX11_takesIn 1 = .ok (.getfield 24, 3) := by decide +kernel
theorem dX11_takesIn_4 : decode cX11_takesIn 4 = .ok (.bipush 90, 2) := by decide +kernel
theorem dX11_takesIn_6 : decode cX11_takesIn 6 = .ok (.iload_n 2, 1) := by decide +kernel
theorem dX11_takesIn_7 : decode cX11_takesIn 7 = .ok (.iadd, 1) := by decide +kernel
theorem dX11_takesIn_8 : decode cX11_takesIn 8 = .ok (.bipush (-2), 2) := by decide +kernel
theorem dX11_takesIn_10 : decode cX11_takesIn 10 = .ok (.iastore, 1) := by decide +kernel
theorem dX11_takesIn_11 : decode cX11_takesIn 11 = .ok (.aload_n 0, 1) := by decide +kernel
theorem dX11_takesIn_12 : decode cX11_takesIn 12 = .ok (.iload_n 1, 1) := by decide +kernel
theorem dX11_takesIn_13 : decode cX11_takesIn 13 = .ok (.iload_n 3, 1) := by decide +kernel
theorem dX11_takesIn_14 : decode cX11_takesIn 14 = .ok (.invokestatic 249, 3) := by decide +kernel
theorem dX11_takesIn_17 : decode cX11_takesIn 17 = .ok (.iload 4, 2) := by decide +kernel
theorem dX11_takesIn_19 : decode cX11_takesIn 19 = .ok (.invokevirtual 214, 3) := by decide +kernel
theorem dX11_takesIn_22 : decode cX11_takesIn 22 = .ok (.sipush 400, 3) := by decide +kernel
theorem dX11_takesIn_25 : decode cX11_takesIn 25 = .ok (.bipush 8, 2) := by decide +kernel
theorem dX11_takesIn_27 : decode cX11_takesIn 27 = .ok (.iload_n 1, 1) := by decide +kernel
theorem dX11_takesIn_28 : decode cX11_takesIn 28 = .ok (.imul, 1) := by decide +kernel
theorem dX11_takesIn_29 : decode cX11_takesIn 29 = .ok (.iadd, 1) := by decide +kernel
theorem dX11_takesIn_30 : decode cX11_takesIn 30 = .ok (.istore 5, 2) := by decide +kernel
theorem dX11_takesIn_32 : decode cX11_takesIn 32 = .ok (.aload_n 0, 1) := by decide +kernel
theorem dX11_takesIn_33 : decode cX11_takesIn 33 = .ok (.getfield 24, 3) := by decide +kernel
theorem dX11_takesIn_36 : decode cX11_takesIn 36 = .ok (.iload 5, 2) := by decide +kernel
theorem dX11_takesIn_38 : decode cX11_takesIn 38 = .ok (.iconst 3, 1) := by decide +kernel
theorem dX11_takesIn_39 : decode cX11_takesIn 39 = .ok (.iadd, 1) := by decide +kernel
theorem dX11_takesIn_40 : decode cX11_takesIn 40 = .ok (.aload_n 0, 1) := by decide +kernel
theorem dX11_takesIn_41 : decode cX11_takesIn 41 = .ok (.getfield 24, 3) := by decide +kernel
theorem dX11_takesIn_44 : decode cX11_takesIn 44 = .ok (.sipush 210, 3) := by decide +kernel
theorem dX11_takesIn_47 : decode cX11_takesIn 47 = .ok (.iload_n 2, 1) := by decide +kernel
theorem dX11_takesIn_48 : decode cX11_takesIn 48 = .ok (.iadd, 1) := by decide +kernel
theorem dX11_takesIn_49 : decode cX11_takesIn 49 = .ok (.iaload, 1) := by decide +kernel
theorem dX11_takesIn_50 : decode cX11_takesIn 50 = .ok (.iastore, 1) := by decide +kernel
