theorem dX11_takesIn_51 : decode cX11_takesIn 51 = .ok (.aload_n 0, 1) := by decide +kernel
theorem dX11_takesIn_52 : decode cX11_takesIn 52 = .ok (.getfield 24, 3) := by decide +kernel
theorem dX11_takesIn_55 : decode cX11_takesIn 55 = .ok (.iload 5, 2) := by decide +kernel
theorem dX11_takesIn_57 : decode cX11_takesIn 57 = .ok (.iconst 4, 1) := by decide +kernel
theorem dX11_takesIn_58 : decode cX11_takesIn 58 = .ok (.iadd, 1) := by decide +kernel
theorem dX11_takesIn_59 : decode cX11_takesIn 59 = .ok (.aload_n 0, 1) := by decide +kernel
theorem dX11_takesIn_60 : decode cX11_takesIn 60 = .ok (.getfield 24, 3) := by decide +kernel
theorem dX11_takesIn_63 : decode cX11_takesIn 63 = .ok (.sipush 270, 3) := by decide +kernel
theorem dX11_takesIn_66 : decode cX11_takesIn 66 = .ok (.iload_n 2, 1) := by decide +kernel
theorem dX11_takesIn_67 : decode cX11_takesIn 67 = .ok (.iadd, 1) := by decide +kernel
theorem dX11_takesIn_68 : decode cX11_takesIn 68 = .ok (.iaload, 1) := by decide +kernel
theorem dX11_takesIn_69 : decode cX11_takesIn 69 = .ok (.iastore, 1) := by decide +kernel
theorem dX11_takesIn_70 : decode cX11_takesIn 70 = .ok (.aload_n 0, 1) := by decide +kernel
theorem dX11_takesIn_71 : decode cX11_takesIn 71 = .ok (.getfield 24, 3) := by decide +kernel
theorem dX11_takesIn_74 : decode cX11_takesIn 74 = .ok (.iload 5, 2) := by decide +kernel
theorem dX11_takesIn_76 : decode cX11_takesIn 76 = .ok (.iconst 5, 1) := by decide +kernel
theorem dX11_takesIn_77 : decode cX11_takesIn 77 = .ok (.iadd, 1) := by decide +kernel
theorem dX11_takesIn_78 : decode cX11_takesIn 78 = .ok (.aload_n 0, 1) := by decide +kernel
theorem dX11_takesIn_79 : decode cX11_takesIn 79 = .ok (.getfield 24, 3) := by decide +kernel
theorem dX11_takesIn_82 : decode cX11_takesIn 82 = .ok (.sipush 330, 3) := by decide +kernel
theorem dX11_takesIn_85 : decode cX11_takesIn 85 = .ok (.iload_n 2, 1) := by decide +kernel
theorem dX11_takesIn_86 : decode cX11_takesIn 86 = .ok (.iadd, 1) := by decide +kernel
theorem dX11_takesIn_87 : decode cX11_takesIn 87 = .ok (.iaload, 1) := by decide +kernel
theorem dX11_takesIn_88 : decode cX11_takesIn 88 = .ok (.iastore, 1) := by decide +kernel
theorem dX11_takesIn_89 : decode cX11_takesIn 89 = .ok (.iload_n 3, 1) := by decide +kernel
theorem dX11_takesIn_90 : decode cX11_takesIn 90 = .ok (.iconst 3, 1) := by decide +kernel
theorem dX11_takesIn_91 : decode cX11_takesIn 91 = .ok (.if_icmp .eq 4, 3) := by decide +kernel
theorem dX11_takesIn_94 : decode cX11_takesIn 94 = .ok (.return_, 1) := by decide +kernel
theorem dX11_takesIn_95 : decode cX11_takesIn 95 = .ok (.aload_n 0, 1) := by decide +kernel
theorem dX11_takesIn_96 : decode cX11_takesIn 96 = .ok (.getfield 24, 3) := by decide +kernel
theorem dX11_takesIn_99 : decode cX11_takesIn 99 = .ok (.iload 5, 2) := by decide +kernel
theorem dX11_takesIn_101 : decode cX11_takesIn 101 = .ok (.bipush 6, 2) := by decide +kernel
theorem dX11_takesIn_103 : decode cX11_takesIn 103 = .ok (.iadd, 1) := by decide +kernel
theorem dX11_takesIn_104 : decode cX11_takesIn 104 = .ok (.aload_n 0, 1) := by decide +kernel
theorem dX11_takesIn_105 : decode cX11_takesIn 105 = .ok (.getfield 24, 3) := by decide +kernel
theorem dX11_takesIn_108 : decode cX11_takesIn 108 = .ok (.iconst 0, 1) := by decide +kernel
theorem dX11_takesIn_109 : decode cX11_takesIn 109 = .ok (.iaload, 1) := by decide +kernel
theorem dX11_takesIn_110 : decode cX11_takesIn 110 = .ok (.iastore, 1) := by decide +kernel
theorem dX11_takesIn_111 : decode cX11_takesIn 111 = .ok (.aload_n 0, 1) := by decide +kernel
theorem dX11_takesIn_112 : decode cX11_takesIn 112 = .ok (.iload_n 1, 1) := by decide +kernel
theorem dX11_takesIn_113 : decode cX11_takesIn 113 = .ok (.invokevirtual 211, 3) := by decide +kernel
theorem dX11_takesIn_116 : decode cX11_takesIn 116 = .ok (.istore 6, 2) := by decide +kernel
theorem dX11_takesIn_118 : decode cX11_takesIn 118 = .ok (.iload 6, 2) := by decide +kernel
theorem dX11_takesIn_120 : decode cX11_takesIn 120 = .ok (.bipush (-2), 2) := by decide +kernel
theorem dX11_takesIn_122 : decode cX11_takesIn 122 = .ok (.if_icmp .ne 8, 3) := by decide +kernel
theorem dX11_takesIn_125 : decode cX11_takesIn 125 = .ok (.bipush (-2), 2) := by decide +kernel
theorem dX11_takesIn_127 : decode cX11_takesIn 127 = .ok (.goto 9, 3) := by decide +kernel
theorem dX11_takesIn_130 : decode cX11_takesIn 130 = .ok (.aload_n 0, 1) := by decide +kernel
theorem dX11_takesIn_131 : decode cX11_takesIn 131 = .ok (.iload 6, 2) := by decide +kernel
theorem dX11_takesIn_133 : decode cX11_takesIn 133 = .ok (.invokevirtual 189, 3) := by decide +kernel
theorem dX11_takesIn_136 : decode cX11_takesIn 136 = .ok (.istore 7, 2) := by decide +kernel
theorem dX11_takesIn_138 : decode cX11_takesIn 138 = .ok (.aload_n 0, 1) := by decide +kernel
theorem dX11_takesIn_139 : decode cX11_takesIn 139 = .ok (.getfield 24, 3) := by decide +kernel
theorem dX11_takesIn_142 : decode cX11_takesIn 142 = .ok (.iload 5, 2) := by decide +kernel
theorem dX11_takesIn_144 : decode cX11_takesIn 144 = .ok (.bipush 7, 2) := by decide +kernel
theorem dX11_takesIn_146 : decode cX11_takesIn 146 = .ok (.iadd, 1) := by decide +kernel
theorem dX11_takesIn_147 : decode cX11_takesIn 147 = .ok (.iload 7, 2) := by decide +kernel
theorem dX11_takesIn_149 : decode cX11_takesIn 149 = .ok (.ifCond .lt 20, 3) := by decide +kernel
theorem dX11_takesIn_152 : decode cX11_takesIn 152 = .ok (.aload_n 0, 1) := by decide +kernel
theorem dX11_takesIn_153 : decode cX11_takesIn 153 = .ok (.iload 7, 2) := by decide +kernel
theorem dX11_takesIn_155 : decode cX11_takesIn 155 = .ok (.iconst 1, 1) := by decide +kernel
theorem dX11_takesIn_156 : decode cX11_takesIn 156 = .ok (.invokevirtual 186, 3) := by decide +kernel
theorem dX11_takesIn_159 : decode cX11_takesIn 159 = .ok (.iload 4, 2) := by decide +kernel
theorem dX11_takesIn_161 : decode cX11_takesIn 161 = .ok (.if_icmp .ne 8, 3) := by decide +kernel
theorem dX11_takesIn_164 : decode cX11_takesIn 164 = .ok (.iload 7, 2) := by decide +kernel
theorem dX11_takesIn_166 : decode cX11_takesIn 166 = .ok (.goto 5, 3) := by decide +kernel
theorem dX11_takesIn_169 : decode cX11_takesIn 169 = .ok (.bipush (-2), 2) := by decide +kernel
theorem dX11_takesIn_171 : decode cX11_takesIn 171 = .ok (.iastore, 1) := by decide +kernel
theorem dX11_takesIn_172 : decode cX11_takesIn 172 = .ok (.aload_n 0, 1) := by decide +kernel
theorem dX11_takesIn_173 : decode cX11_takesIn 173 = .ok (.bipush 7, 2) := by decide +kernel
theorem dX11_takesIn_175 : decode cX11_takesIn 175 = .ok (.invokevirtual 217, 3) := by decide +kernel
theorem dX11_takesIn_178 : decode cX11_takesIn 178 = .ok (.return_, 1) := by decide +kernel
theorem dX11_treats_0 : decode cX11_treats 0 = .ok (.aload_n 0, 1) := by decide +kernel
theorem dX11_treats_1 : decode cX11_treats 1 = .ok (.getfield 17, 3) := by decide +kernel
theorem dX11_treats_4 : decode cX11_treats 4 = .ok (.bipush 20, 2) := by decide +kernel
theorem dX11_treats_6 : decode cX11_treats 6 = .ok (.iload_n 1, 1) := by decide +kernel
theorem dX11_treats_7 : decode cX11_treats 7 = .ok (.iadd, 1) := by decide +kernel
theorem dX11_treats_8 : decode cX11_treats 8 = .ok (.iaload, 1) := by decide +kernel
theorem dX11_treats_9 : decode cX11_treats 9 = .ok (.istore_n 2, 1) := by decide +kernel
theorem dX11_treats_10 : decode cX11_treats 10 = .ok (.iload_n 2, 1) := by decide +kernel
theorem dX11_treats_11 : decode cX11_treats 11 = .ok (.iconst 1, 1) := by decide +kernel
theorem dX11_treats_12 : decode cX11_treats 12 = .ok (.if_icmp .ne 11, 3) := by decide +kernel
theorem dX11_treats_15 : decode cX11_treats 15 = .ok (.aload_n 0, 1) := by decide +kernel
theorem dX11_treats_16 : decode cX11_treats 16 = .ok (.iload_n 1, 1) := by decide +kernel
theorem dX11_treats_17 : decode cX11_treats 17 = .ok (.invokevirtual 259, 3) := by decide +kernel
theorem dX11_treats_20 : decode cX11_treats 20 = .ok (.goto 40, 3) := by decide +kernel
theorem dX11_treats_23 : decode cX11_treats 23 = .ok (.iload_n 2, 1) := by decide +kernel
theorem dX11_treats_24 : decode cX11_treats 24 = .ok (.bipush 7, 2) := by decide +kernel
theorem dX11_treats_26 : decode cX11_treats 26 = .ok (.if_icmp .ne 11, 3) := by decide +kernel
theorem dX11_treats_29 : decode cX11_treats 29 = .ok (.aload_n 0, 1) := by decide +kernel
theorem dX11_treats_30 : decode cX11_treats 30 = .ok (.iload_n 1, 1) := by decide +kernel
theorem dX11_treats_31 : decode cX11_treats 31 = .ok (.invokevirtual 262, 3) := by decide +kernel
theorem dX11_treats_34 : decode cX11_treats 34 = .ok (.goto 26, 3) := by decide +kernel
theorem dX11_treats_37 : decode cX11_treats 37 = .ok (.iload_n 2, 1) := by decide +kernel
theorem dX11_treats_38 : decode cX11_treats 38 = .ok (.iconst 2, 1) := by decide +kernel
theorem dX11_treats_39 : decode cX11_treats 39 = .ok (.if_icmp .ne 11, 3) := by decide +kernel
theorem dX11_treats_42 : decode cX11_treats 42 = .ok (.aload_n 0, 1) := by decide +kernel
theorem dX11_treats_43 : decode cX11_treats 43 = .ok (.iload_n 1, 1) := by decide +kernel
theorem dX11_treats_44 : decode cX11_treats 44 = .ok (.invokevirtual 265, 3) := by decide +kernel
theorem dX11_treats_47 : decode cX11_treats 47 = .ok (.goto 13, 3) := by decide +kernel
theorem dX11_treats_50 : decode cX11_treats 50 = .ok (.iload_n 2, 1) := by decide +kernel
theorem dX11_treats_51 : decode cX11_treats 51 = .ok (.ifCond .eq 9, 3) := by decide +kernel
theorem dX11_treats_54 : decode cX11_treats 54 = .ok (.aload_n 0, 1) := by decide +kernel
theorem dX11_treats_55 : decode cX11_treats 55 = .ok (.iload_n 1, 1) := by decide +kernel
theorem dX11_treats_56 : decode cX11_treats 56 = .ok (.iload_n 2, 1) := by decide +kernel
theorem dX11_treats_57 : decode cX11_treats 57 = .ok (.invokevirtual 268, 3) := by decide +kernel
theorem dX11_treats_60 : decode cX11_treats 60 = .ok (.return_, 1) := by decide +kernel
theorem dX11_ticks_0 : decode cX11_ticks 0 = .ok (.aload_n 0, 1) := by decide +kernel
theorem dX11_ticks_1 : decode cX11_ticks 1 = .ok (.getfield 24, 3) := by decide +kernel
theorem dX11_ticks_4 : decode cX11_ticks 4 = .ok (.iconst 0, 1) := by decide +kernel
theorem dX11_ticks_5 : decode cX11_ticks 5 = .ok (.dup2, 1) := by decide +kernel
theorem dX11_ticks_6 : decode cX11_ticks 6 = .ok (.iaload, 1) := by decide +kernel
theorem dX11_ticks_7 : decode cX11_ticks 7 = .ok (.iconst 1, 1) := by decide +kernel
theorem dX11_ticks_8 : decode cX11_ticks 8 = .ok (.iadd, 1) := by decide +kernel
theorem dX11_ticks_9 : decode cX11_ticks 9 = .ok (.iastore, 1) := by decide +kernel
theorem dX11_ticks_10 : decode cX11_ticks 10 = .ok (.aload_n 0, 1) := by decide +kernel
theorem dX11_ticks_11 : decode cX11_ticks 11 = .ok (.invokevirtual 271, 3) := by decide +kernel
theorem dX11_ticks_14 : decode cX11_ticks 14 = .ok (.iconst 0, 1) := by decide +kernel
theorem dX11_ticks_15 : decode cX11_ticks 15 = .ok (.istore_n 1, 1) := by decide +kernel
theorem dX11_ticks_16 : decode cX11_ticks 16 = .ok (.iload_n 1, 1) := by decide +kernel
theorem dX11_ticks_17 : decode cX11_ticks 17 = .ok (.aload_n 0, 1) := by decide +kernel
theorem dX11_ticks_18 : decode cX11_ticks 18 = .ok (.bipush 6, 2) := by decide +kernel
theorem dX11_ticks_20 : decode cX11_ticks 20 = .ok (.invokevirtual 183, 3) := by decide +kernel
theorem dX11_ticks_23 : decode cX11_ticks 23 = .ok (.if_icmp .ge 14, 3) := by decide +kernel
theorem dX11_ticks_26 : decode cX11_ticks 26 = .ok (.aload_n 0, 1) := by decide +kernel
theorem dX11_ticks_27 : decode cX11_ticks 27 = .ok (.iload_n 1, 1) := by decide +kernel
theorem dX11_ticks_28 : decode cX11_ticks 28 = .ok (.invokevirtual 274, 3) := by decide +kernel
theorem dX11_ticks_31 : decode cX11_ticks 31 = .ok (.iinc 1 1, 3) := by decide +kernel
theorem dX11_ticks_34 : decode cX11_ticks 34 = .ok (.goto (-18), 3) := by decide +kernel
theorem dX11_ticks_37 : decode cX11_ticks 37 = .ok (.iconst 0, 1) := by decide +kernel
theorem dX11_ticks_38 : decode cX11_ticks 38 = .ok (.istore_n 1, 1) := by decide +kernel
theorem dX11_ticks_39 : decode cX11_ticks 39 = .ok (.iload_n 1, 1) := by decide +kernel
theorem dX11_ticks_40 : decode cX11_ticks 40 = .ok (.aload_n 0, 1) := by decide +kernel
theorem dX11_ticks_41 : decode cX11_ticks 41 = .ok (.iconst 4, 1) := by decide +kernel
theorem dX11_ticks_42 : decode cX11_ticks 42 = .ok (.invokevirtual 183, 3) := by decide +kernel
theorem dX11_ticks_45 : decode cX11_ticks 45 = .ok (.if_icmp .ge 14, 3) := by decide +kernel
theorem dX11_ticks_48 : decode cX11_ticks 48 = .ok (.aload_n 0, 1) := by decide +kernel
theorem dX11_ticks_49 : decode cX11_ticks 49 = .ok (.iload_n 1, 1) := by decide +kernel
theorem dX11_ticks_50 : decode cX11_ticks 50 = .ok (.invokevirtual 277, 3) := by decide +kernel
theorem dX11_ticks_53 : decode cX11_ticks 53 = .ok (.iinc 1 1, 3) := by decide +kernel
theorem dX11_ticks_56 : decode cX11_ticks 56 = .ok (.goto (-17), 3) := by decide +kernel
theorem dX11_ticks_59 : decode cX11_ticks 59 = .ok (.iconst 0, 1) := by decide +kernel
theorem dX11_ticks_60 : decode cX11_ticks 60 = .ok (.istore_n 1, 1) := by decide +kernel
theorem dX11_ticks_61 : decode cX11_ticks 61 = .ok (.iload_n 1, 1) := by decide +kernel
theorem dX11_ticks_62 : decode cX11_ticks 62 = .ok (.aload_n 0, 1) := by decide +kernel
theorem dX11_ticks_63 : decode cX11_ticks 63 = .ok (.iconst 5, 1) := by decide +kernel
theorem dX11_ticks_64 : decode cX11_ticks 64 = .ok (.invokevirtual 183, 3) := by decide +kernel
theorem dX11_ticks_67 : decode cX11_ticks 67 = .ok (.if_icmp .ge 14, 3) := by decide +kernel
theorem dX11_ticks_70 : decode cX11_ticks 70 = .ok (.aload_n 0, 1) := by decide +kernel
theorem dX11_ticks_71 : decode cX11_ticks 71 = .ok (.iload_n 1, 1) := by decide +kernel
theorem dX11_ticks_72 : decode cX11_ticks 72 = .ok (.invokevirtual 280, 3) := by decide +kernel
theorem dX11_ticks_75 : decode cX11_ticks 75 = .ok (.iinc 1 1, 3) := by decide +kernel
theorem dX11_ticks_78 : decode cX11_ticks 78 = .ok (.goto (-17), 3) := by decide +kernel
theorem dX11_ticks_81 : decode cX11_ticks 81 = .ok (.iconst 0, 1) := by decide +kernel
theorem dX11_ticks_82 : decode cX11_ticks 82 = .ok (.istore_n 1, 1) := by decide +kernel
theorem dX11_ticks_83 : decode cX11_ticks 83 = .ok (.iload_n 1, 1) := by decide +kernel
theorem dX11_ticks_84 : decode cX11_ticks 84 = .ok (.aload_n 0, 1) := by decide +kernel
theorem dX11_ticks_85 : decode cX11_ticks 85 = .ok (.getfield 17, 3) := by decide +kernel
theorem dX11_ticks_88 : decode cX11_ticks 88 = .ok (.iconst 0, 1) := by decide +kernel
theorem dX11_ticks_89 : decode cX11_ticks 89 = .ok (.iaload, 1) := by decide +kernel
theorem dX11_ticks_90 : decode cX11_ticks 90 = .ok (.if_icmp .ge 14, 3) := by decide +kernel
theorem dX11_ticks_93 : decode cX11_ticks 93 = .ok (.aload_n 0, 1) := by decide +kernel
theorem dX11_ticks_94 : decode cX11_ticks 94 = .ok (.iload_n 1, 1) := by decide +kernel
theorem dX11_ticks_95 : decode cX11_ticks 95 = .ok (.invokevirtual 283, 3) := by decide +kernel
theorem dX11_ticks_98 : decode cX11_ticks 98 = .ok (.iinc 1 1, 3) := by decide +kernel
theorem dX11_ticks_101 : decode cX11_ticks 101 = .ok (.goto (-18), 3) := by decide +kernel
theorem dX11_ticks_104 : decode cX11_ticks 104 = .ok (.return_, 1) := by decide +kernel
theorem dX11_keeps_0 : decode cX11_keeps 0 = .ok (.aload_n 0, 1) := by decide +kernel
theorem dX11_keeps_1 : decode cX11_keeps 1 = .ok (.getfield 180, 3) := by decide +kernel
theorem dX11_keeps_4 : decode cX11_keeps 4 = .ok (.bipush 10, 2) := by decide +kernel
theorem dX11_keeps_6 : decode cX11_keeps 6 = .ok (.if_icmp .ne 46, 3) := by decide +kernel
theorem dX11_keeps_9 : decode cX11_keeps 9 = .ok (.sipush 1200, 3) := by decide +kernel
theorem dX11_keeps_12 : decode cX11_keeps 12 = .ok (.istore_n 1, 1) := by decide +kernel
theorem dX11_keeps_13 : decode cX11_keeps 13 = .ok (.iload_n 1, 1) := by decide +kernel
theorem dX11_keeps_14 : decode cX11_keeps 14 = .ok (.sipush 12000, 3) := by decide +kernel
theorem dX11_keeps_17 : decode cX11_keeps 17 = .ok (.if_icmp .ge 25, 3) := by decide +kernel
theorem dX11_keeps_20 : decode cX11_keeps 20 = .ok (.aload_n 0, 1) := by decide +kernel
theorem dX11_keeps_21 : decode cX11_keeps 21 = .ok (.getfield 30, 3) := by decide +kernel
theorem dX11_keeps_24 : decode cX11_keeps 24 = .ok (.iload_n 1, 1) := by decide +kernel
theorem dX11_keeps_25 : decode cX11_keeps 25 = .ok (.sipush 1200, 3) := by decide +kernel
theorem dX11_keeps_28 : decode cX11_keeps 28 = .ok (.isub, 1) := by decide +kernel
theorem dX11_keeps_29 : decode cX11_keeps 29 = .ok (.aload_n 0, 1) := by decide +kernel
theorem dX11_keeps_30 : decode cX11_keeps 30 = .ok (.getfield 30, 3) := by decide +kernel
theorem dX11_keeps_33 : decode cX11_keeps 33 = .ok (.iload_n 1, 1) := by decide +kernel
theorem dX11_keeps_34 : decode cX11_keeps 34 = .ok (.iaload, 1) := by decide +kernel
theorem dX11_keeps_35 : decode cX11_keeps 35 = .ok (.iastore, 1) := by decide +kernel
theorem dX11_keeps_36 : decode cX11_keeps 36 = .ok (.iinc 1 1, 3) := by decide +kernel
theorem dX11_keeps_39 : decode cX11_keeps 39 = .ok (.goto (-26), 3) := by decide +kernel
theorem dX11_keeps_42 : decode cX11_keeps 42 = .ok (.aload_n 0, 1) := by decide +kernel
theorem dX11_keeps_43 : decode cX11_keeps 43 = .ok (.dup, 1) := by decide +kernel
theorem dX11_keeps_44 : decode cX11_keeps 44 = .ok (.getfield 180, 3) := by decide +kernel
theorem dX11_keeps_47 : decode cX11_keeps 47 = .ok (.iconst 1, 1) := by decide +kernel
theorem dX11_keeps_48 : decode cX11_keeps 48 = .ok (.isub, 1) := by decide +kernel
theorem dX11_keeps_49 : decode cX11_keeps 49 = .ok (.putfield 180, 3) := by decide +kernel
theorem dX11_keeps_52 : decode cX11_keeps 52 = .ok (.iconst 0, 1) := by decide +kernel
theorem dX11_keeps_53 : decode cX11_keeps 53 = .ok (.istore_n 1, 1) := by decide +kernel
theorem dX11_keeps_54 : decode cX11_keeps 54 = .ok (.iload_n 1, 1) := by decide +kernel
theorem dX11_keeps_55 : decode cX11_keeps 55 = .ok (.sipush 1200, 3) := by decide +kernel
theorem dX11_keeps_58 : decode cX11_keeps 58 = .ok (.if_icmp .ge 30, 3) := by decide +kernel
theorem dX11_keeps_61 : decode cX11_keeps 61 = .ok (.aload_n 0, 1) := by decide +kernel
theorem dX11_keeps_62 : decode cX11_keeps 62 = .ok (.getfield 30, 3) := by decide +kernel
theorem dX11_keeps_65 : decode cX11_keeps 65 = .ok (.sipush 1200, 3) := by decide +kernel
theorem dX11_keeps_68 : decode cX11_keeps 68 = .ok (.aload_n 0, 1) := by decide +kernel
theorem dX11_keeps_69 : decode cX11_keeps 69 = .ok (.getfield 180, 3) := by decide +kernel
theorem dX11_keeps_72 : decode cX11_keeps 72 = .ok (.imul, 1) := by decide +kernel
theorem dX11_keeps_73 : decode cX11_keeps 73 = .ok (.iload_n 1, 1) := by decide +kernel
theorem dX11_keeps_74 : decode cX11_keeps 74 = .ok (.iadd, 1) := by decide +kernel
theorem dX11_keeps_75 : decode cX11_keeps 75 = .ok (.aload_n 0, 1) := by decide +kernel
theorem dX11_keeps_76 : decode cX11_keeps 76 = .ok (.getfield 24, 3) := by decide +kernel
theorem dX11_keeps_79 : decode cX11_keeps 79 = .ok (.iload_n 1, 1) := by decide +kernel
theorem dX11_keeps_80 : decode cX11_keeps 80 = .ok (.iaload, 1) := by decide +kernel
theorem dX11_keeps_81 : decode cX11_keeps 81 = .ok (.iastore, 1) := by decide +kernel
theorem dX11_keeps_82 : decode cX11_keeps 82 = .ok (.iinc 1 1, 3) := by decide +kernel
theorem dX11_keeps_85 : decode cX11_keeps 85 = .ok (.goto (-31), 3) := by decide +kernel
theorem dX11_keeps_88 : decode cX11_keeps 88 = .ok (.aload_n 0, 1) := by decide +kernel
theorem dX11_keeps_89 : decode cX11_keeps 89 = .ok (.dup, 1) := by decide +kernel
theorem dX11_keeps_90 : decode cX11_keeps 90 = .ok (.getfield 180, 3) := by decide +kernel
theorem dX11_keeps_93 : decode cX11_keeps 93 = .ok (.iconst 1, 1) := by decide +kernel
theorem dX11_keeps_94 : decode cX11_keeps 94 = .ok (.iadd, 1) := by decide +kernel
theorem dX11_keeps_95 : decode cX11_keeps 95 = .ok (.putfield 180, 3) := by decide +kernel
theorem dX11_keeps_98 : decode cX11_keeps 98 = .ok (.return_, 1) := by decide +kernel
theorem dX11_undo_0 : decode cX11_undo 0 = .ok (.aload_n 0, 1) := by decide +kernel
theorem dX11_undo_1 : decode cX11_undo 1 = .ok (.getfield 180, 3) := by decide +kernel
theorem dX11_undo_4 : decode cX11_undo 4 = .ok (.ifCond .ne 5, 3) := by decide +kernel
theorem dX11_undo_7 : decode cX11_undo 7 = .ok (.iconst (-1), 1) := by decide +kernel
theorem dX11_undo_8 : decode cX11_undo 8 = .ok (.ireturn, 1) := by decide +kernel
theorem dX11_undo_9 : decode cX11_undo 9 = .ok (.aload_n 0, 1) := by decide +kernel
theorem dX11_undo_10 : decode cX11_undo 10 = .ok (.dup, 1) := by decide +kernel
theorem dX11_undo_11 : decode cX11_undo 11 = .ok (.getfield 180, 3) := by decide +kernel
theorem dX11_undo_14 : decode cX11_undo 14 = .ok (.iconst 1, 1) := by decide +kernel
theorem dX11_undo_15 : decode cX11_undo 15 = .ok (.isub, 1) := by decide +kernel
theorem dX11_undo_16 : decode cX11_undo 16 = .ok (.putfield 180, 3) := by decide +kernel
theorem dX11_undo_19 : decode cX11_undo 19 = .ok (.iconst 0, 1) := by decide +kernel
theorem dX11_undo_20 : decode cX11_undo 20 = .ok (.istore_n 1, 1) := by decide +kernel
theorem dX11_undo_21 : decode cX11_undo 21 = .ok (.iload_n 1, 1) := by decide +kernel
theorem dX11_undo_22 : decode cX11_undo 22 = .ok (.sipush 1200, 3) := by decide +kernel
theorem dX11_undo_25 : decode cX11_undo 25 = .ok (.if_icmp .ge 30, 3) := by decide +kernel
theorem dX11_undo_28 : decode cX11_undo 28 = .ok (.aload_n 0, 1) := by decide +kernel
theorem dX11_undo_29 : decode cX11_undo 29 = .ok (.getfield 24, 3) := by decide +kernel
theorem dX11_undo_32 : decode cX11_undo 32 = .ok (.iload_n 1, 1) := by decide +kernel
theorem dX11_undo_33 : decode cX11_undo 33 = .ok (.aload_n 0, 1) := by decide +kernel
theorem dX11_undo_34 : decode cX11_undo 34 = .ok (.getfield 30, 3) := by decide +kernel
theorem dX11_undo_37 : decode cX11_undo 37 = .ok (.sipush 1200, 3) := by decide +kernel
theorem dX11_undo_40 : decode cX11_undo 40 = .ok (.aload_n 0, 1) := by decide +kernel
theorem dX11_undo_41 : decode cX11_undo 41 = .ok (.getfield 180, 3) := by decide +kernel
theorem dX11_undo_44 : decode cX11_undo 44 = .ok (.imul, 1) := by decide +kernel
theorem dX11_undo_45 : decode cX11_undo 45 = .ok (.iload_n 1, 1) := by decide +kernel
theorem dX11_undo_46 : decode cX11_undo 46 = .ok (.iadd, 1) := by decide +kernel
theorem dX11_undo_47 : decode cX11_undo 47 = .ok (.iaload, 1) := by decide +kernel
theorem dX11_undo_48 : decode cX11_undo 48 = .ok (.iastore, 1) := by decide +kernel
theorem dX11_undo_49 : decode cX11_undo 49 = .ok (.iinc 1 1, 3) := by decide +kernel
theorem dX11_undo_52 : decode cX11_undo 52 = .ok (.goto (-31), 3) := by decide +kernel
theorem dX11_undo_55 : decode cX11_undo 55 = .ok (.aload_n 0, 1) := by decide +kernel
theorem dX11_undo_56 : decode cX11_undo 56 = .ok (.getfield 180, 3) := by decide +kernel
theorem dX11_undo_59 : decode cX11_undo 59 = .ok (.ireturn, 1) := by decide +kernel
theorem dX11_isLabel_0 : decode cX11_isLabel 0 = .ok (.iload_n 0, 1) := by decide +kernel
theorem dX11_isLabel_1 : decode cX11_isLabel 1 = .ok (.ifCond .eq 17, 3) := by decide +kernel
theorem dX11_isLabel_4 : decode cX11_isLabel 4 = .ok (.iload_n 0, 1) := by decide +kernel
theorem dX11_isLabel_5 : decode cX11_isLabel 5 = .ok (.i2l, 1) := by decide +kernel
theorem dX11_isLabel_6 : decode cX11_isLabel 6 = .ok (.ldc2_w 286, 3) := by decide +kernel
theorem dX11_isLabel_9 : decode cX11_isLabel 9 = .ok (.ldc2_w 288, 3) := by decide +kernel
theorem dX11_isLabel_12 : decode cX11_isLabel 12 = .ok (.invokestatic 88, 3) := by decide +kernel
theorem dX11_isLabel_15 : decode cX11_isLabel 15 = .ok (.ifCond .eq 7, 3) := by decide +kernel
theorem dX11_isLabel_18 : decode cX11_isLabel 18 = .ok (.iconst 1, 1) := by decide +kernel
theorem dX11_isLabel_19 : decode cX11_isLabel 19 = .ok (.goto 4, 3) := by decide +kernel
theorem dX11_isLabel_22 : decode cX11_isLabel 22 = .ok (.iconst 0, 1) := by decide +kernel
theorem dX11_isLabel_23 : decode cX11_isLabel 23 = .ok (.ireturn, 1) := by decide +kernel
theorem dX11_arrives_0 : decode cX11_arrives 0 = .ok (.aload_n 0, 1) := by decide +kernel
theorem dX11_arrives_1 : decode cX11_arrives 1 = .ok (.getfield 24, 3) := by decide +kernel
theorem dX11_arrives_4 : decode cX11_arrives 4 = .ok (.iconst 1, 1) := by decide +kernel
theorem dX11_arrives_5 : decode cX11_arrives 5 = .ok (.iaload, 1) := by decide +kernel
theorem dX11_arrives_6 : decode cX11_arrives 6 = .ok (.istore 7, 2) := by decide +kernel
theorem dX11_arrives_8 : decode cX11_arrives 8 = .ok (.aload_n 0, 1) := by decide +kernel
theorem dX11_arrives_9 : decode cX11_arrives 9 = .ok (.getfield 33, 3) := by decide +kernel
theorem dX11_arrives_12 : decode cX11_arrives 12 = .ok (.iload 7, 2) := by decide +kernel
theorem dX11_arrives_14 : decode cX11_arrives 14 = .ok (.iload_n 2, 1) := by decide +kernel
theorem dX11_arrives_15 : decode cX11_arrives 15 = .ok (.iastore, 1) := by decide +kernel
theorem dX11_arrives_16 : decode cX11_arrives 16 = .ok (.aload_n 0, 1) := by decide +kernel
theorem dX11_arrives_17 : decode cX11_arrives 17 = .ok (.getfield 36, 3) := by decide +kernel
theorem dX11_arrives_20 : decode cX11_arrives 20 = .ok (.iload 7, 2) := by decide +kernel
theorem dX11_arrives_22 : decode cX11_arrives 22 = .ok (.iload_n 3, 1) := by decide +kernel
theorem dX11_arrives_23 : decode cX11_arrives 23 = .ok (.iastore, 1) := by decide +kernel
theorem dX11_arrives_24 : decode cX11_arrives 24 = .ok (.aload_n 0, 1) := by decide +kernel
theorem dX11_arrives_25 : decode cX11_arrives 25 = .ok (.getfield 39, 3) := by decide +kernel
theorem dX11_arrives_28 : decode cX11_arrives 28 = .ok (.iload 7, 2) := by decide +kernel
theorem dX11_arrives_30 : decode cX11_arrives 30 = .ok (.iload 4, 2) := by decide +kernel
theorem dX11_arrives_32 : decode cX11_arrives 32 = .ok (.iastore, 1) := by decide +kernel
theorem dX11_arrives_33 : decode cX11_arrives 33 = .ok (.aload_n 0, 1) := by decide +kernel
theorem dX11_arrives_34 : decode cX11_arrives 34 = .ok (.getfield 42, 3) := by decide +kernel
theorem dX11_arrives_37 : decode cX11_arrives 37 = .ok (.iload 7, 2) := by decide +kernel
theorem dX11_arrives_39 : decode cX11_arrives 39 = .ok (.iload 5, 2) := by decide +kernel
theorem dX11_arrives_41 : decode cX11_arrives 41 = .ok (.iastore, 1) := by decide +kernel
theorem dX11_arrives_42 : decode cX11_arrives 42 = .ok (.aload_n 0, 1) := by decide +kernel
theorem dX11_arrives_43 : decode cX11_arrives 43 = .ok (.getfield 45, 3) := by decide +kernel
theorem dX11_arrives_46 : decode cX11_arrives 46 = .ok (.iload 7, 2) := by decide +kernel
theorem dX11_arrives_48 : decode cX11_arrives 48 = .ok (.iload 6, 2) := by decide +kernel
theorem dX11_arrives_50 : decode cX11_arrives 50 = .ok (.iastore, 1) := by decide +kernel
theorem dX11_arrives_51 : decode cX11_arrives 51 = .ok (.aload_n 0, 1) := by decide +kernel
theorem dX11_arrives_52 : decode cX11_arrives 52 = .ok (.getfield 24, 3) := by decide +kernel
theorem dX11_arrives_55 : decode cX11_arrives 55 = .ok (.iconst 1, 1) := by decide +kernel
theorem dX11_arrives_56 : decode cX11_arrives 56 = .ok (.dup2, 1) := by decide +kernel
theorem dX11_arrives_57 : decode cX11_arrives 57 = .ok (.iaload, 1) := by decide +kernel
theorem dX11_arrives_58 : decode cX11_arrives 58 = .ok (.iconst 1, 1) := by decide +kernel
theorem dX11_arrives_59 : decode cX11_arrives 59 = .ok (.iadd, 1) := by decide +kernel
theorem dX11_arrives_60 : decode cX11_arrives 60 = .ok (.iastore, 1) := by decide +kernel
theorem dX11_arrives_61 : decode cX11_arrives 61 = .ok (.iconst 0, 1) := by decide +kernel
theorem dX11_arrives_62 : decode cX11_arrives 62 = .ok (.istore 8, 2) := by decide +kernel
theorem dX11_arrives_64 : decode cX11_arrives 64 = .ok (.iload 8, 2) := by decide +kernel
theorem dX11_arrives_66 : decode cX11_arrives 66 = .ok (.bipush 8, 2) := by decide +kernel
theorem dX11_arrives_68 : decode cX11_arrives 68 = .ok (.if_icmp .ge 27, 3) := by decide +kernel
theorem dX11_arrives_71 : decode cX11_arrives 71 = .ok (.aload_n 0, 1) := by decide +kernel
theorem dX11_arrives_72 : decode cX11_arrives 72 = .ok (.getfield 24, 3) := by decide +kernel
theorem dX11_arrives_75 : decode cX11_arrives 75 = .ok (.sipush 400, 3) := by decide +kernel
theorem dX11_arrives_78 : decode cX11_arrives 78 = .ok (.bipush 8, 2) := by decide +kernel
theorem dX11_arrives_80 : decode cX11_arrives 80 = .ok (.iload 7, 2) := by decide +kernel
theorem dX11_arrives_82 : decode cX11_arrives 82 = .ok (.imul, 1) := by decide +kernel
theorem dX11_arrives_83 : decode cX11_arrives 83 = .ok (.iadd, 1) := by decide +kernel
theorem dX11_arrives_84 : decode cX11_arrives 84 = .ok (.iload 8, 2) := by decide +kernel
theorem dX11_arrives_86 : decode cX11_arrives 86 = .ok (.iadd, 1) := by decide +kernel
theorem dX11_arrives_87 : decode cX11_arrives 87 = .ok (.iconst 0, 1) := by decide +kernel
theorem dX11_arrives_88 : decode cX11_arrives 88 = .ok (.iastore, 1) := by decide +kernel
theorem dX11_arrives_89 : decode cX11_arrives 89 = .ok (.iinc 8 1, 3) := by decide +kernel
theorem dX11_arrives_92 : decode cX11_arrives 92 = .ok (.goto (-28), 3) := by decide +kernel
theorem dX11_arrives_95 : decode cX11_arrives 95 = .ok (.aload_n 0, 1) := by decide +kernel
theorem dX11_arrives_96 : decode cX11_arrives 96 = .ok (.getfield 24, 3) := by decide +kernel
theorem dX11_arrives_99 : decode cX11_arrives 99 = .ok (.sipush 400, 3) := by decide +kernel
theorem dX11_arrives_102 : decode cX11_arrives 102 = .ok (.bipush 8, 2) := by decide +kernel
theorem dX11_arrives_104 : decode cX11_arrives 104 = .ok (.iload 7, 2) := by decide +kernel
theorem dX11_arrives_106 : decode cX11_arrives 106 = .ok (.imul, 1) := by decide +kernel
theorem dX11_arrives_107 : decode cX11_arrives 107 = .ok (.iadd, 1) := by decide +kernel
theorem dX11_arrives_108 : decode cX11_arrives 108 = .ok (.bipush 7, 2) := by decide +kernel
theorem dX11_arrives_110 : decode cX11_arrives 110 = .ok (.iadd, 1) := by decide +kernel
theorem dX11_arrives_111 : decode cX11_arrives 111 = .ok (.bipush (-2), 2) := by decide +kernel
theorem dX11_arrives_113 : decode cX11_arrives 113 = .ok (.iastore, 1) := by decide +kernel
theorem dX11_arrives_114 : decode cX11_arrives 114 = .ok (.aload_n 0, 1) := by decide +kernel
theorem dX11_arrives_115 : decode cX11_arrives 115 = .ok (.iload 7, 2) := by decide +kernel
theorem dX11_arrives_117 : decode cX11_arrives 117 = .ok (.iconst 0, 1) := by decide +kernel
theorem dX11_arrives_118 : decode cX11_arrives 118 = .ok (.iload_n 1, 1) := by decide +kernel
theorem dX11_arrives_119 : decode cX11_arrives 119 = .ok (.invokevirtual 214, 3) := by decide +kernel
theorem dX11_arrives_122 : decode cX11_arrives 122 = .ok (.iload 7, 2) := by decide +kernel
theorem dX11_arrives_124 : decode cX11_arrives 124 = .ok (.ireturn, 1) := by decide +kernel
theorem dX11_checkIn_0 : decode cX11_checkIn 0 = .ok (.aload_n 0, 1) := by decide +kernel
theorem dX11_checkIn_1 : decode cX11_checkIn 1 = .ok (.iconst 1, 1) := by decide +kernel
theorem dX11_checkIn_2 : decode cX11_checkIn 2 = .ok (.iload_n 1, 1) := by decide +kernel
theorem dX11_checkIn_3 : decode cX11_checkIn 3 = .ok (.invokevirtual 290, 3) := by decide +kernel
theorem dX11_checkIn_6 : decode cX11_checkIn 6 = .ok (.ifCond .eq 56, 3) := by decide +kernel
theorem dX11_checkIn_9 : decode cX11_checkIn 9 = .ok (.iload_n 2, 1) := by decide +kernel
theorem dX11_checkIn_10 : decode cX11_checkIn 10 = .ok (.invokestatic 293, 3) := by decide +kernel
theorem dX11_checkIn_13 : decode cX11_checkIn 13 = .ok (.ifCond .eq 49, 3) := by decide +kernel
theorem dX11_checkIn_16 : decode cX11_checkIn 16 = .ok (.iload 4, 2) := by decide +kernel
theorem dX11_checkIn_18 : decode cX11_checkIn 18 = .ok (.invokestatic 293, 3) := by decide +kernel
theorem dX11_checkIn_21 : decode cX11_checkIn 21 = .ok (.ifCond .eq 41, 3) := by decide +kernel
theorem dX11_checkIn_24 : decode cX11_checkIn 24 = .ok (.iload_n 3, 1) := by decide +kernel
theorem dX11_checkIn_25 : decode cX11_checkIn 25 = .ok (.i2l, 1) := by decide +kernel
theorem dX11_checkIn_26 : decode cX11_checkIn 26 = .ok (.lconst 0, 1) := by decide +kernel
theorem dX11_checkIn_27 : decode cX11_checkIn 27 = .ok (.ldc2_w 296, 3) := by decide +kernel
theorem dX11_checkIn_30 : decode cX11_checkIn 30 = .ok (.invokestatic 88, 3) := by decide +kernel
theorem dX11_checkIn_33 : decode cX11_checkIn 33 = .ok (.ifCond .eq 29, 3) := by decide +kernel
theorem dX11_checkIn_36 : decode cX11_checkIn 36 = .ok (.iload 5, 2) := by decide +kernel
theorem dX11_checkIn_38 : decode cX11_checkIn 38 = .ok (.i2l, 1) := by decide +kernel
theorem dX11_checkIn_39 : decode cX11_checkIn 39 = .ok (.lconst 0, 1) := by decide +kernel
theorem dX11_checkIn_40 : decode cX11_checkIn 40 = .ok (.ldc2_w 296, 3) := by decide +kernel
theorem dX11_checkIn_43 : decode cX11_checkIn 43 = .ok (.invokestatic 88, 3) := by decide +kernel
theorem dX11_checkIn_46 : decode cX11_checkIn 46 = .ok (.ifCond .eq 16, 3) := by decide +kernel
theorem dX11_checkIn_49 : decode cX11_checkIn 49 = .ok (.iload 6, 2) := by decide +kernel
theorem dX11_checkIn_51 : decode cX11_checkIn 51 = .ok (.i2l, 1) := by decide +kernel
theorem dX11_checkIn_52 : decode cX11_checkIn 52 = .ok (.lconst 0, 1) := by decide +kernel
theorem dX11_checkIn_53 : decode cX11_checkIn 53 = .ok (.ldc2_w 298, 3) := by decide +kernel
theorem dX11_checkIn_56 : decode cX11_checkIn 56 = .ok (.invokestatic 88, 3) := by decide +kernel
theorem dX11_checkIn_59 : decode cX11_checkIn 59 = .ok (.ifCond .ne 5, 3) := by decide +kernel
theorem dX11_checkIn_62 : decode cX11_checkIn 62 = .ok (.iconst (-1), 1) := by decide +kernel
theorem dX11_checkIn_63 : decode cX11_checkIn 63 = .ok (.ireturn, 1) := by decide +kernel
theorem dX11_checkIn_64 : decode cX11_checkIn 64 = .ok (.aload_n 0, 1) := by decide +kernel
theorem dX11_checkIn_65 : decode cX11_checkIn 65 = .ok (.getfield 24, 3) := by decide +kernel
theorem dX11_checkIn_68 : decode cX11_checkIn 68 = .ok (.iconst 1, 1) := by decide +kernel
theorem dX11_checkIn_69 : decode cX11_checkIn 69 = .ok (.iaload, 1) := by decide +kernel
theorem dX11_checkIn_70 : decode cX11_checkIn 70 = .ok (.bipush 100, 2) := by decide +kernel
theorem dX11_checkIn_72 : decode cX11_checkIn 72 = .ok (.if_icmp .ne 6, 3) := by decide +kernel
theorem dX11_checkIn_75 : decode cX11_checkIn 75 = .ok (.bipush (-2), 2) := by decide +kernel
theorem dX11_checkIn_77 : decode cX11_checkIn 77 = .ok (.ireturn, 1) := by decide +kernel
theorem dX11_checkIn_78 : decode cX11_checkIn 78 = .ok (.aload_n 0, 1) := by decide +kernel
theorem dX11_checkIn_79 : decode cX11_checkIn 79 = .ok (.invokevirtual 300, 3) := by decide +kernel
theorem dX11_checkIn_82 : decode cX11_checkIn 82 = .ok (.aload_n 0, 1) := by decide +kernel
theorem dX11_checkIn_83 : decode cX11_checkIn 83 = .ok (.iload_n 1, 1) := by decide +kernel
theorem dX11_checkIn_84 : decode cX11_checkIn 84 = .ok (.iload_n 2, 1) := by decide +kernel
theorem dX11_checkIn_85 : decode cX11_checkIn 85 = .ok (.iload_n 3, 1) := by decide +kernel
theorem dX11_checkIn_86 : decode cX11_checkIn 86 = .ok (.iload 4, 2) := by decide +kernel
theorem dX11_checkIn_88 : decode cX11_checkIn 88 = .ok (.iload 5, 2) := by decide +kernel
theorem dX11_checkIn_90 : decode cX11_checkIn 90 = .ok (.iload 6, 2) := by decide +kernel
theorem dX11_checkIn_92 : decode cX11_checkIn 92 = .ok (.invokevirtual 303, 3) := by decide +kernel
theorem dX11_checkIn_95 : decode cX11_checkIn 95 = .ok (.ireturn, 1) := by decide +kernel
theorem dX11_run_0 : decode cX11_run 0 = .ok (.iload_n 1, 1) := by decide +kernel
theorem dX11_run_1 : decode cX11_run 1 = .ok (.i2l, 1) := by decide +kernel
theorem dX11_run_2 : decode cX11_run 2 = .ok (.lconst 1, 1) := by decide +kernel
theorem dX11_run_3 : decode cX11_run 3 = .ok (.ldc2_w 307, 3) := by decide +kernel
theorem dX11_run_6 : decode cX11_run 6 = .ok (.invokestatic 88, 3) := by decide +kernel
theorem dX11_run_9 : decode cX11_run 9 = .ok (.ifCond .eq 17, 3) := by decide +kernel
theorem dX11_run_12 : decode cX11_run 12 = .ok (.aload_n 0, 1) := by decide +kernel
theorem dX11_run_13 : decode cX11_run 13 = .ok (.getfield 24, 3) := by decide +kernel
theorem dX11_run_16 : decode cX11_run 16 = .ok (.iconst 0, 1) := by decide +kernel
theorem dX11_run_17 : decode cX11_run 17 = .ok (.iaload, 1) := by decide +kernel
theorem dX11_run_18 : decode cX11_run 18 = .ok (.iload_n 1, 1) := by decide +kernel
theorem dX11_run_19 : decode cX11_run 19 = .ok (.iadd, 1) := by decide +kernel
theorem dX11_run_20 : decode cX11_run 20 = .ok (.ldc_w 309, 3) := by decide +kernel
theorem dX11_run_23 : decode cX11_run 23 = .ok (.if_icmp .le 5, 3) := by decide +kernel
theorem dX11_run_26 : decode cX11_run 26 = .ok (.iconst (-1), 1) := by decide +kernel
theorem dX11_run_27 : decode cX11_run 27 = .ok (.ireturn, 1) := by decide +kernel
theorem dX11_run_28 : decode cX11_run 28 = .ok (.aload_n 0, 1) := by decide +kernel
theorem dX11_run_29 : decode cX11_run 29 = .ok (.invokevirtual 300, 3) := by decide +kernel
theorem dX11_run_32 : decode cX11_run 32 = .ok (.aload_n 0, 1) := by decide +kernel
theorem dX11_run_33 : decode cX11_run 33 = .ok (.getfield 24, 3) := by decide +kernel
theorem dX11_run_36 : decode cX11_run 36 = .ok (.bipush 10, 2) := by decide +kernel
theorem dX11_run_38 : decode cX11_run 38 = .ok (.iaload, 1) := by decide +kernel
theorem dX11_run_39 : decode cX11_run 39 = .ok (.istore_n 2, 1) := by decide +kernel
theorem dX11_run_40 : decode cX11_run 40 = .ok (.iconst 0, 1) := by decide +kernel
theorem dX11_run_41 : decode cX11_run 41 = .ok (.istore_n 3, 1) := by decide +kernel
theorem dX11_run_42 : decode cX11_run 42 = .ok (.iload_n 3, 1) := by decide +kernel
theorem dX11_run_43 : decode cX11_run 43 = .ok (.iload_n 1, 1) := by decide +kernel
theorem dX11_run_44 : decode cX11_run 44 = .ok (.if_icmp .ge 13, 3) := by decide +kernel
theorem dX11_run_47 : decode cX11_run 47 = .ok (.aload_n 0, 1) := by decide +kernel
theorem dX11_run_48 : decode cX11_run 48 = .ok (.invokevirtual 310, 3) := by decide +kernel
theorem dX11_run_51 : decode cX11_run 51 = .ok (.iinc 3 1, 3) := by decide +kernel
theorem dX11_run_54 : decode cX11_run 54 = .ok (.goto (-12), 3) := by decide +kernel
theorem dX11_run_57 : decode cX11_run 57 = .ok (.aload_n 0, 1) := by decide +kernel
theorem dX11_run_58 : decode cX11_run 58 = .ok (.getfield 24, 3) := by decide +kernel
theorem dX11_run_61 : decode cX11_run 61 = .ok (.bipush 10, 2) := by decide +kernel
theorem dX11_run_63 : decode cX11_run 63 = .ok (.iaload, 1) := by decide +kernel
theorem dX11_run_64 : decode cX11_run 64 = .ok (.iload_n 2, 1) := by decide +kernel
theorem dX11_run_65 : decode cX11_run 65 = .ok (.isub, 1) := by decide +kernel
theorem dX11_run_66 : decode cX11_run 66 = .ok (.ireturn, 1) := by decide +kernel
theorem dX11_slip_0 : decode cX11_slip 0 = .ok (.aload_n 0, 1) := by decide +kernel
theorem dX11_slip_1 : decode cX11_slip 1 = .ok (.iload_n 1, 1) := by decide +kernel
theorem dX11_slip_2 : decode cX11_slip 2 = .ok (.invokevirtual 313, 3) := by decide +kernel
theorem dX11_slip_5 : decode cX11_slip 5 = .ok (.ifCond .eq 15, 3) := by decide +kernel
theorem dX11_slip_8 : decode cX11_slip 8 = .ok (.aload_n 0, 1) := by decide +kernel
theorem dX11_slip_9 : decode cX11_slip 9 = .ok (.getfield 24, 3) := by decide +kernel
theorem dX11_slip_12 : decode cX11_slip 12 = .ok (.bipush 90, 2) := by decide +kernel
theorem dX11_slip_14 : decode cX11_slip 14 = .ok (.iload_n 1, 1) := by decide +kernel
theorem dX11_slip_15 : decode cX11_slip 15 = .ok (.iadd, 1) := by decide +kernel
theorem dX11_slip_16 : decode cX11_slip 16 = .ok (.iaload, 1) := by decide +kernel
theorem dX11_slip_17 : decode cX11_slip 17 = .ok (.ifCond .ge 5, 3) := by decide +kernel
theorem dX11_slip_20 : decode cX11_slip 20 = .ok (.iconst 0, 1) := by decide +kernel
theorem dX11_slip_21 : decode cX11_slip 21 = .ok (.ireturn, 1) := by decide +kernel
theorem dX11_slip_22 : decode cX11_slip 22 = .ok (.iload_n 1, 1) := by decide +kernel
theorem dX11_slip_23 : decode cX11_slip 23 = .ok (.aload_n 0, 1) := by decide +kernel
theorem dX11_slip_24 : decode cX11_slip 24 = .ok (.getfield 17, 3) := by decide +kernel
theorem dX11_slip_27 : decode cX11_slip 27 = .ok (.iconst 0, 1) := by decide +kernel
theorem dX11_slip_28 : decode cX11_slip 28 = .ok (.iaload, 1) := by decide +kernel
theorem dX11_slip_29 : decode cX11_slip 29 = .ok (.iadd, 1) := by decide +kernel
theorem dX11_slip_30 : decode cX11_slip 30 = .ok (.iconst 1, 1) := by decide +kernel
theorem dX11_slip_31 : decode cX11_slip 31 = .ok (.isub, 1) := by decide +kernel
theorem dX11_slip_32 : decode cX11_slip 32 = .ok (.aload_n 0, 1) := by decide +kernel
theorem dX11_slip_33 : decode cX11_slip 33 = .ok (.getfield 17, 3) := by decide +kernel
theorem dX11_slip_36 : decode cX11_slip 36 = .ok (.iconst 0, 1) := by decide +kernel
theorem dX11_slip_37 : decode cX11_slip 37 = .ok (.iaload, 1) := by decide +kernel
theorem dX11_slip_38 : decode cX11_slip 38 = .ok (.irem, 1) := by decide +kernel
theorem dX11_slip_39 : decode cX11_slip 39 = .ok (.istore_n 2, 1) := by decide +kernel
theorem dX11_slip_40 : decode cX11_slip 40 = .ok (.aload_n 0, 1) := by decide +kernel
theorem dX11_slip_41 : decode cX11_slip 41 = .ok (.getfield 24, 3) := by decide +kernel
theorem dX11_slip_44 : decode cX11_slip 44 = .ok (.bipush 90, 2) := by decide +kernel
theorem dX11_slip_46 : decode cX11_slip 46 = .ok (.iload_n 2, 1) := by decide +kernel
theorem dX11_slip_47 : decode cX11_slip 47 = .ok (.iadd, 1) := by decide +kernel
theorem dX11_slip_48 : decode cX11_slip 48 = .ok (.iaload, 1) := by decide +kernel
theorem dX11_slip_49 : decode cX11_slip 49 = .ok (.ifCond .lt 5, 3) := by decide +kernel
theorem dX11_slip_52 : decode cX11_slip 52 = .ok (.iconst 0, 1) := by decide +kernel
theorem dX11_slip_53 : decode cX11_slip 53 = .ok (.ireturn, 1) := by decide +kernel
theorem dX11_slip_54 : decode cX11_slip 54 = .ok (.aload_n 0, 1) := by decide +kernel
theorem dX11_slip_55 : decode cX11_slip 55 = .ok (.invokevirtual 300, 3) := by decide +kernel
theorem dX11_slip_58 : decode cX11_slip 58 = .ok (.aload_n 0, 1) := by decide +kernel
theorem dX11_slip_59 : decode cX11_slip 59 = .ok (.getfield 24, 3) := by decide +kernel
theorem dX11_slip_62 : decode cX11_slip 62 = .ok (.bipush 90, 2) := by decide +kernel
theorem dX11_slip_64 : decode cX11_slip 64 = .ok (.iload_n 1, 1) := by decide +kernel
theorem dX11_slip_65 : decode cX11_slip 65 = .ok (.iadd, 1) := by decide +kernel
theorem dX11_slip_66 : decode cX11_slip 66 = .ok (.iaload, 1) := by decide +kernel
theorem dX11_slip_67 : decode cX11_slip 67 = .ok (.istore_n 3, 1) := by decide +kernel
theorem dX11_slip_68 : decode cX11_slip 68 = .ok (.aload_n 0, 1) := by decide +kernel
theorem dX11_slip_69 : decode cX11_slip 69 = .ok (.getfield 24, 3) := by decide +kernel
theorem dX11_slip_72 : decode cX11_slip 72 = .ok (.bipush 90, 2) := by decide +kernel
theorem dX11_slip_74 : decode cX11_slip 74 = .ok (.iload_n 2, 1) := by decide +kernel
theorem dX11_slip_75 : decode cX11_slip 75 = .ok (.iadd, 1) := by decide +kernel
theorem dX11_slip_76 : decode cX11_slip 76 = .ok (.iload_n 3, 1) := by decide +kernel
theorem dX11_slip_77 : decode cX11_slip 77 = .ok (.iastore, 1) := by decide +kernel
theorem dX11_slip_78 : decode cX11_slip 78 = .ok (.aload_n 0, 1) := by decide +kernel
theorem dX11_slip_79 : decode cX11_slip 79 = .ok (.getfield 24, 3) := by decide +kernel
theorem dX11_slip_82 : decode cX11_slip 82 = .ok (.bipush 90, 2) := by decide +kernel
theorem dX11_slip_84 : decode cX11_slip 84 = .ok (.iload_n 1, 1) := by decide +kernel
theorem dX11_slip_85 : decode cX11_slip 85 = .ok (.iadd, 1) := by decide +kernel
theorem dX11_slip_86 : decode cX11_slip 86 = .ok (.bipush (-2), 2) := by decide +kernel
theorem dX11_slip_88 : decode cX11_slip 88 = .ok (.iastore, 1) := by decide +kernel
theorem dX11_slip_89 : decode cX11_slip 89 = .ok (.aload_n 0, 1) := by decide +kernel
theorem dX11_slip_90 : decode cX11_slip 90 = .ok (.getfield 24, 3) := by decide +kernel
theorem dX11_slip_93 : decode cX11_slip 93 = .ok (.sipush 400, 3) := by decide +kernel
theorem dX11_slip_96 : decode cX11_slip 96 = .ok (.bipush 8, 2) := by decide +kernel
theorem dX11_slip_98 : decode cX11_slip 98 = .ok (.iload_n 3, 1) := by decide +kernel
theorem dX11_slip_99 : decode cX11_slip 99 = .ok (.imul, 1) := by decide +kernel
theorem dX11_slip_100 : decode cX11_slip 100 = .ok (.iadd, 1) := by decide +kernel
theorem dX11_slip_101 : decode cX11_slip 101 = .ok (.iconst 1, 1) := by decide +kernel
theorem dX11_slip_102 : decode cX11_slip 102 = .ok (.iadd, 1) := by decide +kernel
theorem dX11_slip_103 : decode cX11_slip 103 = .ok (.iload_n 2, 1) := by decide +kernel
theorem dX11_slip_104 : decode cX11_slip 104 = .ok (.iastore, 1) := by decide +kernel
theorem dX11_slip_105 : decode cX11_slip 105 = .ok (.iconst 1, 1) := by decide +kernel
theorem dX11_slip_106 : decode cX11_slip 106 = .ok (.ireturn, 1) := by decide +kernel
theorem dX11_takeOff_0 : decode cX11_takeOff 0 = .ok (.aload_n 0, 1) := by decide +kernel
theorem dX11_takeOff_1 : decode cX11_takeOff 1 = .ok (.iload_n 1, 1) := by decide +kernel
theorem dX11_takeOff_2 : decode cX11_takeOff 2 = .ok (.invokevirtual 313, 3) := by decide +kernel
theorem dX11_takeOff_5 : decode cX11_takeOff 5 = .ok (.ifCond .ne 5, 3) := by decide +kernel
theorem dX11_takeOff_8 : decode cX11_takeOff 8 = .ok (.iconst (-1), 1) := by decide +kernel
theorem dX11_takeOff_9 : decode cX11_takeOff 9 = .ok (.ireturn, 1) := by decide +kernel
theorem dX11_takeOff_10 : decode cX11_takeOff 10 = .ok (.aload_n 0, 1) := by decide +kernel
theorem dX11_takeOff_11 : decode cX11_takeOff 11 = .ok (.getfield 24, 3) := by decide +kernel
theorem dX11_takeOff_14 : decode cX11_takeOff 14 = .ok (.bipush 90, 2) := by decide +kernel
theorem dX11_takeOff_16 : decode cX11_takeOff 16 = .ok (.iload_n 1, 1) := by decide +kernel
theorem dX11_takeOff_17 : decode cX11_takeOff 17 = .ok (.iadd, 1) := by decide +kernel
theorem dX11_takeOff_18 : decode cX11_takeOff 18 = .ok (.iaload, 1) := by decide +kernel
theorem dX11_takeOff_19 : decode cX11_takeOff 19 = .ok (.istore_n 2, 1) := by decide +kernel
theorem dX11_takeOff_20 : decode cX11_takeOff 20 = .ok (.iload_n 2, 1) := by decide +kernel
theorem dX11_takeOff_21 : decode cX11_takeOff 21 = .ok (.ifCond .ge 6, 3) := by decide +kernel
theorem dX11_takeOff_24 : decode cX11_takeOff 24 = .ok (.bipush (-2), 2) := by decide +kernel
theorem dX11_takeOff_26 : decode cX11_takeOff 26 = .ok (.ireturn, 1) := by decide +kernel
theorem dX11_takeOff_27 : decode cX11_takeOff 27 = .ok (.aload_n 0, 1) := by decide +kernel
theorem dX11_takeOff_28 : decode cX11_takeOff 28 = .ok (.invokevirtual 300, 3) := by decide +kernel
theorem dX11_takeOff_31 : decode cX11_takeOff 31 = .ok (.aload_n 0, 1) := by decide +kernel
theorem dX11_takeOff_32 : decode cX11_takeOff 32 = .ok (.getfield 24, 3) := by decide +kernel
theorem dX11_takeOff_35 : decode cX11_takeOff 35 = .ok (.bipush 90, 2) := by decide +kernel
theorem dX11_takeOff_37 : decode cX11_takeOff 37 = .ok (.iload_n 1, 1) := by decide +kernel
theorem dX11_takeOff_38 : decode cX11_takeOff 38 = .ok (.iadd, 1) := by decide +kernel
theorem dX11_takeOff_39 : decode cX11_takeOff 39 = .ok (.bipush (-2), 2) := by decide +kernel
theorem dX11_takeOff_41 : decode cX11_takeOff 41 = .ok (.iastore, 1) := by decide +kernel
theorem dX11_takeOff_42 : decode cX11_takeOff 42 = .ok (.aload_n 0, 1) := by decide +kernel
theorem dX11_takeOff_43 : decode cX11_takeOff 43 = .ok (.iload_n 2, 1) := by decide +kernel
theorem dX11_takeOff_44 : decode cX11_takeOff 44 = .ok (.bipush 8, 2) := by decide +kernel
theorem dX11_takeOff_46 : decode cX11_takeOff 46 = .ok (.bipush (-2), 2) := by decide +kernel
theorem dX11_takeOff_48 : decode cX11_takeOff 48 = .ok (.invokevirtual 214, 3) := by decide +kernel
theorem dX11_takeOff_51 : decode cX11_takeOff 51 = .ok (.aload_n 0, 1) := by decide +kernel
theorem dX11_takeOff_52 : decode cX11_takeOff 52 = .ok (.iconst 5, 1) := by decide +kernel
theorem dX11_takeOff_53 : decode cX11_takeOff 53 = .ok (.invokevirtual 217, 3) := by decide +kernel
theorem dX11_takeOff_56 : decode cX11_takeOff 56 = .ok (.iload_n 2, 1) := by decide +kernel
theorem dX11_takeOff_57 : decode cX11_takeOff 57 = .ok (.ireturn, 1) := by decide +kernel
theorem dX11_setHead_0 : decode cX11_setHead 0 = .ok (.iload_n 2, 1) := by decide +kernel
theorem dX11_setHead_1 : decode cX11_setHead 1 = .ok (.ifCond .eq 7, 3) := by decide +kernel
theorem dX11_setHead_4 : decode cX11_setHead 4 = .ok (.iconst 1, 1) := by decide +kernel
theorem dX11_setHead_5 : decode cX11_setHead 5 = .ok (.goto 4, 3) := by decide +kernel
theorem dX11_setHead_8 : decode cX11_setHead 8 = .ok (.iconst 0, 1) := by decide +kernel
theorem dX11_setHead_9 : decode cX11_setHead 9 = .ok (.istore_n 3, 1) := by decide +kernel
theorem dX11_setHead_10 : decode cX11_setHead 10 = .ok (.iload_n 1, 1) := by decide +kernel
theorem dX11_setHead_11 : decode cX11_setHead 11 = .ok (.i2l, 1) := by decide +kernel
theorem dX11_setHead_12 : decode cX11_setHead 12 = .ok (.lconst 0, 1) := by decide +kernel
theorem dX11_setHead_13 : decode cX11_setHead 13 = .ok (.ldc2_w 298, 3) := by decide +kernel
theorem dX11_setHead_16 : decode cX11_setHead 16 = .ok (.invokestatic 88, 3) := by decide +kernel
theorem dX11_setHead_19 : decode cX11_setHead 19 = .ok (.ifCond .eq 16, 3) := by decide +kernel
theorem dX11_setHead_22 : decode cX11_setHead 22 = .ok (.aload_n 0, 1) := by decide +kernel
theorem dX11_setHead_23 : decode cX11_setHead 23 = .ok (.getfield 24, 3) := by decide +kernel
theorem dX11_setHead_26 : decode cX11_setHead 26 = .ok (.bipush 11, 2) := by decide +kernel
theorem dX11_setHead_28 : decode cX11_setHead 28 = .ok (.iload_n 1, 1) := by decide +kernel
theorem dX11_setHead_29 : decode cX11_setHead 29 = .ok (.iadd, 1) := by decide +kernel
theorem dX11_setHead_30 : decode cX11_setHead 30 = .ok (.iaload, 1) := by decide +kernel
theorem dX11_setHead_31 : decode cX11_setHead 31 = .ok (.iload_n 3, 1) := by decide +kernel
theorem dX11_setHead_32 : decode cX11_setHead 32 = .ok (.if_icmp .ne 5, 3) := by decide +kernel
theorem dX11_setHead_35 : decode cX11_setHead 35 = .ok (.iconst 0, 1) := by decide +kernel
theorem dX11_setHead_36 : decode cX11_setHead 36 = .ok (.ireturn, 1) := by decide +kernel
theorem dX11_setHead_37 : decode cX11_setHead 37 = .ok (.aload_n 0, 1) := by decide +kernel
theorem dX11_setHead_38 : decode cX11_setHead 38 = .ok (.invokevirtual 300, 3) := by decide +kernel
theorem dX11_setHead_41 : decode cX11_setHead 41 = .ok (.aload_n 0, 1) := by decide +kernel
theorem dX11_setHead_42 : decode cX11_setHead 42 = .ok (.getfield 24, 3) := by decide +kernel
theorem dX11_setHead_45 : decode cX11_setHead 45 = .ok (.bipush 11, 2) := by decide +kernel
theorem dX11_setHead_47 : decode cX11_setHead 47 = .ok (.iload_n 1, 1) := by decide +kernel
theorem dX11_setHead_48 : decode cX11_setHead 48 = .ok (.iadd, 1) := by decide +kernel
theorem dX11_setHead_49 : decode cX11_setHead 49 = .ok (.iload_n 3, 1) := by decide +kernel
theorem dX11_setHead_50 : decode cX11_setHead 50 = .ok (.iastore, 1) := by decide +kernel
theorem dX11_setHead_51 : decode cX11_setHead 51 = .ok (.iconst 1, 1) := by decide +kernel
theorem dX11_setHead_52 : decode cX11_setHead 52 = .ok (.ireturn, 1) := by decide +kernel
theorem dX11_loadChute_0 : decode cX11_loadChute 0 = .ok (.aload_n 0, 1) := by decide +kernel
theorem dX11_loadChute_1 : decode cX11_loadChute 1 = .ok (.iconst 3, 1) := by decide +kernel
theorem dX11_loadChute_2 : decode cX11_loadChute 2 = .ok (.iload_n 1, 1) := by decide +kernel
theorem dX11_loadChute_3 : decode cX11_loadChute 3 = .ok (.invokevirtual 290, 3) := by decide +kernel
theorem dX11_loadChute_6 : decode cX11_loadChute 6 = .ok (.ifCond .ne 5, 3) := by decide +kernel
theorem dX11_loadChute_9 : decode cX11_loadChute 9 = .ok (.iconst (-1), 1) := by decide +kernel
theorem dX11_loadChute_10 : decode cX11_loadChute 10 = .ok (.ireturn, 1) := by decide +kernel
theorem dX11_loadChute_11 : decode cX11_loadChute 11 = .ok (.aload_n 0, 1) := by decide +kernel
theorem dX11_loadChute_12 : decode cX11_loadChute 12 = .ok (.iconst 2, 1) := by decide +kernel
theorem dX11_loadChute_13 : decode cX11_loadChute 13 = .ok (.iload_n 1, 1) := by decide +kernel
theorem dX11_loadChute_14 : decode cX11_loadChute 14 = .ok (.invokevirtual 252, 3) := by decide +kernel
theorem dX11_loadChute_17 : decode cX11_loadChute 17 = .ok (.istore_n 2, 1) := by decide +kernel
theorem dX11_loadChute_18 : decode cX11_loadChute 18 = .ok (.iload_n 2, 1) := by decide +kernel
theorem dX11_loadChute_19 : decode cX11_loadChute 19 = .ok (.ifCond .ne 6, 3) := by decide +kernel
theorem dX11_loadChute_22 : decode cX11_loadChute 22 = .ok (.bipush (-2), 2) := by decide +kernel
theorem dX11_loadChute_24 : decode cX11_loadChute 24 = .ok (.ireturn, 1) := by decide +kernel
theorem dX11_loadChute_25 : decode cX11_loadChute 25 = .ok (.aload_n 0, 1) := by decide +kernel
theorem dX11_loadChute_26 : decode cX11_loadChute 26 = .ok (.invokevirtual 300, 3) := by decide +kernel
theorem dX11_loadChute_29 : decode cX11_loadChute 29 = .ok (.iconst 0, 1) := by decide +kernel
theorem dX11_loadChute_30 : decode cX11_loadChute 30 = .ok (.istore_n 3, 1) := by decide +kernel
theorem dX11_loadChute_31 : decode cX11_loadChute 31 = .ok (.iload_n 3, 1) := by decide +kernel
theorem dX11_loadChute_32 : decode cX11_loadChute 32 = .ok (.aload_n 0, 1) := by decide +kernel
theorem dX11_loadChute_33 : decode cX11_loadChute 33 = .ok (.getfield 24, 3) := by decide +kernel
theorem dX11_loadChute_36 : decode cX11_loadChute 36 = .ok (.iconst 1, 1) := by decide +kernel
theorem dX11_loadChute_37 : decode cX11_loadChute 37 = .ok (.iaload, 1) := by decide +kernel
theorem dX11_loadChute_38 : decode cX11_loadChute 38 = .ok (.if_icmp .ge 45, 3) := by decide +kernel
theorem dX11_loadChute_41 : decode cX11_loadChute 41 = .ok (.aload_n 0, 1) := by decide +kernel
theorem dX11_loadChute_42 : decode cX11_loadChute 42 = .ok (.iload_n 3, 1) := by decide +kernel
theorem dX11_loadChute_43 : decode cX11_loadChute 43 = .ok (.iconst 0, 1) := by decide +kernel
theorem dX11_loadChute_44 : decode cX11_loadChute 44 = .ok (.invokevirtual 198, 3) := by decide +kernel
theorem dX11_loadChute_47 : decode cX11_loadChute 47 = .ok (.iconst 2, 1) := by decide +kernel
theorem dX11_loadChute_48 : decode cX11_loadChute 48 = .ok (.if_icmp .ne 29, 3) := by decide +kernel
theorem dX11_loadChute_51 : decode cX11_loadChute 51 = .ok (.aload_n 0, 1) := by decide +kernel
theorem dX11_loadChute_52 : decode cX11_loadChute 52 = .ok (.iload_n 3, 1) := by decide +kernel
theorem dX11_loadChute_53 : decode cX11_loadChute 53 = .ok (.iconst 1, 1) := by decide +kernel
theorem dX11_loadChute_54 : decode cX11_loadChute 54 = .ok (.invokevirtual 198, 3) := by decide +kernel
theorem dX11_loadChute_57 : decode cX11_loadChute 57 = .ok (.iload_n 1, 1) := by decide +kernel
theorem dX11_loadChute_58 : decode cX11_loadChute 58 = .ok (.if_icmp .ne 19, 3) := by decide +kernel
theorem dX11_loadChute_61 : decode cX11_loadChute 61 = .ok (.aload_n 0, 1) := by decide +kernel
theorem dX11_loadChute_62 : decode cX11_loadChute 62 = .ok (.getfield 24, 3) := by decide +kernel
theorem dX11_loadChute_65 : decode cX11_loadChute 65 = .ok (.sipush 400, 3) := by decide +kernel
theorem dX11_loadChute_68 : decode cX11_loadChute 68 = .ok (.bipush 8, 2) := by decide +kernel
theorem dX11_loadChute_70 : decode cX11_loadChute 70 = .ok (.iload_n 3, 1) := by decide +kernel
theorem dX11_loadChute_71 : decode cX11_loadChute 71 = .ok (.imul, 1) := by decide +kernel
theorem dX11_loadChute_72 : decode cX11_loadChute 72 = .ok (.iadd, 1) := by decide +kernel
theorem dX11_loadChute_73 : decode cX11_loadChute 73 = .ok (.iconst 0, 1) := by decide +kernel
theorem dX11_loadChute_74 : decode cX11_loadChute 74 = .ok (.iadd, 1) := by decide +kernel
theorem dX11_loadChute_75 : decode cX11_loadChute 75 = .ok (.iconst 3, 1) := by decide +kernel
theorem dX11_loadChute_76 : decode cX11_loadChute 76 = .ok (.iastore, 1) := by decide +kernel
theorem dX11_loadChute_77 : decode cX11_loadChute 77 = .ok (.iinc 3 1, 3) := by decide +kernel
theorem dX11_loadChute_80 : decode cX11_loadChute 80 = .ok (.goto (-49), 3) := by decide +kernel
theorem dX11_loadChute_83 : decode cX11_loadChute 83 = .ok (.iload_n 2, 1) := by decide +kernel
theorem dX11_loadChute_84 : decode cX11_loadChute 84 = .ok (.ireturn, 1) := by decide +kernel
theorem dX11_positions_0 : decode cX11_positions 0 = .ok (.aload_n 0, 1) := by decide +kernel
theorem dX11_positions_1 : decode cX11_positions 1 = .ok (.getfield 17, 3) := by decide +kernel
theorem dX11_positions_4 : decode cX11_positions 4 = .ok (.iconst 0, 1) := by decide +kernel
theorem dX11_positions_5 : decode cX11_positions 5 = .ok (.iaload, 1) := by decide +kernel
theorem dX11_positions_6 : decode cX11_positions 6 = .ok (.ireturn, 1) := by decide +kernel
theorem dX11_deviceAt_0 : decode cX11_deviceAt 0 = .ok (.aload_n 0, 1) := by decide +kernel
theorem dX11_deviceAt_1 : decode cX11_deviceAt 1 = .ok (.iload_n 1, 1) := by decide +kernel
theorem dX11_deviceAt_2 : decode cX11_deviceAt 2 = .ok (.invokevirtual 313, 3) := by decide +kernel
theorem dX11_deviceAt_5 : decode cX11_deviceAt 5 = .ok (.ifCond .eq 15, 3) := by decide +kernel
theorem dX11_deviceAt_8 : decode cX11_deviceAt 8 = .ok (.aload_n 0, 1) := by decide +kernel
theorem dX11_deviceAt_9 : decode cX11_deviceAt 9 = .ok (.getfield 17, 3) := by decide +kernel
theorem dX11_deviceAt_12 : decode cX11_deviceAt 12 = .ok (.bipush 20, 2) := by decide +kernel
theorem dX11_deviceAt_14 : decode cX11_deviceAt 14 = .ok (.iload_n 1, 1) := by decide +kernel
theorem dX11_deviceAt_15 : decode cX11_deviceAt 15 = .ok (.iadd, 1) := by decide +kernel
theorem dX11_deviceAt_16 : decode cX11_deviceAt 16 = .ok (.iaload, 1) := by decide +kernel
theorem dX11_deviceAt_17 : decode cX11_deviceAt 17 = .ok (.goto 4, 3) := by decide +kernel
theorem dX11_deviceAt_20 : decode cX11_deviceAt 20 = .ok (.iconst (-1), 1) := by decide +kernel
theorem dX11_deviceAt_21 : decode cX11_deviceAt 21 = .ok (.ireturn, 1) := by decide +kernel
theorem dX11_devices_0 : decode cX11_devices 0 = .ok (.iload_n 1, 1) := by decide +kernel
theorem dX11_devices_1 : decode cX11_devices 1 = .ok (.i2l, 1) := by decide +kernel
theorem dX11_devices_2 : decode cX11_devices 2 = .ok (.lconst 1, 1) := by decide +kernel
theorem dX11_devices_3 : decode cX11_devices 3 = .ok (.ldc2_w 316, 3) := by decide +kernel
theorem dX11_devices_6 : decode cX11_devices 6 = .ok (.invokestatic 88, 3) := by decide +kernel
theorem dX11_devices_9 : decode cX11_devices 9 = .ok (.ifCond .eq 11, 3) := by decide +kernel
theorem dX11_devices_12 : decode cX11_devices 12 = .ok (.aload_n 0, 1) := by decide +kernel
theorem dX11_devices_13 : decode cX11_devices 13 = .ok (.iload_n 1, 1) := by decide +kernel
theorem dX11_devices_14 : decode cX11_devices 14 = .ok (.invokevirtual 183, 3) := by decide +kernel
theorem dX11_devices_17 : decode cX11_devices 17 = .ok (.goto 4, 3) := by decide +kernel
theorem dX11_devices_20 : decode cX11_devices 20 = .ok (.iconst (-1), 1) := by decide +kernel
theorem dX11_devices_21 : decode cX11_devices 21 = .ok (.ireturn, 1) := by decide +kernel
theorem dX11_flights_0 : decode cX11_flights 0 = .ok (.aload_n 0, 1) := by decide +kernel
theorem dX11_flights_1 : decode cX11_flights 1 = .ok (.getfield 17, 3) := by decide +kernel
theorem dX11_flights_4 : decode cX11_flights 4 = .ok (.iconst 4, 1) := by decide +kernel
theorem dX11_flights_5 : decode cX11_flights 5 = .ok (.iaload, 1) := by decide +kernel
theorem dX11_flights_6 : decode cX11_flights 6 = .ok (.ireturn, 1) := by decide +kernel
theorem dX11_flightNumber_0 : decode cX11_flightNumber 0 = .ok (.aload_n 0, 1) := by decide +kernel
theorem dX11_flightNumber_1 : decode cX11_flightNumber 1 = .ok (.iload_n 1, 1) := by decide +kernel
theorem dX11_flightNumber_2 : decode cX11_flightNumber 2 = .ok (.invokevirtual 318, 3) := by decide +kernel
theorem dX11_flightNumber_5 : decode cX11_flightNumber 5 = .ok (.ifCond .eq 12, 3) := by decide +kernel
theorem dX11_flightNumber_8 : decode cX11_flightNumber 8 = .ok (.aload_n 0, 1) := by decide +kernel
theorem dX11_flightNumber_9 : decode cX11_flightNumber 9 = .ok (.iload_n 1, 1) := by decide +kernel
theorem dX11_flightNumber_10 : decode cX11_flightNumber 10 = .ok (.iconst 0, 1) := by decide +kernel
theorem dX11_flightNumber_11 : decode cX11_flightNumber 11 = .ok (.invokevirtual 186, 3) := by decide +kernel
theorem dX11_flightNumber_14 : decode cX11_flightNumber 14 = .ok (.goto 4, 3) := by decide +kernel
theorem dX11_flightNumber_17 : decode cX11_flightNumber 17 = .ok (.iconst (-1), 1) := by decide +kernel
theorem dX11_flightNumber_18 : decode cX11_flightNumber 18 = .ok (.ireturn, 1) := by decide +kernel
theorem dX11_flightState_0 : decode cX11_flightState 0 = .ok (.aload_n 0, 1) := by decide +kernel
theorem dX11_flightState_1 : decode cX11_flightState 1 = .ok (.iload_n 1, 1) := by decide +kernel
theorem dX11_flightState_2 : decode cX11_flightState 2 = .ok (.invokevirtual 318, 3) := by decide +kernel
theorem dX11_flightState_5 : decode cX11_flightState 5 = .ok (.ifCond .eq 11, 3) := by decide +kernel
theorem dX11_flightState_8 : decode cX11_flightState 8 = .ok (.aload_n 0, 1) := by decide +kernel
theorem dX11_flightState_9 : decode cX11_flightState 9 = .ok (.iload_n 1, 1) := by decide +kernel
theorem dX11_flightState_10 : decode cX11_flightState 10 = .ok (.invokevirtual 192, 3) := by decide +kernel
theorem dX11_flightState_13 : decode cX11_flightState 13 = .ok (.goto 4, 3) := by decide +kernel
theorem dX11_flightState_16 : decode cX11_flightState 16 = .ok (.iconst (-1), 1) := by decide +kernel
theorem dX11_flightState_17 : decode cX11_flightState 17 = .ok (.ireturn, 1) := by decide +kernel
theorem dX11_tick_0 : decode cX11_tick 0 = .ok (.aload_n 0, 1) := by decide +kernel
theorem dX11_tick_1 : decode cX11_tick 1 = .ok (.getfield 24, 3) := by decide +kernel
theorem dX11_tick_4 : decode cX11_tick 4 = .ok (.iconst 0, 1) := by decide +kernel
theorem dX11_tick_5 : decode cX11_tick 5 = .ok (.iaload, 1) := by decide +kernel
theorem dX11_tick_6 : decode cX11_tick 6 = .ok (.ireturn, 1) := by decide +kernel
theorem dX11_bagAt_0 : decode cX11_bagAt 0 = .ok (.aload_n 0, 1) := by decide +kernel
theorem dX11_bagAt_1 : decode cX11_bagAt 1 = .ok (.iload_n 1, 1) := by decide +kernel
theorem dX11_bagAt_2 : decode cX11_bagAt 2 = .ok (.invokevirtual 313, 3) := by decide +kernel
theorem dX11_bagAt_5 : decode cX11_bagAt 5 = .ok (.ifCond .eq 15, 3) := by decide +kernel
theorem dX11_bagAt_8 : decode cX11_bagAt 8 = .ok (.aload_n 0, 1) := by decide +kernel
theorem dX11_bagAt_9 : decode cX11_bagAt 9 = .ok (.getfield 24, 3) := by decide +kernel
theorem dX11_bagAt_12 : decode cX11_bagAt 12 = .ok (.bipush 90, 2) := by decide +kernel
theorem dX11_bagAt_14 : decode cX11_bagAt 14 = .ok (.iload_n 1, 1) := by decide +kernel
theorem dX11_bagAt_15 : decode cX11_bagAt 15 = .ok (.iadd, 1) := by decide +kernel
theorem dX11_bagAt_16 : decode cX11_bagAt 16 = .ok (.iaload, 1) := by decide +kernel
theorem dX11_bagAt_17 : decode cX11_bagAt 17 = .ok (.goto 4, 3) := by decide +kernel
theorem dX11_bagAt_20 : decode cX11_bagAt 20 = .ok (.iconst (-1), 1) := by decide +kernel
theorem dX11_bagAt_21 : decode cX11_bagAt 21 = .ok (.ireturn, 1) := by decide +kernel
theorem dX11_hasRecord_0 : decode cX11_hasRecord 0 = .ok (.aload_n 0, 1) := by decide +kernel
theorem dX11_hasRecord_1 : decode cX11_hasRecord 1 = .ok (.iload_n 1, 1) := by decide +kernel
theorem dX11_hasRecord_2 : decode cX11_hasRecord 2 = .ok (.invokevirtual 313, 3) := by decide +kernel
theorem dX11_hasRecord_5 : decode cX11_hasRecord 5 = .ok (.ifCond .eq 21, 3) := by decide +kernel
theorem dX11_hasRecord_8 : decode cX11_hasRecord 8 = .ok (.aload_n 0, 1) := by decide +kernel
theorem dX11_hasRecord_9 : decode cX11_hasRecord 9 = .ok (.getfield 24, 3) := by decide +kernel
theorem dX11_hasRecord_12 : decode cX11_hasRecord 12 = .ok (.sipush 150, 3) := by decide +kernel
theorem dX11_hasRecord_15 : decode cX11_hasRecord 15 = .ok (.iload_n 1, 1) := by decide +kernel
theorem dX11_hasRecord_16 : decode cX11_hasRecord 16 = .ok (.iadd, 1) := by decide +kernel
theorem dX11_hasRecord_17 : decode cX11_hasRecord 17 = .ok (.iaload, 1) := by decide +kernel
theorem dX11_hasRecord_18 : decode cX11_hasRecord 18 = .ok (.iconst 1, 1) := by decide +kernel
theorem dX11_hasRecord_19 : decode cX11_hasRecord 19 = .ok (.if_icmp .ne 7, 3) := by decide +kernel
theorem dX11_hasRecord_22 : decode cX11_hasRecord 22 = .ok (.iconst 1, 1) := by decide +kernel
theorem dX11_hasRecord_23 : decode cX11_hasRecord 23 = .ok (.goto 4, 3) := by decide +kernel
theorem dX11_hasRecord_26 : decode cX11_hasRecord 26 = .ok (.iconst 0, 1) := by decide +kernel
theorem dX11_hasRecord_27 : decode cX11_hasRecord 27 = .ok (.ireturn, 1) := by decide +kernel
theorem dX11_recordLabel_0 : decode cX11_recordLabel 0 = .ok (.aload_n 0, 1) := by decide +kernel
theorem dX11_recordLabel_1 : decode cX11_recordLabel 1 = .ok (.iload_n 1, 1) := by decide +kernel
theorem dX11_recordLabel_2 : decode cX11_recordLabel 2 = .ok (.invokevirtual 313, 3) := by decide +kernel
theorem dX11_recordLabel_5 : decode cX11_recordLabel 5 = .ok (.ifCond .ne 5, 3) := by decide +kernel
theorem dX11_recordLabel_8 : decode cX11_recordLabel 8 = .ok (.iconst (-1), 1) := by decide +kernel
theorem dX11_recordLabel_9 : decode cX11_recordLabel 9 = .ok (.ireturn, 1) := by decide +kernel
theorem dX11_recordLabel_10 : decode cX11_recordLabel 10 = .ok (.aload_n 0, 1) := by decide +kernel
theorem dX11_recordLabel_11 : decode cX11_recordLabel 11 = .ok (.iload_n 1, 1) := by decide +kernel
theorem dX11_recordLabel_12 : decode cX11_recordLabel 12 = .ok (.invokevirtual 321, 3) := by decide +kernel
theorem dX11_recordLabel_15 : decode cX11_recordLabel 15 = .ok (.ifCond .ne 6, 3) := by decide +kernel
theorem dX11_recordLabel_18 : decode cX11_recordLabel 18 = .ok (.bipush (-2), 2) := by decide +kernel
theorem dX11_recordLabel_20 : decode cX11_recordLabel 20 = .ok (.ireturn, 1) := by decide +kernel
theorem dX11_recordLabel_21 : decode cX11_recordLabel 21 = .ok (.aload_n 0, 1) := by decide +kernel
theorem dX11_recordLabel_22 : decode cX11_recordLabel 22 = .ok (.getfield 24, 3) := by decide +kernel
theorem dX11_recordLabel_25 : decode cX11_recordLabel 25 = .ok (.sipush 210, 3) := by decide +kernel
theorem dX11_recordLabel_28 : decode cX11_recordLabel 28 = .ok (.iload_n 1, 1) := by decide +kernel
theorem dX11_recordLabel_29 : decode cX11_recordLabel 29 = .ok (.iadd, 1) := by decide +kernel
theorem dX11_recordLabel_30 : decode cX11_recordLabel 30 = .ok (.iaload, 1) := by decide +kernel
theorem dX11_recordLabel_31 : decode cX11_recordLabel 31 = .ok (.ifCond .ge 7, 3) := by decide +kernel
theorem dX11_recordLabel_34 : decode cX11_recordLabel 34 = .ok (.iconst 1, 1) := by decide +kernel
theorem dX11_recordLabel_35 : decode cX11_recordLabel 35 = .ok (.goto 13, 3) := by decide +kernel
theorem dX11_recordLabel_38 : decode cX11_recordLabel 38 = .ok (.aload_n 0, 1) := by decide +kernel
theorem dX11_recordLabel_39 : decode cX11_recordLabel 39 = .ok (.getfield 24, 3) := by decide +kernel
theorem dX11_recordLabel_42 : decode cX11_recordLabel 42 = .ok (.sipush 210, 3) := by decide +kernel
theorem dX11_recordLabel_45 : decode cX11_recordLabel 45 = .ok (.iload_n 1, 1) := by decide +kernel
theorem dX11_recordLabel_46 : decode cX11_recordLabel 46 = .ok (.iadd, 1) := by decide +kernel
theorem dX11_recordLabel_47 : decode cX11_recordLabel 47 = .ok (.iaload, 1) := by decide +kernel
theorem dX11_recordLabel_48 : decode cX11_recordLabel 48 = .ok (.ireturn, 1) := by decide +kernel
theorem dX11_isCleared_0 : decode cX11_isCleared 0 = .ok (.aload_n 0, 1) := by decide +kernel
theorem dX11_isCleared_1 : decode cX11_isCleared 1 = .ok (.iload_n 1, 1) := by decide +kernel
theorem dX11_isCleared_2 : decode cX11_isCleared 2 = .ok (.invokevirtual 321, 3) := by decide +kernel
theorem dX11_isCleared_5 : decode cX11_isCleared 5 = .ok (.ifCond .eq 21, 3) := by decide +kernel
theorem dX11_isCleared_8 : decode cX11_isCleared 8 = .ok (.aload_n 0, 1) := by decide +kernel
theorem dX11_isCleared_9 : decode cX11_isCleared 9 = .ok (.getfield 24, 3) := by decide +kernel
theorem dX11_isCleared_12 : decode cX11_isCleared 12 = .ok (.sipush 270, 3) := by decide +kernel
theorem dX11_isCleared_15 : decode cX11_isCleared 15 = .ok (.iload_n 1, 1) := by decide +kernel
theorem dX11_isCleared_16 : decode cX11_isCleared 16 = .ok (.iadd, 1) := by decide +kernel
theorem dX11_isCleared_17 : decode cX11_isCleared 17 = .ok (.iaload, 1) := by decide +kernel
theorem dX11_isCleared_18 : decode cX11_isCleared 18 = .ok (.iconst 1, 1) := by decide +kernel
theorem dX11_isCleared_19 : decode cX11_isCleared 19 = .ok (.if_icmp .ne 7, 3) := by decide +kernel
theorem dX11_isCleared_22 : decode cX11_isCleared 22 = .ok (.iconst 1, 1) := by decide +kernel
theorem dX11_isCleared_23 : decode cX11_isCleared 23 = .ok (.goto 4, 3) := by decide +kernel
theorem dX11_isCleared_26 : decode cX11_isCleared 26 = .ok (.iconst 0, 1) := by decide +kernel
theorem dX11_isCleared_27 : decode cX11_isCleared 27 = .ok (.ireturn, 1) := by decide +kernel
theorem dX11_passes_0 : decode cX11_passes 0 = .ok (.aload_n 0, 1) := by decide +kernel
theorem dX11_passes_1 : decode cX11_passes 1 = .ok (.iload_n 1, 1) := by decide +kernel
theorem dX11_passes_2 : decode cX11_passes 2 = .ok (.invokevirtual 313, 3) := by decide +kernel
theorem dX11_passes_5 : decode cX11_passes 5 = .ok (.ifCond .ne 7, 3) := by decide +kernel
theorem dX11_passes_8 : decode cX11_passes 8 = .ok (.iconst (-1), 1) := by decide +kernel
theorem dX11_passes_9 : decode cX11_passes 9 = .ok (.goto 26, 3) := by decide +kernel
theorem dX11_passes_12 : decode cX11_passes 12 = .ok (.aload_n 0, 1) := by decide +kernel
theorem dX11_passes_13 : decode cX11_passes 13 = .ok (.iload_n 1, 1) := by decide +kernel
theorem dX11_passes_14 : decode cX11_passes 14 = .ok (.invokevirtual 321, 3) := by decide +kernel
theorem dX11_passes_17 : decode cX11_passes 17 = .ok (.ifCond .eq 16, 3) := by decide +kernel
theorem dX11_passes_20 : decode cX11_passes 20 = .ok (.aload_n 0, 1) := by decide +kernel
theorem dX11_passes_21 : decode cX11_passes 21 = .ok (.getfield 24, 3) := by decide +kernel
theorem dX11_passes_24 : decode cX11_passes 24 = .ok (.sipush 330, 3) := by decide +kernel
theorem dX11_passes_27 : decode cX11_passes 27 = .ok (.iload_n 1, 1) := by decide +kernel
theorem dX11_passes_28 : decode cX11_passes 28 = .ok (.iadd, 1) := by decide +kernel
theorem dX11_passes_29 : decode cX11_passes 29 = .ok (.iaload, 1) := by decide +kernel
theorem dX11_passes_30 : decode cX11_passes 30 = .ok (.goto 5, 3) := by decide +kernel
theorem dX11_passes_33 : decode cX11_passes 33 = .ok (.bipush (-2), 2) := by decide +kernel
theorem dX11_passes_35 : decode cX11_passes 35 = .ok (.ireturn, 1) := by decide +kernel
theorem dX11_destination_0 : decode cX11_destination 0 = .ok (.aload_n 0, 1) := by decide +kernel
theorem dX11_destination_1 : decode cX11_destination 1 = .ok (.iload_n 1, 1) := by decide +kernel
theorem dX11_destination_2 : decode cX11_destination 2 = .ok (.invokevirtual 313, 3) := by decide +kernel
theorem dX11_destination_5 : decode cX11_destination 5 = .ok (.ifCond .ne 7, 3) := by decide +kernel
theorem dX11_destination_8 : decode cX11_destination 8 = .ok (.iconst (-1), 1) := by decide +kernel
theorem dX11_destination_9 : decode cX11_destination 9 = .ok (.goto 21, 3) := by decide +kernel
theorem dX11_destination_12 : decode cX11_destination 12 = .ok (.aload_n 0, 1) := by decide +kernel
theorem dX11_destination_13 : decode cX11_destination 13 = .ok (.iload_n 1, 1) := by decide +kernel
theorem dX11_destination_14 : decode cX11_destination 14 = .ok (.invokevirtual 321, 3) := by decide +kernel
theorem dX11_destination_17 : decode cX11_destination 17 = .ok (.ifCond .eq 11, 3) := by decide +kernel
theorem dX11_destination_20 : decode cX11_destination 20 = .ok (.aload_n 0, 1) := by decide +kernel
theorem dX11_destination_21 : decode cX11_destination 21 = .ok (.iload_n 1, 1) := by decide +kernel
theorem dX11_destination_22 : decode cX11_destination 22 = .ok (.invokevirtual 246, 3) := by decide +kernel
theorem dX11_destination_25 : decode cX11_destination 25 = .ok (.goto 5, 3) := by decide +kernel
theorem dX11_destination_28 : decode cX11_destination 28 = .ok (.bipush (-2), 2) := by decide +kernel
theorem dX11_destination_30 : decode cX11_destination 30 = .ok (.ireturn, 1) := by decide +kernel
theorem dX11_bags_0 : decode cX11_bags 0 = .ok (.aload_n 0, 1) := by decide +kernel
theorem dX11_bags_1 : decode cX11_bags 1 = .ok (.getfield 24, 3) := by decide +kernel
theorem dX11_bags_4 : decode cX11_bags 4 = .ok (.iconst 1, 1) := by decide +kernel
theorem dX11_bags_5 : decode cX11_bags 5 = .ok (.iaload, 1) := by decide +kernel
theorem dX11_bags_6 : decode cX11_bags 6 = .ok (.ireturn, 1) := by decide +kernel
theorem dX11_bagState_0 : decode cX11_bagState 0 = .ok (.aload_n 0, 1) := by decide +kernel
theorem dX11_bagState_1 : decode cX11_bagState 1 = .ok (.iload_n 1, 1) := by decide +kernel
theorem dX11_bagState_2 : decode cX11_bagState 2 = .ok (.invokevirtual 324, 3) := by decide +kernel
theorem dX11_bagState_5 : decode cX11_bagState 5 = .ok (.ifCond .eq 12, 3) := by decide +kernel
theorem dX11_bagState_8 : decode cX11_bagState 8 = .ok (.aload_n 0, 1) := by decide +kernel
theorem dX11_bagState_9 : decode cX11_bagState 9 = .ok (.iload_n 1, 1) := by decide +kernel
theorem dX11_bagState_10 : decode cX11_bagState 10 = .ok (.iconst 0, 1) := by decide +kernel
theorem dX11_bagState_11 : decode cX11_bagState 11 = .ok (.invokevirtual 198, 3) := by decide +kernel
theorem dX11_bagState_14 : decode cX11_bagState 14 = .ok (.goto 4, 3) := by decide +kernel
theorem dX11_bagState_17 : decode cX11_bagState 17 = .ok (.iconst (-1), 1) := by decide +kernel
theorem dX11_bagState_18 : decode cX11_bagState 18 = .ok (.ireturn, 1) := by decide +kernel
theorem dX11_bagPlace_0 : decode cX11_bagPlace 0 = .ok (.aload_n 0, 1) := by decide +kernel
theorem dX11_bagPlace_1 : decode cX11_bagPlace 1 = .ok (.iload_n 1, 1) := by decide +kernel
theorem dX11_bagPlace_2 : decode cX11_bagPlace 2 = .ok (.invokevirtual 324, 3) := by decide +kernel
theorem dX11_bagPlace_5 : decode cX11_bagPlace 5 = .ok (.ifCond .eq 12, 3) := by decide +kernel
theorem dX11_bagPlace_8 : decode cX11_bagPlace 8 = .ok (.aload_n 0, 1) := by decide +kernel
theorem dX11_bagPlace_9 : decode cX11_bagPlace 9 = .ok (.iload_n 1, 1) := by decide +kernel
theorem dX11_bagPlace_10 : decode cX11_bagPlace 10 = .ok (.iconst 1, 1) := by decide +kernel
theorem dX11_bagPlace_11 : decode cX11_bagPlace 11 = .ok (.invokevirtual 198, 3) := by decide +kernel
theorem dX11_bagPlace_14 : decode cX11_bagPlace 14 = .ok (.goto 4, 3) := by decide +kernel
theorem dX11_bagPlace_17 : decode cX11_bagPlace 17 = .ok (.iconst (-1), 1) := by decide +kernel
theorem dX11_bagPlace_18 : decode cX11_bagPlace 18 = .ok (.ireturn, 1) := by decide +kernel
theorem dX11_isIn_0 : decode cX11_isIn 0 = .ok (.aload_n 0, 1) := by decide +kernel
theorem dX11_isIn_1 : decode cX11_isIn 1 = .ok (.iload_n 1, 1) := by decide +kernel
theorem dX11_isIn_2 : decode cX11_isIn 2 = .ok (.iconst 0, 1) := by decide +kernel
theorem dX11_isIn_3 : decode cX11_isIn 3 = .ok (.invokevirtual 198, 3) := by decide +kernel
theorem dX11_isIn_6 : decode cX11_isIn 6 = .ok (.iconst 2, 1) := by decide +kernel
theorem dX11_isIn_7 : decode cX11_isIn 7 = .ok (.if_icmp .eq 13, 3) := by decide +kernel
theorem dX11_isIn_10 : decode cX11_isIn 10 = .ok (.aload_n 0, 1) := by decide +kernel
theorem dX11_isIn_11 : decode cX11_isIn 11 = .ok (.iload_n 1, 1) := by decide +kernel
theorem dX11_isIn_12 : decode cX11_isIn 12 = .ok (.iconst 0, 1) := by decide +kernel
theorem dX11_isIn_13 : decode cX11_isIn 13 = .ok (.invokevirtual 198, 3) := by decide +kernel
theorem dX11_isIn_16 : decode cX11_isIn 16 = .ok (.iconst 3, 1) := by decide +kernel
theorem dX11_isIn_17 : decode cX11_isIn 17 = .ok (.if_icmp .ne 7, 3) := by decide +kernel
theorem dX11_isIn_20 : decode cX11_isIn 20 = .ok (.iconst 1, 1) := by decide +kernel
theorem dX11_isIn_21 : decode cX11_isIn 21 = .ok (.goto 4, 3) := by decide +kernel
theorem dX11_isIn_24 : decode cX11_isIn 24 = .ok (.iconst 0, 1) := by decide +kernel
theorem dX11_isIn_25 : decode cX11_isIn 25 = .ok (.ireturn, 1) := by decide +kernel
theorem dX11_deliveredAt_0 : decode cX11_deliveredAt 0 = .ok (.aload_n 0, 1) := by decide +kernel
theorem dX11_deliveredAt_1 : decode cX11_deliveredAt 1 = .ok (.iload_n 1, 1) := by decide +kernel
theorem dX11_deliveredAt_2 : decode cX11_deliveredAt 2 = .ok (.invokevirtual 324, 3) := by decide +kernel
theorem dX11_deliveredAt_5 : decode cX11_deliveredAt 5 = .ok (.ifCond .ne 7, 3) := by decide +kernel
theorem dX11_deliveredAt_8 : decode cX11_deliveredAt 8 = .ok (.iconst (-1), 1) := by decide +kernel
theorem dX11_deliveredAt_9 : decode cX11_deliveredAt 9 = .ok (.goto 23, 3) := by decide +kernel
theorem dX11_deliveredAt_12 : decode cX11_deliveredAt 12 = .ok (.aload_n 0, 1) := by decide +kernel
theorem dX11_deliveredAt_13 : decode cX11_deliveredAt 13 = .ok (.iload_n 1, 1) := by decide +kernel
theorem dX11_deliveredAt_14 : decode cX11_deliveredAt 14 = .ok (.invokevirtual 327, 3) := by decide +kernel
theorem dX11_deliveredAt_17 : decode cX11_deliveredAt 17 = .ok (.ifCond .eq 13, 3) := by decide +kernel
theorem dX11_deliveredAt_20 : decode cX11_deliveredAt 20 = .ok (.aload_n 0, 1) := by decide +kernel
theorem dX11_deliveredAt_21 : decode cX11_deliveredAt 21 = .ok (.iload_n 1, 1) := by decide +kernel
theorem dX11_deliveredAt_22 : decode cX11_deliveredAt 22 = .ok (.bipush 6, 2) := by decide +kernel
theorem dX11_deliveredAt_24 : decode cX11_deliveredAt 24 = .ok (.invokevirtual 198, 3) := by decide +kernel
theorem dX11_deliveredAt_27 : decode cX11_deliveredAt 27 = .ok (.goto 5, 3) := by decide +kernel
theorem dX11_deliveredAt_30 : decode cX11_deliveredAt 30 = .ok (.bipush (-2), 2) := by decide +kernel
theorem dX11_deliveredAt_32 : decode cX11_deliveredAt 32 = .ok (.ireturn, 1) := by decide +kernel
theorem dX11_properLabel_0 : decode cX11_properLabel 0 = .ok (.aload_n 0, 1) := by decide +kernel
theorem dX11_properLabel_1 : decode cX11_properLabel 1 = .ok (.iload_n 1, 1) := by decide +kernel
theorem dX11_properLabel_2 : decode cX11_properLabel 2 = .ok (.invokevirtual 324, 3) := by decide +kernel
theorem dX11_properLabel_5 : decode cX11_properLabel 5 = .ok (.ifCond .eq 11, 3) := by decide +kernel
theorem dX11_properLabel_8 : decode cX11_properLabel 8 = .ok (.aload_n 0, 1) := by decide +kernel
theorem dX11_properLabel_9 : decode cX11_properLabel 9 = .ok (.iload_n 1, 1) := by decide +kernel
theorem dX11_properLabel_10 : decode cX11_properLabel 10 = .ok (.invokevirtual 211, 3) := by decide +kernel
theorem dX11_properLabel_13 : decode cX11_properLabel 13 = .ok (.goto 4, 3) := by decide +kernel
theorem dX11_properLabel_16 : decode cX11_properLabel 16 = .ok (.iconst (-1), 1) := by decide +kernel
theorem dX11_properLabel_17 : decode cX11_properLabel 17 = .ok (.ireturn, 1) := by decide +kernel
theorem dX11_sizeOf_0 : decode cX11_sizeOf 0 = .ok (.aload_n 0, 1) := by decide +kernel
theorem dX11_sizeOf_1 : decode cX11_sizeOf 1 = .ok (.iload_n 1, 1) := by decide +kernel
theorem dX11_sizeOf_2 : decode cX11_sizeOf 2 = .ok (.iload_n 2, 1) := by decide +kernel
theorem dX11_sizeOf_3 : decode cX11_sizeOf 3 = .ok (.invokevirtual 290, 3) := by decide +kernel
theorem dX11_sizeOf_6 : decode cX11_sizeOf 6 = .ok (.ifCond .eq 12, 3) := by decide +kernel
theorem dX11_sizeOf_9 : decode cX11_sizeOf 9 = .ok (.aload_n 0, 1) := by decide +kernel
theorem dX11_sizeOf_10 : decode cX11_sizeOf 10 = .ok (.iload_n 3, 1) := by decide +kernel
theorem dX11_sizeOf_11 : decode cX11_sizeOf 11 = .ok (.iload_n 2, 1) := by decide +kernel
theorem dX11_sizeOf_12 : decode cX11_sizeOf 12 = .ok (.invokevirtual 252, 3) := by decide +kernel
theorem dX11_sizeOf_15 : decode cX11_sizeOf 15 = .ok (.goto 4, 3) := by decide +kernel
theorem dX11_sizeOf_18 : decode cX11_sizeOf 18 = .ok (.iconst (-1), 1) := by decide +kernel
theorem dX11_sizeOf_19 : decode cX11_sizeOf 19 = .ok (.ireturn, 1) := by decide +kernel
theorem dX11_waiting_0 : decode cX11_waiting 0 = .ok (.aload_n 0, 1) := by decide +kernel
theorem dX11_waiting_1 : decode cX11_waiting 1 = .ok (.iconst 1, 1) := by decide +kernel
theorem dX11_waiting_2 : decode cX11_waiting 2 = .ok (.iload_n 1, 1) := by decide +kernel
theorem dX11_waiting_3 : decode cX11_waiting 3 = .ok (.iconst 0, 1) := by decide +kernel
theorem dX11_waiting_4 : decode cX11_waiting 4 = .ok (.invokevirtual 330, 3) := by decide +kernel
theorem dX11_waiting_7 : decode cX11_waiting 7 = .ok (.ireturn, 1) := by decide +kernel
theorem dX11_chuteSize_0 : decode cX11_chuteSize 0 = .ok (.aload_n 0, 1) := by decide +kernel
theorem dX11_chuteSize_1 : decode cX11_chuteSize 1 = .ok (.iconst 3, 1) := by decide +kernel
theorem dX11_chuteSize_2 : decode cX11_chuteSize 2 = .ok (.iload_n 1, 1) := by decide +kernel
theorem dX11_chuteSize_3 : decode cX11_chuteSize 3 = .ok (.iconst 2, 1) := by decide +kernel
theorem dX11_chuteSize_4 : decode cX11_chuteSize 4 = .ok (.invokevirtual 330, 3) := by decide +kernel
theorem dX11_chuteSize_7 : decode cX11_chuteSize 7 = .ok (.ireturn, 1) := by decide +kernel
theorem dX11_screenSize_0 : decode cX11_screenSize 0 = .ok (.aload_n 0, 1) := by decide +kernel
theorem dX11_screenSize_1 : decode cX11_screenSize 1 = .ok (.iconst 4, 1) := by decide +kernel
theorem dX11_screenSize_2 : decode cX11_screenSize 2 = .ok (.iload_n 1, 1) := by decide +kernel
theorem dX11_screenSize_3 : decode cX11_screenSize 3 = .ok (.iconst 4, 1) := by decide +kernel
theorem dX11_screenSize_4 : decode cX11_screenSize 4 = .ok (.invokevirtual 330, 3) := by decide +kernel
theorem dX11_screenSize_7 : decode cX11_screenSize 7 = .ok (.ireturn, 1) := by decide +kernel
theorem dX11_screenLevel_0 : decode cX11_screenLevel 0 = .ok (.aload_n 0, 1) := by decide +kernel
theorem dX11_screenLevel_1 : decode cX11_screenLevel 1 = .ok (.iconst 4, 1) := by decide +kernel
theorem dX11_screenLevel_2 : decode cX11_screenLevel 2 = .ok (.iload_n 1, 1) := by decide +kernel
theorem dX11_screenLevel_3 : decode cX11_screenLevel 3 = .ok (.invokevirtual 290, 3) := by decide +kernel
theorem dX11_screenLevel_6 : decode cX11_screenLevel 6 = .ok (.ifCond .ne 5, 3) := by decide +kernel
theorem dX11_screenLevel_9 : decode cX11_screenLevel 9 = .ok (.iconst (-1), 1) := by decide +kernel
theorem dX11_screenLevel_10 : decode cX11_screenLevel 10 = .ok (.ireturn, 1) := by decide +kernel
theorem dX11_screenLevel_11 : decode cX11_screenLevel 11 = .ok (.aload_n 0, 1) := by decide +kernel
theorem dX11_screenLevel_12 : decode cX11_screenLevel 12 = .ok (.iconst 4, 1) := by decide +kernel
theorem dX11_screenLevel_13 : decode cX11_screenLevel 13 = .ok (.iload_n 1, 1) := by decide +kernel
theorem dX11_screenLevel_14 : decode cX11_screenLevel 14 = .ok (.invokevirtual 252, 3) := by decide +kernel
theorem dX11_screenLevel_17 : decode cX11_screenLevel 17 = .ok (.ifCond .ne 7, 3) := by decide +kernel
theorem dX11_screenLevel_20 : decode cX11_screenLevel 20 = .ok (.iconst 0, 1) := by decide +kernel
theorem dX11_screenLevel_21 : decode cX11_screenLevel 21 = .ok (.goto 14, 3) := by decide +kernel
theorem dX11_screenLevel_24 : decode cX11_screenLevel 24 = .ok (.aload_n 0, 1) := by decide +kernel
theorem dX11_screenLevel_25 : decode cX11_screenLevel 25 = .ok (.getfield 24, 3) := by decide +kernel
theorem dX11_screenLevel_28 : decode cX11_screenLevel 28 = .ok (.bipush 77, 2) := by decide +kernel
theorem dX11_screenLevel_30 : decode cX11_screenLevel 30 = .ok (.iload_n 1, 1) := by decide +kernel
theorem dX11_screenLevel_31 : decode cX11_screenLevel 31 = .ok (.iadd, 1) := by decide +kernel
theorem dX11_screenLevel_32 : decode cX11_screenLevel 32 = .ok (.iaload, 1) := by decide +kernel
theorem dX11_screenLevel_33 : decode cX11_screenLevel 33 = .ok (.iconst 1, 1) := by decide +kernel
theorem dX11_screenLevel_34 : decode cX11_screenLevel 34 = .ok (.iadd, 1) := by decide +kernel
theorem dX11_screenLevel_35 : decode cX11_screenLevel 35 = .ok (.ireturn, 1) := by decide +kernel
theorem dX11_storeSize_0 : decode cX11_storeSize 0 = .ok (.aload_n 0, 1) := by decide +kernel
theorem dX11_storeSize_1 : decode cX11_storeSize 1 = .ok (.iconst 5, 1) := by decide +kernel
theorem dX11_storeSize_2 : decode cX11_storeSize 2 = .ok (.iload_n 1, 1) := by decide +kernel
theorem dX11_storeSize_3 : decode cX11_storeSize 3 = .ok (.iconst 5, 1) := by decide +kernel
theorem dX11_storeSize_4 : decode cX11_storeSize 4 = .ok (.invokevirtual 330, 3) := by decide +kernel
theorem dX11_storeSize_7 : decode cX11_storeSize 7 = .ok (.ireturn, 1) := by decide +kernel
theorem dX11_stationSize_0 : decode cX11_stationSize 0 = .ok (.aload_n 0, 1) := by decide +kernel
theorem dX11_stationSize_1 : decode cX11_stationSize 1 = .ok (.bipush 6, 2) := by decide +kernel
theorem dX11_stationSize_3 : decode cX11_stationSize 3 = .ok (.iload_n 1, 1) := by decide +kernel
theorem dX11_stationSize_4 : decode cX11_stationSize 4 = .ok (.bipush 6, 2) := by decide +kernel
theorem dX11_stationSize_6 : decode cX11_stationSize 6 = .ok (.invokevirtual 330, 3) := by decide +kernel
theorem dX11_stationSize_9 : decode cX11_stationSize 9 = .ok (.ireturn, 1) := by decide +kernel
theorem dX11_exitSize_0 : decode cX11_exitSize 0 = .ok (.aload_n 0, 1) := by decide +kernel
theorem dX11_exitSize_1 : decode cX11_exitSize 1 = .ok (.iload_n 1, 1) := by decide +kernel
theorem dX11_exitSize_2 : decode cX11_exitSize 2 = .ok (.invokevirtual 313, 3) := by decide +kernel
theorem dX11_exitSize_5 : decode cX11_exitSize 5 = .ok (.ifCond .eq 27, 3) := by decide +kernel
theorem dX11_exitSize_8 : decode cX11_exitSize 8 = .ok (.aload_n 0, 1) := by decide +kernel
theorem dX11_exitSize_9 : decode cX11_exitSize 9 = .ok (.getfield 17, 3) := by decide +kernel
theorem dX11_exitSize_12 : decode cX11_exitSize 12 = .ok (.bipush 20, 2) := by decide +kernel
theorem dX11_exitSize_14 : decode cX11_exitSize 14 = .ok (.iload_n 1, 1) := by decide +kernel
theorem dX11_exitSize_15 : decode cX11_exitSize 15 = .ok (.iadd, 1) := by decide +kernel
theorem dX11_exitSize_16 : decode cX11_exitSize 16 = .ok (.iaload, 1) := by decide +kernel
theorem dX11_exitSize_17 : decode cX11_exitSize 17 = .ok (.bipush 7, 2) := by decide +kernel
theorem dX11_exitSize_19 : decode cX11_exitSize 19 = .ok (.if_icmp .ne 13, 3) := by decide +kernel
theorem dX11_exitSize_22 : decode cX11_exitSize 22 = .ok (.aload_n 0, 1) := by decide +kernel
theorem dX11_exitSize_23 : decode cX11_exitSize 23 = .ok (.bipush 7, 2) := by decide +kernel
theorem dX11_exitSize_25 : decode cX11_exitSize 25 = .ok (.iload_n 1, 1) := by decide +kernel
theorem dX11_exitSize_26 : decode cX11_exitSize 26 = .ok (.invokevirtual 252, 3) := by decide +kernel
theorem dX11_exitSize_29 : decode cX11_exitSize 29 = .ok (.goto 4, 3) := by decide +kernel
theorem dX11_exitSize_32 : decode cX11_exitSize 32 = .ok (.iconst (-1), 1) := by decide +kernel
theorem dX11_exitSize_33 : decode cX11_exitSize 33 = .ok (.ireturn, 1) := by decide +kernel
theorem dX11_readyAt_0 : decode cX11_readyAt 0 = .ok (.aload_n 0, 1) := by decide +kernel
theorem dX11_readyAt_1 : decode cX11_readyAt 1 = .ok (.iload_n 1, 1) := by decide +kernel
theorem dX11_readyAt_2 : decode cX11_readyAt 2 = .ok (.invokevirtual 313, 3) := by decide +kernel
theorem dX11_readyAt_5 : decode cX11_readyAt 5 = .ok (.ifCond .eq 37, 3) := by decide +kernel
theorem dX11_readyAt_8 : decode cX11_readyAt 8 = .ok (.aload_n 0, 1) := by decide +kernel
theorem dX11_readyAt_9 : decode cX11_readyAt 9 = .ok (.getfield 17, 3) := by decide +kernel
theorem dX11_readyAt_12 : decode cX11_readyAt 12 = .ok (.bipush 20, 2) := by decide +kernel
theorem dX11_readyAt_14 : decode cX11_readyAt 14 = .ok (.iload_n 1, 1) := by decide +kernel
theorem dX11_readyAt_15 : decode cX11_readyAt 15 = .ok (.iadd, 1) := by decide +kernel
theorem dX11_readyAt_16 : decode cX11_readyAt 16 = .ok (.iaload, 1) := by decide +kernel
theorem dX11_readyAt_17 : decode cX11_readyAt 17 = .ok (.i2l, 1) := by decide +kernel
theorem dX11_readyAt_18 : decode cX11_readyAt 18 = .ok (.ldc2_w 298, 3) := by decide +kernel
theorem dX11_readyAt_21 : decode cX11_readyAt 21 = .ok (.ldc2_w 316, 3) := by decide +kernel
theorem dX11_readyAt_24 : decode cX11_readyAt 24 = .ok (.invokestatic 88, 3) := by decide +kernel
theorem dX11_readyAt_27 : decode cX11_readyAt 27 = .ok (.ifCond .eq 15, 3) := by decide +kernel
theorem dX11_readyAt_30 : decode cX11_readyAt 30 = .ok (.aload_n 0, 1) := by decide +kernel
theorem dX11_readyAt_31 : decode cX11_readyAt 31 = .ok (.getfield 24, 3) := by decide +kernel
theorem dX11_readyAt_34 : decode cX11_readyAt 34 = .ok (.bipush 15, 2) := by decide +kernel
theorem dX11_readyAt_36 : decode cX11_readyAt 36 = .ok (.iload_n 1, 1) := by decide +kernel
theorem dX11_readyAt_37 : decode cX11_readyAt 37 = .ok (.iadd, 1) := by decide +kernel
theorem dX11_readyAt_38 : decode cX11_readyAt 38 = .ok (.iaload, 1) := by decide +kernel
theorem dX11_readyAt_39 : decode cX11_readyAt 39 = .ok (.goto 4, 3) := by decide +kernel
theorem dX11_readyAt_42 : decode cX11_readyAt 42 = .ok (.iconst (-1), 1) := by decide +kernel
theorem dX11_readyAt_43 : decode cX11_readyAt 43 = .ok (.ireturn, 1) := by decide +kernel
theorem dX11_onRing_0 : decode cX11_onRing 0 = .ok (.iconst 0, 1) := by decide +kernel
theorem dX11_onRing_1 : decode cX11_onRing 1 = .ok (.istore_n 1, 1) := by decide +kernel
theorem dX11_onRing_2 : decode cX11_onRing 2 = .ok (.iconst 0, 1) := by decide +kernel
theorem dX11_onRing_3 : decode cX11_onRing 3 = .ok (.istore_n 2, 1) := by decide +kernel
theorem dX11_onRing_4 : decode cX11_onRing 4 = .ok (.iload_n 2, 1) := by decide +kernel
theorem dX11_onRing_5 : decode cX11_onRing 5 = .ok (.aload_n 0, 1) := by decide +kernel
theorem dX11_onRing_6 : decode cX11_onRing 6 = .ok (.getfield 17, 3) := by decide +kernel
theorem dX11_onRing_9 : decode cX11_onRing 9 = .ok (.iconst 0, 1) := by decide +kernel
theorem dX11_onRing_10 : decode cX11_onRing 10 = .ok (.iaload, 1) := by decide +kernel
theorem dX11_onRing_11 : decode cX11_onRing 11 = .ok (.if_icmp .ge 29, 3) := by decide +kernel
theorem dX11_onRing_14 : decode cX11_onRing 14 = .ok (.iload_n 1, 1) := by decide +kernel
theorem dX11_onRing_15 : decode cX11_onRing 15 = .ok (.aload_n 0, 1) := by decide +kernel
theorem dX11_onRing_16 : decode cX11_onRing 16 = .ok (.getfield 24, 3) := by decide +kernel
theorem dX11_onRing_19 : decode cX11_onRing 19 = .ok (.bipush 90, 2) := by decide +kernel
theorem dX11_onRing_21 : decode cX11_onRing 21 = .ok (.iload_n 2, 1) := by decide +kernel
theorem dX11_onRing_22 : decode cX11_onRing 22 = .ok (.iadd, 1) := by decide +kernel
theorem dX11_onRing_23 : decode cX11_onRing 23 = .ok (.iaload, 1) := by decide +kernel
theorem dX11_onRing_24 : decode cX11_onRing 24 = .ok (.ifCond .lt 7, 3) := by decide +kernel
theorem dX11_onRing_27 : decode cX11_onRing 27 = .ok (.iconst 1, 1) := by decide +kernel
theorem dX11_onRing_28 : decode cX11_onRing 28 = .ok (.goto 4, 3) := by decide +kernel
theorem dX11_onRing_31 : decode cX11_onRing 31 = .ok (.iconst 0, 1) := by decide +kernel
theorem dX11_onRing_32 : decode cX11_onRing 32 = .ok (.iadd, 1) := by decide +kernel
theorem dX11_onRing_33 : decode cX11_onRing 33 = .ok (.istore_n 1, 1) := by decide +kernel
theorem dX11_onRing_34 : decode cX11_onRing 34 = .ok (.iinc 2 1, 3) := by decide +kernel
theorem dX11_onRing_37 : decode cX11_onRing 37 = .ok (.goto (-33), 3) := by decide +kernel
theorem dX11_onRing_40 : decode cX11_onRing 40 = .ok (.iload_n 1, 1) := by decide +kernel
theorem dX11_onRing_41 : decode cX11_onRing 41 = .ok (.ireturn, 1) := by decide +kernel
theorem dX11_untracked_0 : decode cX11_untracked 0 = .ok (.iconst 0, 1) := by decide +kernel
theorem dX11_untracked_1 : decode cX11_untracked 1 = .ok (.istore_n 1, 1) := by decide +kernel
theorem dX11_untracked_2 : decode cX11_untracked 2 = .ok (.iconst 0, 1) := by decide +kernel
theorem dX11_untracked_3 : decode cX11_untracked 3 = .ok (.istore_n 2, 1) := by decide +kernel
theorem dX11_untracked_4 : decode cX11_untracked 4 = .ok (.iload_n 2, 1) := by decide +kernel
theorem dX11_untracked_5 : decode cX11_untracked 5 = .ok (.aload_n 0, 1) := by decide +kernel
theorem dX11_untracked_6 : decode cX11_untracked 6 = .ok (.getfield 17, 3) := by decide +kernel
theorem dX11_untracked_9 : decode cX11_untracked 9 = .ok (.iconst 0, 1) := by decide +kernel
theorem dX11_untracked_10 : decode cX11_untracked 10 = .ok (.iaload, 1) := by decide +kernel
theorem dX11_untracked_11 : decode cX11_untracked 11 = .ok (.if_icmp .ge 42, 3) := by decide +kernel
theorem dX11_untracked_14 : decode cX11_untracked 14 = .ok (.iload_n 1, 1) := by decide +kernel
theorem dX11_untracked_15 : decode cX11_untracked 15 = .ok (.aload_n 0, 1) := by decide +kernel
theorem dX11_untracked_16 : decode cX11_untracked 16 = .ok (.getfield 24, 3) := by decide +kernel
theorem dX11_untracked_19 : decode cX11_untracked 19 = .ok (.bipush 90, 2) := by decide +kernel
theorem dX11_untracked_21 : decode cX11_untracked 21 = .ok (.iload_n 2, 1) := by decide +kernel
theorem dX11_untracked_22 : decode cX11_untracked 22 = .ok (.iadd, 1) := by decide +kernel
theorem dX11_untracked_23 : decode cX11_untracked 23 = .ok (.iaload, 1) := by decide +kernel
theorem dX11_untracked_24 : decode cX11_untracked 24 = .ok (.ifCond .lt 20, 3) := by decide +kernel
theorem dX11_untracked_27 : decode cX11_untracked 27 = .ok (.aload_n 0, 1) := by decide +kernel
theorem dX11_untracked_28 : decode cX11_untracked 28 = .ok (.getfield 24, 3) := by decide +kernel
theorem dX11_untracked_31 : decode cX11_untracked 31 = .ok (.sipush 150, 3) := by decide +kernel
theorem dX11_untracked_34 : decode cX11_untracked 34 = .ok (.iload_n 2, 1) := by decide +kernel
theorem dX11_untracked_35 : decode cX11_untracked 35 = .ok (.iadd, 1) := by decide +kernel
theorem dX11_untracked_36 : decode cX11_untracked 36 = .ok (.iaload, 1) := by decide +kernel
theorem dX11_untracked_37 : decode cX11_untracked 37 = .ok (.ifCond .ne 7, 3) := by decide +kernel
theorem dX11_untracked_40 : decode cX11_untracked 40 = .ok (.iconst 1, 1) := by decide +kernel
theorem dX11_untracked_41 : decode cX11_untracked 41 = .ok (.goto 4, 3) := by decide +kernel
theorem dX11_untracked_44 : decode cX11_untracked 44 = .ok (.iconst 0, 1) := by decide +kernel
theorem dX11_untracked_45 : decode cX11_untracked 45 = .ok (.iadd, 1) := by decide +kernel
theorem dX11_untracked_46 : decode cX11_untracked 46 = .ok (.istore_n 1, 1) := by decide +kernel
theorem dX11_untracked_47 : decode cX11_untracked 47 = .ok (.iinc 2 1, 3) := by decide +kernel
theorem dX11_untracked_50 : decode cX11_untracked 50 = .ok (.goto (-46), 3) := by decide +kernel
theorem dX11_untracked_53 : decode cX11_untracked 53 = .ok (.iload_n 1, 1) := by decide +kernel
theorem dX11_untracked_54 : decode cX11_untracked 54 = .ok (.ireturn, 1) := by decide +kernel
theorem dX11_count_0 : decode cX11_count 0 = .ok (.iload_n 1, 1) := by decide +kernel
theorem dX11_count_1 : decode cX11_count 1 = .ok (.i2l, 1) := by decide +kernel
theorem dX11_count_2 : decode cX11_count 2 = .ok (.lconst 0, 1) := by decide +kernel
theorem dX11_count_3 : decode cX11_count 3 = .ok (.ldc2_w 333, 3) := by decide +kernel
theorem dX11_count_6 : decode cX11_count 6 = .ok (.invokestatic 88, 3) := by decide +kernel
theorem dX11_count_9 : decode cX11_count 9 = .ok (.ifCond .eq 14, 3) := by decide +kernel
theorem dX11_count_12 : decode cX11_count 12 = .ok (.aload_n 0, 1) := by decide +kernel
theorem dX11_count_13 : decode cX11_count 13 = .ok (.getfield 24, 3) := by decide +kernel
theorem dX11_count_16 : decode cX11_count 16 = .ok (.iconst 3, 1) := by decide +kernel
theorem dX11_count_17 : decode cX11_count 17 = .ok (.iload_n 1, 1) := by decide +kernel
theorem dX11_count_18 : decode cX11_count 18 = .ok (.iadd, 1) := by decide +kernel
theorem dX11_count_19 : decode cX11_count 19 = .ok (.iaload, 1) := by decide +kernel
theorem dX11_count_20 : decode cX11_count 20 = .ok (.goto 4, 3) := by decide +kernel
theorem dX11_count_23 : decode cX11_count 23 = .ok (.iconst (-1), 1) := by decide +kernel
theorem dX11_count_24 : decode cX11_count 24 = .ok (.ireturn, 1) := by decide +kernel
theorem dX11_isFor_0 : decode cX11_isFor 0 = .ok (.aload_n 0, 1) := by decide +kernel
theorem dX11_isFor_1 : decode cX11_isFor 1 = .ok (.iload_n 1, 1) := by decide +kernel
theorem dX11_isFor_2 : decode cX11_isFor 2 = .ok (.invokevirtual 189, 3) := by decide +kernel
theorem dX11_isFor_5 : decode cX11_isFor 5 = .ok (.istore_n 3, 1) := by decide +kernel
theorem dX11_isFor_6 : decode cX11_isFor 6 = .ok (.iload_n 3, 1) := by decide +kernel
theorem dX11_isFor_7 : decode cX11_isFor 7 = .ok (.ifCond .lt 17, 3) := by decide +kernel
theorem dX11_isFor_10 : decode cX11_isFor 10 = .ok (.aload_n 0, 1) := by decide +kernel
theorem dX11_isFor_11 : decode cX11_isFor 11 = .ok (.iload_n 3, 1) := by decide +kernel
theorem dX11_isFor_12 : decode cX11_isFor 12 = .ok (.iconst 1, 1) := by decide +kernel
theorem dX11_isFor_13 : decode cX11_isFor 13 = .ok (.invokevirtual 186, 3) := by decide +kernel
theorem dX11_isFor_16 : decode cX11_isFor 16 = .ok (.iload_n 2, 1) := by decide +kernel
theorem dX11_isFor_17 : decode cX11_isFor 17 = .ok (.if_icmp .ne 7, 3) := by decide +kernel
theorem dX11_isFor_20 : decode cX11_isFor 20 = .ok (.iconst 1, 1) := by decide +kernel
theorem dX11_isFor_21 : decode cX11_isFor 21 = .ok (.goto 4, 3) := by decide +kernel
theorem dX11_isFor_24 : decode cX11_isFor 24 = .ok (.iconst 0, 1) := by decide +kernel
theorem dX11_isFor_25 : decode cX11_isFor 25 = .ok (.ireturn, 1) := by decide +kernel
theorem dX11_misrouted_0 : decode cX11_misrouted 0 = .ok (.aload_n 0, 1) := by decide +kernel
theorem dX11_misrouted_1 : decode cX11_misrouted 1 = .ok (.iconst 3, 1) := by decide +kernel
theorem dX11_misrouted_2 : decode cX11_misrouted 2 = .ok (.iload_n 1, 1) := by decide +kernel
theorem dX11_misrouted_3 : decode cX11_misrouted 3 = .ok (.invokevirtual 290, 3) := by decide +kernel
theorem dX11_misrouted_6 : decode cX11_misrouted 6 = .ok (.ifCond .ne 5, 3) := by decide +kernel
theorem dX11_misrouted_9 : decode cX11_misrouted 9 = .ok (.iconst (-1), 1) := by decide +kernel
theorem dX11_misrouted_10 : decode cX11_misrouted 10 = .ok (.ireturn, 1) := by decide +kernel
theorem dX11_misrouted_11 : decode cX11_misrouted 11 = .ok (.iconst 0, 1) := by decide +kernel
theorem dX11_misrouted_12 : decode cX11_misrouted 12 = .ok (.istore_n 2, 1) := by decide +kernel
theorem dX11_misrouted_13 : decode cX11_misrouted 13 = .ok (.iconst 0, 1) := by decide +kernel
theorem dX11_misrouted_14 : decode cX11_misrouted 14 = .ok (.istore_n 3, 1) := by decide +kernel
theorem dX11_misrouted_15 : decode cX11_misrouted 15 = .ok (.iload_n 3, 1) := by decide +kernel
theorem dX11_misrouted_16 : decode cX11_misrouted 16 = .ok (.aload_n 0, 1) := by decide +kernel
theorem dX11_misrouted_17 : decode cX11_misrouted 17 = .ok (.getfield 24, 3) := by decide +kernel
theorem dX11_misrouted_20 : decode cX11_misrouted 20 = .ok (.iconst 1, 1) := by decide +kernel
theorem dX11_misrouted_21 : decode cX11_misrouted 21 = .ok (.iaload, 1) := by decide +kernel
theorem dX11_misrouted_22 : decode cX11_misrouted 22 = .ok (.if_icmp .ge 63, 3) := by decide +kernel
theorem dX11_misrouted_25 : decode cX11_misrouted 25 = .ok (.iload_n 2, 1) := by decide +kernel
theorem dX11_misrouted_26 : decode cX11_misrouted 26 = .ok (.aload_n 0, 1) := by decide +kernel
theorem dX11_misrouted_27 : decode cX11_misrouted 27 = .ok (.iload_n 3, 1) := by decide +kernel
theorem dX11_misrouted_28 : decode cX11_misrouted 28 = .ok (.invokevirtual 327, 3) := by decide +kernel
theorem dX11_misrouted_31 : decode cX11_misrouted 31 = .ok (.ifCond .eq 45, 3) := by decide +kernel
theorem dX11_misrouted_34 : decode cX11_misrouted 34 = .ok (.aload_n 0, 1) := by decide +kernel
theorem dX11_misrouted_35 : decode cX11_misrouted 35 = .ok (.iload_n 3, 1) := by decide +kernel
theorem dX11_misrouted_36 : decode cX11_misrouted 36 = .ok (.iconst 1, 1) := by decide +kernel
theorem dX11_misrouted_37 : decode cX11_misrouted 37 = .ok (.invokevirtual 198, 3) := by decide +kernel
theorem dX11_misrouted_40 : decode cX11_misrouted 40 = .ok (.iload_n 1, 1) := by decide +kernel
theorem dX11_misrouted_41 : decode cX11_misrouted 41 = .ok (.if_icmp .ne 35, 3) := by decide +kernel
theorem dX11_misrouted_44 : decode cX11_misrouted 44 = .ok (.aload_n 0, 1) := by decide +kernel
theorem dX11_misrouted_45 : decode cX11_misrouted 45 = .ok (.aload_n 0, 1) := by decide +kernel
theorem dX11_misrouted_46 : decode cX11_misrouted 46 = .ok (.getfield 33, 3) := by decide +kernel
theorem dX11_misrouted_49 : decode cX11_misrouted 49 = .ok (.iload_n 3, 1) := by decide +kernel
theorem dX11_misrouted_50 : decode cX11_misrouted 50 = .ok (.iaload, 1) := by decide +kernel
theorem dX11_misrouted_51 : decode cX11_misrouted 51 = .ok (.iload_n 1, 1) := by decide +kernel
theorem dX11_misrouted_52 : decode cX11_misrouted 52 = .ok (.invokevirtual 335, 3) := by decide +kernel
theorem dX11_misrouted_55 : decode cX11_misrouted 55 = .ok (.ifCond .ne 21, 3) := by decide +kernel
theorem dX11_misrouted_58 : decode cX11_misrouted 58 = .ok (.aload_n 0, 1) := by decide +kernel
theorem dX11_misrouted_59 : decode cX11_misrouted 59 = .ok (.aload_n 0, 1) := by decide +kernel
theorem dX11_misrouted_60 : decode cX11_misrouted 60 = .ok (.getfield 39, 3) := by decide +kernel
theorem dX11_misrouted_63 : decode cX11_misrouted 63 = .ok (.iload_n 3, 1) := by decide +kernel
theorem dX11_misrouted_64 : decode cX11_misrouted 64 = .ok (.iaload, 1) := by decide +kernel
theorem dX11_misrouted_65 : decode cX11_misrouted 65 = .ok (.iload_n 1, 1) := by decide +kernel
theorem dX11_misrouted_66 : decode cX11_misrouted 66 = .ok (.invokevirtual 335, 3) := by decide +kernel
theorem dX11_misrouted_69 : decode cX11_misrouted 69 = .ok (.ifCond .ne 7, 3) := by decide +kernel
theorem dX11_misrouted_72 : decode cX11_misrouted 72 = .ok (.iconst 1, 1) := by decide +kernel
theorem dX11_misrouted_73 : decode cX11_misrouted 73 = .ok (.goto 4, 3) := by decide +kernel
theorem dX11_misrouted_76 : decode cX11_misrouted 76 = .ok (.iconst 0, 1) := by decide +kernel
theorem dX11_misrouted_77 : decode cX11_misrouted 77 = .ok (.iadd, 1) := by decide +kernel
theorem dX11_misrouted_78 : decode cX11_misrouted 78 = .ok (.istore_n 2, 1) := by decide +kernel
theorem dX11_misrouted_79 : decode cX11_misrouted 79 = .ok (.iinc 3 1, 3) := by decide +kernel
theorem dX11_misrouted_82 : decode cX11_misrouted 82 = .ok (.goto (-67), 3) := by decide +kernel
theorem dX11_misrouted_85 : decode cX11_misrouted 85 = .ok (.iload_n 2, 1) := by decide +kernel
theorem dX11_misrouted_86 : decode cX11_misrouted 86 = .ok (.ireturn, 1) := by decide +kernel
theorem dX11_delivered_0 : decode cX11_delivered 0 = .ok (.aload_n 0, 1) := by decide +kernel
theorem dX11_delivered_1 : decode cX11_delivered 1 = .ok (.iload_n 1, 1) := by decide +kernel
theorem dX11_delivered_2 : decode cX11_delivered 2 = .ok (.invokevirtual 318, 3) := by decide +kernel
theorem dX11_delivered_5 : decode cX11_delivered 5 = .ok (.ifCond .ne 5, 3) := by decide +kernel
theorem dX11_delivered_8 : decode cX11_delivered 8 = .ok (.iconst (-1), 1) := by decide +kernel
theorem dX11_delivered_9 : decode cX11_delivered 9 = .ok (.ireturn, 1) := by decide +kernel
theorem dX11_delivered_10 : decode cX11_delivered 10 = .ok (.iconst 0, 1) := by decide +kernel
theorem dX11_delivered_11 : decode cX11_delivered 11 = .ok (.istore_n 2, 1) := by decide +kernel
theorem dX11_delivered_12 : decode cX11_delivered 12 = .ok (.iconst 0, 1) := by decide +kernel
theorem dX11_delivered_13 : decode cX11_delivered 13 = .ok (.istore_n 3, 1) := by decide +kernel
theorem dX11_delivered_14 : decode cX11_delivered 14 = .ok (.iload_n 3, 1) := by decide +kernel
theorem dX11_delivered_15 : decode cX11_delivered 15 = .ok (.aload_n 0, 1) := by decide +kernel
theorem dX11_delivered_16 : decode cX11_delivered 16 = .ok (.getfield 24, 3) := by decide +kernel
theorem dX11_delivered_19 : decode cX11_delivered 19 = .ok (.iconst 1, 1) := by decide +kernel
theorem dX11_delivered_20 : decode cX11_delivered 20 = .ok (.iaload, 1) := by decide +kernel
theorem dX11_delivered_21 : decode cX11_delivered 21 = .ok (.if_icmp .ge 36, 3) := by decide +kernel
theorem dX11_delivered_24 : decode cX11_delivered 24 = .ok (.iload_n 2, 1) := by decide +kernel
theorem dX11_delivered_25 : decode cX11_delivered 25 = .ok (.aload_n 0, 1) := by decide +kernel
theorem dX11_delivered_26 : decode cX11_delivered 26 = .ok (.iload_n 3, 1) := by decide +kernel
theorem dX11_delivered_27 : decode cX11_delivered 27 = .ok (.invokevirtual 327, 3) := by decide +kernel
theorem dX11_delivered_30 : decode cX11_delivered 30 = .ok (.ifCond .eq 18, 3) := by decide +kernel
theorem dX11_delivered_33 : decode cX11_delivered 33 = .ok (.aload_n 0, 1) := by decide +kernel
theorem dX11_delivered_34 : decode cX11_delivered 34 = .ok (.iload_n 3, 1) := by decide +kernel
theorem dX11_delivered_35 : decode cX11_delivered 35 = .ok (.bipush 7, 2) := by decide +kernel
theorem dX11_delivered_37 : decode cX11_delivered 37 = .ok (.invokevirtual 198, 3) := by decide +kernel
theorem dX11_delivered_40 : decode cX11_delivered 40 = .ok (.iload_n 1, 1) := by decide +kernel
theorem dX11_delivered_41 : decode cX11_delivered 41 = .ok (.if_icmp .ne 7, 3) := by decide +kernel
theorem dX11_delivered_44 : decode cX11_delivered 44 = .ok (.iconst 1, 1) := by decide +kernel
theorem dX11_delivered_45 : decode cX11_delivered 45 = .ok (.goto 4, 3) := by decide +kernel
theorem dX11_delivered_48 : decode cX11_delivered 48 = .ok (.iconst 0, 1) := by decide +kernel
theorem dX11_delivered_49 : decode cX11_delivered 49 = .ok (.iadd, 1) := by decide +kernel
theorem dX11_delivered_50 : decode cX11_delivered 50 = .ok (.istore_n 2, 1) := by decide +kernel
theorem dX11_delivered_51 : decode cX11_delivered 51 = .ok (.iinc 3 1, 3) := by decide +kernel
theorem dX11_delivered_54 : decode cX11_delivered 54 = .ok (.goto (-40), 3) := by decide +kernel
theorem dX11_delivered_57 : decode cX11_delivered 57 = .ok (.iload_n 2, 1) := by decide +kernel
theorem dX11_delivered_58 : decode cX11_delivered 58 = .ok (.ireturn, 1) := by decide +kernel
theorem dX11_laysAside_0 : decode cX11_laysAside 0 = .ok (.iconst 0, 1) := by decide +kernel
theorem dX11_laysAside_1 : decode cX11_laysAside 1 = .ok (.istore_n 1, 1) := by decide +kernel
theorem dX11_laysAside_2 : decode cX11_laysAside 2 = .ok (.iload_n 1, 1) := by decide +kernel
theorem dX11_laysAside_3 : decode cX11_laysAside 3 = .ok (.sipush 1200, 3) := by decide +kernel
theorem dX11_laysAside_6 : decode cX11_laysAside 6 = .ok (.if_icmp .ge 21, 3) := by decide +kernel
theorem dX11_laysAside_9 : decode cX11_laysAside 9 = .ok (.aload_n 0, 1) := by decide +kernel
theorem dX11_laysAside_10 : decode cX11_laysAside 10 = .ok (.getfield 27, 3) := by decide +kernel
theorem dX11_laysAside_13 : decode cX11_laysAside 13 = .ok (.iload_n 1, 1) := by decide +kernel
theorem dX11_laysAside_14 : decode cX11_laysAside 14 = .ok (.aload_n 0, 1) := by decide +kernel
theorem dX11_laysAside_15 : decode cX11_laysAside 15 = .ok (.getfield 24, 3) := by decide +kernel
theorem dX11_laysAside_18 : decode cX11_laysAside 18 = .ok (.iload_n 1, 1) := by decide +kernel
theorem dX11_laysAside_19 : decode cX11_laysAside 19 = .ok (.iaload, 1) := by decide +kernel
theorem dX11_laysAside_20 : decode cX11_laysAside 20 = .ok (.iastore, 1) := by decide +kernel
theorem dX11_laysAside_21 : decode cX11_laysAside 21 = .ok (.iinc 1 1, 3) := by decide +kernel
theorem dX11_laysAside_24 : decode cX11_laysAside 24 = .ok (.goto (-22), 3) := by decide +kernel
theorem dX11_laysAside_27 : decode cX11_laysAside 27 = .ok (.return_, 1) := by decide +kernel
theorem dX11_comesBack_0 : decode cX11_comesBack 0 = .ok (.iconst 0, 1) := by decide +kernel
theorem dX11_comesBack_1 : decode cX11_comesBack 1 = .ok (.istore_n 1, 1) := by decide +kernel
theorem dX11_comesBack_2 : decode cX11_comesBack 2 = .ok (.iload_n 1, 1) := by decide +kernel
theorem dX11_comesBack_3 : decode cX11_comesBack 3 = .ok (.sipush 1200, 3) := by decide +kernel
theorem dX11_comesBack_6 : decode cX11_comesBack 6 = .ok (.if_icmp .ge 21, 3) := by decide +kernel
theorem dX11_comesBack_9 : decode cX11_comesBack 9 = .ok (.aload_n 0, 1) := by decide +kernel
theorem dX11_comesBack_10 : decode cX11_comesBack 10 = .ok (.getfield 24, 3) := by decide +kernel
theorem dX11_comesBack_13 : decode cX11_comesBack 13 = .ok (.iload_n 1, 1) := by decide +kernel
theorem dX11_comesBack_14 : decode cX11_comesBack 14 = .ok (.aload_n 0, 1) := by decide +kernel
theorem dX11_comesBack_15 : decode cX11_comesBack 15 = .ok (.getfield 27, 3) := by decide +kernel
theorem dX11_comesBack_18 : decode cX11_comesBack 18 = .ok (.iload_n 1, 1) := by decide +kernel
theorem dX11_comesBack_19 : decode cX11_comesBack 19 = .ok (.iaload, 1) := by decide +kernel
theorem dX11_comesBack_20 : decode cX11_comesBack 20 = .ok (.iastore, 1) := by decide +kernel
theorem dX11_comesBack_21 : decode cX11_comesBack 21 = .ok (.iinc 1 1, 3) := by decide +kernel
theorem dX11_comesBack_24 : decode cX11_comesBack 24 = .ok (.goto (-22), 3) := by decide +kernel
theorem dX11_comesBack_27 : decode cX11_comesBack 27 = .ok (.return_, 1) := by decide +kernel
theorem dX11_ticksFor_0 : decode cX11_ticksFor 0 = .ok (.iconst 0, 1) := by decide +kernel
theorem dX11_ticksFor_1 : decode cX11_ticksFor 1 = .ok (.istore_n 3, 1) := by decide +kernel
theorem dX11_ticksFor_2 : decode cX11_ticksFor 2 = .ok (.iload_n 3, 1) := by decide +kernel
theorem dX11_ticksFor_3 : decode cX11_ticksFor 3 = .ok (.iload_n 2, 1) := by decide +kernel
theorem dX11_ticksFor_4 : decode cX11_ticksFor 4 = .ok (.if_icmp .ge 21, 3) := by decide +kernel
theorem dX11_ticksFor_7 : decode cX11_ticksFor 7 = .ok (.aload_n 0, 1) := by decide +kernel
theorem dX11_ticksFor_8 : decode cX11_ticksFor 8 = .ok (.iload_n 1, 1) := by decide +kernel
theorem dX11_ticksFor_9 : decode cX11_ticksFor 9 = .ok (.invokevirtual 327, 3) := by decide +kernel
theorem dX11_ticksFor_12 : decode cX11_ticksFor 12 = .ok (.ifCond .ne 13, 3) := by decide +kernel
theorem dX11_ticksFor_15 : decode cX11_ticksFor 15 = .ok (.aload_n 0, 1) := by decide +kernel
theorem dX11_ticksFor_16 : decode cX11_ticksFor 16 = .ok (.invokevirtual 310, 3) := by decide +kernel
theorem dX11_ticksFor_19 : decode cX11_ticksFor 19 = .ok (.iinc 3 1, 3) := by decide +kernel
theorem dX11_ticksFor_22 : decode cX11_ticksFor 22 = .ok (.goto (-20), 3) := by decide +kernel
theorem dX11_ticksFor_25 : decode cX11_ticksFor 25 = .ok (.aload_n 0, 1) := by decide +kernel
theorem dX11_ticksFor_26 : decode cX11_ticksFor 26 = .ok (.iload_n 1, 1) := by decide +kernel
theorem dX11_ticksFor_27 : decode cX11_ticksFor 27 = .ok (.invokevirtual 327, 3) := by decide +kernel
