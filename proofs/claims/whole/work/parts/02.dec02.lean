theorem dX9_workScreen_33 : decode cX9_workScreen 33 = .ok (.getfield 47, 3) := by decide +kernel
theorem dX9_workScreen_36 : decode cX9_workScreen 36 = .ok (.iload_n 1, 1) := by decide +kernel
theorem dX9_workScreen_37 : decode cX9_workScreen 37 = .ok (.dup2, 1) := by decide +kernel
theorem dX9_workScreen_38 : decode cX9_workScreen 38 = .ok (.iaload, 1) := by decide +kernel
theorem dX9_workScreen_39 : decode cX9_workScreen 39 = .ok (.iconst 1, 1) := by decide +kernel
theorem dX9_workScreen_40 : decode cX9_workScreen 40 = .ok (.iadd, 1) := by decide +kernel
theorem dX9_workScreen_41 : decode cX9_workScreen 41 = .ok (.iastore, 1) := by decide +kernel
theorem dX9_workScreen_42 : decode cX9_workScreen 42 = .ok (.aload_n 0, 1) := by decide +kernel
theorem dX9_workScreen_43 : decode cX9_workScreen 43 = .ok (.getfield 47, 3) := by decide +kernel
theorem dX9_workScreen_46 : decode cX9_workScreen 46 = .ok (.iload_n 1, 1) := by decide +kernel
theorem dX9_workScreen_47 : decode cX9_workScreen 47 = .ok (.iaload, 1) := by decide +kernel
theorem dX9_workScreen_48 : decode cX9_workScreen 48 = .ok (.aload_n 0, 1) := by decide +kernel
theorem dX9_workScreen_49 : decode cX9_workScreen 49 = .ok (.getfield 57, 3) := by decide +kernel
theorem dX9_workScreen_52 : decode cX9_workScreen 52 = .ok (.getfield 183, 3) := by decide +kernel
theorem dX9_workScreen_55 : decode cX9_workScreen 55 = .ok (.iload_n 3, 1) := by decide +kernel
theorem dX9_workScreen_56 : decode cX9_workScreen 56 = .ok (.aaload, 1) := by decide +kernel
theorem dX9_workScreen_57 : decode cX9_workScreen 57 = .ok (.iload_n 1, 1) := by decide +kernel
theorem dX9_workScreen_58 : decode cX9_workScreen 58 = .ok (.iaload, 1) := by decide +kernel
theorem dX9_workScreen_59 : decode cX9_workScreen 59 = .ok (.if_icmp .ge 4, 3) := by decide +kernel
theorem dX9_workScreen_62 : decode cX9_workScreen 62 = .ok (.return_, 1) := by decide +kernel
theorem dX9_workScreen_63 : decode cX9_workScreen 63 = .ok (.aload_n 0, 1) := by decide +kernel
theorem dX9_workScreen_64 : decode cX9_workScreen 64 = .ok (.getfield 47, 3) := by decide +kernel
theorem dX9_workScreen_67 : decode cX9_workScreen 67 = .ok (.iload_n 1, 1) := by decide +kernel
theorem dX9_workScreen_68 : decode cX9_workScreen 68 = .ok (.iconst 0, 1) := by decide +kernel
theorem dX9_workScreen_69 : decode cX9_workScreen 69 = .ok (.iastore, 1) := by decide +kernel
theorem dX9_workScreen_70 : decode cX9_workScreen 70 = .ok (.aload_n 0, 1) := by decide +kernel
theorem dX9_workScreen_71 : decode cX9_workScreen 71 = .ok (.getfield 40, 3) := by decide +kernel
theorem dX9_workScreen_74 : decode cX9_workScreen 74 = .ok (.getfield 204, 3) := by decide +kernel
theorem dX9_workScreen_77 : decode cX9_workScreen 77 = .ok (.iload_n 2, 1) := by decide +kernel
theorem dX9_workScreen_78 : decode cX9_workScreen 78 = .ok (.iaload, 1) := by decide +kernel
theorem dX9_workScreen_79 : decode cX9_workScreen 79 = .ok (.iload_n 3, 1) := by decide +kernel
theorem dX9_workScreen_80 : decode cX9_workScreen 80 = .ok (.if_icmp .ge 7, 3) := by decide +kernel
theorem dX9_workScreen_83 : decode cX9_workScreen 83 = .ok (.iconst 1, 1) := by decide +kernel
theorem dX9_workScreen_84 : decode cX9_workScreen 84 = .ok (.goto 4, 3) := by decide +kernel
theorem dX9_workScreen_87 : decode cX9_workScreen 87 = .ok (.iconst 0, 1) := by decide +kernel
theorem dX9_workScreen_88 : decode cX9_workScreen 88 = .ok (.istore 4, 2) := by decide +kernel
theorem dX9_workScreen_90 : decode cX9_workScreen 90 = .ok (.iload 4, 2) := by decide +kernel
theorem dX9_workScreen_92 : decode cX9_workScreen 92 = .ok (.ifCond .ne 18, 3) := by decide +kernel
theorem dX9_workScreen_95 : decode cX9_workScreen 95 = .ok (.iload_n 3, 1) := by decide +kernel
theorem dX9_workScreen_96 : decode cX9_workScreen 96 = .ok (.iconst 3, 1) := by decide +kernel
theorem dX9_workScreen_97 : decode cX9_workScreen 97 = .ok (.if_icmp .ge 13, 3) := by decide +kernel
theorem dX9_workScreen_100 : decode cX9_workScreen 100 = .ok (.aload_n 0, 1) := by decide +kernel
theorem dX9_workScreen_101 : decode cX9_workScreen 101 = .ok (.getfield 50, 3) := by decide +kernel
theorem dX9_workScreen_104 : decode cX9_workScreen 104 = .ok (.iload_n 1, 1) := by decide +kernel
theorem dX9_workScreen_105 : decode cX9_workScreen 105 = .ok (.iload_n 3, 1) := by decide +kernel
theorem dX9_workScreen_106 : decode cX9_workScreen 106 = .ok (.iconst 1, 1) := by decide +kernel
theorem dX9_workScreen_107 : decode cX9_workScreen 107 = .ok (.iadd, 1) := by decide +kernel
theorem dX9_workScreen_108 : decode cX9_workScreen 108 = .ok (.iastore, 1) := by decide +kernel
theorem dX9_workScreen_109 : decode cX9_workScreen 109 = .ok (.return_, 1) := by decide +kernel
theorem dX9_workScreen_110 : decode cX9_workScreen 110 = .ok (.aload_n 0, 1) := by decide +kernel
theorem dX9_workScreen_111 : decode cX9_workScreen 111 = .ok (.getfield 50, 3) := by decide +kernel
theorem dX9_workScreen_114 : decode cX9_workScreen 114 = .ok (.iload_n 1, 1) := by decide +kernel
theorem dX9_workScreen_115 : decode cX9_workScreen 115 = .ok (.iconst 1, 1) := by decide +kernel
theorem dX9_workScreen_116 : decode cX9_workScreen 116 = .ok (.iastore, 1) := by decide +kernel
theorem dX9_workScreen_117 : decode cX9_workScreen 117 = .ok (.aload_n 0, 1) := by decide +kernel
theorem dX9_workScreen_118 : decode cX9_workScreen 118 = .ok (.getfield 33, 3) := by decide +kernel
theorem dX9_workScreen_121 : decode cX9_workScreen 121 = .ok (.iload_n 1, 1) := by decide +kernel
theorem dX9_workScreen_122 : decode cX9_workScreen 122 = .ok (.invokevirtual 186, 3) := by decide +kernel
theorem dX9_workScreen_125 : decode cX9_workScreen 125 = .ok (.pop, 1) := by decide +kernel
theorem dX9_workScreen_126 : decode cX9_workScreen 126 = .ok (.iload 4, 2) := by decide +kernel
theorem dX9_workScreen_128 : decode cX9_workScreen 128 = .ok (.ifCond .eq 22, 3) := by decide +kernel
theorem dX9_workScreen_131 : decode cX9_workScreen 131 = .ok (.aload_n 0, 1) := by decide +kernel
theorem dX9_workScreen_132 : decode cX9_workScreen 132 = .ok (.getfield 27, 3) := by decide +kernel
theorem dX9_workScreen_135 : decode cX9_workScreen 135 = .ok (.getfield 207, 3) := by decide +kernel
theorem dX9_workScreen_138 : decode cX9_workScreen 138 = .ok (.iload_n 2, 1) := by decide +kernel
theorem dX9_workScreen_139 : decode cX9_workScreen 139 = .ok (.iconst 1, 1) := by decide +kernel
theorem dX9_workScreen_140 : decode cX9_workScreen 140 = .ok (.iastore, 1) := by decide +kernel
theorem dX9_workScreen_141 : decode cX9_workScreen 141 = .ok (.aload_n 0, 1) := by decide +kernel
theorem dX9_workScreen_142 : decode cX9_workScreen 142 = .ok (.iload_n 1, 1) := by decide +kernel
theorem dX9_workScreen_143 : decode cX9_workScreen 143 = .ok (.iload_n 2, 1) := by decide +kernel
theorem dX9_workScreen_144 : decode cX9_workScreen 144 = .ok (.invokevirtual 201, 3) := by decide +kernel
theorem dX9_workScreen_147 : decode cX9_workScreen 147 = .ok (.goto 33, 3) := by decide +kernel
theorem dX9_workScreen_150 : decode cX9_workScreen 150 = .ok (.aload_n 0, 1) := by decide +kernel
theorem dX9_workScreen_151 : decode cX9_workScreen 151 = .ok (.getfield 40, 3) := by decide +kernel
theorem dX9_workScreen_154 : decode cX9_workScreen 154 = .ok (.iload_n 2, 1) := by decide +kernel
theorem dX9_workScreen_155 : decode cX9_workScreen 155 = .ok (.bipush 9, 2) := by decide +kernel
theorem dX9_workScreen_157 : decode cX9_workScreen 157 = .ok (.iconst (-1), 1) := by decide +kernel
theorem dX9_workScreen_158 : decode cX9_workScreen 158 = .ok (.invokevirtual 116, 3) := by decide +kernel
theorem dX9_workScreen_161 : decode cX9_workScreen 161 = .ok (.aload_n 0, 1) := by decide +kernel
theorem dX9_workScreen_162 : decode cX9_workScreen 162 = .ok (.getfield 27, 3) := by decide +kernel
theorem dX9_workScreen_165 : decode cX9_workScreen 165 = .ok (.iload_n 2, 1) := by decide +kernel
theorem dX9_workScreen_166 : decode cX9_workScreen 166 = .ok (.invokevirtual 127, 3) := by decide +kernel
theorem dX9_workScreen_169 : decode cX9_workScreen 169 = .ok (.aload_n 0, 1) := by decide +kernel
theorem dX9_workScreen_170 : decode cX9_workScreen 170 = .ok (.getfield 9, 3) := by decide +kernel
theorem dX9_workScreen_173 : decode cX9_workScreen 173 = .ok (.bipush 6, 2) := by decide +kernel
theorem dX9_workScreen_175 : decode cX9_workScreen 175 = .ok (.dup2, 1) := by decide +kernel
theorem dX9_workScreen_176 : decode cX9_workScreen 176 = .ok (.iaload, 1) := by decide +kernel
theorem dX9_workScreen_177 : decode cX9_workScreen 177 = .ok (.iconst 1, 1) := by decide +kernel
theorem dX9_workScreen_178 : decode cX9_workScreen 178 = .ok (.iadd, 1) := by decide +kernel
theorem dX9_workScreen_179 : decode cX9_workScreen 179 = .ok (.iastore, 1) := by decide +kernel
theorem dX9_workScreen_180 : decode cX9_workScreen 180 = .ok (.return_, 1) := by decide +kernel
theorem dX9_workStore_0 : decode cX9_workStore 0 = .ok (.iconst (-1), 1) := by decide +kernel
theorem dX9_workStore_1 : decode cX9_workStore 1 = .ok (.istore_n 2, 1) := by decide +kernel
theorem dX9_workStore_2 : decode cX9_workStore 2 = .ok (.iconst (-1), 1) := by decide +kernel
theorem dX9_workStore_3 : decode cX9_workStore 3 = .ok (.istore_n 3, 1) := by decide +kernel
theorem dX9_workStore_4 : decode cX9_workStore 4 = .ok (.iconst 0, 1) := by decide +kernel
theorem dX9_workStore_5 : decode cX9_workStore 5 = .ok (.istore 4, 2) := by decide +kernel
theorem dX9_workStore_7 : decode cX9_workStore 7 = .ok (.iconst (-1), 1) := by decide +kernel
theorem dX9_workStore_8 : decode cX9_workStore 8 = .ok (.istore 5, 2) := by decide +kernel
theorem dX9_workStore_10 : decode cX9_workStore 10 = .ok (.aload_n 0, 1) := by decide +kernel
theorem dX9_workStore_11 : decode cX9_workStore 11 = .ok (.getfield 33, 3) := by decide +kernel
theorem dX9_workStore_14 : decode cX9_workStore 14 = .ok (.getfield 180, 3) := by decide +kernel
theorem dX9_workStore_17 : decode cX9_workStore 17 = .ok (.iload_n 1, 1) := by decide +kernel
theorem dX9_workStore_18 : decode cX9_workStore 18 = .ok (.iaload, 1) := by decide +kernel
theorem dX9_workStore_19 : decode cX9_workStore 19 = .ok (.istore 6, 2) := by decide +kernel
theorem dX9_workStore_21 : decode cX9_workStore 21 = .ok (.iconst 0, 1) := by decide +kernel
theorem dX9_workStore_22 : decode cX9_workStore 22 = .ok (.istore 7, 2) := by decide +kernel
theorem dX9_workStore_24 : decode cX9_workStore 24 = .ok (.iload 7, 2) := by decide +kernel
theorem dX9_workStore_26 : decode cX9_workStore 26 = .ok (.bipush 100, 2) := by decide +kernel
theorem dX9_workStore_28 : decode cX9_workStore 28 = .ok (.if_icmp .ge 114, 3) := by decide +kernel
theorem dX9_workStore_31 : decode cX9_workStore 31 = .ok (.iload 6, 2) := by decide +kernel
theorem dX9_workStore_33 : decode cX9_workStore 33 = .ok (.ifCond .lt 109, 3) := by decide +kernel
theorem dX9_workStore_36 : decode cX9_workStore 36 = .ok (.aload_n 0, 1) := by decide +kernel
theorem dX9_workStore_37 : decode cX9_workStore 37 = .ok (.getfield 57, 3) := by decide +kernel
theorem dX9_workStore_40 : decode cX9_workStore 40 = .ok (.getfield 210, 3) := by decide +kernel
theorem dX9_workStore_43 : decode cX9_workStore 43 = .ok (.aload_n 0, 1) := by decide +kernel
theorem dX9_workStore_44 : decode cX9_workStore 44 = .ok (.getfield 27, 3) := by decide +kernel
theorem dX9_workStore_47 : decode cX9_workStore 47 = .ok (.getfield 195, 3) := by decide +kernel
theorem dX9_workStore_50 : decode cX9_workStore 50 = .ok (.iload 6, 2) := by decide +kernel
theorem dX9_workStore_52 : decode cX9_workStore 52 = .ok (.iaload, 1) := by decide +kernel
theorem dX9_workStore_53 : decode cX9_workStore 53 = .ok (.invokevirtual 214, 3) := by decide +kernel
theorem dX9_workStore_56 : decode cX9_workStore 56 = .ok (.istore 8, 2) := by decide +kernel
theorem dX9_workStore_58 : decode cX9_workStore 58 = .ok (.iload 8, 2) := by decide +kernel
theorem dX9_workStore_60 : decode cX9_workStore 60 = .ok (.iconst (-1), 1) := by decide +kernel
theorem dX9_workStore_61 : decode cX9_workStore 61 = .ok (.if_icmp .eq 59, 3) := by decide +kernel
theorem dX9_workStore_64 : decode cX9_workStore 64 = .ok (.aload_n 0, 1) := by decide +kernel
theorem dX9_workStore_65 : decode cX9_workStore 65 = .ok (.getfield 61, 3) := by decide +kernel
theorem dX9_workStore_68 : decode cX9_workStore 68 = .ok (.aload_n 0, 1) := by decide +kernel
theorem dX9_workStore_69 : decode cX9_workStore 69 = .ok (.getfield 57, 3) := by decide +kernel
theorem dX9_workStore_72 : decode cX9_workStore 72 = .ok (.getfield 210, 3) := by decide +kernel
theorem dX9_workStore_75 : decode cX9_workStore 75 = .ok (.getfield 219, 3) := by decide +kernel
theorem dX9_workStore_78 : decode cX9_workStore 78 = .ok (.iload 8, 2) := by decide +kernel
theorem dX9_workStore_80 : decode cX9_workStore 80 = .ok (.iaload, 1) := by decide +kernel
theorem dX9_workStore_81 : decode cX9_workStore 81 = .ok (.if_icmp .lt 39, 3) := by decide +kernel
theorem dX9_workStore_84 : decode cX9_workStore 84 = .ok (.aload_n 0, 1) := by decide +kernel
theorem dX9_workStore_85 : decode cX9_workStore 85 = .ok (.getfield 57, 3) := by decide +kernel
theorem dX9_workStore_88 : decode cX9_workStore 88 = .ok (.getfield 210, 3) := by decide +kernel
theorem dX9_workStore_91 : decode cX9_workStore 91 = .ok (.getfield 222, 3) := by decide +kernel
theorem dX9_workStore_94 : decode cX9_workStore 94 = .ok (.iload 8, 2) := by decide +kernel
theorem dX9_workStore_96 : decode cX9_workStore 96 = .ok (.iaload, 1) := by decide +kernel
theorem dX9_workStore_97 : decode cX9_workStore 97 = .ok (.istore 9, 2) := by decide +kernel
theorem dX9_workStore_99 : decode cX9_workStore 99 = .ok (.iload_n 2, 1) := by decide +kernel
theorem dX9_workStore_100 : decode cX9_workStore 100 = .ok (.ifCond .lt 10, 3) := by decide +kernel
theorem dX9_workStore_103 : decode cX9_workStore 103 = .ok (.iload 9, 2) := by decide +kernel
theorem dX9_workStore_105 : decode cX9_workStore 105 = .ok (.iload 4, 2) := by decide +kernel
theorem dX9_workStore_107 : decode cX9_workStore 107 = .ok (.if_icmp .ge 13, 3) := by decide +kernel
theorem dX9_workStore_110 : decode cX9_workStore 110 = .ok (.iload 6, 2) := by decide +kernel
theorem dX9_workStore_112 : decode cX9_workStore 112 = .ok (.istore_n 2, 1) := by decide +kernel
theorem dX9_workStore_113 : decode cX9_workStore 113 = .ok (.iload 5, 2) := by decide +kernel
theorem dX9_workStore_115 : decode cX9_workStore 115 = .ok (.istore_n 3, 1) := by decide +kernel
theorem dX9_workStore_116 : decode cX9_workStore 116 = .ok (.iload 9, 2) := by decide +kernel
theorem dX9_workStore_118 : decode cX9_workStore 118 = .ok (.istore 4, 2) := by decide +kernel
theorem dX9_workStore_120 : decode cX9_workStore 120 = .ok (.iload 6, 2) := by decide +kernel
theorem dX9_workStore_122 : decode cX9_workStore 122 = .ok (.istore 5, 2) := by decide +kernel
theorem dX9_workStore_124 : decode cX9_workStore 124 = .ok (.aload_n 0, 1) := by decide +kernel
theorem dX9_workStore_125 : decode cX9_workStore 125 = .ok (.getfield 33, 3) := by decide +kernel
theorem dX9_workStore_128 : decode cX9_workStore 128 = .ok (.getfield 225, 3) := by decide +kernel
theorem dX9_workStore_131 : decode cX9_workStore 131 = .ok (.iload 6, 2) := by decide +kernel
theorem dX9_workStore_133 : decode cX9_workStore 133 = .ok (.iaload, 1) := by decide +kernel
theorem dX9_workStore_134 : decode cX9_workStore 134 = .ok (.istore 6, 2) := by decide +kernel
theorem dX9_workStore_136 : decode cX9_workStore 136 = .ok (.iinc 7 1, 3) := by decide +kernel
theorem dX9_workStore_139 : decode cX9_workStore 139 = .ok (.goto (-115), 3) := by decide +kernel
theorem dX9_workStore_142 : decode cX9_workStore 142 = .ok (.iload_n 2, 1) := by decide +kernel
theorem dX9_workStore_143 : decode cX9_workStore 143 = .ok (.ifCond .lt 19, 3) := by decide +kernel
theorem dX9_workStore_146 : decode cX9_workStore 146 = .ok (.aload_n 0, 1) := by decide +kernel
theorem dX9_workStore_147 : decode cX9_workStore 147 = .ok (.getfield 33, 3) := by decide +kernel
theorem dX9_workStore_150 : decode cX9_workStore 150 = .ok (.iload_n 1, 1) := by decide +kernel
theorem dX9_workStore_151 : decode cX9_workStore 151 = .ok (.iload_n 3, 1) := by decide +kernel
theorem dX9_workStore_152 : decode cX9_workStore 152 = .ok (.iload_n 2, 1) := by decide +kernel
theorem dX9_workStore_153 : decode cX9_workStore 153 = .ok (.invokevirtual 228, 3) := by decide +kernel
theorem dX9_workStore_156 : decode cX9_workStore 156 = .ok (.aload_n 0, 1) := by decide +kernel
theorem dX9_workStore_157 : decode cX9_workStore 157 = .ok (.iload_n 1, 1) := by decide +kernel
theorem dX9_workStore_158 : decode cX9_workStore 158 = .ok (.iload_n 2, 1) := by decide +kernel
theorem dX9_workStore_159 : decode cX9_workStore 159 = .ok (.invokevirtual 201, 3) := by decide +kernel
theorem dX9_workStore_162 : decode cX9_workStore 162 = .ok (.return_, 1) := by decide +kernel
theorem dX9_sendToExit_0 : decode cX9_sendToExit 0 = .ok (.aload_n 0, 1) := by decide +kernel
theorem dX9_sendToExit_1 : decode cX9_sendToExit 1 = .ok (.getfield 57, 3) := by decide +kernel
theorem dX9_sendToExit_4 : decode cX9_sendToExit 4 = .ok (.getfield 231, 3) := by decide +kernel
theorem dX9_sendToExit_7 : decode cX9_sendToExit 7 = .ok (.iload_n 1, 1) := by decide +kernel
theorem dX9_sendToExit_8 : decode cX9_sendToExit 8 = .ok (.iaload, 1) := by decide +kernel
theorem dX9_sendToExit_9 : decode cX9_sendToExit 9 = .ok (.istore_n 3, 1) := by decide +kernel
theorem dX9_sendToExit_10 : decode cX9_sendToExit 10 = .ok (.aload_n 0, 1) := by decide +kernel
theorem dX9_sendToExit_11 : decode cX9_sendToExit 11 = .ok (.getfield 40, 3) := by decide +kernel
theorem dX9_sendToExit_14 : decode cX9_sendToExit 14 = .ok (.iload_n 2, 1) := by decide +kernel
theorem dX9_sendToExit_15 : decode cX9_sendToExit 15 = .ok (.bipush 7, 2) := by decide +kernel
theorem dX9_sendToExit_17 : decode cX9_sendToExit 17 = .ok (.iload_n 3, 1) := by decide +kernel
theorem dX9_sendToExit_18 : decode cX9_sendToExit 18 = .ok (.invokevirtual 116, 3) := by decide +kernel
theorem dX9_sendToExit_21 : decode cX9_sendToExit 21 = .ok (.aload_n 0, 1) := by decide +kernel
theorem dX9_sendToExit_22 : decode cX9_sendToExit 22 = .ok (.getfield 33, 3) := by decide +kernel
theorem dX9_sendToExit_25 : decode cX9_sendToExit 25 = .ok (.iload_n 3, 1) := by decide +kernel
theorem dX9_sendToExit_26 : decode cX9_sendToExit 26 = .ok (.iload_n 2, 1) := by decide +kernel
theorem dX9_sendToExit_27 : decode cX9_sendToExit 27 = .ok (.invokevirtual 123, 3) := by decide +kernel
theorem dX9_sendToExit_30 : decode cX9_sendToExit 30 = .ok (.return_, 1) := by decide +kernel
theorem dX9_enter_0 : decode cX9_enter 0 = .ok (.aload_n 0, 1) := by decide +kernel
theorem dX9_enter_1 : decode cX9_enter 1 = .ok (.getfield 15, 3) := by decide +kernel
theorem dX9_enter_4 : decode cX9_enter 4 = .ok (.iload_n 2, 1) := by decide +kernel
theorem dX9_enter_5 : decode cX9_enter 5 = .ok (.iaload, 1) := by decide +kernel
theorem dX9_enter_6 : decode cX9_enter 6 = .ok (.ifCond .ge 14, 3) := by decide +kernel
theorem dX9_enter_9 : decode cX9_enter 9 = .ok (.aload_n 0, 1) := by decide +kernel
theorem dX9_enter_10 : decode cX9_enter 10 = .ok (.getfield 23, 3) := by decide +kernel
theorem dX9_enter_13 : decode cX9_enter 13 = .ok (.iload_n 2, 1) := by decide +kernel
theorem dX9_enter_14 : decode cX9_enter 14 = .ok (.invokevirtual 234, 3) := by decide +kernel
theorem dX9_enter_17 : decode cX9_enter 17 = .ok (.ifCond .eq 4, 3) := by decide +kernel
theorem dX9_enter_20 : decode cX9_enter 20 = .ok (.return_, 1) := by decide +kernel
theorem dX9_enter_21 : decode cX9_enter 21 = .ok (.aload_n 0, 1) := by decide +kernel
theorem dX9_enter_22 : decode cX9_enter 22 = .ok (.getfield 33, 3) := by decide +kernel
theorem dX9_enter_25 : decode cX9_enter 25 = .ok (.iload_n 1, 1) := by decide +kernel
theorem dX9_enter_26 : decode cX9_enter 26 = .ok (.invokevirtual 186, 3) := by decide +kernel
theorem dX9_enter_29 : decode cX9_enter 29 = .ok (.istore_n 3, 1) := by decide +kernel
theorem dX9_enter_30 : decode cX9_enter 30 = .ok (.iload_n 3, 1) := by decide +kernel
theorem dX9_enter_31 : decode cX9_enter 31 = .ok (.ifCond .ge 4, 3) := by decide +kernel
theorem dX9_enter_34 : decode cX9_enter 34 = .ok (.return_, 1) := by decide +kernel
theorem dX9_enter_35 : decode cX9_enter 35 = .ok (.aload_n 0, 1) := by decide +kernel
theorem dX9_enter_36 : decode cX9_enter 36 = .ok (.getfield 23, 3) := by decide +kernel
theorem dX9_enter_39 : decode cX9_enter 39 = .ok (.iload_n 2, 1) := by decide +kernel
theorem dX9_enter_40 : decode cX9_enter 40 = .ok (.aload_n 0, 1) := by decide +kernel
theorem dX9_enter_41 : decode cX9_enter 41 = .ok (.getfield 27, 3) := by decide +kernel
theorem dX9_enter_44 : decode cX9_enter 44 = .ok (.iload_n 3, 1) := by decide +kernel
theorem dX9_enter_45 : decode cX9_enter 45 = .ok (.invokevirtual 235, 3) := by decide +kernel
theorem dX9_enter_48 : decode cX9_enter 48 = .ok (.aload_n 0, 1) := by decide +kernel
theorem dX9_enter_49 : decode cX9_enter 49 = .ok (.getfield 15, 3) := by decide +kernel
theorem dX9_enter_52 : decode cX9_enter 52 = .ok (.iload_n 2, 1) := by decide +kernel
theorem dX9_enter_53 : decode cX9_enter 53 = .ok (.iload_n 3, 1) := by decide +kernel
theorem dX9_enter_54 : decode cX9_enter 54 = .ok (.iastore, 1) := by decide +kernel
theorem dX9_enter_55 : decode cX9_enter 55 = .ok (.aload_n 0, 1) := by decide +kernel
theorem dX9_enter_56 : decode cX9_enter 56 = .ok (.getfield 40, 3) := by decide +kernel
theorem dX9_enter_59 : decode cX9_enter 59 = .ok (.iload_n 3, 1) := by decide +kernel
theorem dX9_enter_60 : decode cX9_enter 60 = .ok (.iconst 1, 1) := by decide +kernel
theorem dX9_enter_61 : decode cX9_enter 61 = .ok (.iload_n 2, 1) := by decide +kernel
theorem dX9_enter_62 : decode cX9_enter 62 = .ok (.invokevirtual 116, 3) := by decide +kernel
theorem dX9_enter_65 : decode cX9_enter 65 = .ok (.return_, 1) := by decide +kernel
theorem dX9_scan_0 : decode cX9_scan 0 = .ok (.aload_n 0, 1) := by decide +kernel
theorem dX9_scan_1 : decode cX9_scan 1 = .ok (.getfield 15, 3) := by decide +kernel
theorem dX9_scan_4 : decode cX9_scan 4 = .ok (.iload_n 1, 1) := by decide +kernel
theorem dX9_scan_5 : decode cX9_scan 5 = .ok (.iaload, 1) := by decide +kernel
theorem dX9_scan_6 : decode cX9_scan 6 = .ok (.ifCond .lt 7, 3) := by decide +kernel
theorem dX9_scan_9 : decode cX9_scan 9 = .ok (.iconst 1, 1) := by decide +kernel
theorem dX9_scan_10 : decode cX9_scan 10 = .ok (.goto 4, 3) := by decide +kernel
theorem dX9_scan_13 : decode cX9_scan 13 = .ok (.iconst 0, 1) := by decide +kernel
theorem dX9_scan_14 : decode cX9_scan 14 = .ok (.istore_n 2, 1) := by decide +kernel
theorem dX9_scan_15 : decode cX9_scan 15 = .ok (.aload_n 0, 1) := by decide +kernel
theorem dX9_scan_16 : decode cX9_scan 16 = .ok (.getfield 23, 3) := by decide +kernel
theorem dX9_scan_19 : decode cX9_scan 19 = .ok (.iload_n 1, 1) := by decide +kernel
theorem dX9_scan_20 : decode cX9_scan 20 = .ok (.invokevirtual 234, 3) := by decide +kernel
theorem dX9_scan_23 : decode cX9_scan 23 = .ok (.istore_n 3, 1) := by decide +kernel
theorem dX9_scan_24 : decode cX9_scan 24 = .ok (.iload_n 2, 1) := by decide +kernel
theorem dX9_scan_25 : decode cX9_scan 25 = .ok (.ifCond .eq 12, 3) := by decide +kernel
theorem dX9_scan_28 : decode cX9_scan 28 = .ok (.iload_n 3, 1) := by decide +kernel
theorem dX9_scan_29 : decode cX9_scan 29 = .ok (.ifCond .ne 8, 3) := by decide +kernel
theorem dX9_scan_32 : decode cX9_scan 32 = .ok (.aload_n 0, 1) := by decide +kernel
theorem dX9_scan_33 : decode cX9_scan 33 = .ok (.iload_n 1, 1) := by decide +kernel
theorem dX9_scan_34 : decode cX9_scan 34 = .ok (.invokevirtual 239, 3) := by decide +kernel
theorem dX9_scan_37 : decode cX9_scan 37 = .ok (.iload_n 2, 1) := by decide +kernel
theorem dX9_scan_38 : decode cX9_scan 38 = .ok (.ifCond .eq 11, 3) := by decide +kernel
theorem dX9_scan_41 : decode cX9_scan 41 = .ok (.aload_n 0, 1) := by decide +kernel
theorem dX9_scan_42 : decode cX9_scan 42 = .ok (.iload_n 1, 1) := by decide +kernel
theorem dX9_scan_43 : decode cX9_scan 43 = .ok (.invokevirtual 242, 3) := by decide +kernel
theorem dX9_scan_46 : decode cX9_scan 46 = .ok (.goto 12, 3) := by decide +kernel
theorem dX9_scan_49 : decode cX9_scan 49 = .ok (.iload_n 3, 1) := by decide +kernel
theorem dX9_scan_50 : decode cX9_scan 50 = .ok (.ifCond .eq 8, 3) := by decide +kernel
theorem dX9_scan_53 : decode cX9_scan 53 = .ok (.aload_n 0, 1) := by decide +kernel
theorem dX9_scan_54 : decode cX9_scan 54 = .ok (.iload_n 1, 1) := by decide +kernel
theorem dX9_scan_55 : decode cX9_scan 55 = .ok (.invokevirtual 245, 3) := by decide +kernel
theorem dX9_scan_58 : decode cX9_scan 58 = .ok (.return_, 1) := by decide +kernel
theorem dX9_findRecordFor_0 : decode cX9_findRecordFor 0 = .ok (.aload_n 0, 1) := by decide +kernel
theorem dX9_findRecordFor_1 : decode cX9_findRecordFor 1 = .ok (.iload_n 1, 1) := by decide +kernel
theorem dX9_findRecordFor_2 : decode cX9_findRecordFor 2 = .ok (.iconst 1, 1) := by decide +kernel
theorem dX9_findRecordFor_3 : decode cX9_findRecordFor 3 = .ok (.invokevirtual 248, 3) := by decide +kernel
theorem dX9_findRecordFor_6 : decode cX9_findRecordFor 6 = .ok (.istore_n 2, 1) := by decide +kernel
theorem dX9_findRecordFor_7 : decode cX9_findRecordFor 7 = .ok (.iload_n 2, 1) := by decide +kernel
theorem dX9_findRecordFor_8 : decode cX9_findRecordFor 8 = .ok (.ifCond .ge 24, 3) := by decide +kernel
theorem dX9_findRecordFor_11 : decode cX9_findRecordFor 11 = .ok (.aload_n 0, 1) := by decide +kernel
theorem dX9_findRecordFor_12 : decode cX9_findRecordFor 12 = .ok (.getfield 23, 3) := by decide +kernel
theorem dX9_findRecordFor_15 : decode cX9_findRecordFor 15 = .ok (.iload_n 1, 1) := by decide +kernel
theorem dX9_findRecordFor_16 : decode cX9_findRecordFor 16 = .ok (.invokevirtual 120, 3) := by decide +kernel
theorem dX9_findRecordFor_19 : decode cX9_findRecordFor 19 = .ok (.aload_n 0, 1) := by decide +kernel
theorem dX9_findRecordFor_20 : decode cX9_findRecordFor 20 = .ok (.getfield 9, 3) := by decide +kernel
theorem dX9_findRecordFor_23 : decode cX9_findRecordFor 23 = .ok (.iconst 0, 1) := by decide +kernel
theorem dX9_findRecordFor_24 : decode cX9_findRecordFor 24 = .ok (.dup2, 1) := by decide +kernel
theorem dX9_findRecordFor_25 : decode cX9_findRecordFor 25 = .ok (.iaload, 1) := by decide +kernel
theorem dX9_findRecordFor_26 : decode cX9_findRecordFor 26 = .ok (.iconst 1, 1) := by decide +kernel
theorem dX9_findRecordFor_27 : decode cX9_findRecordFor 27 = .ok (.iadd, 1) := by decide +kernel
theorem dX9_findRecordFor_28 : decode cX9_findRecordFor 28 = .ok (.iastore, 1) := by decide +kernel
theorem dX9_findRecordFor_29 : decode cX9_findRecordFor 29 = .ok (.goto 16, 3) := by decide +kernel
theorem dX9_findRecordFor_32 : decode cX9_findRecordFor 32 = .ok (.aload_n 0, 1) := by decide +kernel
theorem dX9_findRecordFor_33 : decode cX9_findRecordFor 33 = .ok (.getfield 23, 3) := by decide +kernel
theorem dX9_findRecordFor_36 : decode cX9_findRecordFor 36 = .ok (.iload_n 1, 1) := by decide +kernel
theorem dX9_findRecordFor_37 : decode cX9_findRecordFor 37 = .ok (.aload_n 0, 1) := by decide +kernel
theorem dX9_findRecordFor_38 : decode cX9_findRecordFor 38 = .ok (.getfield 23, 3) := by decide +kernel
theorem dX9_findRecordFor_41 : decode cX9_findRecordFor 41 = .ok (.iload_n 2, 1) := by decide +kernel
theorem dX9_findRecordFor_42 : decode cX9_findRecordFor 42 = .ok (.invokevirtual 235, 3) := by decide +kernel
theorem dX9_findRecordFor_45 : decode cX9_findRecordFor 45 = .ok (.return_, 1) := by decide +kernel
theorem dX9_findBagFor_0 : decode cX9_findBagFor 0 = .ok (.aload_n 0, 1) := by decide +kernel
theorem dX9_findBagFor_1 : decode cX9_findBagFor 1 = .ok (.iload_n 1, 1) := by decide +kernel
theorem dX9_findBagFor_2 : decode cX9_findBagFor 2 = .ok (.iconst 0, 1) := by decide +kernel
theorem dX9_findBagFor_3 : decode cX9_findBagFor 3 = .ok (.invokevirtual 248, 3) := by decide +kernel
theorem dX9_findBagFor_6 : decode cX9_findBagFor 6 = .ok (.istore_n 2, 1) := by decide +kernel
theorem dX9_findBagFor_7 : decode cX9_findBagFor 7 = .ok (.iload_n 2, 1) := by decide +kernel
theorem dX9_findBagFor_8 : decode cX9_findBagFor 8 = .ok (.ifCond .ge 24, 3) := by decide +kernel
theorem dX9_findBagFor_11 : decode cX9_findBagFor 11 = .ok (.aload_n 0, 1) := by decide +kernel
theorem dX9_findBagFor_12 : decode cX9_findBagFor 12 = .ok (.getfield 23, 3) := by decide +kernel
theorem dX9_findBagFor_15 : decode cX9_findBagFor 15 = .ok (.iload_n 1, 1) := by decide +kernel
theorem dX9_findBagFor_16 : decode cX9_findBagFor 16 = .ok (.invokevirtual 127, 3) := by decide +kernel
theorem dX9_findBagFor_19 : decode cX9_findBagFor 19 = .ok (.aload_n 0, 1) := by decide +kernel
theorem dX9_findBagFor_20 : decode cX9_findBagFor 20 = .ok (.getfield 9, 3) := by decide +kernel
theorem dX9_findBagFor_23 : decode cX9_findBagFor 23 = .ok (.iconst 1, 1) := by decide +kernel
theorem dX9_findBagFor_24 : decode cX9_findBagFor 24 = .ok (.dup2, 1) := by decide +kernel
theorem dX9_findBagFor_25 : decode cX9_findBagFor 25 = .ok (.iaload, 1) := by decide +kernel
theorem dX9_findBagFor_26 : decode cX9_findBagFor 26 = .ok (.iconst 1, 1) := by decide +kernel
theorem dX9_findBagFor_27 : decode cX9_findBagFor 27 = .ok (.iadd, 1) := by decide +kernel
theorem dX9_findBagFor_28 : decode cX9_findBagFor 28 = .ok (.iastore, 1) := by decide +kernel
theorem dX9_findBagFor_29 : decode cX9_findBagFor 29 = .ok (.goto 16, 3) := by decide +kernel
theorem dX9_findBagFor_32 : decode cX9_findBagFor 32 = .ok (.aload_n 0, 1) := by decide +kernel
theorem dX9_findBagFor_33 : decode cX9_findBagFor 33 = .ok (.getfield 23, 3) := by decide +kernel
theorem dX9_findBagFor_36 : decode cX9_findBagFor 36 = .ok (.iload_n 2, 1) := by decide +kernel
theorem dX9_findBagFor_37 : decode cX9_findBagFor 37 = .ok (.aload_n 0, 1) := by decide +kernel
theorem dX9_findBagFor_38 : decode cX9_findBagFor 38 = .ok (.getfield 23, 3) := by decide +kernel
theorem dX9_findBagFor_41 : decode cX9_findBagFor 41 = .ok (.iload_n 1, 1) := by decide +kernel
theorem dX9_findBagFor_42 : decode cX9_findBagFor 42 = .ok (.invokevirtual 235, 3) := by decide +kernel
theorem dX9_findBagFor_45 : decode cX9_findBagFor 45 = .ok (.return_, 1) := by decide +kernel
theorem dX9_loneNear_0 : decode cX9_loneNear 0 = .ok (.iconst 1, 1) := by decide +kernel
theorem dX9_loneNear_1 : decode cX9_loneNear 1 = .ok (.istore_n 3, 1) := by decide +kernel
theorem dX9_loneNear_2 : decode cX9_loneNear 2 = .ok (.iload_n 3, 1) := by decide +kernel
theorem dX9_loneNear_3 : decode cX9_loneNear 3 = .ok (.aload_n 0, 1) := by decide +kernel
theorem dX9_loneNear_4 : decode cX9_loneNear 4 = .ok (.getfield 57, 3) := by decide +kernel
theorem dX9_loneNear_7 : decode cX9_loneNear 7 = .ok (.getfield 252, 3) := by decide +kernel
theorem dX9_loneNear_10 : decode cX9_loneNear 10 = .ok (.if_icmp .gt 53, 3) := by decide +kernel
theorem dX9_loneNear_13 : decode cX9_loneNear 13 = .ok (.aload_n 0, 1) := by decide +kernel
theorem dX9_loneNear_14 : decode cX9_loneNear 14 = .ok (.iload_n 1, 1) := by decide +kernel
theorem dX9_loneNear_15 : decode cX9_loneNear 15 = .ok (.iload_n 3, 1) := by decide +kernel
theorem dX9_loneNear_16 : decode cX9_loneNear 16 = .ok (.isub, 1) := by decide +kernel
theorem dX9_loneNear_17 : decode cX9_loneNear 17 = .ok (.invokevirtual 105, 3) := by decide +kernel
theorem dX9_loneNear_20 : decode cX9_loneNear 20 = .ok (.istore 4, 2) := by decide +kernel
theorem dX9_loneNear_22 : decode cX9_loneNear 22 = .ok (.aload_n 0, 1) := by decide +kernel
theorem dX9_loneNear_23 : decode cX9_loneNear 23 = .ok (.iload 4, 2) := by decide +kernel
theorem dX9_loneNear_25 : decode cX9_loneNear 25 = .ok (.iload_n 2, 1) := by decide +kernel
theorem dX9_loneNear_26 : decode cX9_loneNear 26 = .ok (.invokevirtual 255, 3) := by decide +kernel
theorem dX9_loneNear_29 : decode cX9_loneNear 29 = .ok (.ifCond .eq 6, 3) := by decide +kernel
theorem dX9_loneNear_32 : decode cX9_loneNear 32 = .ok (.iload 4, 2) := by decide +kernel
theorem dX9_loneNear_34 : decode cX9_loneNear 34 = .ok (.ireturn, 1) := by decide +kernel
theorem dX9_loneNear_35 : decode cX9_loneNear 35 = .ok (.aload_n 0, 1) := by decide +kernel
theorem dX9_loneNear_36 : decode cX9_loneNear 36 = .ok (.iload_n 1, 1) := by decide +kernel
theorem dX9_loneNear_37 : decode cX9_loneNear 37 = .ok (.iload_n 3, 1) := by decide +kernel
theorem dX9_loneNear_38 : decode cX9_loneNear 38 = .ok (.iadd, 1) := by decide +kernel
theorem dX9_loneNear_39 : decode cX9_loneNear 39 = .ok (.invokevirtual 105, 3) := by decide +kernel
theorem dX9_loneNear_42 : decode cX9_loneNear 42 = .ok (.istore 5, 2) := by decide +kernel
theorem dX9_loneNear_44 : decode cX9_loneNear 44 = .ok (.aload_n 0, 1) := by decide +kernel
theorem dX9_loneNear_45 : decode cX9_loneNear 45 = .ok (.iload 5, 2) := by decide +kernel
theorem dX9_loneNear_47 : decode cX9_loneNear 47 = .ok (.iload_n 2, 1) := by decide +kernel
theorem dX9_loneNear_48 : decode cX9_loneNear 48 = .ok (.invokevirtual 255, 3) := by decide +kernel
theorem dX9_loneNear_51 : decode cX9_loneNear 51 = .ok (.ifCond .eq 6, 3) := by decide +kernel
theorem dX9_loneNear_54 : decode cX9_loneNear 54 = .ok (.iload 5, 2) := by decide +kernel
theorem dX9_loneNear_56 : decode cX9_loneNear 56 = .ok (.ireturn, 1) := by decide +kernel
theorem dX9_loneNear_57 : decode cX9_loneNear 57 = .ok (.iinc 3 1, 3) := by decide +kernel
theorem dX9_loneNear_60 : decode cX9_loneNear 60 = .ok (.goto (-58), 3) := by decide +kernel
theorem dX9_loneNear_63 : decode cX9_loneNear 63 = .ok (.iconst (-1), 1) := by decide +kernel
theorem dX9_loneNear_64 : decode cX9_loneNear 64 = .ok (.ireturn, 1) := by decide +kernel
theorem dX9_isLone_0 : decode cX9_isLone 0 = .ok (.aload_n 0, 1) := by decide +kernel
theorem dX9_isLone_1 : decode cX9_isLone 1 = .ok (.getfield 15, 3) := by decide +kernel
theorem dX9_isLone_4 : decode cX9_isLone 4 = .ok (.iload_n 1, 1) := by decide +kernel
theorem dX9_isLone_5 : decode cX9_isLone 5 = .ok (.iaload, 1) := by decide +kernel
theorem dX9_isLone_6 : decode cX9_isLone 6 = .ok (.ifCond .lt 7, 3) := by decide +kernel
theorem dX9_isLone_9 : decode cX9_isLone 9 = .ok (.iconst 1, 1) := by decide +kernel
theorem dX9_isLone_10 : decode cX9_isLone 10 = .ok (.goto 4, 3) := by decide +kernel
theorem dX9_isLone_13 : decode cX9_isLone 13 = .ok (.iconst 0, 1) := by decide +kernel
theorem dX9_isLone_14 : decode cX9_isLone 14 = .ok (.istore_n 3, 1) := by decide +kernel
theorem dX9_isLone_15 : decode cX9_isLone 15 = .ok (.aload_n 0, 1) := by decide +kernel
theorem dX9_isLone_16 : decode cX9_isLone 16 = .ok (.getfield 23, 3) := by decide +kernel
theorem dX9_isLone_19 : decode cX9_isLone 19 = .ok (.getfield 195, 3) := by decide +kernel
theorem dX9_isLone_22 : decode cX9_isLone 22 = .ok (.iload_n 1, 1) := by decide +kernel
theorem dX9_isLone_23 : decode cX9_isLone 23 = .ok (.iaload, 1) := by decide +kernel
theorem dX9_isLone_24 : decode cX9_isLone 24 = .ok (.bipush (-2), 2) := by decide +kernel
theorem dX9_isLone_26 : decode cX9_isLone 26 = .ok (.if_icmp .eq 7, 3) := by decide +kernel
theorem dX9_isLone_29 : decode cX9_isLone 29 = .ok (.iconst 1, 1) := by decide +kernel
theorem dX9_isLone_30 : decode cX9_isLone 30 = .ok (.goto 4, 3) := by decide +kernel
theorem dX9_isLone_33 : decode cX9_isLone 33 = .ok (.iconst 0, 1) := by decide +kernel
theorem dX9_isLone_34 : decode cX9_isLone 34 = .ok (.istore 4, 2) := by decide +kernel
theorem dX9_isLone_36 : decode cX9_isLone 36 = .ok (.iload 4, 2) := by decide +kernel
theorem dX9_isLone_38 : decode cX9_isLone 38 = .ok (.iload_n 2, 1) := by decide +kernel
theorem dX9_isLone_39 : decode cX9_isLone 39 = .ok (.if_icmp .ne 12, 3) := by decide +kernel
theorem dX9_isLone_42 : decode cX9_isLone 42 = .ok (.iload_n 3, 1) := by decide +kernel
theorem dX9_isLone_43 : decode cX9_isLone 43 = .ok (.iload_n 2, 1) := by decide +kernel
theorem dX9_isLone_44 : decode cX9_isLone 44 = .ok (.if_icmp .eq 7, 3) := by decide +kernel
theorem dX9_isLone_47 : decode cX9_isLone 47 = .ok (.iconst 1, 1) := by decide +kernel
theorem dX9_isLone_48 : decode cX9_isLone 48 = .ok (.goto 4, 3) := by decide +kernel
theorem dX9_isLone_51 : decode cX9_isLone 51 = .ok (.iconst 0, 1) := by decide +kernel
theorem dX9_isLone_52 : decode cX9_isLone 52 = .ok (.ireturn, 1) := by decide +kernel
theorem dX9_readLabels_0 : decode cX9_readLabels 0 = .ok (.aload_n 0, 1) := by decide +kernel
theorem dX9_readLabels_1 : decode cX9_readLabels 1 = .ok (.getfield 23, 3) := by decide +kernel
theorem dX9_readLabels_4 : decode cX9_readLabels 4 = .ok (.getfield 198, 3) := by decide +kernel
theorem dX9_readLabels_7 : decode cX9_readLabels 7 = .ok (.iload_n 1, 1) := by decide +kernel
theorem dX9_readLabels_8 : decode cX9_readLabels 8 = .ok (.dup2, 1) := by decide +kernel
theorem dX9_readLabels_9 : decode cX9_readLabels 9 = .ok (.iaload, 1) := by decide +kernel
theorem dX9_readLabels_10 : decode cX9_readLabels 10 = .ok (.iconst 1, 1) := by decide +kernel
theorem dX9_readLabels_11 : decode cX9_readLabels 11 = .ok (.iadd, 1) := by decide +kernel
theorem dX9_readLabels_12 : decode cX9_readLabels 12 = .ok (.iastore, 1) := by decide +kernel
theorem dX9_readLabels_13 : decode cX9_readLabels 13 = .ok (.aload_n 0, 1) := by decide +kernel
theorem dX9_readLabels_14 : decode cX9_readLabels 14 = .ok (.aload_n 0, 1) := by decide +kernel
theorem dX9_readLabels_15 : decode cX9_readLabels 15 = .ok (.getfield 15, 3) := by decide +kernel
theorem dX9_readLabels_18 : decode cX9_readLabels 18 = .ok (.iload_n 1, 1) := by decide +kernel
theorem dX9_readLabels_19 : decode cX9_readLabels 19 = .ok (.iaload, 1) := by decide +kernel
theorem dX9_readLabels_20 : decode cX9_readLabels 20 = .ok (.invokevirtual 259, 3) := by decide +kernel
theorem dX9_readLabels_23 : decode cX9_readLabels 23 = .ok (.istore_n 2, 1) := by decide +kernel
theorem dX9_readLabels_24 : decode cX9_readLabels 24 = .ok (.aload_n 0, 1) := by decide +kernel
theorem dX9_readLabels_25 : decode cX9_readLabels 25 = .ok (.getfield 23, 3) := by decide +kernel
theorem dX9_readLabels_28 : decode cX9_readLabels 28 = .ok (.getfield 195, 3) := by decide +kernel
theorem dX9_readLabels_31 : decode cX9_readLabels 31 = .ok (.iload_n 1, 1) := by decide +kernel
theorem dX9_readLabels_32 : decode cX9_readLabels 32 = .ok (.iaload, 1) := by decide +kernel
theorem dX9_readLabels_33 : decode cX9_readLabels 33 = .ok (.istore_n 3, 1) := by decide +kernel
theorem dX9_readLabels_34 : decode cX9_readLabels 34 = .ok (.iload_n 2, 1) := by decide +kernel
theorem dX9_readLabels_35 : decode cX9_readLabels 35 = .ok (.sipush 1000, 3) := by decide +kernel
theorem dX9_readLabels_38 : decode cX9_readLabels 38 = .ok (.if_icmp .lt 38, 3) := by decide +kernel
theorem dX9_readLabels_41 : decode cX9_readLabels 41 = .ok (.iload_n 3, 1) := by decide +kernel
theorem dX9_readLabels_42 : decode cX9_readLabels 42 = .ok (.sipush 1000, 3) := by decide +kernel
theorem dX9_readLabels_45 : decode cX9_readLabels 45 = .ok (.if_icmp .lt 18, 3) := by decide +kernel
theorem dX9_readLabels_48 : decode cX9_readLabels 48 = .ok (.iload_n 3, 1) := by decide +kernel
theorem dX9_readLabels_49 : decode cX9_readLabels 49 = .ok (.iload_n 2, 1) := by decide +kernel
theorem dX9_readLabels_50 : decode cX9_readLabels 50 = .ok (.if_icmp .eq 13, 3) := by decide +kernel
theorem dX9_readLabels_53 : decode cX9_readLabels 53 = .ok (.aload_n 0, 1) := by decide +kernel
theorem dX9_readLabels_54 : decode cX9_readLabels 54 = .ok (.getfield 9, 3) := by decide +kernel
theorem dX9_readLabels_57 : decode cX9_readLabels 57 = .ok (.iconst 2, 1) := by decide +kernel
theorem dX9_readLabels_58 : decode cX9_readLabels 58 = .ok (.dup2, 1) := by decide +kernel
theorem dX9_readLabels_59 : decode cX9_readLabels 59 = .ok (.iaload, 1) := by decide +kernel
theorem dX9_readLabels_60 : decode cX9_readLabels 60 = .ok (.iconst 1, 1) := by decide +kernel
theorem dX9_readLabels_61 : decode cX9_readLabels 61 = .ok (.iadd, 1) := by decide +kernel
theorem dX9_readLabels_62 : decode cX9_readLabels 62 = .ok (.iastore, 1) := by decide +kernel
theorem dX9_readLabels_63 : decode cX9_readLabels 63 = .ok (.aload_n 0, 1) := by decide +kernel
theorem dX9_readLabels_64 : decode cX9_readLabels 64 = .ok (.getfield 23, 3) := by decide +kernel
theorem dX9_readLabels_67 : decode cX9_readLabels 67 = .ok (.getfield 195, 3) := by decide +kernel
theorem dX9_readLabels_70 : decode cX9_readLabels 70 = .ok (.iload_n 1, 1) := by decide +kernel
theorem dX9_readLabels_71 : decode cX9_readLabels 71 = .ok (.iload_n 2, 1) := by decide +kernel
theorem dX9_readLabels_72 : decode cX9_readLabels 72 = .ok (.iastore, 1) := by decide +kernel
theorem dX9_readLabels_73 : decode cX9_readLabels 73 = .ok (.goto 22, 3) := by decide +kernel
theorem dX9_readLabels_76 : decode cX9_readLabels 76 = .ok (.iload_n 2, 1) := by decide +kernel
theorem dX9_readLabels_77 : decode cX9_readLabels 77 = .ok (.iconst (-1), 1) := by decide +kernel
theorem dX9_readLabels_78 : decode cX9_readLabels 78 = .ok (.if_icmp .ne 17, 3) := by decide +kernel
theorem dX9_readLabels_81 : decode cX9_readLabels 81 = .ok (.iload_n 3, 1) := by decide +kernel
theorem dX9_readLabels_82 : decode cX9_readLabels 82 = .ok (.ifCond .ne 13, 3) := by decide +kernel
theorem dX9_readLabels_85 : decode cX9_readLabels 85 = .ok (.aload_n 0, 1) := by decide +kernel
theorem dX9_readLabels_86 : decode cX9_readLabels 86 = .ok (.getfield 23, 3) := by decide +kernel
theorem dX9_readLabels_89 : decode cX9_readLabels 89 = .ok (.getfield 195, 3) := by decide +kernel
theorem dX9_readLabels_92 : decode cX9_readLabels 92 = .ok (.iload_n 1, 1) := by decide +kernel
theorem dX9_readLabels_93 : decode cX9_readLabels 93 = .ok (.iconst (-1), 1) := by decide +kernel
theorem dX9_readLabels_94 : decode cX9_readLabels 94 = .ok (.iastore, 1) := by decide +kernel
theorem dX9_readLabels_95 : decode cX9_readLabels 95 = .ok (.return_, 1) := by decide +kernel
theorem dX9_codeSeen_0 : decode cX9_codeSeen 0 = .ok (.iload_n 1, 1) := by decide +kernel
theorem dX9_codeSeen_1 : decode cX9_codeSeen 1 = .ok (.ifCond .ge 5, 3) := by decide +kernel
theorem dX9_codeSeen_4 : decode cX9_codeSeen 4 = .ok (.iconst 0, 1) := by decide +kernel
theorem dX9_codeSeen_5 : decode cX9_codeSeen 5 = .ok (.ireturn, 1) := by decide +kernel
theorem dX9_codeSeen_6 : decode cX9_codeSeen 6 = .ok (.aload_n 0, 1) := by decide +kernel
theorem dX9_codeSeen_7 : decode cX9_codeSeen 7 = .ok (.getfield 40, 3) := by decide +kernel
theorem dX9_codeSeen_10 : decode cX9_codeSeen 10 = .ok (.getfield 262, 3) := by decide +kernel
theorem dX9_codeSeen_13 : decode cX9_codeSeen 13 = .ok (.iload_n 1, 1) := by decide +kernel
theorem dX9_codeSeen_14 : decode cX9_codeSeen 14 = .ok (.iaload, 1) := by decide +kernel
theorem dX9_codeSeen_15 : decode cX9_codeSeen 15 = .ok (.aload_n 0, 1) := by decide +kernel
theorem dX9_codeSeen_16 : decode cX9_codeSeen 16 = .ok (.getfield 68, 3) := by decide +kernel
theorem dX9_codeSeen_19 : decode cX9_codeSeen 19 = .ok (.iand, 1) := by decide +kernel
theorem dX9_codeSeen_20 : decode cX9_codeSeen 20 = .ok (.ifCond .eq 15, 3) := by decide +kernel
theorem dX9_codeSeen_23 : decode cX9_codeSeen 23 = .ok (.aload_n 0, 1) := by decide +kernel
theorem dX9_codeSeen_24 : decode cX9_codeSeen 24 = .ok (.getfield 40, 3) := by decide +kernel
theorem dX9_codeSeen_27 : decode cX9_codeSeen 27 = .ok (.getfield 265, 3) := by decide +kernel
theorem dX9_codeSeen_30 : decode cX9_codeSeen 30 = .ok (.iload_n 1, 1) := by decide +kernel
theorem dX9_codeSeen_31 : decode cX9_codeSeen 31 = .ok (.iaload, 1) := by decide +kernel
theorem dX9_codeSeen_32 : decode cX9_codeSeen 32 = .ok (.goto 4, 3) := by decide +kernel
theorem dX9_codeSeen_35 : decode cX9_codeSeen 35 = .ok (.iconst 0, 1) := by decide +kernel
theorem dX9_codeSeen_36 : decode cX9_codeSeen 36 = .ok (.istore_n 2, 1) := by decide +kernel
theorem dX9_codeSeen_37 : decode cX9_codeSeen 37 = .ok (.aload_n 0, 1) := by decide +kernel
theorem dX9_codeSeen_38 : decode cX9_codeSeen 38 = .ok (.getfield 40, 3) := by decide +kernel
theorem dX9_codeSeen_41 : decode cX9_codeSeen 41 = .ok (.getfield 268, 3) := by decide +kernel
theorem dX9_codeSeen_44 : decode cX9_codeSeen 44 = .ok (.iload_n 1, 1) := by decide +kernel
theorem dX9_codeSeen_45 : decode cX9_codeSeen 45 = .ok (.iaload, 1) := by decide +kernel
theorem dX9_codeSeen_46 : decode cX9_codeSeen 46 = .ok (.aload_n 0, 1) := by decide +kernel
theorem dX9_codeSeen_47 : decode cX9_codeSeen 47 = .ok (.getfield 68, 3) := by decide +kernel
theorem dX9_codeSeen_50 : decode cX9_codeSeen 50 = .ok (.iand, 1) := by decide +kernel
theorem dX9_codeSeen_51 : decode cX9_codeSeen 51 = .ok (.ifCond .eq 15, 3) := by decide +kernel
theorem dX9_codeSeen_54 : decode cX9_codeSeen 54 = .ok (.aload_n 0, 1) := by decide +kernel
theorem dX9_codeSeen_55 : decode cX9_codeSeen 55 = .ok (.getfield 40, 3) := by decide +kernel
theorem dX9_codeSeen_58 : decode cX9_codeSeen 58 = .ok (.getfield 271, 3) := by decide +kernel
theorem dX9_codeSeen_61 : decode cX9_codeSeen 61 = .ok (.iload_n 1, 1) := by decide +kernel
theorem dX9_codeSeen_62 : decode cX9_codeSeen 62 = .ok (.iaload, 1) := by decide +kernel
theorem dX9_codeSeen_63 : decode cX9_codeSeen 63 = .ok (.goto 4, 3) := by decide +kernel
theorem dX9_codeSeen_66 : decode cX9_codeSeen 66 = .ok (.iconst 0, 1) := by decide +kernel
theorem dX9_codeSeen_67 : decode cX9_codeSeen 67 = .ok (.istore_n 3, 1) := by decide +kernel
theorem dX9_codeSeen_68 : decode cX9_codeSeen 68 = .ok (.iload_n 2, 1) := by decide +kernel
theorem dX9_codeSeen_69 : decode cX9_codeSeen 69 = .ok (.ifCond .eq 8, 3) := by decide +kernel
theorem dX9_codeSeen_72 : decode cX9_codeSeen 72 = .ok (.iload_n 2, 1) := by decide +kernel
theorem dX9_codeSeen_73 : decode cX9_codeSeen 73 = .ok (.iload_n 3, 1) := by decide +kernel
theorem dX9_codeSeen_74 : decode cX9_codeSeen 74 = .ok (.if_icmp .ne 5, 3) := by decide +kernel
theorem dX9_codeSeen_77 : decode cX9_codeSeen 77 = .ok (.iload_n 3, 1) := by decide +kernel
theorem dX9_codeSeen_78 : decode cX9_codeSeen 78 = .ok (.ireturn, 1) := by decide +kernel
theorem dX9_codeSeen_79 : decode cX9_codeSeen 79 = .ok (.iload_n 3, 1) := by decide +kernel
theorem dX9_codeSeen_80 : decode cX9_codeSeen 80 = .ok (.ifCond .ne 5, 3) := by decide +kernel
theorem dX9_codeSeen_83 : decode cX9_codeSeen 83 = .ok (.iload_n 2, 1) := by decide +kernel
theorem dX9_codeSeen_84 : decode cX9_codeSeen 84 = .ok (.ireturn, 1) := by decide +kernel
theorem dX9_codeSeen_85 : decode cX9_codeSeen 85 = .ok (.aload_n 0, 1) := by decide +kernel
theorem dX9_codeSeen_86 : decode cX9_codeSeen 86 = .ok (.getfield 57, 3) := by decide +kernel
theorem dX9_codeSeen_89 : decode cX9_codeSeen 89 = .ok (.getfield 210, 3) := by decide +kernel
theorem dX9_codeSeen_92 : decode cX9_codeSeen 92 = .ok (.iload_n 2, 1) := by decide +kernel
theorem dX9_codeSeen_93 : decode cX9_codeSeen 93 = .ok (.invokevirtual 214, 3) := by decide +kernel
theorem dX9_codeSeen_96 : decode cX9_codeSeen 96 = .ok (.iconst (-1), 1) := by decide +kernel
theorem dX9_codeSeen_97 : decode cX9_codeSeen 97 = .ok (.if_icmp .eq 7, 3) := by decide +kernel
theorem dX9_codeSeen_100 : decode cX9_codeSeen 100 = .ok (.iconst 1, 1) := by decide +kernel
theorem dX9_codeSeen_101 : decode cX9_codeSeen 101 = .ok (.goto 4, 3) := by decide +kernel
theorem dX9_codeSeen_104 : decode cX9_codeSeen 104 = .ok (.iconst 0, 1) := by decide +kernel
theorem dX9_codeSeen_105 : decode cX9_codeSeen 105 = .ok (.istore 4, 2) := by decide +kernel
theorem dX9_codeSeen_107 : decode cX9_codeSeen 107 = .ok (.aload_n 0, 1) := by decide +kernel
theorem dX9_codeSeen_108 : decode cX9_codeSeen 108 = .ok (.getfield 57, 3) := by decide +kernel
theorem dX9_codeSeen_111 : decode cX9_codeSeen 111 = .ok (.getfield 210, 3) := by decide +kernel
theorem dX9_codeSeen_114 : decode cX9_codeSeen 114 = .ok (.iload_n 3, 1) := by decide +kernel
theorem dX9_codeSeen_115 : decode cX9_codeSeen 115 = .ok (.invokevirtual 214, 3) := by decide +kernel
theorem dX9_codeSeen_118 : decode cX9_codeSeen 118 = .ok (.iconst (-1), 1) := by decide +kernel
theorem dX9_codeSeen_119 : decode cX9_codeSeen 119 = .ok (.if_icmp .eq 7, 3) := by decide +kernel
theorem dX9_codeSeen_122 : decode cX9_codeSeen 122 = .ok (.iconst 1, 1) := by decide +kernel
theorem dX9_codeSeen_123 : decode cX9_codeSeen 123 = .ok (.goto 4, 3) := by decide +kernel
theorem dX9_codeSeen_126 : decode cX9_codeSeen 126 = .ok (.iconst 0, 1) := by decide +kernel
theorem dX9_codeSeen_127 : decode cX9_codeSeen 127 = .ok (.istore 5, 2) := by decide +kernel
theorem dX9_codeSeen_129 : decode cX9_codeSeen 129 = .ok (.iload 4, 2) := by decide +kernel
theorem dX9_codeSeen_131 : decode cX9_codeSeen 131 = .ok (.iload 5, 2) := by decide +kernel
theorem dX9_codeSeen_133 : decode cX9_codeSeen 133 = .ok (.if_icmp .ne 5, 3) := by decide +kernel
theorem dX9_codeSeen_136 : decode cX9_codeSeen 136 = .ok (.iconst (-1), 1) := by decide +kernel
theorem dX9_codeSeen_137 : decode cX9_codeSeen 137 = .ok (.ireturn, 1) := by decide +kernel
theorem dX9_codeSeen_138 : decode cX9_codeSeen 138 = .ok (.iload 4, 2) := by decide +kernel
theorem dX9_codeSeen_140 : decode cX9_codeSeen 140 = .ok (.ifCond .eq 7, 3) := by decide +kernel
theorem dX9_codeSeen_143 : decode cX9_codeSeen 143 = .ok (.iload_n 2, 1) := by decide +kernel
theorem dX9_codeSeen_144 : decode cX9_codeSeen 144 = .ok (.goto 4, 3) := by decide +kernel
theorem dX9_codeSeen_147 : decode cX9_codeSeen 147 = .ok (.iload_n 3, 1) := by decide +kernel
theorem dX9_codeSeen_148 : decode cX9_codeSeen 148 = .ok (.ireturn, 1) := by decide +kernel
theorem dX9_divert_0 : decode cX9_divert 0 = .ok (.aload_n 0, 1) := by decide +kernel
theorem dX9_divert_1 : decode cX9_divert 1 = .ok (.getfield 23, 3) := by decide +kernel
theorem dX9_divert_4 : decode cX9_divert 4 = .ok (.iload_n 2, 1) := by decide +kernel
theorem dX9_divert_5 : decode cX9_divert 5 = .ok (.invokevirtual 234, 3) := by decide +kernel
theorem dX9_divert_8 : decode cX9_divert 8 = .ok (.ifCond .ne 4, 3) := by decide +kernel
theorem dX9_divert_11 : decode cX9_divert 11 = .ok (.return_, 1) := by decide +kernel
theorem dX9_divert_12 : decode cX9_divert 12 = .ok (.aload_n 0, 1) := by decide +kernel
theorem dX9_divert_13 : decode cX9_divert 13 = .ok (.getfield 57, 3) := by decide +kernel
theorem dX9_divert_16 : decode cX9_divert 16 = .ok (.getfield 165, 3) := by decide +kernel
theorem dX9_divert_19 : decode cX9_divert 19 = .ok (.iload_n 1, 1) := by decide +kernel
theorem dX9_divert_20 : decode cX9_divert 20 = .ok (.iaload, 1) := by decide +kernel
theorem dX9_divert_21 : decode cX9_divert 21 = .ok (.istore_n 3, 1) := by decide +kernel
theorem dX9_divert_22 : decode cX9_divert 22 = .ok (.iload_n 3, 1) := by decide +kernel
theorem dX9_divert_23 : decode cX9_divert 23 = .ok (.iconst 3, 1) := by decide +kernel
theorem dX9_divert_24 : decode cX9_divert 24 = .ok (.if_icmp .ne 18, 3) := by decide +kernel
theorem dX9_divert_27 : decode cX9_divert 27 = .ok (.bipush 10, 2) := by decide +kernel
theorem dX9_divert_29 : decode cX9_divert 29 = .ok (.aload_n 0, 1) := by decide +kernel
theorem dX9_divert_30 : decode cX9_divert 30 = .ok (.getfield 57, 3) := by decide +kernel
theorem dX9_divert_33 : decode cX9_divert 33 = .ok (.getfield 113, 3) := by decide +kernel
theorem dX9_divert_36 : decode cX9_divert 36 = .ok (.iload_n 1, 1) := by decide +kernel
theorem dX9_divert_37 : decode cX9_divert 37 = .ok (.iaload, 1) := by decide +kernel
theorem dX9_divert_38 : decode cX9_divert 38 = .ok (.iadd, 1) := by decide +kernel
theorem dX9_divert_39 : decode cX9_divert 39 = .ok (.goto 4, 3) := by decide +kernel
theorem dX9_divert_42 : decode cX9_divert 42 = .ok (.iload_n 3, 1) := by decide +kernel
theorem dX9_divert_43 : decode cX9_divert 43 = .ok (.istore 4, 2) := by decide +kernel
theorem dX9_divert_45 : decode cX9_divert 45 = .ok (.aload_n 0, 1) := by decide +kernel
theorem dX9_divert_46 : decode cX9_divert 46 = .ok (.iload_n 2, 1) := by decide +kernel
theorem dX9_divert_47 : decode cX9_divert 47 = .ok (.invokevirtual 274, 3) := by decide +kernel
theorem dX9_divert_50 : decode cX9_divert 50 = .ok (.iload 4, 2) := by decide +kernel
theorem dX9_divert_52 : decode cX9_divert 52 = .ok (.if_icmp .eq 4, 3) := by decide +kernel
theorem dX9_divert_55 : decode cX9_divert 55 = .ok (.return_, 1) := by decide +kernel
theorem dX9_divert_56 : decode cX9_divert 56 = .ok (.aload_n 0, 1) := by decide +kernel
theorem dX9_divert_57 : decode cX9_divert 57 = .ok (.getfield 33, 3) := by decide +kernel
theorem dX9_divert_60 : decode cX9_divert 60 = .ok (.getfield 277, 3) := by decide +kernel
theorem dX9_divert_63 : decode cX9_divert 63 = .ok (.iload_n 1, 1) := by decide +kernel
theorem dX9_divert_64 : decode cX9_divert 64 = .ok (.iaload, 1) := by decide +kernel
theorem dX9_divert_65 : decode cX9_divert 65 = .ok (.aload_n 0, 1) := by decide +kernel
theorem dX9_divert_66 : decode cX9_divert 66 = .ok (.getfield 57, 3) := by decide +kernel
theorem dX9_divert_69 : decode cX9_divert 69 = .ok (.getfield 280, 3) := by decide +kernel
theorem dX9_divert_72 : decode cX9_divert 72 = .ok (.iload_n 1, 1) := by decide +kernel
theorem dX9_divert_73 : decode cX9_divert 73 = .ok (.iaload, 1) := by decide +kernel
theorem dX9_divert_74 : decode cX9_divert 74 = .ok (.if_icmp .ge 16, 3) := by decide +kernel
theorem dX9_divert_77 : decode cX9_divert 77 = .ok (.aload_n 0, 1) := by decide +kernel
theorem dX9_divert_78 : decode cX9_divert 78 = .ok (.getfield 61, 3) := by decide +kernel
theorem dX9_divert_81 : decode cX9_divert 81 = .ok (.aload_n 0, 1) := by decide +kernel
theorem dX9_divert_82 : decode cX9_divert 82 = .ok (.getfield 44, 3) := by decide +kernel
theorem dX9_divert_85 : decode cX9_divert 85 = .ok (.iload_n 1, 1) := by decide +kernel
theorem dX9_divert_86 : decode cX9_divert 86 = .ok (.iaload, 1) := by decide +kernel
theorem dX9_divert_87 : decode cX9_divert 87 = .ok (.if_icmp .ge 14, 3) := by decide +kernel
theorem dX9_divert_90 : decode cX9_divert 90 = .ok (.aload_n 0, 1) := by decide +kernel
theorem dX9_divert_91 : decode cX9_divert 91 = .ok (.getfield 9, 3) := by decide +kernel
theorem dX9_divert_94 : decode cX9_divert 94 = .ok (.iconst 3, 1) := by decide +kernel
theorem dX9_divert_95 : decode cX9_divert 95 = .ok (.dup2, 1) := by decide +kernel
theorem dX9_divert_96 : decode cX9_divert 96 = .ok (.iaload, 1) := by decide +kernel
theorem dX9_divert_97 : decode cX9_divert 97 = .ok (.iconst 1, 1) := by decide +kernel
theorem dX9_divert_98 : decode cX9_divert 98 = .ok (.iadd, 1) := by decide +kernel
theorem dX9_divert_99 : decode cX9_divert 99 = .ok (.iastore, 1) := by decide +kernel
theorem dX9_divert_100 : decode cX9_divert 100 = .ok (.return_, 1) := by decide +kernel
theorem dX9_divert_101 : decode cX9_divert 101 = .ok (.aload_n 0, 1) := by decide +kernel
theorem dX9_divert_102 : decode cX9_divert 102 = .ok (.getfield 44, 3) := by decide +kernel
theorem dX9_divert_105 : decode cX9_divert 105 = .ok (.iload_n 1, 1) := by decide +kernel
theorem dX9_divert_106 : decode cX9_divert 106 = .ok (.aload_n 0, 1) := by decide +kernel
theorem dX9_divert_107 : decode cX9_divert 107 = .ok (.getfield 61, 3) := by decide +kernel
theorem dX9_divert_110 : decode cX9_divert 110 = .ok (.aload_n 0, 1) := by decide +kernel
theorem dX9_divert_111 : decode cX9_divert 111 = .ok (.getfield 57, 3) := by decide +kernel
theorem dX9_divert_114 : decode cX9_divert 114 = .ok (.getfield 283, 3) := by decide +kernel
theorem dX9_divert_117 : decode cX9_divert 117 = .ok (.iload_n 1, 1) := by decide +kernel
theorem dX9_divert_118 : decode cX9_divert 118 = .ok (.iaload, 1) := by decide +kernel
theorem dX9_divert_119 : decode cX9_divert 119 = .ok (.iadd, 1) := by decide +kernel
theorem dX9_divert_120 : decode cX9_divert 120 = .ok (.iastore, 1) := by decide +kernel
theorem dX9_divert_121 : decode cX9_divert 121 = .ok (.aload_n 0, 1) := by decide +kernel
theorem dX9_divert_122 : decode cX9_divert 122 = .ok (.getfield 15, 3) := by decide +kernel
theorem dX9_divert_125 : decode cX9_divert 125 = .ok (.iload_n 2, 1) := by decide +kernel
theorem dX9_divert_126 : decode cX9_divert 126 = .ok (.iaload, 1) := by decide +kernel
theorem dX9_divert_127 : decode cX9_divert 127 = .ok (.istore 5, 2) := by decide +kernel
theorem dX9_divert_129 : decode cX9_divert 129 = .ok (.iload 5, 2) := by decide +kernel
theorem dX9_divert_131 : decode cX9_divert 131 = .ok (.ifCond .ge 22, 3) := by decide +kernel
theorem dX9_divert_134 : decode cX9_divert 134 = .ok (.aload_n 0, 1) := by decide +kernel
theorem dX9_divert_135 : decode cX9_divert 135 = .ok (.getfield 23, 3) := by decide +kernel
theorem dX9_divert_138 : decode cX9_divert 138 = .ok (.iload_n 2, 1) := by decide +kernel
theorem dX9_divert_139 : decode cX9_divert 139 = .ok (.invokevirtual 127, 3) := by decide +kernel
theorem dX9_divert_142 : decode cX9_divert 142 = .ok (.aload_n 0, 1) := by decide +kernel
theorem dX9_divert_143 : decode cX9_divert 143 = .ok (.getfield 9, 3) := by decide +kernel
theorem dX9_divert_146 : decode cX9_divert 146 = .ok (.iconst 4, 1) := by decide +kernel
theorem dX9_divert_147 : decode cX9_divert 147 = .ok (.dup2, 1) := by decide +kernel
theorem dX9_divert_148 : decode cX9_divert 148 = .ok (.iaload, 1) := by decide +kernel
theorem dX9_divert_149 : decode cX9_divert 149 = .ok (.iconst 1, 1) := by decide +kernel
theorem dX9_divert_150 : decode cX9_divert 150 = .ok (.iadd, 1) := by decide +kernel
theorem dX9_divert_151 : decode cX9_divert 151 = .ok (.iastore, 1) := by decide +kernel
theorem dX9_divert_152 : decode cX9_divert 152 = .ok (.return_, 1) := by decide +kernel
theorem dX9_divert_153 : decode cX9_divert 153 = .ok (.aload_n 0, 1) := by decide +kernel
theorem dX9_divert_154 : decode cX9_divert 154 = .ok (.getfield 15, 3) := by decide +kernel
theorem dX9_divert_157 : decode cX9_divert 157 = .ok (.iload_n 2, 1) := by decide +kernel
theorem dX9_divert_158 : decode cX9_divert 158 = .ok (.iconst (-1), 1) := by decide +kernel
theorem dX9_divert_159 : decode cX9_divert 159 = .ok (.iastore, 1) := by decide +kernel
theorem dX9_divert_160 : decode cX9_divert 160 = .ok (.aload_n 0, 1) := by decide +kernel
theorem dX9_divert_161 : decode cX9_divert 161 = .ok (.getfield 27, 3) := by decide +kernel
theorem dX9_divert_164 : decode cX9_divert 164 = .ok (.iload 5, 2) := by decide +kernel
theorem dX9_divert_166 : decode cX9_divert 166 = .ok (.aload_n 0, 1) := by decide +kernel
theorem dX9_divert_167 : decode cX9_divert 167 = .ok (.getfield 23, 3) := by decide +kernel
theorem dX9_divert_170 : decode cX9_divert 170 = .ok (.iload_n 2, 1) := by decide +kernel
theorem dX9_divert_171 : decode cX9_divert 171 = .ok (.invokevirtual 235, 3) := by decide +kernel
theorem dX9_divert_174 : decode cX9_divert 174 = .ok (.aload_n 0, 1) := by decide +kernel
theorem dX9_divert_175 : decode cX9_divert 175 = .ok (.getfield 33, 3) := by decide +kernel
theorem dX9_divert_178 : decode cX9_divert 178 = .ok (.iload_n 1, 1) := by decide +kernel
theorem dX9_divert_179 : decode cX9_divert 179 = .ok (.iload 5, 2) := by decide +kernel
theorem dX9_divert_181 : decode cX9_divert 181 = .ok (.invokevirtual 123, 3) := by decide +kernel
theorem dX9_divert_184 : decode cX9_divert 184 = .ok (.iload_n 3, 1) := by decide +kernel
theorem dX9_divert_185 : decode cX9_divert 185 = .ok (.iconst 3, 1) := by decide +kernel
theorem dX9_divert_186 : decode cX9_divert 186 = .ok (.if_icmp .ne 21, 3) := by decide +kernel
theorem dX9_divert_189 : decode cX9_divert 189 = .ok (.aload_n 0, 1) := by decide +kernel
theorem dX9_divert_190 : decode cX9_divert 190 = .ok (.iload 5, 2) := by decide +kernel
theorem dX9_divert_192 : decode cX9_divert 192 = .ok (.aload_n 0, 1) := by decide +kernel
theorem dX9_divert_193 : decode cX9_divert 193 = .ok (.getfield 57, 3) := by decide +kernel
theorem dX9_divert_196 : decode cX9_divert 196 = .ok (.getfield 113, 3) := by decide +kernel
theorem dX9_divert_199 : decode cX9_divert 199 = .ok (.iload_n 1, 1) := by decide +kernel
theorem dX9_divert_200 : decode cX9_divert 200 = .ok (.iaload, 1) := by decide +kernel
theorem dX9_divert_201 : decode cX9_divert 201 = .ok (.invokevirtual 286, 3) := by decide +kernel
theorem dX9_divert_204 : decode cX9_divert 204 = .ok (.goto 22, 3) := by decide +kernel
theorem dX9_divert_207 : decode cX9_divert 207 = .ok (.aload_n 0, 1) := by decide +kernel
theorem dX9_divert_208 : decode cX9_divert 208 = .ok (.getfield 40, 3) := by decide +kernel
theorem dX9_divert_211 : decode cX9_divert 211 = .ok (.iload 5, 2) := by decide +kernel
theorem dX9_divert_213 : decode cX9_divert 213 = .ok (.iload_n 3, 1) := by decide +kernel
theorem dX9_divert_214 : decode cX9_divert 214 = .ok (.aload_n 0, 1) := by decide +kernel
theorem dX9_divert_215 : decode cX9_divert 215 = .ok (.getfield 57, 3) := by decide +kernel
theorem dX9_divert_218 : decode cX9_divert 218 = .ok (.getfield 113, 3) := by decide +kernel
theorem dX9_divert_221 : decode cX9_divert 221 = .ok (.iload_n 1, 1) := by decide +kernel
theorem dX9_divert_222 : decode cX9_divert 222 = .ok (.iaload, 1) := by decide +kernel
theorem dX9_divert_223 : decode cX9_divert 223 = .ok (.invokevirtual 116, 3) := by decide +kernel
theorem dX9_divert_226 : decode cX9_divert 226 = .ok (.return_, 1) := by decide +kernel
theorem dX9_deliver_0 : decode cX9_deliver 0 = .ok (.aload_n 0, 1) := by decide +kernel
theorem dX9_deliver_1 : decode cX9_deliver 1 = .ok (.getfield 40, 3) := by decide +kernel
theorem dX9_deliver_4 : decode cX9_deliver 4 = .ok (.iload_n 1, 1) := by decide +kernel
theorem dX9_deliver_5 : decode cX9_deliver 5 = .ok (.iconst 2, 1) := by decide +kernel
theorem dX9_deliver_6 : decode cX9_deliver 6 = .ok (.iload_n 2, 1) := by decide +kernel
theorem dX9_deliver_7 : decode cX9_deliver 7 = .ok (.invokevirtual 116, 3) := by decide +kernel
theorem dX9_deliver_10 : decode cX9_deliver 10 = .ok (.aload_n 0, 1) := by decide +kernel
theorem dX9_deliver_11 : decode cX9_deliver 11 = .ok (.getfield 27, 3) := by decide +kernel
theorem dX9_deliver_14 : decode cX9_deliver 14 = .ok (.iload_n 1, 1) := by decide +kernel
theorem dX9_deliver_15 : decode cX9_deliver 15 = .ok (.invokevirtual 127, 3) := by decide +kernel
theorem dX9_deliver_18 : decode cX9_deliver 18 = .ok (.aload_n 0, 1) := by decide +kernel
theorem dX9_deliver_19 : decode cX9_deliver 19 = .ok (.getfield 9, 3) := by decide +kernel
theorem dX9_deliver_22 : decode cX9_deliver 22 = .ok (.bipush 7, 2) := by decide +kernel
theorem dX9_deliver_24 : decode cX9_deliver 24 = .ok (.dup2, 1) := by decide +kernel
theorem dX9_deliver_25 : decode cX9_deliver 25 = .ok (.iaload, 1) := by decide +kernel
theorem dX9_deliver_26 : decode cX9_deliver 26 = .ok (.iconst 1, 1) := by decide +kernel
theorem dX9_deliver_27 : decode cX9_deliver 27 = .ok (.iadd, 1) := by decide +kernel
theorem dX9_deliver_28 : decode cX9_deliver 28 = .ok (.iastore, 1) := by decide +kernel
theorem dX9_deliver_29 : decode cX9_deliver 29 = .ok (.aload_n 0, 1) := by decide +kernel
theorem dX9_deliver_30 : decode cX9_deliver 30 = .ok (.getfield 40, 3) := by decide +kernel
theorem dX9_deliver_33 : decode cX9_deliver 33 = .ok (.getfield 289, 3) := by decide +kernel
theorem dX9_deliver_36 : decode cX9_deliver 36 = .ok (.iload_n 1, 1) := by decide +kernel
theorem dX9_deliver_37 : decode cX9_deliver 37 = .ok (.aload_n 0, 1) := by decide +kernel
theorem dX9_deliver_38 : decode cX9_deliver 38 = .ok (.getfield 61, 3) := by decide +kernel
theorem dX9_deliver_41 : decode cX9_deliver 41 = .ok (.iastore, 1) := by decide +kernel
theorem dX9_deliver_42 : decode cX9_deliver 42 = .ok (.aload_n 0, 1) := by decide +kernel
theorem dX9_deliver_43 : decode cX9_deliver 43 = .ok (.getfield 57, 3) := by decide +kernel
theorem dX9_deliver_46 : decode cX9_deliver 46 = .ok (.getfield 210, 3) := by decide +kernel
theorem dX9_deliver_49 : decode cX9_deliver 49 = .ok (.aload_n 0, 1) := by decide +kernel
theorem dX9_deliver_50 : decode cX9_deliver 50 = .ok (.iload_n 1, 1) := by decide +kernel
theorem dX9_deliver_51 : decode cX9_deliver 51 = .ok (.invokevirtual 189, 3) := by decide +kernel
theorem dX9_deliver_54 : decode cX9_deliver 54 = .ok (.invokevirtual 214, 3) := by decide +kernel
theorem dX9_deliver_57 : decode cX9_deliver 57 = .ok (.istore_n 3, 1) := by decide +kernel
theorem dX9_deliver_58 : decode cX9_deliver 58 = .ok (.iload_n 3, 1) := by decide +kernel
theorem dX9_deliver_59 : decode cX9_deliver 59 = .ok (.iconst (-1), 1) := by decide +kernel
theorem dX9_deliver_60 : decode cX9_deliver 60 = .ok (.if_icmp .eq 23, 3) := by decide +kernel
theorem dX9_deliver_63 : decode cX9_deliver 63 = .ok (.aload_n 0, 1) := by decide +kernel
theorem dX9_deliver_64 : decode cX9_deliver 64 = .ok (.getfield 57, 3) := by decide +kernel
theorem dX9_deliver_67 : decode cX9_deliver 67 = .ok (.getfield 210, 3) := by decide +kernel
theorem dX9_deliver_70 : decode cX9_deliver 70 = .ok (.getfield 292, 3) := by decide +kernel
theorem dX9_deliver_73 : decode cX9_deliver 73 = .ok (.iload_n 3, 1) := by decide +kernel
theorem dX9_deliver_74 : decode cX9_deliver 74 = .ok (.iaload, 1) := by decide +kernel
theorem dX9_deliver_75 : decode cX9_deliver 75 = .ok (.iload_n 2, 1) := by decide +kernel
theorem dX9_deliver_76 : decode cX9_deliver 76 = .ok (.if_icmp .ne 7, 3) := by decide +kernel
theorem dX9_deliver_79 : decode cX9_deliver 79 = .ok (.iconst 1, 1) := by decide +kernel
theorem dX9_deliver_80 : decode cX9_deliver 80 = .ok (.goto 4, 3) := by decide +kernel
theorem dX9_deliver_83 : decode cX9_deliver 83 = .ok (.iconst 0, 1) := by decide +kernel
theorem dX9_deliver_84 : decode cX9_deliver 84 = .ok (.istore 4, 2) := by decide +kernel
theorem dX9_deliver_86 : decode cX9_deliver 86 = .ok (.aload_n 0, 1) := by decide +kernel
theorem dX9_deliver_87 : decode cX9_deliver 87 = .ok (.getfield 40, 3) := by decide +kernel
theorem dX9_deliver_90 : decode cX9_deliver 90 = .ok (.getfield 295, 3) := by decide +kernel
theorem dX9_deliver_93 : decode cX9_deliver 93 = .ok (.iload_n 1, 1) := by decide +kernel
theorem dX9_deliver_94 : decode cX9_deliver 94 = .ok (.iload 4, 2) := by decide +kernel
theorem dX9_deliver_96 : decode cX9_deliver 96 = .ok (.ifCond .eq 7, 3) := by decide +kernel
theorem dX9_deliver_99 : decode cX9_deliver 99 = .ok (.iload_n 3, 1) := by decide +kernel
theorem dX9_deliver_100 : decode cX9_deliver 100 = .ok (.goto 4, 3) := by decide +kernel
theorem dX9_deliver_103 : decode cX9_deliver 103 = .ok (.iconst (-1), 1) := by decide +kernel
theorem dX9_deliver_104 : decode cX9_deliver 104 = .ok (.iastore, 1) := by decide +kernel
theorem dX9_deliver_105 : decode cX9_deliver 105 = .ok (.return_, 1) := by decide +kernel
theorem dX9_goalOf_0 : decode cX9_goalOf 0 = .ok (.aload_n 0, 1) := by decide +kernel
theorem dX9_goalOf_1 : decode cX9_goalOf 1 = .ok (.getfield 23, 3) := by decide +kernel
theorem dX9_goalOf_4 : decode cX9_goalOf 4 = .ok (.getfield 195, 3) := by decide +kernel
theorem dX9_goalOf_7 : decode cX9_goalOf 7 = .ok (.iload_n 1, 1) := by decide +kernel
theorem dX9_goalOf_8 : decode cX9_goalOf 8 = .ok (.iaload, 1) := by decide +kernel
theorem dX9_goalOf_9 : decode cX9_goalOf 9 = .ok (.istore_n 2, 1) := by decide +kernel
theorem dX9_goalOf_10 : decode cX9_goalOf 10 = .ok (.aload_n 0, 1) := by decide +kernel
theorem dX9_goalOf_11 : decode cX9_goalOf 11 = .ok (.getfield 23, 3) := by decide +kernel
theorem dX9_goalOf_14 : decode cX9_goalOf 14 = .ok (.getfield 198, 3) := by decide +kernel
theorem dX9_goalOf_17 : decode cX9_goalOf 17 = .ok (.iload_n 1, 1) := by decide +kernel
theorem dX9_goalOf_18 : decode cX9_goalOf 18 = .ok (.iaload, 1) := by decide +kernel
theorem dX9_goalOf_19 : decode cX9_goalOf 19 = .ok (.istore_n 3, 1) := by decide +kernel
theorem dX9_goalOf_20 : decode cX9_goalOf 20 = .ok (.iload_n 3, 1) := by decide +kernel
theorem dX9_goalOf_21 : decode cX9_goalOf 21 = .ok (.ifCond .ne 9, 3) := by decide +kernel
theorem dX9_goalOf_24 : decode cX9_goalOf 24 = .ok (.iload_n 2, 1) := by decide +kernel
theorem dX9_goalOf_25 : decode cX9_goalOf 25 = .ok (.ifCond .ne 5, 3) := by decide +kernel
theorem dX9_goalOf_28 : decode cX9_goalOf 28 = .ok (.iconst 0, 1) := by decide +kernel
theorem dX9_goalOf_29 : decode cX9_goalOf 29 = .ok (.ireturn, 1) := by decide +kernel
theorem dX9_goalOf_30 : decode cX9_goalOf 30 = .ok (.iload_n 3, 1) := by decide +kernel
theorem dX9_goalOf_31 : decode cX9_goalOf 31 = .ok (.aload_n 0, 1) := by decide +kernel
theorem dX9_goalOf_32 : decode cX9_goalOf 32 = .ok (.getfield 57, 3) := by decide +kernel
theorem dX9_goalOf_35 : decode cX9_goalOf 35 = .ok (.getfield 298, 3) := by decide +kernel
theorem dX9_goalOf_38 : decode cX9_goalOf 38 = .ok (.if_icmp .gt 12, 3) := by decide +kernel
theorem dX9_goalOf_41 : decode cX9_goalOf 41 = .ok (.iload_n 2, 1) := by decide +kernel
theorem dX9_goalOf_42 : decode cX9_goalOf 42 = .ok (.ifCond .eq 8, 3) := by decide +kernel
theorem dX9_goalOf_45 : decode cX9_goalOf 45 = .ok (.iload_n 2, 1) := by decide +kernel
theorem dX9_goalOf_46 : decode cX9_goalOf 46 = .ok (.iconst (-1), 1) := by decide +kernel
theorem dX9_goalOf_47 : decode cX9_goalOf 47 = .ok (.if_icmp .ne 6, 3) := by decide +kernel
theorem dX9_goalOf_50 : decode cX9_goalOf 50 = .ok (.bipush 6, 2) := by decide +kernel
theorem dX9_goalOf_52 : decode cX9_goalOf 52 = .ok (.ireturn, 1) := by decide +kernel
theorem dX9_goalOf_53 : decode cX9_goalOf 53 = .ok (.aload_n 0, 1) := by decide +kernel
theorem dX9_goalOf_54 : decode cX9_goalOf 54 = .ok (.getfield 23, 3) := by decide +kernel
theorem dX9_goalOf_57 : decode cX9_goalOf 57 = .ok (.getfield 207, 3) := by decide +kernel
theorem dX9_goalOf_60 : decode cX9_goalOf 60 = .ok (.iload_n 1, 1) := by decide +kernel
theorem dX9_goalOf_61 : decode cX9_goalOf 61 = .ok (.iaload, 1) := by decide +kernel
theorem dX9_goalOf_62 : decode cX9_goalOf 62 = .ok (.ifCond .ne 5, 3) := by decide +kernel
theorem dX9_goalOf_65 : decode cX9_goalOf 65 = .ok (.iconst 4, 1) := by decide +kernel
theorem dX9_goalOf_66 : decode cX9_goalOf 66 = .ok (.ireturn, 1) := by decide +kernel
theorem dX9_goalOf_67 : decode cX9_goalOf 67 = .ok (.aload_n 0, 1) := by decide +kernel
theorem dX9_goalOf_68 : decode cX9_goalOf 68 = .ok (.getfield 57, 3) := by decide +kernel
theorem dX9_goalOf_71 : decode cX9_goalOf 71 = .ok (.getfield 210, 3) := by decide +kernel
theorem dX9_goalOf_74 : decode cX9_goalOf 74 = .ok (.iload_n 2, 1) := by decide +kernel
theorem dX9_goalOf_75 : decode cX9_goalOf 75 = .ok (.invokevirtual 214, 3) := by decide +kernel
theorem dX9_goalOf_78 : decode cX9_goalOf 78 = .ok (.istore 4, 2) := by decide +kernel
theorem dX9_goalOf_80 : decode cX9_goalOf 80 = .ok (.iload 4, 2) := by decide +kernel
theorem dX9_goalOf_82 : decode cX9_goalOf 82 = .ok (.iconst (-1), 1) := by decide +kernel
theorem dX9_goalOf_83 : decode cX9_goalOf 83 = .ok (.if_icmp .eq 23, 3) := by decide +kernel
theorem dX9_goalOf_86 : decode cX9_goalOf 86 = .ok (.aload_n 0, 1) := by decide +kernel
theorem dX9_goalOf_87 : decode cX9_goalOf 87 = .ok (.getfield 61, 3) := by decide +kernel
theorem dX9_goalOf_90 : decode cX9_goalOf 90 = .ok (.aload_n 0, 1) := by decide +kernel
theorem dX9_goalOf_91 : decode cX9_goalOf 91 = .ok (.getfield 57, 3) := by decide +kernel
theorem dX9_goalOf_94 : decode cX9_goalOf 94 = .ok (.getfield 210, 3) := by decide +kernel
theorem dX9_goalOf_97 : decode cX9_goalOf 97 = .ok (.getfield 222, 3) := by decide +kernel
theorem dX9_goalOf_100 : decode cX9_goalOf 100 = .ok (.iload 4, 2) := by decide +kernel
theorem dX9_goalOf_102 : decode cX9_goalOf 102 = .ok (.iaload, 1) := by decide +kernel
theorem dX9_goalOf_103 : decode cX9_goalOf 103 = .ok (.if_icmp .lt 6, 3) := by decide +kernel
theorem dX9_goalOf_106 : decode cX9_goalOf 106 = .ok (.bipush 6, 2) := by decide +kernel
theorem dX9_goalOf_108 : decode cX9_goalOf 108 = .ok (.ireturn, 1) := by decide +kernel
theorem dX9_goalOf_109 : decode cX9_goalOf 109 = .ok (.aload_n 0, 1) := by decide +kernel
theorem dX9_goalOf_110 : decode cX9_goalOf 110 = .ok (.getfield 61, 3) := by decide +kernel
theorem dX9_goalOf_113 : decode cX9_goalOf 113 = .ok (.aload_n 0, 1) := by decide +kernel
theorem dX9_goalOf_114 : decode cX9_goalOf 114 = .ok (.getfield 57, 3) := by decide +kernel
theorem dX9_goalOf_117 : decode cX9_goalOf 117 = .ok (.getfield 210, 3) := by decide +kernel
theorem dX9_goalOf_120 : decode cX9_goalOf 120 = .ok (.getfield 219, 3) := by decide +kernel
theorem dX9_goalOf_123 : decode cX9_goalOf 123 = .ok (.iload 4, 2) := by decide +kernel
theorem dX9_goalOf_125 : decode cX9_goalOf 125 = .ok (.iaload, 1) := by decide +kernel
theorem dX9_goalOf_126 : decode cX9_goalOf 126 = .ok (.if_icmp .ge 5, 3) := by decide +kernel
theorem dX9_goalOf_129 : decode cX9_goalOf 129 = .ok (.iconst 5, 1) := by decide +kernel
theorem dX9_goalOf_130 : decode cX9_goalOf 130 = .ok (.ireturn, 1) := by decide +kernel
theorem dX9_goalOf_131 : decode cX9_goalOf 131 = .ok (.bipush 10, 2) := by decide +kernel
theorem dX9_goalOf_133 : decode cX9_goalOf 133 = .ok (.aload_n 0, 1) := by decide +kernel
theorem dX9_goalOf_134 : decode cX9_goalOf 134 = .ok (.getfield 57, 3) := by decide +kernel
theorem dX9_goalOf_137 : decode cX9_goalOf 137 = .ok (.getfield 210, 3) := by decide +kernel
theorem dX9_goalOf_140 : decode cX9_goalOf 140 = .ok (.getfield 292, 3) := by decide +kernel
theorem dX9_goalOf_143 : decode cX9_goalOf 143 = .ok (.iload 4, 2) := by decide +kernel
theorem dX9_goalOf_145 : decode cX9_goalOf 145 = .ok (.iaload, 1) := by decide +kernel
theorem dX9_goalOf_146 : decode cX9_goalOf 146 = .ok (.iadd, 1) := by decide +kernel
theorem dX9_goalOf_147 : decode cX9_goalOf 147 = .ok (.ireturn, 1) := by decide +kernel
theorem dX9_usableLabel_0 : decode cX9_usableLabel 0 = .ok (.aload_n 0, 1) := by decide +kernel
theorem dX9_usableLabel_1 : decode cX9_usableLabel 1 = .ok (.getfield 40, 3) := by decide +kernel
theorem dX9_usableLabel_4 : decode cX9_usableLabel 4 = .ok (.getfield 265, 3) := by decide +kernel
theorem dX9_usableLabel_7 : decode cX9_usableLabel 7 = .ok (.iload_n 1, 1) := by decide +kernel
theorem dX9_usableLabel_8 : decode cX9_usableLabel 8 = .ok (.iaload, 1) := by decide +kernel
theorem dX9_usableLabel_9 : decode cX9_usableLabel 9 = .ok (.istore_n 2, 1) := by decide +kernel
theorem dX9_usableLabel_10 : decode cX9_usableLabel 10 = .ok (.aload_n 0, 1) := by decide +kernel
theorem dX9_usableLabel_11 : decode cX9_usableLabel 11 = .ok (.getfield 57, 3) := by decide +kernel
theorem dX9_usableLabel_14 : decode cX9_usableLabel 14 = .ok (.getfield 210, 3) := by decide +kernel
theorem dX9_usableLabel_17 : decode cX9_usableLabel 17 = .ok (.iload_n 2, 1) := by decide +kernel
theorem dX9_usableLabel_18 : decode cX9_usableLabel 18 = .ok (.invokevirtual 214, 3) := by decide +kernel
theorem dX9_usableLabel_21 : decode cX9_usableLabel 21 = .ok (.istore_n 3, 1) := by decide +kernel
theorem dX9_usableLabel_22 : decode cX9_usableLabel 22 = .ok (.iload_n 3, 1) := by decide +kernel
theorem dX9_usableLabel_23 : decode cX9_usableLabel 23 = .ok (.iconst (-1), 1) := by decide +kernel
theorem dX9_usableLabel_24 : decode cX9_usableLabel 24 = .ok (.if_icmp .eq 24, 3) := by decide +kernel
theorem dX9_usableLabel_27 : decode cX9_usableLabel 27 = .ok (.aload_n 0, 1) := by decide +kernel
theorem dX9_usableLabel_28 : decode cX9_usableLabel 28 = .ok (.getfield 61, 3) := by decide +kernel
theorem dX9_usableLabel_31 : decode cX9_usableLabel 31 = .ok (.aload_n 0, 1) := by decide +kernel
theorem dX9_usableLabel_32 : decode cX9_usableLabel 32 = .ok (.getfield 57, 3) := by decide +kernel
theorem dX9_usableLabel_35 : decode cX9_usableLabel 35 = .ok (.getfield 210, 3) := by decide +kernel
theorem dX9_usableLabel_38 : decode cX9_usableLabel 38 = .ok (.getfield 222, 3) := by decide +kernel
theorem dX9_usableLabel_41 : decode cX9_usableLabel 41 = .ok (.iload_n 3, 1) := by decide +kernel
theorem dX9_usableLabel_42 : decode cX9_usableLabel 42 = .ok (.iaload, 1) := by decide +kernel
theorem dX9_usableLabel_43 : decode cX9_usableLabel 43 = .ok (.if_icmp .ge 5, 3) := by decide +kernel
theorem dX9_usableLabel_46 : decode cX9_usableLabel 46 = .ok (.iload_n 2, 1) := by decide +kernel
theorem dX9_usableLabel_47 : decode cX9_usableLabel 47 = .ok (.ireturn, 1) := by decide +kernel
theorem dX9_usableLabel_48 : decode cX9_usableLabel 48 = .ok (.aload_n 0, 1) := by decide +kernel
theorem dX9_usableLabel_49 : decode cX9_usableLabel 49 = .ok (.getfield 40, 3) := by decide +kernel
theorem dX9_usableLabel_52 : decode cX9_usableLabel 52 = .ok (.getfield 271, 3) := by decide +kernel
theorem dX9_usableLabel_55 : decode cX9_usableLabel 55 = .ok (.iload_n 1, 1) := by decide +kernel
theorem dX9_usableLabel_56 : decode cX9_usableLabel 56 = .ok (.iaload, 1) := by decide +kernel
theorem dX9_usableLabel_57 : decode cX9_usableLabel 57 = .ok (.istore 4, 2) := by decide +kernel
theorem dX9_usableLabel_59 : decode cX9_usableLabel 59 = .ok (.aload_n 0, 1) := by decide +kernel
theorem dX9_usableLabel_60 : decode cX9_usableLabel 60 = .ok (.getfield 57, 3) := by decide +kernel
theorem dX9_usableLabel_63 : decode cX9_usableLabel 63 = .ok (.getfield 210, 3) := by decide +kernel
theorem dX9_usableLabel_66 : decode cX9_usableLabel 66 = .ok (.iload 4, 2) := by decide +kernel
theorem dX9_usableLabel_68 : decode cX9_usableLabel 68 = .ok (.invokevirtual 214, 3) := by decide +kernel
theorem dX9_usableLabel_71 : decode cX9_usableLabel 71 = .ok (.istore_n 3, 1) := by decide +kernel
theorem dX9_usableLabel_72 : decode cX9_usableLabel 72 = .ok (.iload_n 3, 1) := by decide +kernel
theorem dX9_usableLabel_73 : decode cX9_usableLabel 73 = .ok (.iconst (-1), 1) := by decide +kernel
theorem dX9_usableLabel_74 : decode cX9_usableLabel 74 = .ok (.if_icmp .eq 25, 3) := by decide +kernel
theorem dX9_usableLabel_77 : decode cX9_usableLabel 77 = .ok (.aload_n 0, 1) := by decide +kernel
theorem dX9_usableLabel_78 : decode cX9_usableLabel 78 = .ok (.getfield 61, 3) := by decide +kernel
theorem dX9_usableLabel_81 : decode cX9_usableLabel 81 = .ok (.aload_n 0, 1) := by decide +kernel
theorem dX9_usableLabel_82 : decode cX9_usableLabel 82 = .ok (.getfield 57, 3) := by decide +kernel
theorem dX9_usableLabel_85 : decode cX9_usableLabel 85 = .ok (.getfield 210, 3) := by decide +kernel
theorem dX9_usableLabel_88 : decode cX9_usableLabel 88 = .ok (.getfield 222, 3) := by decide +kernel
theorem dX9_usableLabel_91 : decode cX9_usableLabel 91 = .ok (.iload_n 3, 1) := by decide +kernel
theorem dX9_usableLabel_92 : decode cX9_usableLabel 92 = .ok (.iaload, 1) := by decide +kernel
theorem dX9_usableLabel_93 : decode cX9_usableLabel 93 = .ok (.if_icmp .ge 6, 3) := by decide +kernel
theorem dX9_usableLabel_96 : decode cX9_usableLabel 96 = .ok (.iload 4, 2) := by decide +kernel
theorem dX9_usableLabel_98 : decode cX9_usableLabel 98 = .ok (.ireturn, 1) := by decide +kernel
theorem dX9_usableLabel_99 : decode cX9_usableLabel 99 = .ok (.iconst 0, 1) := by decide +kernel
theorem dX9_usableLabel_100 : decode cX9_usableLabel 100 = .ok (.ireturn, 1) := by decide +kernel
theorem dX9_isStray_0 : decode cX9_isStray 0 = .ok (.aload_n 0, 1) := by decide +kernel
theorem dX9_isStray_1 : decode cX9_isStray 1 = .ok (.getfield 57, 3) := by decide +kernel
theorem dX9_isStray_4 : decode cX9_isStray 4 = .ok (.getfield 210, 3) := by decide +kernel
theorem dX9_isStray_7 : decode cX9_isStray 7 = .ok (.aload_n 0, 1) := by decide +kernel
theorem dX9_isStray_8 : decode cX9_isStray 8 = .ok (.getfield 40, 3) := by decide +kernel
theorem dX9_isStray_11 : decode cX9_isStray 11 = .ok (.getfield 265, 3) := by decide +kernel
theorem dX9_isStray_14 : decode cX9_isStray 14 = .ok (.iload_n 1, 1) := by decide +kernel
theorem dX9_isStray_15 : decode cX9_isStray 15 = .ok (.iaload, 1) := by decide +kernel
theorem dX9_isStray_16 : decode cX9_isStray 16 = .ok (.invokevirtual 214, 3) := by decide +kernel
theorem dX9_isStray_19 : decode cX9_isStray 19 = .ok (.istore_n 3, 1) := by decide +kernel
theorem dX9_isStray_20 : decode cX9_isStray 20 = .ok (.iload_n 3, 1) := by decide +kernel
theorem dX9_isStray_21 : decode cX9_isStray 21 = .ok (.iconst (-1), 1) := by decide +kernel
theorem dX9_isStray_22 : decode cX9_isStray 22 = .ok (.if_icmp .eq 21, 3) := by decide +kernel
theorem dX9_isStray_25 : decode cX9_isStray 25 = .ok (.aload_n 0, 1) := by decide +kernel
theorem dX9_isStray_26 : decode cX9_isStray 26 = .ok (.getfield 57, 3) := by decide +kernel
theorem dX9_isStray_29 : decode cX9_isStray 29 = .ok (.getfield 210, 3) := by decide +kernel
theorem dX9_isStray_32 : decode cX9_isStray 32 = .ok (.getfield 292, 3) := by decide +kernel
theorem dX9_isStray_35 : decode cX9_isStray 35 = .ok (.iload_n 3, 1) := by decide +kernel
theorem dX9_isStray_36 : decode cX9_isStray 36 = .ok (.iaload, 1) := by decide +kernel
theorem dX9_isStray_37 : decode cX9_isStray 37 = .ok (.iload_n 2, 1) := by decide +kernel
theorem dX9_isStray_38 : decode cX9_isStray 38 = .ok (.if_icmp .ne 5, 3) := by decide +kernel
theorem dX9_isStray_41 : decode cX9_isStray 41 = .ok (.iconst 0, 1) := by decide +kernel
theorem dX9_isStray_42 : decode cX9_isStray 42 = .ok (.ireturn, 1) := by decide +kernel
theorem dX9_isStray_43 : decode cX9_isStray 43 = .ok (.aload_n 0, 1) := by decide +kernel
theorem dX9_isStray_44 : decode cX9_isStray 44 = .ok (.getfield 57, 3) := by decide +kernel
theorem dX9_isStray_47 : decode cX9_isStray 47 = .ok (.getfield 210, 3) := by decide +kernel
theorem dX9_isStray_50 : decode cX9_isStray 50 = .ok (.aload_n 0, 1) := by decide +kernel
theorem dX9_isStray_51 : decode cX9_isStray 51 = .ok (.getfield 40, 3) := by decide +kernel
theorem dX9_isStray_54 : decode cX9_isStray 54 = .ok (.getfield 271, 3) := by decide +kernel
theorem dX9_isStray_57 : decode cX9_isStray 57 = .ok (.iload_n 1, 1) := by decide +kernel
theorem dX9_isStray_58 : decode cX9_isStray 58 = .ok (.iaload, 1) := by decide +kernel
theorem dX9_isStray_59 : decode cX9_isStray 59 = .ok (.invokevirtual 214, 3) := by decide +kernel
theorem dX9_isStray_62 : decode cX9_isStray 62 = .ok (.istore 4, 2) := by decide +kernel
theorem dX9_isStray_64 : decode cX9_isStray 64 = .ok (.iload 4, 2) := by decide +kernel
theorem dX9_isStray_66 : decode cX9_isStray 66 = .ok (.iconst (-1), 1) := by decide +kernel
theorem dX9_isStray_67 : decode cX9_isStray 67 = .ok (.if_icmp .eq 20, 3) := by decide +kernel
theorem dX9_isStray_70 : decode cX9_isStray 70 = .ok (.aload_n 0, 1) := by decide +kernel
theorem dX9_isStray_71 : decode cX9_isStray 71 = .ok (.getfield 57, 3) := by decide +kernel
theorem dX9_isStray_74 : decode cX9_isStray 74 = .ok (.getfield 210, 3) := by decide +kernel
theorem dX9_isStray_77 : decode cX9_isStray 77 = .ok (.getfield 292, 3) := by decide +kernel
theorem dX9_isStray_80 : decode cX9_isStray 80 = .ok (.iload 4, 2) := by decide +kernel
theorem dX9_isStray_82 : decode cX9_isStray 82 = .ok (.iaload, 1) := by decide +kernel
theorem dX9_isStray_83 : decode cX9_isStray 83 = .ok (.iload_n 2, 1) := by decide +kernel
theorem dX9_isStray_84 : decode cX9_isStray 84 = .ok (.if_icmp .eq 7, 3) := by decide +kernel
theorem dX9_isStray_87 : decode cX9_isStray 87 = .ok (.iconst 1, 1) := by decide +kernel
theorem dX9_isStray_88 : decode cX9_isStray 88 = .ok (.goto 4, 3) := by decide +kernel
theorem dX9_isStray_91 : decode cX9_isStray 91 = .ok (.iconst 0, 1) := by decide +kernel
theorem dX9_isStray_92 : decode cX9_isStray 92 = .ok (.ireturn, 1) := by decide +kernel
theorem dX9_ridersWith_0 : decode cX9_ridersWith 0 = .ok (.iconst 0, 1) := by decide +kernel
theorem dX9_ridersWith_1 : decode cX9_ridersWith 1 = .ok (.istore_n 2, 1) := by decide +kernel
theorem dX9_ridersWith_2 : decode cX9_ridersWith 2 = .ok (.iconst 0, 1) := by decide +kernel
theorem dX9_ridersWith_3 : decode cX9_ridersWith 3 = .ok (.istore_n 3, 1) := by decide +kernel
theorem dX9_ridersWith_4 : decode cX9_ridersWith 4 = .ok (.iload_n 3, 1) := by decide +kernel
theorem dX9_ridersWith_5 : decode cX9_ridersWith 5 = .ok (.aload_n 0, 1) := by decide +kernel
theorem dX9_ridersWith_6 : decode cX9_ridersWith 6 = .ok (.getfield 57, 3) := by decide +kernel
theorem dX9_ridersWith_9 : decode cX9_ridersWith 9 = .ok (.getfield 100, 3) := by decide +kernel
theorem dX9_ridersWith_12 : decode cX9_ridersWith 12 = .ok (.if_icmp .ge 33, 3) := by decide +kernel
theorem dX9_ridersWith_15 : decode cX9_ridersWith 15 = .ok (.aload_n 0, 1) := by decide +kernel
theorem dX9_ridersWith_16 : decode cX9_ridersWith 16 = .ok (.getfield 15, 3) := by decide +kernel
theorem dX9_ridersWith_19 : decode cX9_ridersWith 19 = .ok (.iload_n 3, 1) := by decide +kernel
theorem dX9_ridersWith_20 : decode cX9_ridersWith 20 = .ok (.iaload, 1) := by decide +kernel
theorem dX9_ridersWith_21 : decode cX9_ridersWith 21 = .ok (.ifCond .lt 18, 3) := by decide +kernel
theorem dX9_ridersWith_24 : decode cX9_ridersWith 24 = .ok (.aload_n 0, 1) := by decide +kernel
theorem dX9_ridersWith_25 : decode cX9_ridersWith 25 = .ok (.getfield 23, 3) := by decide +kernel
theorem dX9_ridersWith_28 : decode cX9_ridersWith 28 = .ok (.iload_n 3, 1) := by decide +kernel
theorem dX9_ridersWith_29 : decode cX9_ridersWith 29 = .ok (.invokevirtual 234, 3) := by decide +kernel
theorem dX9_ridersWith_32 : decode cX9_ridersWith 32 = .ok (.iload_n 1, 1) := by decide +kernel
theorem dX9_ridersWith_33 : decode cX9_ridersWith 33 = .ok (.if_icmp .ne 6, 3) := by decide +kernel
theorem dX9_ridersWith_36 : decode cX9_ridersWith 36 = .ok (.iinc 2 1, 3) := by decide +kernel
theorem dX9_ridersWith_39 : decode cX9_ridersWith 39 = .ok (.iinc 3 1, 3) := by decide +kernel
theorem dX9_ridersWith_42 : decode cX9_ridersWith 42 = .ok (.goto (-38), 3) := by decide +kernel
theorem dX9_ridersWith_45 : decode cX9_ridersWith 45 = .ok (.iload_n 2, 1) := by decide +kernel
theorem dX9_ridersWith_46 : decode cX9_ridersWith 46 = .ok (.ireturn, 1) := by decide +kernel
theorem dX9_signOf_0 : decode cX9_signOf 0 = .ok (.aload_n 0, 1) := by decide +kernel
theorem dX9_signOf_1 : decode cX9_signOf 1 = .ok (.getfield 15, 3) := by decide +kernel
theorem dX9_signOf_4 : decode cX9_signOf 4 = .ok (.iload_n 1, 1) := by decide +kernel
theorem dX9_signOf_5 : decode cX9_signOf 5 = .ok (.iaload, 1) := by decide +kernel
theorem dX9_signOf_6 : decode cX9_signOf 6 = .ok (.ifCond .lt 7, 3) := by decide +kernel
theorem dX9_signOf_9 : decode cX9_signOf 9 = .ok (.iconst 1, 1) := by decide +kernel
theorem dX9_signOf_10 : decode cX9_signOf 10 = .ok (.goto 4, 3) := by decide +kernel
theorem dX9_signOf_13 : decode cX9_signOf 13 = .ok (.iconst 0, 1) := by decide +kernel
theorem dX9_signOf_14 : decode cX9_signOf 14 = .ok (.istore_n 2, 1) := by decide +kernel
theorem dX9_signOf_15 : decode cX9_signOf 15 = .ok (.aload_n 0, 1) := by decide +kernel
theorem dX9_signOf_16 : decode cX9_signOf 16 = .ok (.getfield 23, 3) := by decide +kernel
theorem dX9_signOf_19 : decode cX9_signOf 19 = .ok (.iload_n 1, 1) := by decide +kernel
theorem dX9_signOf_20 : decode cX9_signOf 20 = .ok (.invokevirtual 234, 3) := by decide +kernel
theorem dX9_signOf_23 : decode cX9_signOf 23 = .ok (.ifCond .ne 15, 3) := by decide +kernel
theorem dX9_signOf_26 : decode cX9_signOf 26 = .ok (.iload_n 2, 1) := by decide +kernel
theorem dX9_signOf_27 : decode cX9_signOf 27 = .ok (.ifCond .eq 8, 3) := by decide +kernel
theorem dX9_signOf_30 : decode cX9_signOf 30 = .ok (.bipush 120, 2) := by decide +kernel
theorem dX9_signOf_32 : decode cX9_signOf 32 = .ok (.goto 5, 3) := by decide +kernel
theorem dX9_signOf_35 : decode cX9_signOf 35 = .ok (.bipush 46, 2) := by decide +kernel
theorem dX9_signOf_37 : decode cX9_signOf 37 = .ok (.ireturn, 1) := by decide +kernel
theorem dX9_signOf_38 : decode cX9_signOf 38 = .ok (.iload_n 2, 1) := by decide +kernel
theorem dX9_signOf_39 : decode cX9_signOf 39 = .ok (.ifCond .ne 6, 3) := by decide +kernel
theorem dX9_signOf_42 : decode cX9_signOf 42 = .ok (.bipush 111, 2) := by decide +kernel
theorem dX9_signOf_44 : decode cX9_signOf 44 = .ok (.ireturn, 1) := by decide +kernel
theorem dX9_signOf_45 : decode cX9_signOf 45 = .ok (.aload_n 0, 1) := by decide +kernel
theorem dX9_signOf_46 : decode cX9_signOf 46 = .ok (.getfield 23, 3) := by decide +kernel
theorem dX9_signOf_49 : decode cX9_signOf 49 = .ok (.getfield 195, 3) := by decide +kernel
theorem dX9_signOf_52 : decode cX9_signOf 52 = .ok (.iload_n 1, 1) := by decide +kernel
theorem dX9_signOf_53 : decode cX9_signOf 53 = .ok (.iaload, 1) := by decide +kernel
theorem dX9_signOf_54 : decode cX9_signOf 54 = .ok (.ifCond .ne 6, 3) := by decide +kernel
theorem dX9_signOf_57 : decode cX9_signOf 57 = .ok (.bipush 97, 2) := by decide +kernel
theorem dX9_signOf_59 : decode cX9_signOf 59 = .ok (.ireturn, 1) := by decide +kernel
theorem dX9_signOf_60 : decode cX9_signOf 60 = .ok (.aload_n 0, 1) := by decide +kernel
theorem dX9_signOf_61 : decode cX9_signOf 61 = .ok (.getfield 23, 3) := by decide +kernel
theorem dX9_signOf_64 : decode cX9_signOf 64 = .ok (.getfield 195, 3) := by decide +kernel
theorem dX9_signOf_67 : decode cX9_signOf 67 = .ok (.iload_n 1, 1) := by decide +kernel
theorem dX9_signOf_68 : decode cX9_signOf 68 = .ok (.iaload, 1) := by decide +kernel
theorem dX9_signOf_69 : decode cX9_signOf 69 = .ok (.iconst (-1), 1) := by decide +kernel
theorem dX9_signOf_70 : decode cX9_signOf 70 = .ok (.if_icmp .ne 6, 3) := by decide +kernel
theorem dX9_signOf_73 : decode cX9_signOf 73 = .ok (.bipush 98, 2) := by decide +kernel
theorem dX9_signOf_75 : decode cX9_signOf 75 = .ok (.ireturn, 1) := by decide +kernel
theorem dX9_signOf_76 : decode cX9_signOf 76 = .ok (.aload_n 0, 1) := by decide +kernel
theorem dX9_signOf_77 : decode cX9_signOf 77 = .ok (.getfield 23, 3) := by decide +kernel
theorem dX9_signOf_80 : decode cX9_signOf 80 = .ok (.getfield 207, 3) := by decide +kernel
theorem dX9_signOf_83 : decode cX9_signOf 83 = .ok (.iload_n 1, 1) := by decide +kernel
theorem dX9_signOf_84 : decode cX9_signOf 84 = .ok (.iaload, 1) := by decide +kernel
theorem dX9_signOf_85 : decode cX9_signOf 85 = .ok (.ifCond .ne 8, 3) := by decide +kernel
theorem dX9_signOf_88 : decode cX9_signOf 88 = .ok (.bipush 99, 2) := by decide +kernel
theorem dX9_signOf_90 : decode cX9_signOf 90 = .ok (.goto 5, 3) := by decide +kernel
theorem dX9_signOf_93 : decode cX9_signOf 93 = .ok (.bipush 100, 2) := by decide +kernel
theorem dX9_signOf_95 : decode cX9_signOf 95 = .ok (.ireturn, 1) := by decide +kernel
theorem dX10_init_0 : decode cX10_init 0 = .ok (.aload_n 0, 1) := by decide +kernel
theorem dX10_init_1 : decode cX10_init 1 = .ok (.invokespecial 1, 3) := by decide +kernel
theorem dX10_init_4 : decode cX10_init 4 = .ok (.aload_n 0, 1) := by decide +kernel
theorem dX10_init_5 : decode cX10_init 5 = .ok (.new 7, 3) := by decide +kernel
theorem dX10_init_8 : decode cX10_init 8 = .ok (.dup, 1) := by decide +kernel
theorem dX10_init_9 : decode cX10_init 9 = .ok (.invokespecial 9, 3) := by decide +kernel
theorem dX10_init_12 : decode cX10_init 12 = .ok (.putfield 10, 3) := by decide +kernel
theorem dX10_init_15 : decode cX10_init 15 = .ok (.aload_n 0, 1) := by decide +kernel
theorem dX10_init_16 : decode cX10_init 16 = .ok (.new 16, 3) := by decide +kernel
theorem dX10_init_19 : decode cX10_init 19 = .ok (.dup, 1) := by decide +kernel
theorem dX10_init_20 : decode cX10_init 20 = .ok (.aload_n 0, 1) := by decide +kernel
theorem dX10_init_21 : decode cX10_init 21 = .ok (.getfield 10, 3) := by decide +kernel
theorem dX10_init_24 : decode cX10_init 24 = .ok (.invokespecial 18, 3) := by decide +kernel
theorem dX10_init_27 : decode cX10_init 27 = .ok (.putfield 21, 3) := by decide +kernel
theorem dX10_init_30 : decode cX10_init 30 = .ok (.aload_n 0, 1) := by decide +kernel
theorem dX10_init_31 : decode cX10_init 31 = .ok (.new 25, 3) := by decide +kernel
theorem dX10_init_34 : decode cX10_init 34 = .ok (.dup, 1) := by decide +kernel
theorem dX10_init_35 : decode cX10_init 35 = .ok (.invokespecial 27, 3) := by decide +kernel
theorem dX10_init_38 : decode cX10_init 38 = .ok (.putfield 28, 3) := by decide +kernel
theorem dX10_init_41 : decode cX10_init 41 = .ok (.aload_n 0, 1) := by decide +kernel
theorem dX10_init_42 : decode cX10_init 42 = .ok (.new 32, 3) := by decide +kernel
theorem dX10_init_45 : decode cX10_init 45 = .ok (.dup, 1) := by decide +kernel
theorem dX10_init_46 : decode cX10_init 46 = .ok (.invokespecial 34, 3) := by decide +kernel
theorem dX10_init_49 : decode cX10_init 49 = .ok (.putfield 35, 3) := by decide +kernel
theorem dX10_init_52 : decode cX10_init 52 = .ok (.aload_n 0, 1) := by decide +kernel
theorem dX10_init_53 : decode cX10_init 53 = .ok (.new 32, 3) := by decide +kernel
theorem dX10_init_56 : decode cX10_init 56 = .ok (.dup, 1) := by decide +kernel
theorem dX10_init_57 : decode cX10_init 57 = .ok (.invokespecial 34, 3) := by decide +kernel
theorem dX10_init_60 : decode cX10_init 60 = .ok (.putfield 39, 3) := by decide +kernel
theorem dX10_init_63 : decode cX10_init 63 = .ok (.aload_n 0, 1) := by decide +kernel
theorem dX10_init_64 : decode cX10_init 64 = .ok (.new 42, 3) := by decide +kernel
theorem dX10_init_67 : decode cX10_init 67 = .ok (.dup, 1) := by decide +kernel
theorem dX10_init_68 : decode cX10_init 68 = .ok (.aload_n 0, 1) := by decide +kernel
theorem dX10_init_69 : decode cX10_init 69 = .ok (.getfield 35, 3) := by decide +kernel
theorem dX10_init_72 : decode cX10_init 72 = .ok (.invokespecial 44, 3) := by decide +kernel
theorem dX10_init_75 : decode cX10_init 75 = .ok (.putfield 47, 3) := by decide +kernel
theorem dX10_init_78 : decode cX10_init 78 = .ok (.aload_n 0, 1) := by decide +kernel
theorem dX10_init_79 : decode cX10_init 79 = .ok (.new 42, 3) := by decide +kernel
theorem dX10_init_82 : decode cX10_init 82 = .ok (.dup, 1) := by decide +kernel
theorem dX10_init_83 : decode cX10_init 83 = .ok (.aload_n 0, 1) := by decide +kernel
theorem dX10_init_84 : decode cX10_init 84 = .ok (.getfield 35, 3) := by decide +kernel
theorem dX10_init_87 : decode cX10_init 87 = .ok (.invokespecial 44, 3) := by decide +kernel
theorem dX10_init_90 : decode cX10_init 90 = .ok (.putfield 51, 3) := by decide +kernel
theorem dX10_init_93 : decode cX10_init 93 = .ok (.aload_n 0, 1) := by decide +kernel
theorem dX10_init_94 : decode cX10_init 94 = .ok (.new 54, 3) := by decide +kernel
theorem dX10_init_97 : decode cX10_init 97 = .ok (.dup, 1) := by decide +kernel
theorem dX10_init_98 : decode cX10_init 98 = .ok (.aload_n 0, 1) := by decide +kernel
theorem dX10_init_99 : decode cX10_init 99 = .ok (.getfield 35, 3) := by decide +kernel
theorem dX10_init_102 : decode cX10_init 102 = .ok (.invokespecial 56, 3) := by decide +kernel
theorem dX10_init_105 : decode cX10_init 105 = .ok (.putfield 57, 3) := by decide +kernel
theorem dX10_init_108 : decode cX10_init 108 = .ok (.aload_n 0, 1) := by decide +kernel
theorem dX10_init_109 : decode cX10_init 109 = .ok (.bipush (-2), 2) := by decide +kernel
theorem dX10_init_111 : decode cX10_init 111 = .ok (.putfield 61, 3) := by decide +kernel
theorem dX10_init_114 : decode cX10_init 114 = .ok (.aload_n 0, 1) := by decide +kernel
theorem dX10_init_115 : decode cX10_init 115 = .ok (.getfield 35, 3) := by decide +kernel
theorem dX10_init_118 : decode cX10_init 118 = .ok (.aload_n 0, 1) := by decide +kernel
theorem dX10_init_119 : decode cX10_init 119 = .ok (.getfield 28, 3) := by decide +kernel
theorem dX10_init_122 : decode cX10_init 122 = .ok (.invokevirtual 65, 3) := by decide +kernel
theorem dX10_init_125 : decode cX10_init 125 = .ok (.return_, 1) := by decide +kernel
theorem dX10_append_0 : decode cX10_append 0 = .ok (.aload_n 0, 1) := by decide +kernel
theorem dX10_append_1 : decode cX10_append 1 = .ok (.getfield 10, 3) := by decide +kernel
theorem dX10_append_4 : decode cX10_append 4 = .ok (.getfield 69, 3) := by decide +kernel
theorem dX10_append_7 : decode cX10_append 7 = .ok (.bipush 20, 2) := by decide +kernel
theorem dX10_append_9 : decode cX10_append 9 = .ok (.iadd, 1) := by decide +kernel
theorem dX10_append_10 : decode cX10_append 10 = .ok (.sipush 900, 3) := by decide +kernel
theorem dX10_append_13 : decode cX10_append 13 = .ok (.if_icmp .le 5, 3) := by decide +kernel
theorem dX10_append_16 : decode cX10_append 16 = .ok (.iconst (-1), 1) := by decide +kernel
theorem dX10_append_17 : decode cX10_append 17 = .ok (.ireturn, 1) := by decide +kernel
theorem dX10_append_18 : decode cX10_append 18 = .ok (.aload_n 0, 1) := by decide +kernel
theorem dX10_append_19 : decode cX10_append 19 = .ok (.getfield 10, 3) := by decide +kernel
theorem dX10_append_22 : decode cX10_append 22 = .ok (.iload_n 1, 1) := by decide +kernel
theorem dX10_append_23 : decode cX10_append 23 = .ok (.invokevirtual 72, 3) := by decide +kernel
theorem dX10_append_26 : decode cX10_append 26 = .ok (.aload_n 0, 1) := by decide +kernel
theorem dX10_append_27 : decode cX10_append 27 = .ok (.getfield 10, 3) := by decide +kernel
theorem dX10_append_30 : decode cX10_append 30 = .ok (.iload_n 2, 1) := by decide +kernel
theorem dX10_append_31 : decode cX10_append 31 = .ok (.invokevirtual 72, 3) := by decide +kernel
theorem dX10_append_34 : decode cX10_append 34 = .ok (.aload_n 0, 1) := by decide +kernel
theorem dX10_append_35 : decode cX10_append 35 = .ok (.getfield 10, 3) := by decide +kernel
theorem dX10_append_38 : decode cX10_append 38 = .ok (.iload_n 3, 1) := by decide +kernel
theorem dX10_append_39 : decode cX10_append 39 = .ok (.invokevirtual 72, 3) := by decide +kernel
theorem dX10_append_42 : decode cX10_append 42 = .ok (.aload_n 0, 1) := by decide +kernel
theorem dX10_append_43 : decode cX10_append 43 = .ok (.getfield 10, 3) := by decide +kernel
theorem dX10_append_46 : decode cX10_append 46 = .ok (.iload 4, 2) := by decide +kernel
theorem dX10_append_48 : decode cX10_append 48 = .ok (.invokevirtual 72, 3) := by decide +kernel
theorem dX10_append_51 : decode cX10_append 51 = .ok (.aload_n 0, 1) := by decide +kernel
theorem dX10_append_52 : decode cX10_append 52 = .ok (.getfield 10, 3) := by decide +kernel
theorem dX10_append_55 : decode cX10_append 55 = .ok (.iload 5, 2) := by decide +kernel
theorem dX10_append_57 : decode cX10_append 57 = .ok (.invokevirtual 72, 3) := by decide +kernel
theorem dX10_append_60 : decode cX10_append 60 = .ok (.aload_n 0, 1) := by decide +kernel
theorem dX10_append_61 : decode cX10_append 61 = .ok (.getfield 10, 3) := by decide +kernel
theorem dX10_append_64 : decode cX10_append 64 = .ok (.getfield 69, 3) := by decide +kernel
theorem dX10_append_67 : decode cX10_append 67 = .ok (.ireturn, 1) := by decide +kernel
theorem dX10_truncate_0 : decode cX10_truncate 0 = .ok (.iload_n 1, 1) := by decide +kernel
theorem dX10_truncate_1 : decode cX10_truncate 1 = .ok (.ifCond .lt 14, 3) := by decide +kernel
theorem dX10_truncate_4 : decode cX10_truncate 4 = .ok (.iload_n 1, 1) := by decide +kernel
theorem dX10_truncate_5 : decode cX10_truncate 5 = .ok (.aload_n 0, 1) := by decide +kernel
theorem dX10_truncate_6 : decode cX10_truncate 6 = .ok (.getfield 10, 3) := by decide +kernel
theorem dX10_truncate_9 : decode cX10_truncate 9 = .ok (.getfield 69, 3) := by decide +kernel
theorem dX10_truncate_12 : decode cX10_truncate 12 = .ok (.if_icmp .le 5, 3) := by decide +kernel
theorem dX10_truncate_15 : decode cX10_truncate 15 = .ok (.iconst (-1), 1) := by decide +kernel
theorem dX10_truncate_16 : decode cX10_truncate 16 = .ok (.ireturn, 1) := by decide +kernel
theorem dX10_truncate_17 : decode cX10_truncate 17 = .ok (.aload_n 0, 1) := by decide +kernel
theorem dX10_truncate_18 : decode cX10_truncate 18 = .ok (.getfield 10, 3) := by decide +kernel
theorem dX10_truncate_21 : decode cX10_truncate 21 = .ok (.dup, 1) := by decide +kernel
theorem dX10_truncate_22 : decode cX10_truncate 22 = .ok (.getfield 69, 3) := by decide +kernel
theorem dX10_truncate_25 : decode cX10_truncate 25 = .ok (.iload_n 1, 1) := by decide +kernel
theorem dX10_truncate_26 : decode cX10_truncate 26 = .ok (.isub, 1) := by decide +kernel
theorem dX10_truncate_27 : decode cX10_truncate 27 = .ok (.putfield 69, 3) := by decide +kernel
theorem dX10_truncate_30 : decode cX10_truncate 30 = .ok (.aload_n 0, 1) := by decide +kernel
theorem dX10_truncate_31 : decode cX10_truncate 31 = .ok (.getfield 10, 3) := by decide +kernel
theorem dX10_truncate_34 : decode cX10_truncate 34 = .ok (.getfield 69, 3) := by decide +kernel
theorem dX10_truncate_37 : decode cX10_truncate 37 = .ok (.ireturn, 1) := by decide +kernel
theorem dX10_load_0 : decode cX10_load 0 = .ok (.aload_n 0, 1) := by decide +kernel
theorem dX10_load_1 : decode cX10_load 1 = .ok (.getfield 21, 3) := by decide +kernel
theorem dX10_load_4 : decode cX10_load 4 = .ok (.aload_n 0, 1) := by decide +kernel
theorem dX10_load_5 : decode cX10_load 5 = .ok (.getfield 39, 3) := by decide +kernel
theorem dX10_load_8 : decode cX10_load 8 = .ok (.invokevirtual 76, 3) := by decide +kernel
theorem dX10_load_11 : decode cX10_load 11 = .ok (.istore_n 1, 1) := by decide +kernel
theorem dX10_load_12 : decode cX10_load 12 = .ok (.aload_n 0, 1) := by decide +kernel
theorem dX10_load_13 : decode cX10_load 13 = .ok (.iload_n 1, 1) := by decide +kernel
theorem dX10_load_14 : decode cX10_load 14 = .ok (.ifCond .eq 8, 3) := by decide +kernel
theorem dX10_load_17 : decode cX10_load 17 = .ok (.bipush (-2), 2) := by decide +kernel
theorem dX10_load_19 : decode cX10_load 19 = .ok (.goto 10, 3) := by decide +kernel
theorem dX10_load_22 : decode cX10_load 22 = .ok (.aload_n 0, 1) := by decide +kernel
theorem dX10_load_23 : decode cX10_load 23 = .ok (.getfield 10, 3) := by decide +kernel
theorem dX10_load_26 : decode cX10_load 26 = .ok (.getfield 80, 3) := by decide +kernel
theorem dX10_load_29 : decode cX10_load 29 = .ok (.putfield 61, 3) := by decide +kernel
theorem dX10_load_32 : decode cX10_load 32 = .ok (.aload_n 0, 1) := by decide +kernel
theorem dX10_load_33 : decode cX10_load 33 = .ok (.getfield 10, 3) := by decide +kernel
theorem dX10_load_36 : decode cX10_load 36 = .ok (.iconst 0, 1) := by decide +kernel
theorem dX10_load_37 : decode cX10_load 37 = .ok (.putfield 69, 3) := by decide +kernel
theorem dX10_load_40 : decode cX10_load 40 = .ok (.iload_n 1, 1) := by decide +kernel
theorem dX10_load_41 : decode cX10_load 41 = .ok (.ifCond .ne 5, 3) := by decide +kernel
theorem dX10_load_44 : decode cX10_load 44 = .ok (.iconst (-1), 1) := by decide +kernel
theorem dX10_load_45 : decode cX10_load 45 = .ok (.ireturn, 1) := by decide +kernel
theorem dX10_load_46 : decode cX10_load 46 = .ok (.aload_n 0, 1) := by decide +kernel
theorem dX10_load_47 : decode cX10_load 47 = .ok (.getfield 35, 3) := by decide +kernel
theorem dX10_load_50 : decode cX10_load 50 = .ok (.astore_n 2, 1) := by decide +kernel
theorem dX10_load_51 : decode cX10_load 51 = .ok (.aload_n 0, 1) := by decide +kernel
theorem dX10_load_52 : decode cX10_load 52 = .ok (.aload_n 0, 1) := by decide +kernel
theorem dX10_load_53 : decode cX10_load 53 = .ok (.getfield 39, 3) := by decide +kernel
theorem dX10_load_56 : decode cX10_load 56 = .ok (.putfield 35, 3) := by decide +kernel
theorem dX10_load_59 : decode cX10_load 59 = .ok (.aload_n 0, 1) := by decide +kernel
theorem dX10_load_60 : decode cX10_load 60 = .ok (.aload_n 2, 1) := by decide +kernel
theorem dX10_load_61 : decode cX10_load 61 = .ok (.putfield 39, 3) := by decide +kernel
theorem dX10_load_64 : decode cX10_load 64 = .ok (.aload_n 0, 1) := by decide +kernel
theorem dX10_load_65 : decode cX10_load 65 = .ok (.getfield 35, 3) := by decide +kernel
theorem dX10_load_68 : decode cX10_load 68 = .ok (.aload_n 0, 1) := by decide +kernel
theorem dX10_load_69 : decode cX10_load 69 = .ok (.getfield 28, 3) := by decide +kernel
theorem dX10_load_72 : decode cX10_load 72 = .ok (.invokevirtual 65, 3) := by decide +kernel
theorem dX10_load_75 : decode cX10_load 75 = .ok (.aload_n 0, 1) := by decide +kernel
theorem dX10_load_76 : decode cX10_load 76 = .ok (.getfield 47, 3) := by decide +kernel
theorem dX10_load_79 : decode cX10_load 79 = .ok (.aload_n 0, 1) := by decide +kernel
theorem dX10_load_80 : decode cX10_load 80 = .ok (.getfield 35, 3) := by decide +kernel
theorem dX10_load_83 : decode cX10_load 83 = .ok (.invokevirtual 83, 3) := by decide +kernel
theorem dX10_load_86 : decode cX10_load 86 = .ok (.aload_n 0, 1) := by decide +kernel
theorem dX10_load_87 : decode cX10_load 87 = .ok (.getfield 57, 3) := by decide +kernel
theorem dX10_load_90 : decode cX10_load 90 = .ok (.invokevirtual 86, 3) := by decide +kernel
theorem dX10_load_93 : decode cX10_load 93 = .ok (.aload_n 0, 1) := by decide +kernel
theorem dX10_load_94 : decode cX10_load 94 = .ok (.getfield 35, 3) := by decide +kernel
theorem dX10_load_97 : decode cX10_load 97 = .ok (.getfield 89, 3) := by decide +kernel
theorem dX10_load_100 : decode cX10_load 100 = .ok (.ireturn, 1) := by decide +kernel
theorem dX10_errorPosition_0 : decode cX10_errorPosition 0 = .ok (.aload_n 0, 1) := by decide +kernel
theorem dX10_errorPosition_1 : decode cX10_errorPosition 1 = .ok (.getfield 61, 3) := by decide +kernel
theorem dX10_errorPosition_4 : decode cX10_errorPosition 4 = .ok (.ireturn, 1) := by decide +kernel
theorem dX10_positions_0 : decode cX10_positions 0 = .ok (.aload_n 0, 1) := by decide +kernel
theorem dX10_positions_1 : decode cX10_positions 1 = .ok (.getfield 35, 3) := by decide +kernel
theorem dX10_positions_4 : decode cX10_positions 4 = .ok (.getfield 89, 3) := by decide +kernel
theorem dX10_positions_7 : decode cX10_positions 7 = .ok (.ireturn, 1) := by decide +kernel
theorem dX10_deviceAt_0 : decode cX10_deviceAt 0 = .ok (.aload_n 0, 1) := by decide +kernel
theorem dX10_deviceAt_1 : decode cX10_deviceAt 1 = .ok (.getfield 35, 3) := by decide +kernel
theorem dX10_deviceAt_4 : decode cX10_deviceAt 4 = .ok (.iload_n 1, 1) := by decide +kernel
theorem dX10_deviceAt_5 : decode cX10_deviceAt 5 = .ok (.invokevirtual 92, 3) := by decide +kernel
theorem dX10_deviceAt_8 : decode cX10_deviceAt 8 = .ok (.ifCond .eq 15, 3) := by decide +kernel
theorem dX10_deviceAt_11 : decode cX10_deviceAt 11 = .ok (.aload_n 0, 1) := by decide +kernel
theorem dX10_deviceAt_12 : decode cX10_deviceAt 12 = .ok (.getfield 35, 3) := by decide +kernel
theorem dX10_deviceAt_15 : decode cX10_deviceAt 15 = .ok (.getfield 96, 3) := by decide +kernel
theorem dX10_deviceAt_18 : decode cX10_deviceAt 18 = .ok (.iload_n 1, 1) := by decide +kernel
theorem dX10_deviceAt_19 : decode cX10_deviceAt 19 = .ok (.iaload, 1) := by decide +kernel
theorem dX10_deviceAt_20 : decode cX10_deviceAt 20 = .ok (.goto 4, 3) := by decide +kernel
theorem dX10_deviceAt_23 : decode cX10_deviceAt 23 = .ok (.iconst (-1), 1) := by decide +kernel
theorem dX10_deviceAt_24 : decode cX10_deviceAt 24 = .ok (.ireturn, 1) := by decide +kernel
theorem dX10_devices_0 : decode cX10_devices 0 = .ok (.iload_n 1, 1) := by decide +kernel
theorem dX10_devices_1 : decode cX10_devices 1 = .ok (.iconst 1, 1) := by decide +kernel
theorem dX10_devices_2 : decode cX10_devices 2 = .ok (.if_icmp .lt 21, 3) := by decide +kernel
theorem dX10_devices_5 : decode cX10_devices 5 = .ok (.iload_n 1, 1) := by decide +kernel
theorem dX10_devices_6 : decode cX10_devices 6 = .ok (.bipush 6, 2) := by decide +kernel
theorem dX10_devices_8 : decode cX10_devices 8 = .ok (.if_icmp .gt 15, 3) := by decide +kernel
theorem dX10_devices_11 : decode cX10_devices 11 = .ok (.aload_n 0, 1) := by decide +kernel
theorem dX10_devices_12 : decode cX10_devices 12 = .ok (.getfield 35, 3) := by decide +kernel
theorem dX10_devices_15 : decode cX10_devices 15 = .ok (.getfield 100, 3) := by decide +kernel
theorem dX10_devices_18 : decode cX10_devices 18 = .ok (.iload_n 1, 1) := by decide +kernel
theorem dX10_devices_19 : decode cX10_devices 19 = .ok (.iaload, 1) := by decide +kernel
theorem dX10_devices_20 : decode cX10_devices 20 = .ok (.goto 4, 3) := by decide +kernel
theorem dX10_devices_23 : decode cX10_devices 23 = .ok (.iconst (-1), 1) := by decide +kernel
theorem dX10_devices_24 : decode cX10_devices 24 = .ok (.ireturn, 1) := by decide +kernel
theorem dX10_flights_0 : decode cX10_flights 0 = .ok (.aload_n 0, 1) := by decide +kernel
theorem dX10_flights_1 : decode cX10_flights 1 = .ok (.getfield 35, 3) := by decide +kernel
theorem dX10_flights_4 : decode cX10_flights 4 = .ok (.getfield 103, 3) := by decide +kernel
theorem dX10_flights_7 : decode cX10_flights 7 = .ok (.getfield 107, 3) := by decide +kernel
theorem dX10_flights_10 : decode cX10_flights 10 = .ok (.ireturn, 1) := by decide +kernel
theorem dX10_flightNumber_0 : decode cX10_flightNumber 0 = .ok (.aload_n 0, 1) := by decide +kernel
theorem dX10_flightNumber_1 : decode cX10_flightNumber 1 = .ok (.getfield 35, 3) := by decide +kernel
theorem dX10_flightNumber_4 : decode cX10_flightNumber 4 = .ok (.getfield 103, 3) := by decide +kernel
theorem dX10_flightNumber_7 : decode cX10_flightNumber 7 = .ok (.iload_n 1, 1) := by decide +kernel
theorem dX10_flightNumber_8 : decode cX10_flightNumber 8 = .ok (.invokevirtual 112, 3) := by decide +kernel
theorem dX10_flightNumber_11 : decode cX10_flightNumber 11 = .ok (.ifCond .eq 18, 3) := by decide +kernel
theorem dX10_flightNumber_14 : decode cX10_flightNumber 14 = .ok (.aload_n 0, 1) := by decide +kernel
theorem dX10_flightNumber_15 : decode cX10_flightNumber 15 = .ok (.getfield 35, 3) := by decide +kernel
theorem dX10_flightNumber_18 : decode cX10_flightNumber 18 = .ok (.getfield 103, 3) := by decide +kernel
theorem dX10_flightNumber_21 : decode cX10_flightNumber 21 = .ok (.getfield 115, 3) := by decide +kernel
theorem dX10_flightNumber_24 : decode cX10_flightNumber 24 = .ok (.iload_n 1, 1) := by decide +kernel
theorem dX10_flightNumber_25 : decode cX10_flightNumber 25 = .ok (.iaload, 1) := by decide +kernel
theorem dX10_flightNumber_26 : decode cX10_flightNumber 26 = .ok (.goto 4, 3) := by decide +kernel
theorem dX10_flightNumber_29 : decode cX10_flightNumber 29 = .ok (.iconst (-1), 1) := by decide +kernel
theorem dX10_flightNumber_30 : decode cX10_flightNumber 30 = .ok (.ireturn, 1) := by decide +kernel
theorem dX10_flightState_0 : decode cX10_flightState 0 = .ok (.aload_n 0, 1) := by decide +kernel
theorem dX10_flightState_1 : decode cX10_flightState 1 = .ok (.getfield 35, 3) := by decide +kernel
theorem dX10_flightState_4 : decode cX10_flightState 4 = .ok (.getfield 103, 3) := by decide +kernel
theorem dX10_flightState_7 : decode cX10_flightState 7 = .ok (.iload_n 1, 1) := by decide +kernel
theorem dX10_flightState_8 : decode cX10_flightState 8 = .ok (.invokevirtual 112, 3) := by decide +kernel
theorem dX10_flightState_11 : decode cX10_flightState 11 = .ok (.ifCond .ne 5, 3) := by decide +kernel
theorem dX10_flightState_14 : decode cX10_flightState 14 = .ok (.iconst (-1), 1) := by decide +kernel
theorem dX10_flightState_15 : decode cX10_flightState 15 = .ok (.ireturn, 1) := by decide +kernel
theorem dX10_flightState_16 : decode cX10_flightState 16 = .ok (.aload_n 0, 1) := by decide +kernel
theorem dX10_flightState_17 : decode cX10_flightState 17 = .ok (.getfield 47, 3) := by decide +kernel
theorem dX10_flightState_20 : decode cX10_flightState 20 = .ok (.getfield 118, 3) := by decide +kernel
theorem dX10_flightState_23 : decode cX10_flightState 23 = .ok (.aload_n 0, 1) := by decide +kernel
