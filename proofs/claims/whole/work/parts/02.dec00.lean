theorem dX0_init_0 : decode cX0_init 0 = .ok (.aload_n 0, 1) := by decide +kernel
theorem dX0_init_1 : decode cX0_init 1 = .ok (.invokespecial 3, 3) := by decide +kernel
theorem dX0_init_4 : decode cX0_init 4 = .ok (.aload_n 0, 1) := by decide +kernel
theorem dX0_init_5 : decode cX0_init 5 = .ok (.bipush 100, 2) := by decide +kernel
theorem dX0_init_7 : decode cX0_init 7 = .ok (.newarray .int, 2) := by decide +kernel
theorem dX0_init_9 : decode cX0_init 9 = .ok (.putfield 9, 3) := by decide +kernel
theorem dX0_init_12 : decode cX0_init 12 = .ok (.aload_n 0, 1) := by decide +kernel
theorem dX0_init_13 : decode cX0_init 13 = .ok (.bipush 100, 2) := by decide +kernel
theorem dX0_init_15 : decode cX0_init 15 = .ok (.newarray .int, 2) := by decide +kernel
theorem dX0_init_17 : decode cX0_init 17 = .ok (.putfield 15, 3) := by decide +kernel
theorem dX0_init_20 : decode cX0_init 20 = .ok (.aload_n 0, 1) := by decide +kernel
theorem dX0_init_21 : decode cX0_init 21 = .ok (.bipush 100, 2) := by decide +kernel
theorem dX0_init_23 : decode cX0_init 23 = .ok (.newarray .int, 2) := by decide +kernel
theorem dX0_init_25 : decode cX0_init 25 = .ok (.putfield 18, 3) := by decide +kernel
theorem dX0_init_28 : decode cX0_init 28 = .ok (.aload_n 0, 1) := by decide +kernel
theorem dX0_init_29 : decode cX0_init 29 = .ok (.bipush 100, 2) := by decide +kernel
theorem dX0_init_31 : decode cX0_init 31 = .ok (.newarray .int, 2) := by decide +kernel
theorem dX0_init_33 : decode cX0_init 33 = .ok (.putfield 21, 3) := by decide +kernel
theorem dX0_init_36 : decode cX0_init 36 = .ok (.aload_n 0, 1) := by decide +kernel
theorem dX0_init_37 : decode cX0_init 37 = .ok (.bipush 100, 2) := by decide +kernel
theorem dX0_init_39 : decode cX0_init 39 = .ok (.newarray .int, 2) := by decide +kernel
theorem dX0_init_41 : decode cX0_init 41 = .ok (.putfield 24, 3) := by decide +kernel
theorem dX0_init_44 : decode cX0_init 44 = .ok (.aload_n 0, 1) := by decide +kernel
theorem dX0_init_45 : decode cX0_init 45 = .ok (.bipush 100, 2) := by decide +kernel
theorem dX0_init_47 : decode cX0_init 47 = .ok (.newarray .int, 2) := by decide +kernel
theorem dX0_init_49 : decode cX0_init 49 = .ok (.putfield 27, 3) := by decide +kernel
theorem dX0_init_52 : decode cX0_init 52 = .ok (.aload_n 0, 1) := by decide +kernel
theorem dX0_init_53 : decode cX0_init 53 = .ok (.bipush 100, 2) := by decide +kernel
theorem dX0_init_55 : decode cX0_init 55 = .ok (.newarray .int, 2) := by decide +kernel
theorem dX0_init_57 : decode cX0_init 57 = .ok (.putfield 30, 3) := by decide +kernel
theorem dX0_init_60 : decode cX0_init 60 = .ok (.aload_n 0, 1) := by decide +kernel
theorem dX0_init_61 : decode cX0_init 61 = .ok (.bipush 100, 2) := by decide +kernel
theorem dX0_init_63 : decode cX0_init 63 = .ok (.newarray .int, 2) := by decide +kernel
theorem dX0_init_65 : decode cX0_init 65 = .ok (.putfield 33, 3) := by decide +kernel
theorem dX0_init_68 : decode cX0_init 68 = .ok (.aload_n 0, 1) := by decide +kernel
theorem dX0_init_69 : decode cX0_init 69 = .ok (.bipush 100, 2) := by decide +kernel
theorem dX0_init_71 : decode cX0_init 71 = .ok (.newarray .int, 2) := by decide +kernel
theorem dX0_init_73 : decode cX0_init 73 = .ok (.putfield 36, 3) := by decide +kernel
theorem dX0_init_76 : decode cX0_init 76 = .ok (.return_, 1) := by decide +kernel
theorem dX0_copyFrom_0 : decode cX0_copyFrom 0 = .ok (.aload_n 0, 1) := by decide +kernel
theorem dX0_copyFrom_1 : decode cX0_copyFrom 1 = .ok (.aload_n 1, 1) := by decide +kernel
theorem dX0_copyFrom_2 : decode cX0_copyFrom 2 = .ok (.getfield 39, 3) := by decide +kernel
theorem dX0_copyFrom_5 : decode cX0_copyFrom 5 = .ok (.putfield 39, 3) := by decide +kernel
theorem dX0_copyFrom_8 : decode cX0_copyFrom 8 = .ok (.aload_n 1, 1) := by decide +kernel
theorem dX0_copyFrom_9 : decode cX0_copyFrom 9 = .ok (.getfield 9, 3) := by decide +kernel
theorem dX0_copyFrom_12 : decode cX0_copyFrom 12 = .ok (.iconst 0, 1) := by decide +kernel
theorem dX0_copyFrom_13 : decode cX0_copyFrom 13 = .ok (.aload_n 0, 1) := by decide +kernel
theorem dX0_copyFrom_14 : decode cX0_copyFrom 14 = .ok (.getfield 9, 3) := by decide +kernel
theorem dX0_copyFrom_17 : decode cX0_copyFrom 17 = .ok (.iconst 0, 1) := by decide +kernel
theorem dX0_copyFrom_18 : decode cX0_copyFrom 18 = .ok (.bipush 100, 2) := by decide +kernel
theorem dX0_copyFrom_20 : decode cX0_copyFrom 20 = .ok (.invokestatic 43, 3) := by decide +kernel
theorem dX0_copyFrom_23 : decode cX0_copyFrom 23 = .ok (.aload_n 1, 1) := by decide +kernel
theorem dX0_copyFrom_24 : decode cX0_copyFrom 24 = .ok (.getfield 15, 3) := by decide +kernel
theorem dX0_copyFrom_27 : decode cX0_copyFrom 27 = .ok (.iconst 0, 1) := by decide +kernel
theorem dX0_copyFrom_28 : decode cX0_copyFrom 28 = .ok (.aload_n 0, 1) := by decide +kernel
theorem dX0_copyFrom_29 : decode cX0_copyFrom 29 = .ok (.getfield 15, 3) := by decide +kernel
theorem dX0_copyFrom_32 : decode cX0_copyFrom 32 = .ok (.iconst 0, 1) := by decide +kernel
theorem dX0_copyFrom_33 : decode cX0_copyFrom 33 = .ok (.bipush 100, 2) := by decide +kernel
theorem dX0_copyFrom_35 : decode cX0_copyFrom 35 = .ok (.invokestatic 43, 3) := by decide +kernel
theorem dX0_copyFrom_38 : decode cX0_copyFrom 38 = .ok (.aload_n 1, 1) := by decide +kernel
theorem dX0_copyFrom_39 : decode cX0_copyFrom 39 = .ok (.getfield 18, 3) := by decide +kernel
theorem dX0_copyFrom_42 : decode cX0_copyFrom 42 = .ok (.iconst 0, 1) := by decide +kernel
theorem dX0_copyFrom_43 : decode cX0_copyFrom 43 = .ok (.aload_n 0, 1) := by decide +kernel
theorem dX0_copyFrom_44 : decode cX0_copyFrom 44 = .ok (.getfield 18, 3) := by decide +kernel
theorem dX0_copyFrom_47 : decode cX0_copyFrom 47 = .ok (.iconst 0, 1) := by decide +kernel
theorem dX0_copyFrom_48 : decode cX0_copyFrom 48 = .ok (.bipush 100, 2) := by decide +kernel
theorem dX0_copyFrom_50 : decode cX0_copyFrom 50 = .ok (.invokestatic 43, 3) := by decide +kernel
theorem dX0_copyFrom_53 : decode cX0_copyFrom 53 = .ok (.aload_n 1, 1) := by decide +kernel
theorem dX0_copyFrom_54 : decode cX0_copyFrom 54 = .ok (.getfield 21, 3) := by decide +kernel
theorem dX0_copyFrom_57 : decode cX0_copyFrom 57 = .ok (.iconst 0, 1) := by decide +kernel
theorem dX0_copyFrom_58 : decode cX0_copyFrom 58 = .ok (.aload_n 0, 1) := by decide +kernel
theorem dX0_copyFrom_59 : decode cX0_copyFrom 59 = .ok (.getfield 21, 3) := by decide +kernel
theorem dX0_copyFrom_62 : decode cX0_copyFrom 62 = .ok (.iconst 0, 1) := by decide +kernel
theorem dX0_copyFrom_63 : decode cX0_copyFrom 63 = .ok (.bipush 100, 2) := by decide +kernel
theorem dX0_copyFrom_65 : decode cX0_copyFrom 65 = .ok (.invokestatic 43, 3) := by decide +kernel
theorem dX0_copyFrom_68 : decode cX0_copyFrom 68 = .ok (.aload_n 1, 1) := by decide +kernel
theorem dX0_copyFrom_69 : decode cX0_copyFrom 69 = .ok (.getfield 24, 3) := by decide +kernel
theorem dX0_copyFrom_72 : decode cX0_copyFrom 72 = .ok (.iconst 0, 1) := by decide +kernel
theorem dX0_copyFrom_73 : decode cX0_copyFrom 73 = .ok (.aload_n 0, 1) := by decide +kernel
theorem dX0_copyFrom_74 : decode cX0_copyFrom 74 = .ok (.getfield 24, 3) := by decide +kernel
theorem dX0_copyFrom_77 : decode cX0_copyFrom 77 = .ok (.iconst 0, 1) := by decide +kernel
theorem dX0_copyFrom_78 : decode cX0_copyFrom 78 = .ok (.bipush 100, 2) := by decide +kernel
theorem dX0_copyFrom_80 : decode cX0_copyFrom 80 = .ok (.invokestatic 43, 3) := by decide +kernel
theorem dX0_copyFrom_83 : decode cX0_copyFrom 83 = .ok (.aload_n 1, 1) := by decide +kernel
theorem dX0_copyFrom_84 : decode cX0_copyFrom 84 = .ok (.getfield 27, 3) := by decide +kernel
theorem dX0_copyFrom_87 : decode cX0_copyFrom 87 = .ok (.iconst 0, 1) := by decide +kernel
theorem dX0_copyFrom_88 : decode cX0_copyFrom 88 = .ok (.aload_n 0, 1) := by decide +kernel
theorem dX0_copyFrom_89 : decode cX0_copyFrom 89 = .ok (.getfield 27, 3) := by decide +kernel
theorem dX0_copyFrom_92 : decode cX0_copyFrom 92 = .ok (.iconst 0, 1) := by decide +kernel
theorem dX0_copyFrom_93 : decode cX0_copyFrom 93 = .ok (.bipush 100, 2) := by decide +kernel
theorem dX0_copyFrom_95 : decode cX0_copyFrom 95 = .ok (.invokestatic 43, 3) := by decide +kernel
theorem dX0_copyFrom_98 : decode cX0_copyFrom 98 = .ok (.aload_n 1, 1) := by decide +kernel
theorem dX0_copyFrom_99 : decode cX0_copyFrom 99 = .ok (.getfield 30, 3) := by decide +kernel
theorem dX0_copyFrom_102 : decode cX0_copyFrom 102 = .ok (.iconst 0, 1) := by decide +kernel
theorem dX0_copyFrom_103 : decode cX0_copyFrom 103 = .ok (.aload_n 0, 1) := by decide +kernel
theorem dX0_copyFrom_104 : decode cX0_copyFrom 104 = .ok (.getfield 30, 3) := by decide +kernel
theorem dX0_copyFrom_107 : decode cX0_copyFrom 107 = .ok (.iconst 0, 1) := by decide +kernel
theorem dX0_copyFrom_108 : decode cX0_copyFrom 108 = .ok (.bipush 100, 2) := by decide +kernel
theorem dX0_copyFrom_110 : decode cX0_copyFrom 110 = .ok (.invokestatic 43, 3) := by decide +kernel
theorem dX0_copyFrom_113 : decode cX0_copyFrom 113 = .ok (.aload_n 1, 1) := by decide +kernel
theorem dX0_copyFrom_114 : decode cX0_copyFrom 114 = .ok (.getfield 33, 3) := by decide +kernel
theorem dX0_copyFrom_117 : decode cX0_copyFrom 117 = .ok (.iconst 0, 1) := by decide +kernel
theorem dX0_copyFrom_118 : decode cX0_copyFrom 118 = .ok (.aload_n 0, 1) := by decide +kernel
theorem dX0_copyFrom_119 : decode cX0_copyFrom 119 = .ok (.getfield 33, 3) := by decide +kernel
theorem dX0_copyFrom_122 : decode cX0_copyFrom 122 = .ok (.iconst 0, 1) := by decide +kernel
theorem dX0_copyFrom_123 : decode cX0_copyFrom 123 = .ok (.bipush 100, 2) := by decide +kernel
theorem dX0_copyFrom_125 : decode cX0_copyFrom 125 = .ok (.invokestatic 43, 3) := by decide +kernel
theorem dX0_copyFrom_128 : decode cX0_copyFrom 128 = .ok (.aload_n 1, 1) := by decide +kernel
theorem dX0_copyFrom_129 : decode cX0_copyFrom 129 = .ok (.getfield 36, 3) := by decide +kernel
theorem dX0_copyFrom_132 : decode cX0_copyFrom 132 = .ok (.iconst 0, 1) := by decide +kernel
theorem dX0_copyFrom_133 : decode cX0_copyFrom 133 = .ok (.aload_n 0, 1) := by decide +kernel
theorem dX0_copyFrom_134 : decode cX0_copyFrom 134 = .ok (.getfield 36, 3) := by decide +kernel
theorem dX0_copyFrom_137 : decode cX0_copyFrom 137 = .ok (.iconst 0, 1) := by decide +kernel
theorem dX0_copyFrom_138 : decode cX0_copyFrom 138 = .ok (.bipush 100, 2) := by decide +kernel
theorem dX0_copyFrom_140 : decode cX0_copyFrom 140 = .ok (.invokestatic 43, 3) := by decide +kernel
theorem dX0_copyFrom_143 : decode cX0_copyFrom 143 = .ok (.return_, 1) := by decide +kernel
theorem dX0_has_0 : decode cX0_has 0 = .ok (.iload_n 1, 1) := by decide +kernel
theorem dX0_has_1 : decode cX0_has 1 = .ok (.ifCond .lt 15, 3) := by decide +kernel
theorem dX0_has_4 : decode cX0_has 4 = .ok (.iload_n 1, 1) := by decide +kernel
theorem dX0_has_5 : decode cX0_has 5 = .ok (.aload_n 0, 1) := by decide +kernel
theorem dX0_has_6 : decode cX0_has 6 = .ok (.getfield 39, 3) := by decide +kernel
theorem dX0_has_9 : decode cX0_has 9 = .ok (.if_icmp .ge 7, 3) := by decide +kernel
theorem dX0_has_12 : decode cX0_has 12 = .ok (.iconst 1, 1) := by decide +kernel
theorem dX0_has_13 : decode cX0_has 13 = .ok (.goto 4, 3) := by decide +kernel
theorem dX0_has_16 : decode cX0_has 16 = .ok (.iconst 0, 1) := by decide +kernel
theorem dX0_has_17 : decode cX0_has 17 = .ok (.ireturn, 1) := by decide +kernel
theorem dX0_describe_0 : decode cX0_describe 0 = .ok (.aload_n 0, 1) := by decide +kernel
theorem dX0_describe_1 : decode cX0_describe 1 = .ok (.iload_n 1, 1) := by decide +kernel
theorem dX0_describe_2 : decode cX0_describe 2 = .ok (.invokevirtual 49, 3) := by decide +kernel
theorem dX0_describe_5 : decode cX0_describe 5 = .ok (.ifCond .eq 41, 3) := by decide +kernel
theorem dX0_describe_8 : decode cX0_describe 8 = .ok (.aload_n 0, 1) := by decide +kernel
theorem dX0_describe_9 : decode cX0_describe 9 = .ok (.getfield 9, 3) := by decide +kernel
theorem dX0_describe_12 : decode cX0_describe 12 = .ok (.iload_n 1, 1) := by decide +kernel
theorem dX0_describe_13 : decode cX0_describe 13 = .ok (.iload_n 2, 1) := by decide +kernel
theorem dX0_describe_14 : decode cX0_describe 14 = .ok (.iastore, 1) := by decide +kernel
theorem dX0_describe_15 : decode cX0_describe 15 = .ok (.aload_n 0, 1) := by decide +kernel
theorem dX0_describe_16 : decode cX0_describe 16 = .ok (.getfield 15, 3) := by decide +kernel
theorem dX0_describe_19 : decode cX0_describe 19 = .ok (.iload_n 1, 1) := by decide +kernel
theorem dX0_describe_20 : decode cX0_describe 20 = .ok (.iload_n 3, 1) := by decide +kernel
theorem dX0_describe_21 : decode cX0_describe 21 = .ok (.iastore, 1) := by decide +kernel
theorem dX0_describe_22 : decode cX0_describe 22 = .ok (.aload_n 0, 1) := by decide +kernel
theorem dX0_describe_23 : decode cX0_describe 23 = .ok (.getfield 18, 3) := by decide +kernel
theorem dX0_describe_26 : decode cX0_describe 26 = .ok (.iload_n 1, 1) := by decide +kernel
theorem dX0_describe_27 : decode cX0_describe 27 = .ok (.iload 4, 2) := by decide +kernel
theorem dX0_describe_29 : decode cX0_describe 29 = .ok (.iastore, 1) := by decide +kernel
theorem dX0_describe_30 : decode cX0_describe 30 = .ok (.aload_n 0, 1) := by decide +kernel
theorem dX0_describe_31 : decode cX0_describe 31 = .ok (.getfield 21, 3) := by decide +kernel
theorem dX0_describe_34 : decode cX0_describe 34 = .ok (.iload_n 1, 1) := by decide +kernel
theorem dX0_describe_35 : decode cX0_describe 35 = .ok (.iload 5, 2) := by decide +kernel
theorem dX0_describe_37 : decode cX0_describe 37 = .ok (.iastore, 1) := by decide +kernel
theorem dX0_describe_38 : decode cX0_describe 38 = .ok (.aload_n 0, 1) := by decide +kernel
theorem dX0_describe_39 : decode cX0_describe 39 = .ok (.getfield 24, 3) := by decide +kernel
theorem dX0_describe_42 : decode cX0_describe 42 = .ok (.iload_n 1, 1) := by decide +kernel
theorem dX0_describe_43 : decode cX0_describe 43 = .ok (.iload 6, 2) := by decide +kernel
theorem dX0_describe_45 : decode cX0_describe 45 = .ok (.iastore, 1) := by decide +kernel
theorem dX0_describe_46 : decode cX0_describe 46 = .ok (.return_, 1) := by decide +kernel
theorem dX0_put_0 : decode cX0_put 0 = .ok (.aload_n 0, 1) := by decide +kernel
theorem dX0_put_1 : decode cX0_put 1 = .ok (.getfield 27, 3) := by decide +kernel
theorem dX0_put_4 : decode cX0_put 4 = .ok (.iload_n 1, 1) := by decide +kernel
theorem dX0_put_5 : decode cX0_put 5 = .ok (.iload_n 2, 1) := by decide +kernel
theorem dX0_put_6 : decode cX0_put 6 = .ok (.iastore, 1) := by decide +kernel
theorem dX0_put_7 : decode cX0_put 7 = .ok (.aload_n 0, 1) := by decide +kernel
theorem dX0_put_8 : decode cX0_put 8 = .ok (.getfield 30, 3) := by decide +kernel
theorem dX0_put_11 : decode cX0_put 11 = .ok (.iload_n 1, 1) := by decide +kernel
theorem dX0_put_12 : decode cX0_put 12 = .ok (.iload_n 3, 1) := by decide +kernel
theorem dX0_put_13 : decode cX0_put 13 = .ok (.iastore, 1) := by decide +kernel
theorem dX0_put_14 : decode cX0_put 14 = .ok (.return_, 1) := by decide +kernel
theorem dX0_isDelivered_0 : decode cX0_isDelivered 0 = .ok (.aload_n 0, 1) := by decide +kernel
theorem dX0_isDelivered_1 : decode cX0_isDelivered 1 = .ok (.getfield 27, 3) := by decide +kernel
theorem dX0_isDelivered_4 : decode cX0_isDelivered 4 = .ok (.iload_n 1, 1) := by decide +kernel
theorem dX0_isDelivered_5 : decode cX0_isDelivered 5 = .ok (.iaload, 1) := by decide +kernel
theorem dX0_isDelivered_6 : decode cX0_isDelivered 6 = .ok (.iconst 2, 1) := by decide +kernel
theorem dX0_isDelivered_7 : decode cX0_isDelivered 7 = .ok (.if_icmp .eq 13, 3) := by decide +kernel
theorem dX0_isDelivered_10 : decode cX0_isDelivered 10 = .ok (.aload_n 0, 1) := by decide +kernel
theorem dX0_isDelivered_11 : decode cX0_isDelivered 11 = .ok (.getfield 27, 3) := by decide +kernel
theorem dX0_isDelivered_14 : decode cX0_isDelivered 14 = .ok (.iload_n 1, 1) := by decide +kernel
theorem dX0_isDelivered_15 : decode cX0_isDelivered 15 = .ok (.iaload, 1) := by decide +kernel
theorem dX0_isDelivered_16 : decode cX0_isDelivered 16 = .ok (.iconst 3, 1) := by decide +kernel
theorem dX0_isDelivered_17 : decode cX0_isDelivered 17 = .ok (.if_icmp .ne 7, 3) := by decide +kernel
theorem dX0_isDelivered_20 : decode cX0_isDelivered 20 = .ok (.iconst 1, 1) := by decide +kernel
theorem dX0_isDelivered_21 : decode cX0_isDelivered 21 = .ok (.goto 4, 3) := by decide +kernel
theorem dX0_isDelivered_24 : decode cX0_isDelivered 24 = .ok (.iconst 0, 1) := by decide +kernel
theorem dX0_isDelivered_25 : decode cX0_isDelivered 25 = .ok (.ireturn, 1) := by decide +kernel
theorem dX0_isGone_0 : decode cX0_isGone 0 = .ok (.aload_n 0, 1) := by decide +kernel
theorem dX0_isGone_1 : decode cX0_isGone 1 = .ok (.getfield 27, 3) := by decide +kernel
theorem dX0_isGone_4 : decode cX0_isGone 4 = .ok (.iload_n 1, 1) := by decide +kernel
theorem dX0_isGone_5 : decode cX0_isGone 5 = .ok (.iaload, 1) := by decide +kernel
theorem dX0_isGone_6 : decode cX0_isGone 6 = .ok (.bipush 8, 2) := by decide +kernel
theorem dX0_isGone_8 : decode cX0_isGone 8 = .ok (.if_icmp .eq 14, 3) := by decide +kernel
theorem dX0_isGone_11 : decode cX0_isGone 11 = .ok (.aload_n 0, 1) := by decide +kernel
theorem dX0_isGone_12 : decode cX0_isGone 12 = .ok (.getfield 27, 3) := by decide +kernel
theorem dX0_isGone_15 : decode cX0_isGone 15 = .ok (.iload_n 1, 1) := by decide +kernel
theorem dX0_isGone_16 : decode cX0_isGone 16 = .ok (.iaload, 1) := by decide +kernel
theorem dX0_isGone_17 : decode cX0_isGone 17 = .ok (.bipush 9, 2) := by decide +kernel
theorem dX0_isGone_19 : decode cX0_isGone 19 = .ok (.if_icmp .ne 7, 3) := by decide +kernel
theorem dX0_isGone_22 : decode cX0_isGone 22 = .ok (.iconst 1, 1) := by decide +kernel
theorem dX0_isGone_23 : decode cX0_isGone 23 = .ok (.goto 4, 3) := by decide +kernel
theorem dX0_isGone_26 : decode cX0_isGone 26 = .ok (.iconst 0, 1) := by decide +kernel
theorem dX0_isGone_27 : decode cX0_isGone 27 = .ok (.ireturn, 1) := by decide +kernel
theorem dX1_init_0 : decode cX1_init 0 = .ok (.aload_n 0, 1) := by decide +kernel
theorem dX1_init_1 : decode cX1_init 1 = .ok (.invokespecial 3, 3) := by decide +kernel
theorem dX1_init_4 : decode cX1_init 4 = .ok (.aload_n 0, 1) := by decide +kernel
theorem dX1_init_5 : decode cX1_init 5 = .ok (.bipush 10, 2) := by decide +kernel
theorem dX1_init_7 : decode cX1_init 7 = .ok (.newarray .int, 2) := by decide +kernel
theorem dX1_init_9 : decode cX1_init 9 = .ok (.putfield 9, 3) := by decide +kernel
theorem dX1_init_12 : decode cX1_init 12 = .ok (.aload_n 0, 1) := by decide +kernel
theorem dX1_init_13 : decode cX1_init 13 = .ok (.bipush 10, 2) := by decide +kernel
theorem dX1_init_15 : decode cX1_init 15 = .ok (.newarray .int, 2) := by decide +kernel
theorem dX1_init_17 : decode cX1_init 17 = .ok (.putfield 15, 3) := by decide +kernel
theorem dX1_init_20 : decode cX1_init 20 = .ok (.aload_n 0, 1) := by decide +kernel
theorem dX1_init_21 : decode cX1_init 21 = .ok (.bipush 10, 2) := by decide +kernel
theorem dX1_init_23 : decode cX1_init 23 = .ok (.newarray .int, 2) := by decide +kernel
theorem dX1_init_25 : decode cX1_init 25 = .ok (.putfield 18, 3) := by decide +kernel
theorem dX1_init_28 : decode cX1_init 28 = .ok (.aload_n 0, 1) := by decide +kernel
theorem dX1_init_29 : decode cX1_init 29 = .ok (.bipush 10, 2) := by decide +kernel
theorem dX1_init_31 : decode cX1_init 31 = .ok (.newarray .int, 2) := by decide +kernel
theorem dX1_init_33 : decode cX1_init 33 = .ok (.putfield 21, 3) := by decide +kernel
theorem dX1_init_36 : decode cX1_init 36 = .ok (.return_, 1) := by decide +kernel
theorem dX1_add_0 : decode cX1_add 0 = .ok (.aload_n 0, 1) := by decide +kernel
theorem dX1_add_1 : decode cX1_add 1 = .ok (.getfield 24, 3) := by decide +kernel
theorem dX1_add_4 : decode cX1_add 4 = .ok (.bipush 10, 2) := by decide +kernel
theorem dX1_add_6 : decode cX1_add 6 = .ok (.if_icmp .ge 54, 3) := by decide +kernel
theorem dX1_add_9 : decode cX1_add 9 = .ok (.aload_n 0, 1) := by decide +kernel
theorem dX1_add_10 : decode cX1_add 10 = .ok (.getfield 9, 3) := by decide +kernel
theorem dX1_add_13 : decode cX1_add 13 = .ok (.aload_n 0, 1) := by decide +kernel
theorem dX1_add_14 : decode cX1_add 14 = .ok (.getfield 24, 3) := by decide +kernel
theorem dX1_add_17 : decode cX1_add 17 = .ok (.iload_n 1, 1) := by decide +kernel
theorem dX1_add_18 : decode cX1_add 18 = .ok (.iastore, 1) := by decide +kernel
theorem dX1_add_19 : decode cX1_add 19 = .ok (.aload_n 0, 1) := by decide +kernel
theorem dX1_add_20 : decode cX1_add 20 = .ok (.getfield 15, 3) := by decide +kernel
theorem dX1_add_23 : decode cX1_add 23 = .ok (.aload_n 0, 1) := by decide +kernel
theorem dX1_add_24 : decode cX1_add 24 = .ok (.getfield 24, 3) := by decide +kernel
theorem dX1_add_27 : decode cX1_add 27 = .ok (.iload_n 2, 1) := by decide +kernel
theorem dX1_add_28 : decode cX1_add 28 = .ok (.iastore, 1) := by decide +kernel
theorem dX1_add_29 : decode cX1_add 29 = .ok (.aload_n 0, 1) := by decide +kernel
theorem dX1_add_30 : decode cX1_add 30 = .ok (.getfield 18, 3) := by decide +kernel
theorem dX1_add_33 : decode cX1_add 33 = .ok (.aload_n 0, 1) := by decide +kernel
theorem dX1_add_34 : decode cX1_add 34 = .ok (.getfield 24, 3) := by decide +kernel
theorem dX1_add_37 : decode cX1_add 37 = .ok (.iload_n 3, 1) := by decide +kernel
theorem dX1_add_38 : decode cX1_add 38 = .ok (.iastore, 1) := by decide +kernel
theorem dX1_add_39 : decode cX1_add 39 = .ok (.aload_n 0, 1) := by decide +kernel
theorem dX1_add_40 : decode cX1_add 40 = .ok (.getfield 21, 3) := by decide +kernel
theorem dX1_add_43 : decode cX1_add 43 = .ok (.aload_n 0, 1) := by decide +kernel
theorem dX1_add_44 : decode cX1_add 44 = .ok (.getfield 24, 3) := by decide +kernel
theorem dX1_add_47 : decode cX1_add 47 = .ok (.iload 4, 2) := by decide +kernel
theorem dX1_add_49 : decode cX1_add 49 = .ok (.iastore, 1) := by decide +kernel
theorem dX1_add_50 : decode cX1_add 50 = .ok (.aload_n 0, 1) := by decide +kernel
theorem dX1_add_51 : decode cX1_add 51 = .ok (.dup, 1) := by decide +kernel
theorem dX1_add_52 : decode cX1_add 52 = .ok (.getfield 24, 3) := by decide +kernel
theorem dX1_add_55 : decode cX1_add 55 = .ok (.iconst 1, 1) := by decide +kernel
theorem dX1_add_56 : decode cX1_add 56 = .ok (.iadd, 1) := by decide +kernel
theorem dX1_add_57 : decode cX1_add 57 = .ok (.putfield 24, 3) := by decide +kernel
theorem dX1_add_60 : decode cX1_add 60 = .ok (.return_, 1) := by decide +kernel
theorem dX1_has_0 : decode cX1_has 0 = .ok (.iload_n 1, 1) := by decide +kernel
theorem dX1_has_1 : decode cX1_has 1 = .ok (.ifCond .lt 15, 3) := by decide +kernel
theorem dX1_has_4 : decode cX1_has 4 = .ok (.iload_n 1, 1) := by decide +kernel
theorem dX1_has_5 : decode cX1_has 5 = .ok (.aload_n 0, 1) := by decide +kernel
theorem dX1_has_6 : decode cX1_has 6 = .ok (.getfield 24, 3) := by decide +kernel
theorem dX1_has_9 : decode cX1_has 9 = .ok (.if_icmp .ge 7, 3) := by decide +kernel
theorem dX1_has_12 : decode cX1_has 12 = .ok (.iconst 1, 1) := by decide +kernel
theorem dX1_has_13 : decode cX1_has 13 = .ok (.goto 4, 3) := by decide +kernel
theorem dX1_has_16 : decode cX1_has 16 = .ok (.iconst 0, 1) := by decide +kernel
theorem dX1_has_17 : decode cX1_has 17 = .ok (.ireturn, 1) := by decide +kernel
theorem dX1_ofLabel_0 : decode cX1_ofLabel 0 = .ok (.iload_n 1, 1) := by decide +kernel
theorem dX1_ofLabel_1 : decode cX1_ofLabel 1 = .ok (.sipush 1000, 3) := by decide +kernel
theorem dX1_ofLabel_4 : decode cX1_ofLabel 4 = .ok (.idiv, 1) := by decide +kernel
theorem dX1_ofLabel_5 : decode cX1_ofLabel 5 = .ok (.istore_n 2, 1) := by decide +kernel
theorem dX1_ofLabel_6 : decode cX1_ofLabel 6 = .ok (.iconst 0, 1) := by decide +kernel
theorem dX1_ofLabel_7 : decode cX1_ofLabel 7 = .ok (.istore_n 3, 1) := by decide +kernel
theorem dX1_ofLabel_8 : decode cX1_ofLabel 8 = .ok (.iload_n 3, 1) := by decide +kernel
theorem dX1_ofLabel_9 : decode cX1_ofLabel 9 = .ok (.aload_n 0, 1) := by decide +kernel
theorem dX1_ofLabel_10 : decode cX1_ofLabel 10 = .ok (.getfield 24, 3) := by decide +kernel
theorem dX1_ofLabel_13 : decode cX1_ofLabel 13 = .ok (.if_icmp .ge 21, 3) := by decide +kernel
theorem dX1_ofLabel_16 : decode cX1_ofLabel 16 = .ok (.aload_n 0, 1) := by decide +kernel
theorem dX1_ofLabel_17 : decode cX1_ofLabel 17 = .ok (.getfield 9, 3) := by decide +kernel
theorem dX1_ofLabel_20 : decode cX1_ofLabel 20 = .ok (.iload_n 3, 1) := by decide +kernel
theorem dX1_ofLabel_21 : decode cX1_ofLabel 21 = .ok (.iaload, 1) := by decide +kernel
theorem dX1_ofLabel_22 : decode cX1_ofLabel 22 = .ok (.iload_n 2, 1) := by decide +kernel
theorem dX1_ofLabel_23 : decode cX1_ofLabel 23 = .ok (.if_icmp .ne 5, 3) := by decide +kernel
theorem dX1_ofLabel_26 : decode cX1_ofLabel 26 = .ok (.iload_n 3, 1) := by decide +kernel
theorem dX1_ofLabel_27 : decode cX1_ofLabel 27 = .ok (.ireturn, 1) := by decide +kernel
theorem dX1_ofLabel_28 : decode cX1_ofLabel 28 = .ok (.iinc 3 1, 3) := by decide +kernel
theorem dX1_ofLabel_31 : decode cX1_ofLabel 31 = .ok (.goto (-23), 3) := by decide +kernel
theorem dX1_ofLabel_34 : decode cX1_ofLabel 34 = .ok (.iconst (-1), 1) := by decide +kernel
theorem dX1_ofLabel_35 : decode cX1_ofLabel 35 = .ok (.ireturn, 1) := by decide +kernel
theorem dX2_init_0 : decode cX2_init 0 = .ok (.aload_n 0, 1) := by decide +kernel
theorem dX2_init_1 : decode cX2_init 1 = .ok (.invokespecial 3, 3) := by decide +kernel
theorem dX2_init_4 : decode cX2_init 4 = .ok (.aload_n 0, 1) := by decide +kernel
theorem dX2_init_5 : decode cX2_init 5 = .ok (.bipush 10, 2) := by decide +kernel
theorem dX2_init_7 : decode cX2_init 7 = .ok (.anewarray 9, 3) := by decide +kernel
theorem dX2_init_10 : decode cX2_init 10 = .ok (.putfield 11, 3) := by decide +kernel
theorem dX2_init_13 : decode cX2_init 13 = .ok (.iconst 0, 1) := by decide +kernel
theorem dX2_init_14 : decode cX2_init 14 = .ok (.istore_n 2, 1) := by decide +kernel
theorem dX2_init_15 : decode cX2_init 15 = .ok (.iload_n 2, 1) := by decide +kernel
theorem dX2_init_16 : decode cX2_init 16 = .ok (.bipush 10, 2) := by decide +kernel
theorem dX2_init_18 : decode cX2_init 18 = .ok (.if_icmp .ge 23, 3) := by decide +kernel
theorem dX2_init_21 : decode cX2_init 21 = .ok (.aload_n 0, 1) := by decide +kernel
theorem dX2_init_22 : decode cX2_init 22 = .ok (.getfield 11, 3) := by decide +kernel
theorem dX2_init_25 : decode cX2_init 25 = .ok (.iload_n 2, 1) := by decide +kernel
theorem dX2_init_26 : decode cX2_init 26 = .ok (.new 9, 3) := by decide +kernel
theorem dX2_init_29 : decode cX2_init 29 = .ok (.dup, 1) := by decide +kernel
theorem dX2_init_30 : decode cX2_init 30 = .ok (.aload_n 1, 1) := by decide +kernel
theorem dX2_init_31 : decode cX2_init 31 = .ok (.invokespecial 17, 3) := by decide +kernel
theorem dX2_init_34 : decode cX2_init 34 = .ok (.aastore, 1) := by decide +kernel
theorem dX2_init_35 : decode cX2_init 35 = .ok (.iinc 2 1, 3) := by decide +kernel
theorem dX2_init_38 : decode cX2_init 38 = .ok (.goto (-23), 3) := by decide +kernel
theorem dX2_init_41 : decode cX2_init 41 = .ok (.return_, 1) := by decide +kernel
theorem dX2_forget_0 : decode cX2_forget 0 = .ok (.aload_n 0, 1) := by decide +kernel
theorem dX2_forget_1 : decode cX2_forget 1 = .ok (.iconst 0, 1) := by decide +kernel
theorem dX2_forget_2 : decode cX2_forget 2 = .ok (.putfield 20, 3) := by decide +kernel
theorem dX2_forget_5 : decode cX2_forget 5 = .ok (.aload_n 0, 1) := by decide +kernel
theorem dX2_forget_6 : decode cX2_forget 6 = .ok (.iconst 0, 1) := by decide +kernel
theorem dX2_forget_7 : decode cX2_forget 7 = .ok (.putfield 24, 3) := by decide +kernel
theorem dX2_forget_10 : decode cX2_forget 10 = .ok (.return_, 1) := by decide +kernel
theorem dX2_save_0 : decode cX2_save 0 = .ok (.aload_n 0, 1) := by decide +kernel
theorem dX2_save_1 : decode cX2_save 1 = .ok (.getfield 11, 3) := by decide +kernel
theorem dX2_save_4 : decode cX2_save 4 = .ok (.aload_n 0, 1) := by decide +kernel
theorem dX2_save_5 : decode cX2_save 5 = .ok (.getfield 20, 3) := by decide +kernel
theorem dX2_save_8 : decode cX2_save 8 = .ok (.aaload, 1) := by decide +kernel
theorem dX2_save_9 : decode cX2_save 9 = .ok (.astore_n 2, 1) := by decide +kernel
theorem dX2_save_10 : decode cX2_save 10 = .ok (.aload_n 2, 1) := by decide +kernel
theorem dX2_save_11 : decode cX2_save 11 = .ok (.ifnonnull 4, 3) := by decide +kernel
theorem dX2_save_14 : decode cX2_save 14 = .ok (.return_, 1) := by decide +kernel
theorem dX2_save_15 : decode cX2_save 15 = .ok (.aload_n 2, 1) := by decide +kernel
theorem dX2_save_16 : decode cX2_save 16 = .ok (.aload_n 1, 1) := by decide +kernel
theorem dX2_save_17 : decode cX2_save 17 = .ok (.invokevirtual 27, 3) := by decide +kernel
theorem dX2_save_20 : decode cX2_save 20 = .ok (.aload_n 0, 1) := by decide +kernel
theorem dX2_save_21 : decode cX2_save 21 = .ok (.aload_n 0, 1) := by decide +kernel
theorem dX2_save_22 : decode cX2_save 22 = .ok (.getfield 20, 3) := by decide +kernel
theorem dX2_save_25 : decode cX2_save 25 = .ok (.iconst 1, 1) := by decide +kernel
theorem dX2_save_26 : decode cX2_save 26 = .ok (.iadd, 1) := by decide +kernel
theorem dX2_save_27 : decode cX2_save 27 = .ok (.bipush 10, 2) := by decide +kernel
theorem dX2_save_29 : decode cX2_save 29 = .ok (.if_icmp .ge 12, 3) := by decide +kernel
theorem dX2_save_32 : decode cX2_save 32 = .ok (.aload_n 0, 1) := by decide +kernel
theorem dX2_save_33 : decode cX2_save 33 = .ok (.getfield 20, 3) := by decide +kernel
theorem dX2_save_36 : decode cX2_save 36 = .ok (.iconst 1, 1) := by decide +kernel
theorem dX2_save_37 : decode cX2_save 37 = .ok (.iadd, 1) := by decide +kernel
theorem dX2_save_38 : decode cX2_save 38 = .ok (.goto 4, 3) := by decide +kernel
theorem dX2_save_41 : decode cX2_save 41 = .ok (.iconst 0, 1) := by decide +kernel
theorem dX2_save_42 : decode cX2_save 42 = .ok (.putfield 20, 3) := by decide +kernel
theorem dX2_save_45 : decode cX2_save 45 = .ok (.aload_n 0, 1) := by decide +kernel
theorem dX2_save_46 : decode cX2_save 46 = .ok (.aload_n 0, 1) := by decide +kernel
theorem dX2_save_47 : decode cX2_save 47 = .ok (.getfield 24, 3) := by decide +kernel
theorem dX2_save_50 : decode cX2_save 50 = .ok (.iconst 1, 1) := by decide +kernel
theorem dX2_save_51 : decode cX2_save 51 = .ok (.iadd, 1) := by decide +kernel
theorem dX2_save_52 : decode cX2_save 52 = .ok (.bipush 10, 2) := by decide +kernel
theorem dX2_save_54 : decode cX2_save 54 = .ok (.invokestatic 31, 3) := by decide +kernel
theorem dX2_save_57 : decode cX2_save 57 = .ok (.putfield 24, 3) := by decide +kernel
theorem dX2_save_60 : decode cX2_save 60 = .ok (.return_, 1) := by decide +kernel
theorem dX2_restoreInto_0 : decode cX2_restoreInto 0 = .ok (.aload_n 0, 1) := by decide +kernel
theorem dX2_restoreInto_1 : decode cX2_restoreInto 1 = .ok (.getfield 20, 3) := by decide +kernel
theorem dX2_restoreInto_4 : decode cX2_restoreInto 4 = .ok (.ifCond .le 12, 3) := by decide +kernel
theorem dX2_restoreInto_7 : decode cX2_restoreInto 7 = .ok (.aload_n 0, 1) := by decide +kernel
theorem dX2_restoreInto_8 : decode cX2_restoreInto 8 = .ok (.getfield 20, 3) := by decide +kernel
theorem dX2_restoreInto_11 : decode cX2_restoreInto 11 = .ok (.iconst 1, 1) := by decide +kernel
theorem dX2_restoreInto_12 : decode cX2_restoreInto 12 = .ok (.isub, 1) := by decide +kernel
theorem dX2_restoreInto_13 : decode cX2_restoreInto 13 = .ok (.goto 5, 3) := by decide +kernel
theorem dX2_restoreInto_16 : decode cX2_restoreInto 16 = .ok (.bipush 9, 2) := by decide +kernel
theorem dX2_restoreInto_18 : decode cX2_restoreInto 18 = .ok (.istore_n 2, 1) := by decide +kernel
theorem dX2_restoreInto_19 : decode cX2_restoreInto 19 = .ok (.aload_n 0, 1) := by decide +kernel
theorem dX2_restoreInto_20 : decode cX2_restoreInto 20 = .ok (.getfield 11, 3) := by decide +kernel
theorem dX2_restoreInto_23 : decode cX2_restoreInto 23 = .ok (.iload_n 2, 1) := by decide +kernel
theorem dX2_restoreInto_24 : decode cX2_restoreInto 24 = .ok (.aaload, 1) := by decide +kernel
theorem dX2_restoreInto_25 : decode cX2_restoreInto 25 = .ok (.astore_n 3, 1) := by decide +kernel
theorem dX2_restoreInto_26 : decode cX2_restoreInto 26 = .ok (.aload_n 3, 1) := by decide +kernel
theorem dX2_restoreInto_27 : decode cX2_restoreInto 27 = .ok (.ifnull 10, 3) := by decide +kernel
theorem dX2_restoreInto_30 : decode cX2_restoreInto 30 = .ok (.aload_n 0, 1) := by decide +kernel
theorem dX2_restoreInto_31 : decode cX2_restoreInto 31 = .ok (.getfield 24, 3) := by decide +kernel
theorem dX2_restoreInto_34 : decode cX2_restoreInto 34 = .ok (.ifCond .ne 4, 3) := by decide +kernel
theorem dX2_restoreInto_37 : decode cX2_restoreInto 37 = .ok (.return_, 1) := by decide +kernel
theorem dX2_restoreInto_38 : decode cX2_restoreInto 38 = .ok (.aload_n 1, 1) := by decide +kernel
theorem dX2_restoreInto_39 : decode cX2_restoreInto 39 = .ok (.aload_n 3, 1) := by decide +kernel
theorem dX2_restoreInto_40 : decode cX2_restoreInto 40 = .ok (.invokevirtual 27, 3) := by decide +kernel
theorem dX2_restoreInto_43 : decode cX2_restoreInto 43 = .ok (.aload_n 0, 1) := by decide +kernel
theorem dX2_restoreInto_44 : decode cX2_restoreInto 44 = .ok (.iload_n 2, 1) := by decide +kernel
theorem dX2_restoreInto_45 : decode cX2_restoreInto 45 = .ok (.putfield 20, 3) := by decide +kernel
theorem dX2_restoreInto_48 : decode cX2_restoreInto 48 = .ok (.aload_n 0, 1) := by decide +kernel
theorem dX2_restoreInto_49 : decode cX2_restoreInto 49 = .ok (.dup, 1) := by decide +kernel
theorem dX2_restoreInto_50 : decode cX2_restoreInto 50 = .ok (.getfield 24, 3) := by decide +kernel
theorem dX2_restoreInto_53 : decode cX2_restoreInto 53 = .ok (.iconst 1, 1) := by decide +kernel
theorem dX2_restoreInto_54 : decode cX2_restoreInto 54 = .ok (.isub, 1) := by decide +kernel
theorem dX2_restoreInto_55 : decode cX2_restoreInto 55 = .ok (.putfield 24, 3) := by decide +kernel
theorem dX2_restoreInto_58 : decode cX2_restoreInto 58 = .ok (.return_, 1) := by decide +kernel
theorem dX3_init_0 : decode cX3_init 0 = .ok (.aload_n 0, 1) := by decide +kernel
theorem dX3_init_1 : decode cX3_init 1 = .ok (.invokespecial 3, 3) := by decide +kernel
theorem dX3_init_4 : decode cX3_init 4 = .ok (.aload_n 0, 1) := by decide +kernel
theorem dX3_init_5 : decode cX3_init 5 = .ok (.bipush 60, 2) := by decide +kernel
theorem dX3_init_7 : decode cX3_init 7 = .ok (.newarray .int, 2) := by decide +kernel
theorem dX3_init_9 : decode cX3_init 9 = .ok (.putfield 9, 3) := by decide +kernel
theorem dX3_init_12 : decode cX3_init 12 = .ok (.aload_n 0, 1) := by decide +kernel
theorem dX3_init_13 : decode cX3_init 13 = .ok (.bipush 60, 2) := by decide +kernel
theorem dX3_init_15 : decode cX3_init 15 = .ok (.newarray .int, 2) := by decide +kernel
theorem dX3_init_17 : decode cX3_init 17 = .ok (.putfield 15, 3) := by decide +kernel
theorem dX3_init_20 : decode cX3_init 20 = .ok (.aload_n 0, 1) := by decide +kernel
theorem dX3_init_21 : decode cX3_init 21 = .ok (.bipush 60, 2) := by decide +kernel
theorem dX3_init_23 : decode cX3_init 23 = .ok (.newarray .int, 2) := by decide +kernel
theorem dX3_init_25 : decode cX3_init 25 = .ok (.putfield 18, 3) := by decide +kernel
theorem dX3_init_28 : decode cX3_init 28 = .ok (.aload_n 0, 1) := by decide +kernel
theorem dX3_init_29 : decode cX3_init 29 = .ok (.bipush 100, 2) := by decide +kernel
theorem dX3_init_31 : decode cX3_init 31 = .ok (.newarray .int, 2) := by decide +kernel
theorem dX3_init_33 : decode cX3_init 33 = .ok (.putfield 21, 3) := by decide +kernel
theorem dX3_init_36 : decode cX3_init 36 = .ok (.return_, 1) := by decide +kernel
theorem dX3_copyFrom_0 : decode cX3_copyFrom 0 = .ok (.aload_n 1, 1) := by decide +kernel
theorem dX3_copyFrom_1 : decode cX3_copyFrom 1 = .ok (.getfield 9, 3) := by decide +kernel
theorem dX3_copyFrom_4 : decode cX3_copyFrom 4 = .ok (.iconst 0, 1) := by decide +kernel
theorem dX3_copyFrom_5 : decode cX3_copyFrom 5 = .ok (.aload_n 0, 1) := by decide +kernel
theorem dX3_copyFrom_6 : decode cX3_copyFrom 6 = .ok (.getfield 9, 3) := by decide +kernel
theorem dX3_copyFrom_9 : decode cX3_copyFrom 9 = .ok (.iconst 0, 1) := by decide +kernel
theorem dX3_copyFrom_10 : decode cX3_copyFrom 10 = .ok (.bipush 60, 2) := by decide +kernel
theorem dX3_copyFrom_12 : decode cX3_copyFrom 12 = .ok (.invokestatic 24, 3) := by decide +kernel
theorem dX3_copyFrom_15 : decode cX3_copyFrom 15 = .ok (.aload_n 1, 1) := by decide +kernel
theorem dX3_copyFrom_16 : decode cX3_copyFrom 16 = .ok (.getfield 15, 3) := by decide +kernel
theorem dX3_copyFrom_19 : decode cX3_copyFrom 19 = .ok (.iconst 0, 1) := by decide +kernel
theorem dX3_copyFrom_20 : decode cX3_copyFrom 20 = .ok (.aload_n 0, 1) := by decide +kernel
theorem dX3_copyFrom_21 : decode cX3_copyFrom 21 = .ok (.getfield 15, 3) := by decide +kernel
theorem dX3_copyFrom_24 : decode cX3_copyFrom 24 = .ok (.iconst 0, 1) := by decide +kernel
theorem dX3_copyFrom_25 : decode cX3_copyFrom 25 = .ok (.bipush 60, 2) := by decide +kernel
theorem dX3_copyFrom_27 : decode cX3_copyFrom 27 = .ok (.invokestatic 24, 3) := by decide +kernel
theorem dX3_copyFrom_30 : decode cX3_copyFrom 30 = .ok (.aload_n 1, 1) := by decide +kernel
theorem dX3_copyFrom_31 : decode cX3_copyFrom 31 = .ok (.getfield 18, 3) := by decide +kernel
theorem dX3_copyFrom_34 : decode cX3_copyFrom 34 = .ok (.iconst 0, 1) := by decide +kernel
theorem dX3_copyFrom_35 : decode cX3_copyFrom 35 = .ok (.aload_n 0, 1) := by decide +kernel
theorem dX3_copyFrom_36 : decode cX3_copyFrom 36 = .ok (.getfield 18, 3) := by decide +kernel
theorem dX3_copyFrom_39 : decode cX3_copyFrom 39 = .ok (.iconst 0, 1) := by decide +kernel
theorem dX3_copyFrom_40 : decode cX3_copyFrom 40 = .ok (.bipush 60, 2) := by decide +kernel
theorem dX3_copyFrom_42 : decode cX3_copyFrom 42 = .ok (.invokestatic 24, 3) := by decide +kernel
theorem dX3_copyFrom_45 : decode cX3_copyFrom 45 = .ok (.aload_n 1, 1) := by decide +kernel
theorem dX3_copyFrom_46 : decode cX3_copyFrom 46 = .ok (.getfield 21, 3) := by decide +kernel
theorem dX3_copyFrom_49 : decode cX3_copyFrom 49 = .ok (.iconst 0, 1) := by decide +kernel
theorem dX3_copyFrom_50 : decode cX3_copyFrom 50 = .ok (.aload_n 0, 1) := by decide +kernel
theorem dX3_copyFrom_51 : decode cX3_copyFrom 51 = .ok (.getfield 21, 3) := by decide +kernel
theorem dX3_copyFrom_54 : decode cX3_copyFrom 54 = .ok (.iconst 0, 1) := by decide +kernel
theorem dX3_copyFrom_55 : decode cX3_copyFrom 55 = .ok (.bipush 100, 2) := by decide +kernel
theorem dX3_copyFrom_57 : decode cX3_copyFrom 57 = .ok (.invokestatic 24, 3) := by decide +kernel
theorem dX3_copyFrom_60 : decode cX3_copyFrom 60 = .ok (.return_, 1) := by decide +kernel
theorem dX3_removeAll_0 : decode cX3_removeAll 0 = .ok (.aload_n 0, 1) := by decide +kernel
theorem dX3_removeAll_1 : decode cX3_removeAll 1 = .ok (.getfield 9, 3) := by decide +kernel
theorem dX3_removeAll_4 : decode cX3_removeAll 4 = .ok (.iconst (-1), 1) := by decide +kernel
theorem dX3_removeAll_5 : decode cX3_removeAll 5 = .ok (.invokestatic 30, 3) := by decide +kernel
theorem dX3_removeAll_8 : decode cX3_removeAll 8 = .ok (.aload_n 0, 1) := by decide +kernel
theorem dX3_removeAll_9 : decode cX3_removeAll 9 = .ok (.getfield 15, 3) := by decide +kernel
theorem dX3_removeAll_12 : decode cX3_removeAll 12 = .ok (.iconst (-1), 1) := by decide +kernel
theorem dX3_removeAll_13 : decode cX3_removeAll 13 = .ok (.invokestatic 30, 3) := by decide +kernel
theorem dX3_removeAll_16 : decode cX3_removeAll 16 = .ok (.aload_n 0, 1) := by decide +kernel
theorem dX3_removeAll_17 : decode cX3_removeAll 17 = .ok (.getfield 18, 3) := by decide +kernel
theorem dX3_removeAll_20 : decode cX3_removeAll 20 = .ok (.iconst 0, 1) := by decide +kernel
theorem dX3_removeAll_21 : decode cX3_removeAll 21 = .ok (.invokestatic 30, 3) := by decide +kernel
theorem dX3_removeAll_24 : decode cX3_removeAll 24 = .ok (.return_, 1) := by decide +kernel
theorem dX3_add_0 : decode cX3_add 0 = .ok (.aload_n 0, 1) := by decide +kernel
theorem dX3_add_1 : decode cX3_add 1 = .ok (.getfield 15, 3) := by decide +kernel
theorem dX3_add_4 : decode cX3_add 4 = .ok (.iload_n 1, 1) := by decide +kernel
theorem dX3_add_5 : decode cX3_add 5 = .ok (.iaload, 1) := by decide +kernel
theorem dX3_add_6 : decode cX3_add 6 = .ok (.istore_n 3, 1) := by decide +kernel
theorem dX3_add_7 : decode cX3_add 7 = .ok (.iload_n 3, 1) := by decide +kernel
theorem dX3_add_8 : decode cX3_add 8 = .ok (.ifCond .ge 13, 3) := by decide +kernel
theorem dX3_add_11 : decode cX3_add 11 = .ok (.aload_n 0, 1) := by decide +kernel
theorem dX3_add_12 : decode cX3_add 12 = .ok (.getfield 9, 3) := by decide +kernel
theorem dX3_add_15 : decode cX3_add 15 = .ok (.iload_n 1, 1) := by decide +kernel
theorem dX3_add_16 : decode cX3_add 16 = .ok (.iload_n 2, 1) := by decide +kernel
theorem dX3_add_17 : decode cX3_add 17 = .ok (.iastore, 1) := by decide +kernel
theorem dX3_add_18 : decode cX3_add 18 = .ok (.goto 10, 3) := by decide +kernel
theorem dX3_add_21 : decode cX3_add 21 = .ok (.aload_n 0, 1) := by decide +kernel
theorem dX3_add_22 : decode cX3_add 22 = .ok (.getfield 21, 3) := by decide +kernel
theorem dX3_add_25 : decode cX3_add 25 = .ok (.iload_n 3, 1) := by decide +kernel
theorem dX3_add_26 : decode cX3_add 26 = .ok (.iload_n 2, 1) := by decide +kernel
theorem dX3_add_27 : decode cX3_add 27 = .ok (.iastore, 1) := by decide +kernel
theorem dX3_add_28 : decode cX3_add 28 = .ok (.aload_n 0, 1) := by decide +kernel
theorem dX3_add_29 : decode cX3_add 29 = .ok (.getfield 21, 3) := by decide +kernel
theorem dX3_add_32 : decode cX3_add 32 = .ok (.iload_n 2, 1) := by decide +kernel
theorem dX3_add_33 : decode cX3_add 33 = .ok (.iconst (-1), 1) := by decide +kernel
theorem dX3_add_34 : decode cX3_add 34 = .ok (.iastore, 1) := by decide +kernel
theorem dX3_add_35 : decode cX3_add 35 = .ok (.aload_n 0, 1) := by decide +kernel
theorem dX3_add_36 : decode cX3_add 36 = .ok (.getfield 15, 3) := by decide +kernel
theorem dX3_add_39 : decode cX3_add 39 = .ok (.iload_n 1, 1) := by decide +kernel
theorem dX3_add_40 : decode cX3_add 40 = .ok (.iload_n 2, 1) := by decide +kernel
theorem dX3_add_41 : decode cX3_add 41 = .ok (.iastore, 1) := by decide +kernel
theorem dX3_add_42 : decode cX3_add 42 = .ok (.aload_n 0, 1) := by decide +kernel
theorem dX3_add_43 : decode cX3_add 43 = .ok (.getfield 18, 3) := by decide +kernel
theorem dX3_add_46 : decode cX3_add 46 = .ok (.iload_n 1, 1) := by decide +kernel
theorem dX3_add_47 : decode cX3_add 47 = .ok (.dup2, 1) := by decide +kernel
theorem dX3_add_48 : decode cX3_add 48 = .ok (.iaload, 1) := by decide +kernel
theorem dX3_add_49 : decode cX3_add 49 = .ok (.iconst 1, 1) := by decide +kernel
theorem dX3_add_50 : decode cX3_add 50 = .ok (.iadd, 1) := by decide +kernel
theorem dX3_add_51 : decode cX3_add 51 = .ok (.iastore, 1) := by decide +kernel
theorem dX3_add_52 : decode cX3_add 52 = .ok (.return_, 1) := by decide +kernel
theorem dX3_takeFirst_0 : decode cX3_takeFirst 0 = .ok (.aload_n 0, 1) := by decide +kernel
theorem dX3_takeFirst_1 : decode cX3_takeFirst 1 = .ok (.getfield 9, 3) := by decide +kernel
theorem dX3_takeFirst_4 : decode cX3_takeFirst 4 = .ok (.iload_n 1, 1) := by decide +kernel
theorem dX3_takeFirst_5 : decode cX3_takeFirst 5 = .ok (.iaload, 1) := by decide +kernel
theorem dX3_takeFirst_6 : decode cX3_takeFirst 6 = .ok (.istore_n 2, 1) := by decide +kernel
theorem dX3_takeFirst_7 : decode cX3_takeFirst 7 = .ok (.iload_n 2, 1) := by decide +kernel
theorem dX3_takeFirst_8 : decode cX3_takeFirst 8 = .ok (.ifCond .lt 10, 3) := by decide +kernel
theorem dX3_takeFirst_11 : decode cX3_takeFirst 11 = .ok (.aload_n 0, 1) := by decide +kernel
theorem dX3_takeFirst_12 : decode cX3_takeFirst 12 = .ok (.iload_n 1, 1) := by decide +kernel
theorem dX3_takeFirst_13 : decode cX3_takeFirst 13 = .ok (.iconst (-1), 1) := by decide +kernel
theorem dX3_takeFirst_14 : decode cX3_takeFirst 14 = .ok (.iload_n 2, 1) := by decide +kernel
theorem dX3_takeFirst_15 : decode cX3_takeFirst 15 = .ok (.invokevirtual 36, 3) := by decide +kernel
theorem dX3_takeFirst_18 : decode cX3_takeFirst 18 = .ok (.iload_n 2, 1) := by decide +kernel
theorem dX3_takeFirst_19 : decode cX3_takeFirst 19 = .ok (.ireturn, 1) := by decide +kernel
theorem dX3_takeBehind_0 : decode cX3_takeBehind 0 = .ok (.aload_n 0, 1) := by decide +kernel
theorem dX3_takeBehind_1 : decode cX3_takeBehind 1 = .ok (.getfield 21, 3) := by decide +kernel
theorem dX3_takeBehind_4 : decode cX3_takeBehind 4 = .ok (.iload_n 3, 1) := by decide +kernel
theorem dX3_takeBehind_5 : decode cX3_takeBehind 5 = .ok (.iaload, 1) := by decide +kernel
theorem dX3_takeBehind_6 : decode cX3_takeBehind 6 = .ok (.istore 4, 2) := by decide +kernel
theorem dX3_takeBehind_8 : decode cX3_takeBehind 8 = .ok (.iload_n 2, 1) := by decide +kernel
theorem dX3_takeBehind_9 : decode cX3_takeBehind 9 = .ok (.ifCond .ge 14, 3) := by decide +kernel
theorem dX3_takeBehind_12 : decode cX3_takeBehind 12 = .ok (.aload_n 0, 1) := by decide +kernel
theorem dX3_takeBehind_13 : decode cX3_takeBehind 13 = .ok (.getfield 9, 3) := by decide +kernel
theorem dX3_takeBehind_16 : decode cX3_takeBehind 16 = .ok (.iload_n 1, 1) := by decide +kernel
theorem dX3_takeBehind_17 : decode cX3_takeBehind 17 = .ok (.iload 4, 2) := by decide +kernel
theorem dX3_takeBehind_19 : decode cX3_takeBehind 19 = .ok (.iastore, 1) := by decide +kernel
theorem dX3_takeBehind_20 : decode cX3_takeBehind 20 = .ok (.goto 11, 3) := by decide +kernel
theorem dX3_takeBehind_23 : decode cX3_takeBehind 23 = .ok (.aload_n 0, 1) := by decide +kernel
theorem dX3_takeBehind_24 : decode cX3_takeBehind 24 = .ok (.getfield 21, 3) := by decide +kernel
theorem dX3_takeBehind_27 : decode cX3_takeBehind 27 = .ok (.iload_n 2, 1) := by decide +kernel
theorem dX3_takeBehind_28 : decode cX3_takeBehind 28 = .ok (.iload 4, 2) := by decide +kernel
theorem dX3_takeBehind_30 : decode cX3_takeBehind 30 = .ok (.iastore, 1) := by decide +kernel
theorem dX3_takeBehind_31 : decode cX3_takeBehind 31 = .ok (.iload 4, 2) := by decide +kernel
theorem dX3_takeBehind_33 : decode cX3_takeBehind 33 = .ok (.ifCond .ge 10, 3) := by decide +kernel
theorem dX3_takeBehind_36 : decode cX3_takeBehind 36 = .ok (.aload_n 0, 1) := by decide +kernel
theorem dX3_takeBehind_37 : decode cX3_takeBehind 37 = .ok (.getfield 15, 3) := by decide +kernel
theorem dX3_takeBehind_40 : decode cX3_takeBehind 40 = .ok (.iload_n 1, 1) := by decide +kernel
theorem dX3_takeBehind_41 : decode cX3_takeBehind 41 = .ok (.iload_n 2, 1) := by decide +kernel
theorem dX3_takeBehind_42 : decode cX3_takeBehind 42 = .ok (.iastore, 1) := by decide +kernel
theorem dX3_takeBehind_43 : decode cX3_takeBehind 43 = .ok (.aload_n 0, 1) := by decide +kernel
theorem dX3_takeBehind_44 : decode cX3_takeBehind 44 = .ok (.getfield 18, 3) := by decide +kernel
theorem dX3_takeBehind_47 : decode cX3_takeBehind 47 = .ok (.iload_n 1, 1) := by decide +kernel
theorem dX3_takeBehind_48 : decode cX3_takeBehind 48 = .ok (.dup2, 1) := by decide +kernel
theorem dX3_takeBehind_49 : decode cX3_takeBehind 49 = .ok (.iaload, 1) := by decide +kernel
theorem dX3_takeBehind_50 : decode cX3_takeBehind 50 = .ok (.iconst 1, 1) := by decide +kernel
theorem dX3_takeBehind_51 : decode cX3_takeBehind 51 = .ok (.isub, 1) := by decide +kernel
theorem dX3_takeBehind_52 : decode cX3_takeBehind 52 = .ok (.iastore, 1) := by decide +kernel
theorem dX3_takeBehind_53 : decode cX3_takeBehind 53 = .ok (.return_, 1) := by decide +kernel
theorem dX4_init_0 : decode cX4_init 0 = .ok (.aload_n 0, 1) := by decide +kernel
theorem dX4_init_1 : decode cX4_init 1 = .ok (.invokespecial 3, 3) := by decide +kernel
theorem dX4_init_4 : decode cX4_init 4 = .ok (.iload_n 1, 1) := by decide +kernel
theorem dX4_init_5 : decode cX4_init 5 = .ok (.iconst 0, 1) := by decide +kernel
theorem dX4_init_6 : decode cX4_init 6 = .ok (.invokestatic 9, 3) := by decide +kernel
theorem dX4_init_9 : decode cX4_init 9 = .ok (.istore_n 2, 1) := by decide +kernel
theorem dX4_init_10 : decode cX4_init 10 = .ok (.aload_n 0, 1) := by decide +kernel
theorem dX4_init_11 : decode cX4_init 11 = .ok (.iload_n 2, 1) := by decide +kernel
theorem dX4_init_12 : decode cX4_init 12 = .ok (.newarray .int, 2) := by decide +kernel
theorem dX4_init_14 : decode cX4_init 14 = .ok (.putfield 15, 3) := by decide +kernel
theorem dX4_init_17 : decode cX4_init 17 = .ok (.aload_n 0, 1) := by decide +kernel
theorem dX4_init_18 : decode cX4_init 18 = .ok (.iload_n 2, 1) := by decide +kernel
theorem dX4_init_19 : decode cX4_init 19 = .ok (.newarray .int, 2) := by decide +kernel
theorem dX4_init_21 : decode cX4_init 21 = .ok (.putfield 21, 3) := by decide +kernel
theorem dX4_init_24 : decode cX4_init 24 = .ok (.aload_n 0, 1) := by decide +kernel
theorem dX4_init_25 : decode cX4_init 25 = .ok (.iload_n 2, 1) := by decide +kernel
theorem dX4_init_26 : decode cX4_init 26 = .ok (.newarray .int, 2) := by decide +kernel
theorem dX4_init_28 : decode cX4_init 28 = .ok (.putfield 24, 3) := by decide +kernel
theorem dX4_init_31 : decode cX4_init 31 = .ok (.aload_n 0, 1) := by decide +kernel
theorem dX4_init_32 : decode cX4_init 32 = .ok (.getfield 15, 3) := by decide +kernel
theorem dX4_init_35 : decode cX4_init 35 = .ok (.bipush (-2), 2) := by decide +kernel
theorem dX4_init_37 : decode cX4_init 37 = .ok (.invokestatic 27, 3) := by decide +kernel
theorem dX4_init_40 : decode cX4_init 40 = .ok (.return_, 1) := by decide +kernel
theorem dX4_copyFrom_0 : decode cX4_copyFrom 0 = .ok (.aload_n 1, 1) := by decide +kernel
theorem dX4_copyFrom_1 : decode cX4_copyFrom 1 = .ok (.getfield 15, 3) := by decide +kernel
theorem dX4_copyFrom_4 : decode cX4_copyFrom 4 = .ok (.iconst 0, 1) := by decide +kernel
theorem dX4_copyFrom_5 : decode cX4_copyFrom 5 = .ok (.aload_n 0, 1) := by decide +kernel
theorem dX4_copyFrom_6 : decode cX4_copyFrom 6 = .ok (.getfield 15, 3) := by decide +kernel
theorem dX4_copyFrom_9 : decode cX4_copyFrom 9 = .ok (.iconst 0, 1) := by decide +kernel
theorem dX4_copyFrom_10 : decode cX4_copyFrom 10 = .ok (.aload_n 0, 1) := by decide +kernel
theorem dX4_copyFrom_11 : decode cX4_copyFrom 11 = .ok (.getfield 15, 3) := by decide +kernel
theorem dX4_copyFrom_14 : decode cX4_copyFrom 14 = .ok (.arraylength, 1) := by decide +kernel
theorem dX4_copyFrom_15 : decode cX4_copyFrom 15 = .ok (.invokestatic 33, 3) := by decide +kernel
theorem dX4_copyFrom_18 : decode cX4_copyFrom 18 = .ok (.aload_n 1, 1) := by decide +kernel
theorem dX4_copyFrom_19 : decode cX4_copyFrom 19 = .ok (.getfield 21, 3) := by decide +kernel
theorem dX4_copyFrom_22 : decode cX4_copyFrom 22 = .ok (.iconst 0, 1) := by decide +kernel
theorem dX4_copyFrom_23 : decode cX4_copyFrom 23 = .ok (.aload_n 0, 1) := by decide +kernel
theorem dX4_copyFrom_24 : decode cX4_copyFrom 24 = .ok (.getfield 21, 3) := by decide +kernel
theorem dX4_copyFrom_27 : decode cX4_copyFrom 27 = .ok (.iconst 0, 1) := by decide +kernel
theorem dX4_copyFrom_28 : decode cX4_copyFrom 28 = .ok (.aload_n 0, 1) := by decide +kernel
theorem dX4_copyFrom_29 : decode cX4_copyFrom 29 = .ok (.getfield 21, 3) := by decide +kernel
theorem dX4_copyFrom_32 : decode cX4_copyFrom 32 = .ok (.arraylength, 1) := by decide +kernel
theorem dX4_copyFrom_33 : decode cX4_copyFrom 33 = .ok (.invokestatic 33, 3) := by decide +kernel
theorem dX4_copyFrom_36 : decode cX4_copyFrom 36 = .ok (.aload_n 1, 1) := by decide +kernel
theorem dX4_copyFrom_37 : decode cX4_copyFrom 37 = .ok (.getfield 24, 3) := by decide +kernel
theorem dX4_copyFrom_40 : decode cX4_copyFrom 40 = .ok (.iconst 0, 1) := by decide +kernel
theorem dX4_copyFrom_41 : decode cX4_copyFrom 41 = .ok (.aload_n 0, 1) := by decide +kernel
theorem dX4_copyFrom_42 : decode cX4_copyFrom 42 = .ok (.getfield 24, 3) := by decide +kernel
theorem dX4_copyFrom_45 : decode cX4_copyFrom 45 = .ok (.iconst 0, 1) := by decide +kernel
theorem dX4_copyFrom_46 : decode cX4_copyFrom 46 = .ok (.aload_n 0, 1) := by decide +kernel
theorem dX4_copyFrom_47 : decode cX4_copyFrom 47 = .ok (.getfield 24, 3) := by decide +kernel
theorem dX4_copyFrom_50 : decode cX4_copyFrom 50 = .ok (.arraylength, 1) := by decide +kernel
theorem dX4_copyFrom_51 : decode cX4_copyFrom 51 = .ok (.invokestatic 33, 3) := by decide +kernel
theorem dX4_copyFrom_54 : decode cX4_copyFrom 54 = .ok (.return_, 1) := by decide +kernel
theorem dX4_removeAll_0 : decode cX4_removeAll 0 = .ok (.aload_n 0, 1) := by decide +kernel
theorem dX4_removeAll_1 : decode cX4_removeAll 1 = .ok (.getfield 15, 3) := by decide +kernel
theorem dX4_removeAll_4 : decode cX4_removeAll 4 = .ok (.bipush (-2), 2) := by decide +kernel
theorem dX4_removeAll_6 : decode cX4_removeAll 6 = .ok (.invokestatic 27, 3) := by decide +kernel
theorem dX4_removeAll_9 : decode cX4_removeAll 9 = .ok (.return_, 1) := by decide +kernel
theorem dX4_has_0 : decode cX4_has 0 = .ok (.aload_n 0, 1) := by decide +kernel
theorem dX4_has_1 : decode cX4_has 1 = .ok (.getfield 15, 3) := by decide +kernel
theorem dX4_has_4 : decode cX4_has 4 = .ok (.iload_n 1, 1) := by decide +kernel
theorem dX4_has_5 : decode cX4_has 5 = .ok (.iaload, 1) := by decide +kernel
theorem dX4_has_6 : decode cX4_has 6 = .ok (.bipush (-2), 2) := by decide +kernel
theorem dX4_has_8 : decode cX4_has 8 = .ok (.if_icmp .eq 7, 3) := by decide +kernel
theorem dX4_has_11 : decode cX4_has 11 = .ok (.iconst 1, 1) := by decide +kernel
theorem dX4_has_12 : decode cX4_has 12 = .ok (.goto 4, 3) := by decide +kernel
theorem dX4_has_15 : decode cX4_has 15 = .ok (.iconst 0, 1) := by decide +kernel
theorem dX4_has_16 : decode cX4_has 16 = .ok (.ireturn, 1) := by decide +kernel
theorem dX4_makeAt_0 : decode cX4_makeAt 0 = .ok (.aload_n 0, 1) := by decide +kernel
theorem dX4_makeAt_1 : decode cX4_makeAt 1 = .ok (.getfield 15, 3) := by decide +kernel
theorem dX4_makeAt_4 : decode cX4_makeAt 4 = .ok (.iload_n 1, 1) := by decide +kernel
theorem dX4_makeAt_5 : decode cX4_makeAt 5 = .ok (.iconst 0, 1) := by decide +kernel
theorem dX4_makeAt_6 : decode cX4_makeAt 6 = .ok (.iastore, 1) := by decide +kernel
theorem dX4_makeAt_7 : decode cX4_makeAt 7 = .ok (.aload_n 0, 1) := by decide +kernel
theorem dX4_makeAt_8 : decode cX4_makeAt 8 = .ok (.getfield 21, 3) := by decide +kernel
theorem dX4_makeAt_11 : decode cX4_makeAt 11 = .ok (.iload_n 1, 1) := by decide +kernel
theorem dX4_makeAt_12 : decode cX4_makeAt 12 = .ok (.iconst 0, 1) := by decide +kernel
theorem dX4_makeAt_13 : decode cX4_makeAt 13 = .ok (.iastore, 1) := by decide +kernel
theorem dX4_makeAt_14 : decode cX4_makeAt 14 = .ok (.aload_n 0, 1) := by decide +kernel
theorem dX4_makeAt_15 : decode cX4_makeAt 15 = .ok (.getfield 24, 3) := by decide +kernel
theorem dX4_makeAt_18 : decode cX4_makeAt 18 = .ok (.iload_n 1, 1) := by decide +kernel
theorem dX4_makeAt_19 : decode cX4_makeAt 19 = .ok (.iconst 0, 1) := by decide +kernel
theorem dX4_makeAt_20 : decode cX4_makeAt 20 = .ok (.iastore, 1) := by decide +kernel
theorem dX4_makeAt_21 : decode cX4_makeAt 21 = .ok (.return_, 1) := by decide +kernel
theorem dX4_removeAt_0 : decode cX4_removeAt 0 = .ok (.aload_n 0, 1) := by decide +kernel
theorem dX4_removeAt_1 : decode cX4_removeAt 1 = .ok (.getfield 15, 3) := by decide +kernel
theorem dX4_removeAt_4 : decode cX4_removeAt 4 = .ok (.iload_n 1, 1) := by decide +kernel
theorem dX4_removeAt_5 : decode cX4_removeAt 5 = .ok (.bipush (-2), 2) := by decide +kernel
theorem dX4_removeAt_7 : decode cX4_removeAt 7 = .ok (.iastore, 1) := by decide +kernel
theorem dX4_removeAt_8 : decode cX4_removeAt 8 = .ok (.return_, 1) := by decide +kernel
theorem dX4_moveIn_0 : decode cX4_moveIn 0 = .ok (.aload_n 0, 1) := by decide +kernel
theorem dX4_moveIn_1 : decode cX4_moveIn 1 = .ok (.getfield 15, 3) := by decide +kernel
theorem dX4_moveIn_4 : decode cX4_moveIn 4 = .ok (.iload_n 1, 1) := by decide +kernel
theorem dX4_moveIn_5 : decode cX4_moveIn 5 = .ok (.aload_n 2, 1) := by decide +kernel
theorem dX4_moveIn_6 : decode cX4_moveIn 6 = .ok (.getfield 15, 3) := by decide +kernel
theorem dX4_moveIn_9 : decode cX4_moveIn 9 = .ok (.iload_n 3, 1) := by decide +kernel
theorem dX4_moveIn_10 : decode cX4_moveIn 10 = .ok (.iaload, 1) := by decide +kernel
theorem dX4_moveIn_11 : decode cX4_moveIn 11 = .ok (.iastore, 1) := by decide +kernel
theorem dX4_moveIn_12 : decode cX4_moveIn 12 = .ok (.aload_n 0, 1) := by decide +kernel
theorem dX4_moveIn_13 : decode cX4_moveIn 13 = .ok (.getfield 21, 3) := by decide +kernel
theorem dX4_moveIn_16 : decode cX4_moveIn 16 = .ok (.iload_n 1, 1) := by decide +kernel
theorem dX4_moveIn_17 : decode cX4_moveIn 17 = .ok (.aload_n 2, 1) := by decide +kernel
theorem dX4_moveIn_18 : decode cX4_moveIn 18 = .ok (.getfield 21, 3) := by decide +kernel
theorem dX4_moveIn_21 : decode cX4_moveIn 21 = .ok (.iload_n 3, 1) := by decide +kernel
theorem dX4_moveIn_22 : decode cX4_moveIn 22 = .ok (.iaload, 1) := by decide +kernel
theorem dX4_moveIn_23 : decode cX4_moveIn 23 = .ok (.iastore, 1) := by decide +kernel
theorem dX4_moveIn_24 : decode cX4_moveIn 24 = .ok (.aload_n 0, 1) := by decide +kernel
theorem dX4_moveIn_25 : decode cX4_moveIn 25 = .ok (.getfield 24, 3) := by decide +kernel
theorem dX4_moveIn_28 : decode cX4_moveIn 28 = .ok (.iload_n 1, 1) := by decide +kernel
theorem dX4_moveIn_29 : decode cX4_moveIn 29 = .ok (.aload_n 2, 1) := by decide +kernel
theorem dX4_moveIn_30 : decode cX4_moveIn 30 = .ok (.getfield 24, 3) := by decide +kernel
theorem dX4_moveIn_33 : decode cX4_moveIn 33 = .ok (.iload_n 3, 1) := by decide +kernel
theorem dX4_moveIn_34 : decode cX4_moveIn 34 = .ok (.iaload, 1) := by decide +kernel
theorem dX4_moveIn_35 : decode cX4_moveIn 35 = .ok (.iastore, 1) := by decide +kernel
theorem dX4_moveIn_36 : decode cX4_moveIn 36 = .ok (.aload_n 2, 1) := by decide +kernel
theorem dX4_moveIn_37 : decode cX4_moveIn 37 = .ok (.getfield 15, 3) := by decide +kernel
theorem dX4_moveIn_40 : decode cX4_moveIn 40 = .ok (.iload_n 3, 1) := by decide +kernel
theorem dX4_moveIn_41 : decode cX4_moveIn 41 = .ok (.bipush (-2), 2) := by decide +kernel
theorem dX4_moveIn_43 : decode cX4_moveIn 43 = .ok (.iastore, 1) := by decide +kernel
theorem dX4_moveIn_44 : decode cX4_moveIn 44 = .ok (.return_, 1) := by decide +kernel
theorem dX5_init_0 : decode cX5_init 0 = .ok (.aload_n 0, 1) := by decide +kernel
theorem dX5_init_1 : decode cX5_init 1 = .ok (.invokespecial 3, 3) := by decide +kernel
theorem dX5_init_4 : decode cX5_init 4 = .ok (.aload_n 0, 1) := by decide +kernel
theorem dX5_init_5 : decode cX5_init 5 = .ok (.new 9, 3) := by decide +kernel
theorem dX5_init_8 : decode cX5_init 8 = .ok (.dup, 1) := by decide +kernel
theorem dX5_init_9 : decode cX5_init 9 = .ok (.invokespecial 11, 3) := by decide +kernel
theorem dX5_init_12 : decode cX5_init 12 = .ok (.putfield 12, 3) := by decide +kernel
theorem dX5_init_15 : decode cX5_init 15 = .ok (.aload_n 0, 1) := by decide +kernel
theorem dX5_init_16 : decode cX5_init 16 = .ok (.bipush 60, 2) := by decide +kernel
theorem dX5_init_18 : decode cX5_init 18 = .ok (.newarray .int, 2) := by decide +kernel
theorem dX5_init_20 : decode cX5_init 20 = .ok (.putfield 18, 3) := by decide +kernel
theorem dX5_init_23 : decode cX5_init 23 = .ok (.aload_n 0, 1) := by decide +kernel
theorem dX5_init_24 : decode cX5_init 24 = .ok (.bipush 60, 2) := by decide +kernel
theorem dX5_init_26 : decode cX5_init 26 = .ok (.newarray .int, 2) := by decide +kernel
theorem dX5_init_28 : decode cX5_init 28 = .ok (.putfield 22, 3) := by decide +kernel
theorem dX5_init_31 : decode cX5_init 31 = .ok (.aload_n 0, 1) := by decide +kernel
theorem dX5_init_32 : decode cX5_init 32 = .ok (.bipush 60, 2) := by decide +kernel
theorem dX5_init_34 : decode cX5_init 34 = .ok (.newarray .int, 2) := by decide +kernel
theorem dX5_init_36 : decode cX5_init 36 = .ok (.putfield 25, 3) := by decide +kernel
theorem dX5_init_39 : decode cX5_init 39 = .ok (.aload_n 0, 1) := by decide +kernel
theorem dX5_init_40 : decode cX5_init 40 = .ok (.bipush 60, 2) := by decide +kernel
theorem dX5_init_42 : decode cX5_init 42 = .ok (.newarray .int, 2) := by decide +kernel
theorem dX5_init_44 : decode cX5_init 44 = .ok (.putfield 28, 3) := by decide +kernel
theorem dX5_init_47 : decode cX5_init 47 = .ok (.aload_n 0, 1) := by decide +kernel
theorem dX5_init_48 : decode cX5_init 48 = .ok (.bipush 60, 2) := by decide +kernel
theorem dX5_init_50 : decode cX5_init 50 = .ok (.newarray .int, 2) := by decide +kernel
theorem dX5_init_52 : decode cX5_init 52 = .ok (.putfield 31, 3) := by decide +kernel
theorem dX5_init_55 : decode cX5_init 55 = .ok (.aload_n 0, 1) := by decide +kernel
theorem dX5_init_56 : decode cX5_init 56 = .ok (.iconst 4, 1) := by decide +kernel
theorem dX5_init_57 : decode cX5_init 57 = .ok (.bipush 60, 2) := by decide +kernel
theorem dX5_init_59 : decode cX5_init 59 = .ok (.multianewarray 34 2, 4) := by decide +kernel
theorem dX5_init_63 : decode cX5_init 63 = .ok (.putfield 36, 3) := by decide +kernel
theorem dX5_init_66 : decode cX5_init 66 = .ok (.aload_n 0, 1) := by decide +kernel
theorem dX5_init_67 : decode cX5_init 67 = .ok (.bipush 7, 2) := by decide +kernel
theorem dX5_init_69 : decode cX5_init 69 = .ok (.newarray .int, 2) := by decide +kernel
theorem dX5_init_71 : decode cX5_init 71 = .ok (.putfield 39, 3) := by decide +kernel
theorem dX5_init_74 : decode cX5_init 74 = .ok (.aload_n 0, 1) := by decide +kernel
theorem dX5_init_75 : decode cX5_init 75 = .ok (.bipush 7, 2) := by decide +kernel
theorem dX5_init_77 : decode cX5_init 77 = .ok (.bipush 6, 2) := by decide +kernel
theorem dX5_init_79 : decode cX5_init 79 = .ok (.multianewarray 34 2, 4) := by decide +kernel
theorem dX5_init_83 : decode cX5_init 83 = .ok (.putfield 42, 3) := by decide +kernel
theorem dX5_init_86 : decode cX5_init 86 = .ok (.aload_n 0, 1) := by decide +kernel
theorem dX5_init_87 : decode cX5_init 87 = .ok (.bipush 18, 2) := by decide +kernel
theorem dX5_init_89 : decode cX5_init 89 = .ok (.newarray .int, 2) := by decide +kernel
theorem dX5_init_91 : decode cX5_init 91 = .ok (.putfield 45, 3) := by decide +kernel
theorem dX5_init_94 : decode cX5_init 94 = .ok (.aload_n 0, 1) := by decide +kernel
theorem dX5_init_95 : decode cX5_init 95 = .ok (.bipush 60, 2) := by decide +kernel
theorem dX5_init_97 : decode cX5_init 97 = .ok (.newarray .int, 2) := by decide +kernel
theorem dX5_init_99 : decode cX5_init 99 = .ok (.putfield 48, 3) := by decide +kernel
theorem dX5_init_102 : decode cX5_init 102 = .ok (.aload_n 0, 1) := by decide +kernel
theorem dX5_init_103 : decode cX5_init 103 = .ok (.invokevirtual 51, 3) := by decide +kernel
theorem dX5_init_106 : decode cX5_init 106 = .ok (.return_, 1) := by decide +kernel
theorem dX5_clear_0 : decode cX5_clear 0 = .ok (.aload_n 0, 1) := by decide +kernel
theorem dX5_clear_1 : decode cX5_clear 1 = .ok (.bipush 10, 2) := by decide +kernel
theorem dX5_clear_3 : decode cX5_clear 3 = .ok (.putfield 54, 3) := by decide +kernel
theorem dX5_clear_6 : decode cX5_clear 6 = .ok (.aload_n 0, 1) := by decide +kernel
theorem dX5_clear_7 : decode cX5_clear 7 = .ok (.iconst 1, 1) := by decide +kernel
theorem dX5_clear_8 : decode cX5_clear 8 = .ok (.putfield 58, 3) := by decide +kernel
theorem dX5_clear_11 : decode cX5_clear 11 = .ok (.aload_n 0, 1) := by decide +kernel
theorem dX5_clear_12 : decode cX5_clear 12 = .ok (.iconst 3, 1) := by decide +kernel
theorem dX5_clear_13 : decode cX5_clear 13 = .ok (.putfield 61, 3) := by decide +kernel
theorem dX5_clear_16 : decode cX5_clear 16 = .ok (.aload_n 0, 1) := by decide +kernel
theorem dX5_clear_17 : decode cX5_clear 17 = .ok (.getfield 12, 3) := by decide +kernel
theorem dX5_clear_20 : decode cX5_clear 20 = .ok (.iconst 0, 1) := by decide +kernel
theorem dX5_clear_21 : decode cX5_clear 21 = .ok (.putfield 64, 3) := by decide +kernel
theorem dX5_clear_24 : decode cX5_clear 24 = .ok (.aload_n 0, 1) := by decide +kernel
theorem dX5_clear_25 : decode cX5_clear 25 = .ok (.getfield 18, 3) := by decide +kernel
theorem dX5_clear_28 : decode cX5_clear 28 = .ok (.iconst 0, 1) := by decide +kernel
theorem dX5_clear_29 : decode cX5_clear 29 = .ok (.invokestatic 67, 3) := by decide +kernel
theorem dX5_clear_32 : decode cX5_clear 32 = .ok (.aload_n 0, 1) := by decide +kernel
theorem dX5_clear_33 : decode cX5_clear 33 = .ok (.getfield 39, 3) := by decide +kernel
theorem dX5_clear_36 : decode cX5_clear 36 = .ok (.iconst 0, 1) := by decide +kernel
theorem dX5_clear_37 : decode cX5_clear 37 = .ok (.invokestatic 67, 3) := by decide +kernel
theorem dX5_clear_40 : decode cX5_clear 40 = .ok (.aload_n 0, 1) := by decide +kernel
theorem dX5_clear_41 : decode cX5_clear 41 = .ok (.iconst 0, 1) := by decide +kernel
theorem dX5_clear_42 : decode cX5_clear 42 = .ok (.putfield 73, 3) := by decide +kernel
theorem dX5_clear_45 : decode cX5_clear 45 = .ok (.aload_n 0, 1) := by decide +kernel
theorem dX5_clear_46 : decode cX5_clear 46 = .ok (.iconst 0, 1) := by decide +kernel
theorem dX5_clear_47 : decode cX5_clear 47 = .ok (.putfield 76, 3) := by decide +kernel
theorem dX5_clear_50 : decode cX5_clear 50 = .ok (.return_, 1) := by decide +kernel
theorem dX5_hasPosition_0 : decode cX5_hasPosition 0 = .ok (.iload_n 1, 1) := by decide +kernel
theorem dX5_hasPosition_1 : decode cX5_hasPosition 1 = .ok (.ifCond .lt 15, 3) := by decide +kernel
theorem dX5_hasPosition_4 : decode cX5_hasPosition 4 = .ok (.iload_n 1, 1) := by decide +kernel
theorem dX5_hasPosition_5 : decode cX5_hasPosition 5 = .ok (.aload_n 0, 1) := by decide +kernel
theorem dX5_hasPosition_6 : decode cX5_hasPosition 6 = .ok (.getfield 54, 3) := by decide +kernel
theorem dX5_hasPosition_9 : decode cX5_hasPosition 9 = .ok (.if_icmp .ge 7, 3) := by decide +kernel
theorem dX5_hasPosition_12 : decode cX5_hasPosition 12 = .ok (.iconst 1, 1) := by decide +kernel
theorem dX5_hasPosition_13 : decode cX5_hasPosition 13 = .ok (.goto 4, 3) := by decide +kernel
theorem dX5_hasPosition_16 : decode cX5_hasPosition 16 = .ok (.iconst 0, 1) := by decide +kernel
theorem dX5_hasPosition_17 : decode cX5_hasPosition 17 = .ok (.ireturn, 1) := by decide +kernel
theorem dX5_addDevice_0 : decode cX5_addDevice 0 = .ok (.aload_n 0, 1) := by decide +kernel
theorem dX5_addDevice_1 : decode cX5_addDevice 1 = .ok (.getfield 39, 3) := by decide +kernel
theorem dX5_addDevice_4 : decode cX5_addDevice 4 = .ok (.iload_n 1, 1) := by decide +kernel
theorem dX5_addDevice_5 : decode cX5_addDevice 5 = .ok (.iaload, 1) := by decide +kernel
theorem dX5_addDevice_6 : decode cX5_addDevice 6 = .ok (.istore_n 3, 1) := by decide +kernel
theorem dX5_addDevice_7 : decode cX5_addDevice 7 = .ok (.iload_n 3, 1) := by decide +kernel
theorem dX5_addDevice_8 : decode cX5_addDevice 8 = .ok (.bipush 6, 2) := by decide +kernel
theorem dX5_addDevice_10 : decode cX5_addDevice 10 = .ok (.if_icmp .ge 12, 3) := by decide +kernel
theorem dX5_addDevice_13 : decode cX5_addDevice 13 = .ok (.aload_n 0, 1) := by decide +kernel
theorem dX5_addDevice_14 : decode cX5_addDevice 14 = .ok (.getfield 73, 3) := by decide +kernel
theorem dX5_addDevice_17 : decode cX5_addDevice 17 = .ok (.bipush 18, 2) := by decide +kernel
theorem dX5_addDevice_19 : decode cX5_addDevice 19 = .ok (.if_icmp .lt 4, 3) := by decide +kernel
theorem dX5_addDevice_22 : decode cX5_addDevice 22 = .ok (.return_, 1) := by decide +kernel
theorem dX5_addDevice_23 : decode cX5_addDevice 23 = .ok (.aload_n 0, 1) := by decide +kernel
theorem dX5_addDevice_24 : decode cX5_addDevice 24 = .ok (.getfield 18, 3) := by decide +kernel
theorem dX5_addDevice_27 : decode cX5_addDevice 27 = .ok (.iload_n 2, 1) := by decide +kernel
theorem dX5_addDevice_28 : decode cX5_addDevice 28 = .ok (.iload_n 1, 1) := by decide +kernel
theorem dX5_addDevice_29 : decode cX5_addDevice 29 = .ok (.iastore, 1) := by decide +kernel
theorem dX5_addDevice_30 : decode cX5_addDevice 30 = .ok (.aload_n 0, 1) := by decide +kernel
theorem dX5_addDevice_31 : decode cX5_addDevice 31 = .ok (.getfield 22, 3) := by decide +kernel
theorem dX5_addDevice_34 : decode cX5_addDevice 34 = .ok (.iload_n 2, 1) := by decide +kernel
theorem dX5_addDevice_35 : decode cX5_addDevice 35 = .ok (.iload_n 3, 1) := by decide +kernel
theorem dX5_addDevice_36 : decode cX5_addDevice 36 = .ok (.iastore, 1) := by decide +kernel
theorem dX5_addDevice_37 : decode cX5_addDevice 37 = .ok (.aload_n 0, 1) := by decide +kernel
theorem dX5_addDevice_38 : decode cX5_addDevice 38 = .ok (.getfield 42, 3) := by decide +kernel
theorem dX5_addDevice_41 : decode cX5_addDevice 41 = .ok (.iload_n 1, 1) := by decide +kernel
theorem dX5_addDevice_42 : decode cX5_addDevice 42 = .ok (.aaload, 1) := by decide +kernel
theorem dX5_addDevice_43 : decode cX5_addDevice 43 = .ok (.iload_n 3, 1) := by decide +kernel
theorem dX5_addDevice_44 : decode cX5_addDevice 44 = .ok (.iload_n 2, 1) := by decide +kernel
theorem dX5_addDevice_45 : decode cX5_addDevice 45 = .ok (.iastore, 1) := by decide +kernel
theorem dX5_addDevice_46 : decode cX5_addDevice 46 = .ok (.aload_n 0, 1) := by decide +kernel
theorem dX5_addDevice_47 : decode cX5_addDevice 47 = .ok (.getfield 39, 3) := by decide +kernel
theorem dX5_addDevice_50 : decode cX5_addDevice 50 = .ok (.iload_n 1, 1) := by decide +kernel
theorem dX5_addDevice_51 : decode cX5_addDevice 51 = .ok (.iload_n 3, 1) := by decide +kernel
theorem dX5_addDevice_52 : decode cX5_addDevice 52 = .ok (.iconst 1, 1) := by decide +kernel
theorem dX5_addDevice_53 : decode cX5_addDevice 53 = .ok (.iadd, 1) := by decide +kernel
theorem dX5_addDevice_54 : decode cX5_addDevice 54 = .ok (.iastore, 1) := by decide +kernel
theorem dX5_addDevice_55 : decode cX5_addDevice 55 = .ok (.aload_n 0, 1) := by decide +kernel
theorem dX5_addDevice_56 : decode cX5_addDevice 56 = .ok (.getfield 45, 3) := by decide +kernel
theorem dX5_addDevice_59 : decode cX5_addDevice 59 = .ok (.aload_n 0, 1) := by decide +kernel
theorem dX5_addDevice_60 : decode cX5_addDevice 60 = .ok (.getfield 73, 3) := by decide +kernel
theorem dX5_addDevice_63 : decode cX5_addDevice 63 = .ok (.iload_n 2, 1) := by decide +kernel
theorem dX5_addDevice_64 : decode cX5_addDevice 64 = .ok (.iastore, 1) := by decide +kernel
theorem dX5_addDevice_65 : decode cX5_addDevice 65 = .ok (.aload_n 0, 1) := by decide +kernel
theorem dX5_addDevice_66 : decode cX5_addDevice 66 = .ok (.dup, 1) := by decide +kernel
theorem dX5_addDevice_67 : decode cX5_addDevice 67 = .ok (.getfield 73, 3) := by decide +kernel
theorem dX5_addDevice_70 : decode cX5_addDevice 70 = .ok (.iconst 1, 1) := by decide +kernel
theorem dX5_addDevice_71 : decode cX5_addDevice 71 = .ok (.iadd, 1) := by decide +kernel
theorem dX5_addDevice_72 : decode cX5_addDevice 72 = .ok (.putfield 73, 3) := by decide +kernel
theorem dX5_addDevice_75 : decode cX5_addDevice 75 = .ok (.return_, 1) := by decide +kernel
theorem dX5_listBusyPositions_0 : decode cX5_listBusyPositions 0 = .ok (.iconst 0, 1) := by decide +kernel
theorem dX5_listBusyPositions_1 : decode cX5_listBusyPositions 1 = .ok (.istore_n 1, 1) := by decide +kernel
theorem dX5_listBusyPositions_2 : decode cX5_listBusyPositions 2 = .ok (.iload_n 1, 1) := by decide +kernel
theorem dX5_listBusyPositions_3 : decode cX5_listBusyPositions 3 = .ok (.aload_n 0, 1) := by decide +kernel
theorem dX5_listBusyPositions_4 : decode cX5_listBusyPositions 4 = .ok (.getfield 54, 3) := by decide +kernel
theorem dX5_listBusyPositions_7 : decode cX5_listBusyPositions 7 = .ok (.if_icmp .ge 38, 3) := by decide +kernel
theorem dX5_listBusyPositions_10 : decode cX5_listBusyPositions 10 = .ok (.aload_n 0, 1) := by decide +kernel
theorem dX5_listBusyPositions_11 : decode cX5_listBusyPositions 11 = .ok (.getfield 18, 3) := by decide +kernel
theorem dX5_listBusyPositions_14 : decode cX5_listBusyPositions 14 = .ok (.iload_n 1, 1) := by decide +kernel
theorem dX5_listBusyPositions_15 : decode cX5_listBusyPositions 15 = .ok (.iaload, 1) := by decide +kernel
theorem dX5_listBusyPositions_16 : decode cX5_listBusyPositions 16 = .ok (.ifCond .eq 23, 3) := by decide +kernel
theorem dX5_listBusyPositions_19 : decode cX5_listBusyPositions 19 = .ok (.aload_n 0, 1) := by decide +kernel
theorem dX5_listBusyPositions_20 : decode cX5_listBusyPositions 20 = .ok (.getfield 48, 3) := by decide +kernel
theorem dX5_listBusyPositions_23 : decode cX5_listBusyPositions 23 = .ok (.aload_n 0, 1) := by decide +kernel
theorem dX5_listBusyPositions_24 : decode cX5_listBusyPositions 24 = .ok (.getfield 76, 3) := by decide +kernel
theorem dX5_listBusyPositions_27 : decode cX5_listBusyPositions 27 = .ok (.iload_n 1, 1) := by decide +kernel
theorem dX5_listBusyPositions_28 : decode cX5_listBusyPositions 28 = .ok (.iastore, 1) := by decide +kernel
theorem dX5_listBusyPositions_29 : decode cX5_listBusyPositions 29 = .ok (.aload_n 0, 1) := by decide +kernel
theorem dX5_listBusyPositions_30 : decode cX5_listBusyPositions 30 = .ok (.dup, 1) := by decide +kernel
theorem dX5_listBusyPositions_31 : decode cX5_listBusyPositions 31 = .ok (.getfield 76, 3) := by decide +kernel
theorem dX5_listBusyPositions_34 : decode cX5_listBusyPositions 34 = .ok (.iconst 1, 1) := by decide +kernel
theorem dX5_listBusyPositions_35 : decode cX5_listBusyPositions 35 = .ok (.iadd, 1) := by decide +kernel
theorem dX5_listBusyPositions_36 : decode cX5_listBusyPositions 36 = .ok (.putfield 76, 3) := by decide +kernel
theorem dX5_listBusyPositions_39 : decode cX5_listBusyPositions 39 = .ok (.iinc 1 1, 3) := by decide +kernel
theorem dX5_listBusyPositions_42 : decode cX5_listBusyPositions 42 = .ok (.goto (-40), 3) := by decide +kernel
theorem dX5_listBusyPositions_45 : decode cX5_listBusyPositions 45 = .ok (.return_, 1) := by decide +kernel
theorem dX5_placeOf_0 : decode cX5_placeOf 0 = .ok (.iload_n 2, 1) := by decide +kernel
theorem dX5_placeOf_1 : decode cX5_placeOf 1 = .ok (.ifCond .lt 24, 3) := by decide +kernel
theorem dX5_placeOf_4 : decode cX5_placeOf 4 = .ok (.iload_n 2, 1) := by decide +kernel
theorem dX5_placeOf_5 : decode cX5_placeOf 5 = .ok (.aload_n 0, 1) := by decide +kernel
theorem dX5_placeOf_6 : decode cX5_placeOf 6 = .ok (.getfield 39, 3) := by decide +kernel
theorem dX5_placeOf_9 : decode cX5_placeOf 9 = .ok (.iload_n 1, 1) := by decide +kernel
theorem dX5_placeOf_10 : decode cX5_placeOf 10 = .ok (.iaload, 1) := by decide +kernel
theorem dX5_placeOf_11 : decode cX5_placeOf 11 = .ok (.if_icmp .ge 14, 3) := by decide +kernel
theorem dX5_placeOf_14 : decode cX5_placeOf 14 = .ok (.aload_n 0, 1) := by decide +kernel
theorem dX5_placeOf_15 : decode cX5_placeOf 15 = .ok (.getfield 42, 3) := by decide +kernel
theorem dX5_placeOf_18 : decode cX5_placeOf 18 = .ok (.iload_n 1, 1) := by decide +kernel
theorem dX5_placeOf_19 : decode cX5_placeOf 19 = .ok (.aaload, 1) := by decide +kernel
theorem dX5_placeOf_20 : decode cX5_placeOf 20 = .ok (.iload_n 2, 1) := by decide +kernel
theorem dX5_placeOf_21 : decode cX5_placeOf 21 = .ok (.iaload, 1) := by decide +kernel
theorem dX5_placeOf_22 : decode cX5_placeOf 22 = .ok (.goto 4, 3) := by decide +kernel
theorem dX5_placeOf_25 : decode cX5_placeOf 25 = .ok (.iconst (-1), 1) := by decide +kernel
theorem dX5_placeOf_26 : decode cX5_placeOf 26 = .ok (.ireturn, 1) := by decide +kernel
theorem dX5_describe_0 : decode cX5_describe 0 = .ok (.aload_n 1, 1) := by decide +kernel
theorem dX5_describe_1 : decode cX5_describe 1 = .ok (.iconst 0, 1) := by decide +kernel
theorem dX5_describe_2 : decode cX5_describe 2 = .ok (.putfield 79, 3) := by decide +kernel
theorem dX5_describe_5 : decode cX5_describe 5 = .ok (.aload_n 1, 1) := by decide +kernel
theorem dX5_describe_6 : decode cX5_describe 6 = .ok (.ldc 84, 2) := by decide +kernel
theorem dX5_describe_8 : decode cX5_describe 8 = .ok (.aload_n 0, 1) := by decide +kernel
theorem dX5_describe_9 : decode cX5_describe 9 = .ok (.getfield 54, 3) := by decide +kernel
theorem dX5_describe_12 : decode cX5_describe 12 = .ok (.invokevirtual 86, 3) := by decide +kernel
theorem dX5_describe_15 : decode cX5_describe 15 = .ok (.aload_n 1, 1) := by decide +kernel
theorem dX5_describe_16 : decode cX5_describe 16 = .ok (.invokevirtual 90, 3) := by decide +kernel
theorem dX5_describe_19 : decode cX5_describe 19 = .ok (.iconst 0, 1) := by decide +kernel
theorem dX5_describe_20 : decode cX5_describe 20 = .ok (.istore_n 2, 1) := by decide +kernel
theorem dX5_describe_21 : decode cX5_describe 21 = .ok (.iload_n 2, 1) := by decide +kernel
theorem dX5_describe_22 : decode cX5_describe 22 = .ok (.aload_n 0, 1) := by decide +kernel
theorem dX5_describe_23 : decode cX5_describe 23 = .ok (.getfield 73, 3) := by decide +kernel
theorem dX5_describe_26 : decode cX5_describe 26 = .ok (.if_icmp .ge 20, 3) := by decide +kernel
theorem dX5_describe_29 : decode cX5_describe 29 = .ok (.aload_n 0, 1) := by decide +kernel
theorem dX5_describe_30 : decode cX5_describe 30 = .ok (.aload_n 1, 1) := by decide +kernel
theorem dX5_describe_31 : decode cX5_describe 31 = .ok (.aload_n 0, 1) := by decide +kernel
theorem dX5_describe_32 : decode cX5_describe 32 = .ok (.getfield 45, 3) := by decide +kernel
theorem dX5_describe_35 : decode cX5_describe 35 = .ok (.iload_n 2, 1) := by decide +kernel
theorem dX5_describe_36 : decode cX5_describe 36 = .ok (.iaload, 1) := by decide +kernel
theorem dX5_describe_37 : decode cX5_describe 37 = .ok (.invokevirtual 93, 3) := by decide +kernel
theorem dX5_describe_40 : decode cX5_describe 40 = .ok (.iinc 2 1, 3) := by decide +kernel
theorem dX5_describe_43 : decode cX5_describe 43 = .ok (.goto (-22), 3) := by decide +kernel
theorem dX5_describe_46 : decode cX5_describe 46 = .ok (.iconst 0, 1) := by decide +kernel
theorem dX5_describe_47 : decode cX5_describe 47 = .ok (.istore_n 2, 1) := by decide +kernel
theorem dX5_describe_48 : decode cX5_describe 48 = .ok (.iload_n 2, 1) := by decide +kernel
theorem dX5_describe_49 : decode cX5_describe 49 = .ok (.aload_n 0, 1) := by decide +kernel
theorem dX5_describe_50 : decode cX5_describe 50 = .ok (.getfield 12, 3) := by decide +kernel
theorem dX5_describe_53 : decode cX5_describe 53 = .ok (.getfield 64, 3) := by decide +kernel
theorem dX5_describe_56 : decode cX5_describe 56 = .ok (.if_icmp .ge 15, 3) := by decide +kernel
theorem dX5_describe_59 : decode cX5_describe 59 = .ok (.aload_n 0, 1) := by decide +kernel
theorem dX5_describe_60 : decode cX5_describe 60 = .ok (.aload_n 1, 1) := by decide +kernel
theorem dX5_describe_61 : decode cX5_describe 61 = .ok (.iload_n 2, 1) := by decide +kernel
theorem dX5_describe_62 : decode cX5_describe 62 = .ok (.invokevirtual 97, 3) := by decide +kernel
theorem dX5_describe_65 : decode cX5_describe 65 = .ok (.iinc 2 1, 3) := by decide +kernel
theorem dX5_describe_68 : decode cX5_describe 68 = .ok (.goto (-20), 3) := by decide +kernel
theorem dX5_describe_71 : decode cX5_describe 71 = .ok (.aload_n 1, 1) := by decide +kernel
theorem dX5_describe_72 : decode cX5_describe 72 = .ok (.ldc 100, 2) := by decide +kernel
theorem dX5_describe_74 : decode cX5_describe 74 = .ok (.aload_n 0, 1) := by decide +kernel
theorem dX5_describe_75 : decode cX5_describe 75 = .ok (.getfield 58, 3) := by decide +kernel
theorem dX5_describe_78 : decode cX5_describe 78 = .ok (.invokevirtual 86, 3) := by decide +kernel
theorem dX5_describe_81 : decode cX5_describe 81 = .ok (.aload_n 1, 1) := by decide +kernel
theorem dX5_describe_82 : decode cX5_describe 82 = .ok (.invokevirtual 90, 3) := by decide +kernel
theorem dX5_describe_85 : decode cX5_describe 85 = .ok (.aload_n 1, 1) := by decide +kernel
theorem dX5_describe_86 : decode cX5_describe 86 = .ok (.ldc 101, 2) := by decide +kernel
theorem dX5_describe_88 : decode cX5_describe 88 = .ok (.aload_n 0, 1) := by decide +kernel
theorem dX5_describe_89 : decode cX5_describe 89 = .ok (.getfield 61, 3) := by decide +kernel
theorem dX5_describe_92 : decode cX5_describe 92 = .ok (.invokevirtual 86, 3) := by decide +kernel
theorem dX5_describe_95 : decode cX5_describe 95 = .ok (.aload_n 1, 1) := by decide +kernel
theorem dX5_describe_96 : decode cX5_describe 96 = .ok (.invokevirtual 90, 3) := by decide +kernel
theorem dX5_describe_99 : decode cX5_describe 99 = .ok (.return_, 1) := by decide +kernel
theorem dX5_describeDevice_0 : decode cX5_describeDevice 0 = .ok (.aload_n 0, 1) := by decide +kernel
theorem dX5_describeDevice_1 : decode cX5_describeDevice 1 = .ok (.getfield 18, 3) := by decide +kernel
theorem dX5_describeDevice_4 : decode cX5_describeDevice 4 = .ok (.iload_n 2, 1) := by decide +kernel
theorem dX5_describeDevice_5 : decode cX5_describeDevice 5 = .ok (.iaload, 1) := by decide +kernel
theorem dX5_describeDevice_6 : decode cX5_describeDevice 6 = .ok (.istore_n 3, 1) := by decide +kernel
theorem dX5_describeDevice_7 : decode cX5_describeDevice 7 = .ok (.aload_n 1, 1) := by decide +kernel
theorem dX5_describeDevice_8 : decode cX5_describeDevice 8 = .ok (.iload_n 3, 1) := by decide +kernel
theorem dX5_describeDevice_9 : decode cX5_describeDevice 9 = .ok (.invokestatic 103, 3) := by decide +kernel
theorem dX5_describeDevice_12 : decode cX5_describeDevice 12 = .ok (.iload_n 2, 1) := by decide +kernel
theorem dX5_describeDevice_13 : decode cX5_describeDevice 13 = .ok (.invokevirtual 86, 3) := by decide +kernel
theorem dX5_describeDevice_16 : decode cX5_describeDevice 16 = .ok (.iload_n 3, 1) := by decide +kernel
theorem dX5_describeDevice_17 : decode cX5_describeDevice 17 = .ok (.invokestatic 107, 3) := by decide +kernel
theorem dX5_describeDevice_20 : decode cX5_describeDevice 20 = .ok (.ifCond .eq 27, 3) := by decide +kernel
theorem dX5_describeDevice_23 : decode cX5_describeDevice 23 = .ok (.aload_n 1, 1) := by decide +kernel
theorem dX5_describeDevice_24 : decode cX5_describeDevice 24 = .ok (.ldc 111, 2) := by decide +kernel
theorem dX5_describeDevice_26 : decode cX5_describeDevice 26 = .ok (.aload_n 0, 1) := by decide +kernel
theorem dX5_describeDevice_27 : decode cX5_describeDevice 27 = .ok (.getfield 25, 3) := by decide +kernel
theorem dX5_describeDevice_30 : decode cX5_describeDevice 30 = .ok (.iload_n 2, 1) := by decide +kernel
theorem dX5_describeDevice_31 : decode cX5_describeDevice 31 = .ok (.iaload, 1) := by decide +kernel
theorem dX5_describeDevice_32 : decode cX5_describeDevice 32 = .ok (.invokevirtual 86, 3) := by decide +kernel
theorem dX5_describeDevice_35 : decode cX5_describeDevice 35 = .ok (.aload_n 1, 1) := by decide +kernel
theorem dX5_describeDevice_36 : decode cX5_describeDevice 36 = .ok (.ldc 113, 2) := by decide +kernel
theorem dX5_describeDevice_38 : decode cX5_describeDevice 38 = .ok (.aload_n 0, 1) := by decide +kernel
theorem dX5_describeDevice_39 : decode cX5_describeDevice 39 = .ok (.getfield 28, 3) := by decide +kernel
theorem dX5_describeDevice_42 : decode cX5_describeDevice 42 = .ok (.iload_n 2, 1) := by decide +kernel
theorem dX5_describeDevice_43 : decode cX5_describeDevice 43 = .ok (.iaload, 1) := by decide +kernel
theorem dX5_describeDevice_44 : decode cX5_describeDevice 44 = .ok (.invokevirtual 86, 3) := by decide +kernel
theorem dX5_describeDevice_47 : decode cX5_describeDevice 47 = .ok (.iload_n 3, 1) := by decide +kernel
theorem dX5_describeDevice_48 : decode cX5_describeDevice 48 = .ok (.iconst 4, 1) := by decide +kernel
theorem dX5_describeDevice_49 : decode cX5_describeDevice 49 = .ok (.if_icmp .ne 37, 3) := by decide +kernel
theorem dX5_describeDevice_52 : decode cX5_describeDevice 52 = .ok (.aload_n 1, 1) := by decide +kernel
theorem dX5_describeDevice_53 : decode cX5_describeDevice 53 = .ok (.ldc 115, 2) := by decide +kernel
theorem dX5_describeDevice_55 : decode cX5_describeDevice 55 = .ok (.invokevirtual 116, 3) := by decide +kernel
theorem dX5_describeDevice_58 : decode cX5_describeDevice 58 = .ok (.iconst 1, 1) := by decide +kernel
theorem dX5_describeDevice_59 : decode cX5_describeDevice 59 = .ok (.istore 4, 2) := by decide +kernel
theorem dX5_describeDevice_61 : decode cX5_describeDevice 61 = .ok (.iload 4, 2) := by decide +kernel
theorem dX5_describeDevice_63 : decode cX5_describeDevice 63 = .ok (.iconst 3, 1) := by decide +kernel
theorem dX5_describeDevice_64 : decode cX5_describeDevice 64 = .ok (.if_icmp .gt 22, 3) := by decide +kernel
theorem dX5_describeDevice_67 : decode cX5_describeDevice 67 = .ok (.aload_n 1, 1) := by decide +kernel
theorem dX5_describeDevice_68 : decode cX5_describeDevice 68 = .ok (.aload_n 0, 1) := by decide +kernel
theorem dX5_describeDevice_69 : decode cX5_describeDevice 69 = .ok (.getfield 36, 3) := by decide +kernel
theorem dX5_describeDevice_72 : decode cX5_describeDevice 72 = .ok (.iload 4, 2) := by decide +kernel
theorem dX5_describeDevice_74 : decode cX5_describeDevice 74 = .ok (.aaload, 1) := by decide +kernel
theorem dX5_describeDevice_75 : decode cX5_describeDevice 75 = .ok (.iload_n 2, 1) := by decide +kernel
theorem dX5_describeDevice_76 : decode cX5_describeDevice 76 = .ok (.iaload, 1) := by decide +kernel
theorem dX5_describeDevice_77 : decode cX5_describeDevice 77 = .ok (.invokevirtual 120, 3) := by decide +kernel
theorem dX5_describeDevice_80 : decode cX5_describeDevice 80 = .ok (.iinc 4 1, 3) := by decide +kernel
theorem dX5_describeDevice_83 : decode cX5_describeDevice 83 = .ok (.goto (-22), 3) := by decide +kernel
theorem dX5_describeDevice_86 : decode cX5_describeDevice 86 = .ok (.iload_n 3, 1) := by decide +kernel
theorem dX5_describeDevice_87 : decode cX5_describeDevice 87 = .ok (.bipush 6, 2) := by decide +kernel
theorem dX5_describeDevice_89 : decode cX5_describeDevice 89 = .ok (.if_icmp .ne 17, 3) := by decide +kernel
theorem dX5_describeDevice_92 : decode cX5_describeDevice 92 = .ok (.aload_n 1, 1) := by decide +kernel
theorem dX5_describeDevice_93 : decode cX5_describeDevice 93 = .ok (.ldc 124, 2) := by decide +kernel
theorem dX5_describeDevice_95 : decode cX5_describeDevice 95 = .ok (.aload_n 0, 1) := by decide +kernel
theorem dX5_describeDevice_96 : decode cX5_describeDevice 96 = .ok (.getfield 36, 3) := by decide +kernel
theorem dX5_describeDevice_99 : decode cX5_describeDevice 99 = .ok (.iconst 1, 1) := by decide +kernel
theorem dX5_describeDevice_100 : decode cX5_describeDevice 100 = .ok (.aaload, 1) := by decide +kernel
theorem dX5_describeDevice_101 : decode cX5_describeDevice 101 = .ok (.iload_n 2, 1) := by decide +kernel
theorem dX5_describeDevice_102 : decode cX5_describeDevice 102 = .ok (.iaload, 1) := by decide +kernel
theorem dX5_describeDevice_103 : decode cX5_describeDevice 103 = .ok (.invokevirtual 86, 3) := by decide +kernel
theorem dX5_describeDevice_106 : decode cX5_describeDevice 106 = .ok (.iload_n 3, 1) := by decide +kernel
theorem dX5_describeDevice_107 : decode cX5_describeDevice 107 = .ok (.invokestatic 126, 3) := by decide +kernel
theorem dX5_describeDevice_110 : decode cX5_describeDevice 110 = .ok (.ifCond .eq 15, 3) := by decide +kernel
theorem dX5_describeDevice_113 : decode cX5_describeDevice 113 = .ok (.aload_n 1, 1) := by decide +kernel
theorem dX5_describeDevice_114 : decode cX5_describeDevice 114 = .ok (.ldc 129, 2) := by decide +kernel
theorem dX5_describeDevice_116 : decode cX5_describeDevice 116 = .ok (.aload_n 0, 1) := by decide +kernel
theorem dX5_describeDevice_117 : decode cX5_describeDevice 117 = .ok (.getfield 31, 3) := by decide +kernel
theorem dX5_describeDevice_120 : decode cX5_describeDevice 120 = .ok (.iload_n 2, 1) := by decide +kernel
theorem dX5_describeDevice_121 : decode cX5_describeDevice 121 = .ok (.iaload, 1) := by decide +kernel
theorem dX5_describeDevice_122 : decode cX5_describeDevice 122 = .ok (.invokevirtual 86, 3) := by decide +kernel
theorem dX5_describeDevice_125 : decode cX5_describeDevice 125 = .ok (.aload_n 1, 1) := by decide +kernel
theorem dX5_describeDevice_126 : decode cX5_describeDevice 126 = .ok (.invokevirtual 90, 3) := by decide +kernel
theorem dX5_describeDevice_129 : decode cX5_describeDevice 129 = .ok (.return_, 1) := by decide +kernel
theorem dX5_describeFlight_0 : decode cX5_describeFlight 0 = .ok (.aload_n 1, 1) := by decide +kernel
theorem dX5_describeFlight_1 : decode cX5_describeFlight 1 = .ok (.ldc 131, 2) := by decide +kernel
theorem dX5_describeFlight_3 : decode cX5_describeFlight 3 = .ok (.aload_n 0, 1) := by decide +kernel
theorem dX5_describeFlight_4 : decode cX5_describeFlight 4 = .ok (.getfield 12, 3) := by decide +kernel
theorem dX5_describeFlight_7 : decode cX5_describeFlight 7 = .ok (.getfield 133, 3) := by decide +kernel
theorem dX5_describeFlight_10 : decode cX5_describeFlight 10 = .ok (.iload_n 2, 1) := by decide +kernel
theorem dX5_describeFlight_11 : decode cX5_describeFlight 11 = .ok (.iaload, 1) := by decide +kernel
theorem dX5_describeFlight_12 : decode cX5_describeFlight 12 = .ok (.invokevirtual 86, 3) := by decide +kernel
theorem dX5_describeFlight_15 : decode cX5_describeFlight 15 = .ok (.aload_n 1, 1) := by decide +kernel
theorem dX5_describeFlight_16 : decode cX5_describeFlight 16 = .ok (.ldc 134, 2) := by decide +kernel
theorem dX5_describeFlight_18 : decode cX5_describeFlight 18 = .ok (.aload_n 0, 1) := by decide +kernel
theorem dX5_describeFlight_19 : decode cX5_describeFlight 19 = .ok (.getfield 12, 3) := by decide +kernel
theorem dX5_describeFlight_22 : decode cX5_describeFlight 22 = .ok (.getfield 136, 3) := by decide +kernel
theorem dX5_describeFlight_25 : decode cX5_describeFlight 25 = .ok (.iload_n 2, 1) := by decide +kernel
theorem dX5_describeFlight_26 : decode cX5_describeFlight 26 = .ok (.iaload, 1) := by decide +kernel
theorem dX5_describeFlight_27 : decode cX5_describeFlight 27 = .ok (.invokevirtual 86, 3) := by decide +kernel
theorem dX5_describeFlight_30 : decode cX5_describeFlight 30 = .ok (.aload_n 1, 1) := by decide +kernel
theorem dX5_describeFlight_31 : decode cX5_describeFlight 31 = .ok (.ldc 139, 2) := by decide +kernel
theorem dX5_describeFlight_33 : decode cX5_describeFlight 33 = .ok (.aload_n 0, 1) := by decide +kernel
theorem dX5_describeFlight_34 : decode cX5_describeFlight 34 = .ok (.getfield 12, 3) := by decide +kernel
theorem dX5_describeFlight_37 : decode cX5_describeFlight 37 = .ok (.getfield 141, 3) := by decide +kernel
theorem dX5_describeFlight_40 : decode cX5_describeFlight 40 = .ok (.iload_n 2, 1) := by decide +kernel
theorem dX5_describeFlight_41 : decode cX5_describeFlight 41 = .ok (.iaload, 1) := by decide +kernel
theorem dX5_describeFlight_42 : decode cX5_describeFlight 42 = .ok (.invokevirtual 86, 3) := by decide +kernel
theorem dX5_describeFlight_45 : decode cX5_describeFlight 45 = .ok (.aload_n 1, 1) := by decide +kernel
theorem dX5_describeFlight_46 : decode cX5_describeFlight 46 = .ok (.ldc 144, 2) := by decide +kernel
theorem dX5_describeFlight_48 : decode cX5_describeFlight 48 = .ok (.aload_n 0, 1) := by decide +kernel
theorem dX5_describeFlight_49 : decode cX5_describeFlight 49 = .ok (.getfield 12, 3) := by decide +kernel
theorem dX5_describeFlight_52 : decode cX5_describeFlight 52 = .ok (.getfield 146, 3) := by decide +kernel
theorem dX5_describeFlight_55 : decode cX5_describeFlight 55 = .ok (.iload_n 2, 1) := by decide +kernel
theorem dX5_describeFlight_56 : decode cX5_describeFlight 56 = .ok (.iaload, 1) := by decide +kernel
theorem dX5_describeFlight_57 : decode cX5_describeFlight 57 = .ok (.invokevirtual 86, 3) := by decide +kernel
theorem dX5_describeFlight_60 : decode cX5_describeFlight 60 = .ok (.aload_n 1, 1) := by decide +kernel
theorem dX5_describeFlight_61 : decode cX5_describeFlight 61 = .ok (.invokevirtual 90, 3) := by decide +kernel
theorem dX5_describeFlight_64 : decode cX5_describeFlight 64 = .ok (.return_, 1) := by decide +kernel
theorem dX6_init_0 : decode cX6_init 0 = .ok (.aload_n 0, 1) := by decide +kernel
theorem dX6_init_1 : decode cX6_init 1 = .ok (.invokespecial 3, 3) := by decide +kernel
theorem dX6_init_4 : decode cX6_init 4 = .ok (.aload_n 0, 1) := by decide +kernel
theorem dX6_init_5 : decode cX6_init 5 = .ok (.aload_n 1, 1) := by decide +kernel
theorem dX6_init_6 : decode cX6_init 6 = .ok (.putfield 9, 3) := by decide +kernel
theorem dX6_init_9 : decode cX6_init 9 = .ok (.return_, 1) := by decide +kernel
theorem dX6_readInto_0 : decode cX6_readInto 0 = .ok (.aload_n 0, 1) := by decide +kernel
theorem dX6_readInto_1 : decode cX6_readInto 1 = .ok (.aload_n 1, 1) := by decide +kernel
theorem dX6_readInto_2 : decode cX6_readInto 2 = .ok (.putfield 15, 3) := by decide +kernel
theorem dX6_readInto_5 : decode cX6_readInto 5 = .ok (.aload_n 0, 1) := by decide +kernel
theorem dX6_readInto_6 : decode cX6_readInto 6 = .ok (.getfield 15, 3) := by decide +kernel
theorem dX6_readInto_9 : decode cX6_readInto 9 = .ok (.invokevirtual 19, 3) := by decide +kernel
theorem dX6_readInto_12 : decode cX6_readInto 12 = .ok (.aload_n 0, 1) := by decide +kernel
theorem dX6_readInto_13 : decode cX6_readInto 13 = .ok (.getfield 9, 3) := by decide +kernel
theorem dX6_readInto_16 : decode cX6_readInto 16 = .ok (.iconst 0, 1) := by decide +kernel
theorem dX6_readInto_17 : decode cX6_readInto 17 = .ok (.invokevirtual 24, 3) := by decide +kernel
theorem dX6_readInto_20 : decode cX6_readInto 20 = .ok (.aload_n 0, 1) := by decide +kernel
theorem dX6_readInto_21 : decode cX6_readInto 21 = .ok (.getfield 9, 3) := by decide +kernel
theorem dX6_readInto_24 : decode cX6_readInto 24 = .ok (.ldc 30, 2) := by decide +kernel
theorem dX6_readInto_26 : decode cX6_readInto 26 = .ok (.bipush 10, 2) := by decide +kernel
theorem dX6_readInto_28 : decode cX6_readInto 28 = .ok (.bipush 60, 2) := by decide +kernel
theorem dX6_readInto_30 : decode cX6_readInto 30 = .ok (.invokevirtual 32, 3) := by decide +kernel
theorem dX6_readInto_33 : decode cX6_readInto 33 = .ok (.istore_n 2, 1) := by decide +kernel
theorem dX6_readInto_34 : decode cX6_readInto 34 = .ok (.iload_n 2, 1) := by decide +kernel
theorem dX6_readInto_35 : decode cX6_readInto 35 = .ok (.iconst (-1), 1) := by decide +kernel
theorem dX6_readInto_36 : decode cX6_readInto 36 = .ok (.if_icmp .ne 5, 3) := by decide +kernel
theorem dX6_readInto_39 : decode cX6_readInto 39 = .ok (.iconst 0, 1) := by decide +kernel
theorem dX6_readInto_40 : decode cX6_readInto 40 = .ok (.ireturn, 1) := by decide +kernel
theorem dX6_readInto_41 : decode cX6_readInto 41 = .ok (.aload_n 0, 1) := by decide +kernel
theorem dX6_readInto_42 : decode cX6_readInto 42 = .ok (.getfield 15, 3) := by decide +kernel
theorem dX6_readInto_45 : decode cX6_readInto 45 = .ok (.iload_n 2, 1) := by decide +kernel
theorem dX6_readInto_46 : decode cX6_readInto 46 = .ok (.putfield 36, 3) := by decide +kernel
theorem dX6_readInto_49 : decode cX6_readInto 49 = .ok (.aload_n 0, 1) := by decide +kernel
theorem dX6_readInto_50 : decode cX6_readInto 50 = .ok (.getfield 9, 3) := by decide +kernel
theorem dX6_readInto_53 : decode cX6_readInto 53 = .ok (.ldc 40, 2) := by decide +kernel
theorem dX6_readInto_55 : decode cX6_readInto 55 = .ok (.invokevirtual 42, 3) := by decide +kernel
theorem dX6_readInto_58 : decode cX6_readInto 58 = .ok (.ifCond .eq 31, 3) := by decide +kernel
theorem dX6_readInto_61 : decode cX6_readInto 61 = .ok (.aload_n 0, 1) := by decide +kernel
theorem dX6_readInto_62 : decode cX6_readInto 62 = .ok (.invokevirtual 46, 3) := by decide +kernel
theorem dX6_readInto_65 : decode cX6_readInto 65 = .ok (.ifCond .eq 24, 3) := by decide +kernel
theorem dX6_readInto_68 : decode cX6_readInto 68 = .ok (.aload_n 0, 1) := by decide +kernel
theorem dX6_readInto_69 : decode cX6_readInto 69 = .ok (.invokevirtual 50, 3) := by decide +kernel
theorem dX6_readInto_72 : decode cX6_readInto 72 = .ok (.ifCond .eq 17, 3) := by decide +kernel
theorem dX6_readInto_75 : decode cX6_readInto 75 = .ok (.aload_n 0, 1) := by decide +kernel
theorem dX6_readInto_76 : decode cX6_readInto 76 = .ok (.invokevirtual 53, 3) := by decide +kernel
theorem dX6_readInto_79 : decode cX6_readInto 79 = .ok (.ifCond .eq 10, 3) := by decide +kernel
theorem dX6_readInto_82 : decode cX6_readInto 82 = .ok (.aload_n 0, 1) := by decide +kernel
theorem dX6_readInto_83 : decode cX6_readInto 83 = .ok (.invokevirtual 56, 3) := by decide +kernel
theorem dX6_readInto_86 : decode cX6_readInto 86 = .ok (.ifCond .ne 5, 3) := by decide +kernel
theorem dX6_readInto_89 : decode cX6_readInto 89 = .ok (.iconst 0, 1) := by decide +kernel
theorem dX6_readInto_90 : decode cX6_readInto 90 = .ok (.ireturn, 1) := by decide +kernel
theorem dX6_readInto_91 : decode cX6_readInto 91 = .ok (.aload_n 0, 1) := by decide +kernel
theorem dX6_readInto_92 : decode cX6_readInto 92 = .ok (.getfield 15, 3) := by decide +kernel
theorem dX6_readInto_95 : decode cX6_readInto 95 = .ok (.invokevirtual 59, 3) := by decide +kernel
theorem dX6_readInto_98 : decode cX6_readInto 98 = .ok (.aload_n 0, 1) := by decide +kernel
theorem dX6_readInto_99 : decode cX6_readInto 99 = .ok (.getfield 9, 3) := by decide +kernel
theorem dX6_readInto_102 : decode cX6_readInto 102 = .ok (.invokevirtual 62, 3) := by decide +kernel
theorem dX6_readInto_105 : decode cX6_readInto 105 = .ok (.ireturn, 1) := by decide +kernel
theorem dX6_readDevices_0 : decode cX6_readDevices 0 = .ok (.iconst 0, 1) := by decide +kernel
theorem dX6_readDevices_1 : decode cX6_readDevices 1 = .ok (.istore_n 1, 1) := by decide +kernel
theorem dX6_readDevices_2 : decode cX6_readDevices 2 = .ok (.iload_n 1, 1) := by decide +kernel
theorem dX6_readDevices_3 : decode cX6_readDevices 3 = .ok (.bipush 18, 2) := by decide +kernel
theorem dX6_readDevices_5 : decode cX6_readDevices 5 = .ok (.if_icmp .gt 63, 3) := by decide +kernel
theorem dX6_readDevices_8 : decode cX6_readDevices 8 = .ok (.aload_n 0, 1) := by decide +kernel
theorem dX6_readDevices_9 : decode cX6_readDevices 9 = .ok (.invokevirtual 65, 3) := by decide +kernel
theorem dX6_readDevices_12 : decode cX6_readDevices 12 = .ok (.istore_n 2, 1) := by decide +kernel
theorem dX6_readDevices_13 : decode cX6_readDevices 13 = .ok (.iload_n 2, 1) := by decide +kernel
theorem dX6_readDevices_14 : decode cX6_readDevices 14 = .ok (.ifCond .ne 5, 3) := by decide +kernel
theorem dX6_readDevices_17 : decode cX6_readDevices 17 = .ok (.iconst 1, 1) := by decide +kernel
theorem dX6_readDevices_18 : decode cX6_readDevices 18 = .ok (.ireturn, 1) := by decide +kernel
theorem dX6_readDevices_19 : decode cX6_readDevices 19 = .ok (.aload_n 0, 1) := by decide +kernel
theorem dX6_readDevices_20 : decode cX6_readDevices 20 = .ok (.getfield 15, 3) := by decide +kernel
theorem dX6_readDevices_23 : decode cX6_readDevices 23 = .ok (.getfield 69, 3) := by decide +kernel
theorem dX6_readDevices_26 : decode cX6_readDevices 26 = .ok (.iload_n 2, 1) := by decide +kernel
theorem dX6_readDevices_27 : decode cX6_readDevices 27 = .ok (.iaload, 1) := by decide +kernel
theorem dX6_readDevices_28 : decode cX6_readDevices 28 = .ok (.getstatic 73, 3) := by decide +kernel
theorem dX6_readDevices_31 : decode cX6_readDevices 31 = .ok (.iload_n 2, 1) := by decide +kernel
theorem dX6_readDevices_32 : decode cX6_readDevices 32 = .ok (.iaload, 1) := by decide +kernel
theorem dX6_readDevices_33 : decode cX6_readDevices 33 = .ok (.if_icmp .lt 5, 3) := by decide +kernel
theorem dX6_readDevices_36 : decode cX6_readDevices 36 = .ok (.iconst 0, 1) := by decide +kernel
theorem dX6_readDevices_37 : decode cX6_readDevices 37 = .ok (.ireturn, 1) := by decide +kernel
theorem dX6_readDevices_38 : decode cX6_readDevices 38 = .ok (.aload_n 0, 1) := by decide +kernel
theorem dX6_readDevices_39 : decode cX6_readDevices 39 = .ok (.getfield 9, 3) := by decide +kernel
theorem dX6_readDevices_42 : decode cX6_readDevices 42 = .ok (.aload_n 0, 1) := by decide +kernel
theorem dX6_readDevices_43 : decode cX6_readDevices 43 = .ok (.getfield 9, 3) := by decide +kernel
theorem dX6_readDevices_46 : decode cX6_readDevices 46 = .ok (.getfield 76, 3) := by decide +kernel
theorem dX6_readDevices_49 : decode cX6_readDevices 49 = .ok (.invokevirtual 24, 3) := by decide +kernel
theorem dX6_readDevices_52 : decode cX6_readDevices 52 = .ok (.aload_n 0, 1) := by decide +kernel
theorem dX6_readDevices_53 : decode cX6_readDevices 53 = .ok (.iload_n 2, 1) := by decide +kernel
theorem dX6_readDevices_54 : decode cX6_readDevices 54 = .ok (.invokevirtual 79, 3) := by decide +kernel
theorem dX6_readDevices_57 : decode cX6_readDevices 57 = .ok (.ifCond .ne 5, 3) := by decide +kernel
theorem dX6_readDevices_60 : decode cX6_readDevices 60 = .ok (.iconst 0, 1) := by decide +kernel
theorem dX6_readDevices_61 : decode cX6_readDevices 61 = .ok (.ireturn, 1) := by decide +kernel
theorem dX6_readDevices_62 : decode cX6_readDevices 62 = .ok (.iinc 1 1, 3) := by decide +kernel
theorem dX6_readDevices_65 : decode cX6_readDevices 65 = .ok (.goto (-63), 3) := by decide +kernel
theorem dX6_readDevices_68 : decode cX6_readDevices 68 = .ok (.iconst 0, 1) := by decide +kernel
theorem dX6_readDevices_69 : decode cX6_readDevices 69 = .ok (.ireturn, 1) := by decide +kernel
theorem dX6_sortOfToken_0 : decode cX6_sortOfToken 0 = .ok (.iconst 1, 1) := by decide +kernel
theorem dX6_sortOfToken_1 : decode cX6_sortOfToken 1 = .ok (.istore_n 1, 1) := by decide +kernel
theorem dX6_sortOfToken_2 : decode cX6_sortOfToken 2 = .ok (.iload_n 1, 1) := by decide +kernel
theorem dX6_sortOfToken_3 : decode cX6_sortOfToken 3 = .ok (.bipush 6, 2) := by decide +kernel
theorem dX6_sortOfToken_5 : decode cX6_sortOfToken 5 = .ok (.if_icmp .gt 25, 3) := by decide +kernel
theorem dX6_sortOfToken_8 : decode cX6_sortOfToken 8 = .ok (.aload_n 0, 1) := by decide +kernel
theorem dX6_sortOfToken_9 : decode cX6_sortOfToken 9 = .ok (.getfield 9, 3) := by decide +kernel
theorem dX6_sortOfToken_12 : decode cX6_sortOfToken 12 = .ok (.iload_n 1, 1) := by decide +kernel
theorem dX6_sortOfToken_13 : decode cX6_sortOfToken 13 = .ok (.invokestatic 83, 3) := by decide +kernel
theorem dX6_sortOfToken_16 : decode cX6_sortOfToken 16 = .ok (.invokevirtual 87, 3) := by decide +kernel
theorem dX6_sortOfToken_19 : decode cX6_sortOfToken 19 = .ok (.ifCond .eq 5, 3) := by decide +kernel
theorem dX6_sortOfToken_22 : decode cX6_sortOfToken 22 = .ok (.iload_n 1, 1) := by decide +kernel
theorem dX6_sortOfToken_23 : decode cX6_sortOfToken 23 = .ok (.ireturn, 1) := by decide +kernel
theorem dX6_sortOfToken_24 : decode cX6_sortOfToken 24 = .ok (.iinc 1 1, 3) := by decide +kernel
theorem dX6_sortOfToken_27 : decode cX6_sortOfToken 27 = .ok (.goto (-25), 3) := by decide +kernel
theorem dX6_sortOfToken_30 : decode cX6_sortOfToken 30 = .ok (.iconst 0, 1) := by decide +kernel
theorem dX6_sortOfToken_31 : decode cX6_sortOfToken 31 = .ok (.ireturn, 1) := by decide +kernel
theorem dX6_readDevice_0 : decode cX6_readDevice 0 = .ok (.aload_n 0, 1) := by decide +kernel
theorem dX6_readDevice_1 : decode cX6_readDevice 1 = .ok (.invokevirtual 90, 3) := by decide +kernel
theorem dX6_readDevice_4 : decode cX6_readDevice 4 = .ok (.istore_n 2, 1) := by decide +kernel
theorem dX6_readDevice_5 : decode cX6_readDevice 5 = .ok (.iload_n 2, 1) := by decide +kernel
theorem dX6_readDevice_6 : decode cX6_readDevice 6 = .ok (.iconst (-1), 1) := by decide +kernel
theorem dX6_readDevice_7 : decode cX6_readDevice 7 = .ok (.if_icmp .ne 5, 3) := by decide +kernel
theorem dX6_readDevice_10 : decode cX6_readDevice 10 = .ok (.iconst 0, 1) := by decide +kernel
theorem dX6_readDevice_11 : decode cX6_readDevice 11 = .ok (.ireturn, 1) := by decide +kernel
theorem dX6_readDevice_12 : decode cX6_readDevice 12 = .ok (.aload_n 0, 1) := by decide +kernel
theorem dX6_readDevice_13 : decode cX6_readDevice 13 = .ok (.getfield 15, 3) := by decide +kernel
theorem dX6_readDevice_16 : decode cX6_readDevice 16 = .ok (.iload_n 1, 1) := by decide +kernel
theorem dX6_readDevice_17 : decode cX6_readDevice 17 = .ok (.iload_n 2, 1) := by decide +kernel
theorem dX6_readDevice_18 : decode cX6_readDevice 18 = .ok (.invokevirtual 93, 3) := by decide +kernel
theorem dX6_readDevice_21 : decode cX6_readDevice 21 = .ok (.iload_n 1, 1) := by decide +kernel
theorem dX6_readDevice_22 : decode cX6_readDevice 22 = .ok (.invokestatic 97, 3) := by decide +kernel
theorem dX6_readDevice_25 : decode cX6_readDevice 25 = .ok (.ifCond .eq 13, 3) := by decide +kernel
theorem dX6_readDevice_28 : decode cX6_readDevice 28 = .ok (.aload_n 0, 1) := by decide +kernel
theorem dX6_readDevice_29 : decode cX6_readDevice 29 = .ok (.iload_n 2, 1) := by decide +kernel
theorem dX6_readDevice_30 : decode cX6_readDevice 30 = .ok (.invokevirtual 100, 3) := by decide +kernel
theorem dX6_readDevice_33 : decode cX6_readDevice 33 = .ok (.ifCond .ne 5, 3) := by decide +kernel
theorem dX6_readDevice_36 : decode cX6_readDevice 36 = .ok (.iconst 0, 1) := by decide +kernel
theorem dX6_readDevice_37 : decode cX6_readDevice 37 = .ok (.ireturn, 1) := by decide +kernel
theorem dX6_readDevice_38 : decode cX6_readDevice 38 = .ok (.iload_n 1, 1) := by decide +kernel
theorem dX6_readDevice_39 : decode cX6_readDevice 39 = .ok (.iconst 4, 1) := by decide +kernel
theorem dX6_readDevice_40 : decode cX6_readDevice 40 = .ok (.if_icmp .ne 13, 3) := by decide +kernel
theorem dX6_readDevice_43 : decode cX6_readDevice 43 = .ok (.aload_n 0, 1) := by decide +kernel
theorem dX6_readDevice_44 : decode cX6_readDevice 44 = .ok (.iload_n 2, 1) := by decide +kernel
theorem dX6_readDevice_45 : decode cX6_readDevice 45 = .ok (.invokevirtual 103, 3) := by decide +kernel
theorem dX6_readDevice_48 : decode cX6_readDevice 48 = .ok (.ifCond .ne 5, 3) := by decide +kernel
theorem dX6_readDevice_51 : decode cX6_readDevice 51 = .ok (.iconst 0, 1) := by decide +kernel
theorem dX6_readDevice_52 : decode cX6_readDevice 52 = .ok (.ireturn, 1) := by decide +kernel
theorem dX6_readDevice_53 : decode cX6_readDevice 53 = .ok (.iload_n 1, 1) := by decide +kernel
theorem dX6_readDevice_54 : decode cX6_readDevice 54 = .ok (.bipush 6, 2) := by decide +kernel
theorem dX6_readDevice_56 : decode cX6_readDevice 56 = .ok (.if_icmp .ne 13, 3) := by decide +kernel
theorem dX6_readDevice_59 : decode cX6_readDevice 59 = .ok (.aload_n 0, 1) := by decide +kernel
theorem dX6_readDevice_60 : decode cX6_readDevice 60 = .ok (.iload_n 2, 1) := by decide +kernel
theorem dX6_readDevice_61 : decode cX6_readDevice 61 = .ok (.invokevirtual 106, 3) := by decide +kernel
theorem dX6_readDevice_64 : decode cX6_readDevice 64 = .ok (.ifCond .ne 5, 3) := by decide +kernel
theorem dX6_readDevice_67 : decode cX6_readDevice 67 = .ok (.iconst 0, 1) := by decide +kernel
theorem dX6_readDevice_68 : decode cX6_readDevice 68 = .ok (.ireturn, 1) := by decide +kernel
theorem dX6_readDevice_69 : decode cX6_readDevice 69 = .ok (.iload_n 1, 1) := by decide +kernel
theorem dX6_readDevice_70 : decode cX6_readDevice 70 = .ok (.invokestatic 109, 3) := by decide +kernel
theorem dX6_readDevice_73 : decode cX6_readDevice 73 = .ok (.ifCond .eq 13, 3) := by decide +kernel
theorem dX6_readDevice_76 : decode cX6_readDevice 76 = .ok (.aload_n 0, 1) := by decide +kernel
theorem dX6_readDevice_77 : decode cX6_readDevice 77 = .ok (.iload_n 2, 1) := by decide +kernel
theorem dX6_readDevice_78 : decode cX6_readDevice 78 = .ok (.invokevirtual 112, 3) := by decide +kernel
theorem dX6_readDevice_81 : decode cX6_readDevice 81 = .ok (.ifCond .ne 5, 3) := by decide +kernel
theorem dX6_readDevice_84 : decode cX6_readDevice 84 = .ok (.iconst 0, 1) := by decide +kernel
theorem dX6_readDevice_85 : decode cX6_readDevice 85 = .ok (.ireturn, 1) := by decide +kernel
theorem dX6_readDevice_86 : decode cX6_readDevice 86 = .ok (.aload_n 0, 1) := by decide +kernel
theorem dX6_readDevice_87 : decode cX6_readDevice 87 = .ok (.getfield 9, 3) := by decide +kernel
theorem dX6_readDevice_90 : decode cX6_readDevice 90 = .ok (.ldc 40, 2) := by decide +kernel
theorem dX6_readDevice_92 : decode cX6_readDevice 92 = .ok (.invokevirtual 42, 3) := by decide +kernel
theorem dX6_readDevice_95 : decode cX6_readDevice 95 = .ok (.ireturn, 1) := by decide +kernel
theorem dX6_readFreePosition_0 : decode cX6_readFreePosition 0 = .ok (.aload_n 0, 1) := by decide +kernel
theorem dX6_readFreePosition_1 : decode cX6_readFreePosition 1 = .ok (.getfield 9, 3) := by decide +kernel
theorem dX6_readFreePosition_4 : decode cX6_readFreePosition 4 = .ok (.getfield 115, 3) := by decide +kernel
theorem dX6_readFreePosition_7 : decode cX6_readFreePosition 7 = .ok (.istore_n 1, 1) := by decide +kernel
theorem dX6_readFreePosition_8 : decode cX6_readFreePosition 8 = .ok (.aload_n 0, 1) := by decide +kernel
theorem dX6_readFreePosition_9 : decode cX6_readFreePosition 9 = .ok (.getfield 15, 3) := by decide +kernel
theorem dX6_readFreePosition_12 : decode cX6_readFreePosition 12 = .ok (.iload_n 1, 1) := by decide +kernel
theorem dX6_readFreePosition_13 : decode cX6_readFreePosition 13 = .ok (.invokevirtual 118, 3) := by decide +kernel
theorem dX6_readFreePosition_16 : decode cX6_readFreePosition 16 = .ok (.ifCond .eq 15, 3) := by decide +kernel
theorem dX6_readFreePosition_19 : decode cX6_readFreePosition 19 = .ok (.aload_n 0, 1) := by decide +kernel
theorem dX6_readFreePosition_20 : decode cX6_readFreePosition 20 = .ok (.getfield 15, 3) := by decide +kernel
theorem dX6_readFreePosition_23 : decode cX6_readFreePosition 23 = .ok (.getfield 121, 3) := by decide +kernel
theorem dX6_readFreePosition_26 : decode cX6_readFreePosition 26 = .ok (.iload_n 1, 1) := by decide +kernel
theorem dX6_readFreePosition_27 : decode cX6_readFreePosition 27 = .ok (.iaload, 1) := by decide +kernel
theorem dX6_readFreePosition_28 : decode cX6_readFreePosition 28 = .ok (.ifCond .eq 5, 3) := by decide +kernel
theorem dX6_readFreePosition_31 : decode cX6_readFreePosition 31 = .ok (.iconst (-1), 1) := by decide +kernel
theorem dX6_readFreePosition_32 : decode cX6_readFreePosition 32 = .ok (.ireturn, 1) := by decide +kernel
theorem dX6_readFreePosition_33 : decode cX6_readFreePosition 33 = .ok (.aload_n 0, 1) := by decide +kernel
theorem dX6_readFreePosition_34 : decode cX6_readFreePosition 34 = .ok (.getfield 9, 3) := by decide +kernel
theorem dX6_readFreePosition_37 : decode cX6_readFreePosition 37 = .ok (.aload_n 0, 1) := by decide +kernel
theorem dX6_readFreePosition_38 : decode cX6_readFreePosition 38 = .ok (.getfield 9, 3) := by decide +kernel
theorem dX6_readFreePosition_41 : decode cX6_readFreePosition 41 = .ok (.getfield 76, 3) := by decide +kernel
theorem dX6_readFreePosition_44 : decode cX6_readFreePosition 44 = .ok (.invokevirtual 24, 3) := by decide +kernel
theorem dX6_readFreePosition_47 : decode cX6_readFreePosition 47 = .ok (.iload_n 1, 1) := by decide +kernel
theorem dX6_readFreePosition_48 : decode cX6_readFreePosition 48 = .ok (.ireturn, 1) := by decide +kernel
theorem dX6_readDiverter_0 : decode cX6_readDiverter 0 = .ok (.aload_n 0, 1) := by decide +kernel
theorem dX6_readDiverter_1 : decode cX6_readDiverter 1 = .ok (.getfield 9, 3) := by decide +kernel
theorem dX6_readDiverter_4 : decode cX6_readDiverter 4 = .ok (.ldc 124, 2) := by decide +kernel
theorem dX6_readDiverter_6 : decode cX6_readDiverter 6 = .ok (.iconst 1, 1) := by decide +kernel
theorem dX6_readDiverter_7 : decode cX6_readDiverter 7 = .ok (.bipush 20, 2) := by decide +kernel
theorem dX6_readDiverter_9 : decode cX6_readDiverter 9 = .ok (.invokevirtual 32, 3) := by decide +kernel
theorem dX6_readDiverter_12 : decode cX6_readDiverter 12 = .ok (.istore_n 2, 1) := by decide +kernel
theorem dX6_readDiverter_13 : decode cX6_readDiverter 13 = .ok (.iload_n 2, 1) := by decide +kernel
theorem dX6_readDiverter_14 : decode cX6_readDiverter 14 = .ok (.iconst (-1), 1) := by decide +kernel
