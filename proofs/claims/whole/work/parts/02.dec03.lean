theorem dX10_flightState_24 : decode cX10_flightState 24 = .ok (.getfield 35, 3) := by decide +kernel
theorem dX10_flightState_27 : decode cX10_flightState 27 = .ok (.getfield 103, 3) := by decide +kernel
theorem dX10_flightState_30 : decode cX10_flightState 30 = .ok (.getfield 121, 3) := by decide +kernel
theorem dX10_flightState_33 : decode cX10_flightState 33 = .ok (.iload_n 1, 1) := by decide +kernel
theorem dX10_flightState_34 : decode cX10_flightState 34 = .ok (.iaload, 1) := by decide +kernel
theorem dX10_flightState_35 : decode cX10_flightState 35 = .ok (.if_icmp .ge 5, 3) := by decide +kernel
theorem dX10_flightState_38 : decode cX10_flightState 38 = .ok (.iconst 0, 1) := by decide +kernel
theorem dX10_flightState_39 : decode cX10_flightState 39 = .ok (.ireturn, 1) := by decide +kernel
theorem dX10_flightState_40 : decode cX10_flightState 40 = .ok (.aload_n 0, 1) := by decide +kernel
theorem dX10_flightState_41 : decode cX10_flightState 41 = .ok (.getfield 47, 3) := by decide +kernel
theorem dX10_flightState_44 : decode cX10_flightState 44 = .ok (.getfield 118, 3) := by decide +kernel
theorem dX10_flightState_47 : decode cX10_flightState 47 = .ok (.aload_n 0, 1) := by decide +kernel
theorem dX10_flightState_48 : decode cX10_flightState 48 = .ok (.getfield 35, 3) := by decide +kernel
theorem dX10_flightState_51 : decode cX10_flightState 51 = .ok (.getfield 103, 3) := by decide +kernel
theorem dX10_flightState_54 : decode cX10_flightState 54 = .ok (.getfield 124, 3) := by decide +kernel
theorem dX10_flightState_57 : decode cX10_flightState 57 = .ok (.iload_n 1, 1) := by decide +kernel
theorem dX10_flightState_58 : decode cX10_flightState 58 = .ok (.iaload, 1) := by decide +kernel
theorem dX10_flightState_59 : decode cX10_flightState 59 = .ok (.if_icmp .ge 7, 3) := by decide +kernel
theorem dX10_flightState_62 : decode cX10_flightState 62 = .ok (.iconst 1, 1) := by decide +kernel
theorem dX10_flightState_63 : decode cX10_flightState 63 = .ok (.goto 4, 3) := by decide +kernel
theorem dX10_flightState_66 : decode cX10_flightState 66 = .ok (.iconst 2, 1) := by decide +kernel
theorem dX10_flightState_67 : decode cX10_flightState 67 = .ok (.ireturn, 1) := by decide +kernel
theorem dX10_checkIn_0 : decode cX10_checkIn 0 = .ok (.aload_n 0, 1) := by decide +kernel
theorem dX10_checkIn_1 : decode cX10_checkIn 1 = .ok (.getfield 35, 3) := by decide +kernel
theorem dX10_checkIn_4 : decode cX10_checkIn 4 = .ok (.iconst 1, 1) := by decide +kernel
theorem dX10_checkIn_5 : decode cX10_checkIn 5 = .ok (.iload_n 1, 1) := by decide +kernel
theorem dX10_checkIn_6 : decode cX10_checkIn 6 = .ok (.invokevirtual 127, 3) := by decide +kernel
theorem dX10_checkIn_9 : decode cX10_checkIn 9 = .ok (.istore 7, 2) := by decide +kernel
theorem dX10_checkIn_11 : decode cX10_checkIn 11 = .ok (.iload 7, 2) := by decide +kernel
theorem dX10_checkIn_13 : decode cX10_checkIn 13 = .ok (.iconst (-1), 1) := by decide +kernel
theorem dX10_checkIn_14 : decode cX10_checkIn 14 = .ok (.if_icmp .eq 18, 3) := by decide +kernel
theorem dX10_checkIn_17 : decode cX10_checkIn 17 = .ok (.iload_n 2, 1) := by decide +kernel
theorem dX10_checkIn_18 : decode cX10_checkIn 18 = .ok (.invokestatic 131, 3) := by decide +kernel
theorem dX10_checkIn_21 : decode cX10_checkIn 21 = .ok (.ifCond .eq 11, 3) := by decide +kernel
theorem dX10_checkIn_24 : decode cX10_checkIn 24 = .ok (.iload 4, 2) := by decide +kernel
theorem dX10_checkIn_26 : decode cX10_checkIn 26 = .ok (.invokestatic 131, 3) := by decide +kernel
theorem dX10_checkIn_29 : decode cX10_checkIn 29 = .ok (.ifCond .ne 5, 3) := by decide +kernel
theorem dX10_checkIn_32 : decode cX10_checkIn 32 = .ok (.iconst (-1), 1) := by decide +kernel
theorem dX10_checkIn_33 : decode cX10_checkIn 33 = .ok (.ireturn, 1) := by decide +kernel
theorem dX10_checkIn_34 : decode cX10_checkIn 34 = .ok (.iload_n 3, 1) := by decide +kernel
theorem dX10_checkIn_35 : decode cX10_checkIn 35 = .ok (.iconst 0, 1) := by decide +kernel
theorem dX10_checkIn_36 : decode cX10_checkIn 36 = .ok (.bipush 15, 2) := by decide +kernel
theorem dX10_checkIn_38 : decode cX10_checkIn 38 = .ok (.invokestatic 134, 3) := by decide +kernel
theorem dX10_checkIn_41 : decode cX10_checkIn 41 = .ok (.ifCond .eq 24, 3) := by decide +kernel
theorem dX10_checkIn_44 : decode cX10_checkIn 44 = .ok (.iload 5, 2) := by decide +kernel
theorem dX10_checkIn_46 : decode cX10_checkIn 46 = .ok (.iconst 0, 1) := by decide +kernel
theorem dX10_checkIn_47 : decode cX10_checkIn 47 = .ok (.bipush 15, 2) := by decide +kernel
theorem dX10_checkIn_49 : decode cX10_checkIn 49 = .ok (.invokestatic 134, 3) := by decide +kernel
theorem dX10_checkIn_52 : decode cX10_checkIn 52 = .ok (.ifCond .eq 13, 3) := by decide +kernel
theorem dX10_checkIn_55 : decode cX10_checkIn 55 = .ok (.iload 6, 2) := by decide +kernel
theorem dX10_checkIn_57 : decode cX10_checkIn 57 = .ok (.iconst 0, 1) := by decide +kernel
theorem dX10_checkIn_58 : decode cX10_checkIn 58 = .ok (.iconst 3, 1) := by decide +kernel
theorem dX10_checkIn_59 : decode cX10_checkIn 59 = .ok (.invokestatic 134, 3) := by decide +kernel
theorem dX10_checkIn_62 : decode cX10_checkIn 62 = .ok (.ifCond .ne 5, 3) := by decide +kernel
theorem dX10_checkIn_65 : decode cX10_checkIn 65 = .ok (.iconst (-1), 1) := by decide +kernel
theorem dX10_checkIn_66 : decode cX10_checkIn 66 = .ok (.ireturn, 1) := by decide +kernel
theorem dX10_checkIn_67 : decode cX10_checkIn 67 = .ok (.aload_n 0, 1) := by decide +kernel
theorem dX10_checkIn_68 : decode cX10_checkIn 68 = .ok (.getfield 47, 3) := by decide +kernel
theorem dX10_checkIn_71 : decode cX10_checkIn 71 = .ok (.getfield 138, 3) := by decide +kernel
theorem dX10_checkIn_74 : decode cX10_checkIn 74 = .ok (.getfield 142, 3) := by decide +kernel
theorem dX10_checkIn_77 : decode cX10_checkIn 77 = .ok (.bipush 100, 2) := by decide +kernel
theorem dX10_checkIn_79 : decode cX10_checkIn 79 = .ok (.if_icmp .lt 6, 3) := by decide +kernel
theorem dX10_checkIn_82 : decode cX10_checkIn 82 = .ok (.bipush (-2), 2) := by decide +kernel
theorem dX10_checkIn_84 : decode cX10_checkIn 84 = .ok (.ireturn, 1) := by decide +kernel
theorem dX10_checkIn_85 : decode cX10_checkIn 85 = .ok (.aload_n 0, 1) := by decide +kernel
theorem dX10_checkIn_86 : decode cX10_checkIn 86 = .ok (.getfield 57, 3) := by decide +kernel
theorem dX10_checkIn_89 : decode cX10_checkIn 89 = .ok (.aload_n 0, 1) := by decide +kernel
theorem dX10_checkIn_90 : decode cX10_checkIn 90 = .ok (.getfield 47, 3) := by decide +kernel
theorem dX10_checkIn_93 : decode cX10_checkIn 93 = .ok (.invokevirtual 145, 3) := by decide +kernel
theorem dX10_checkIn_96 : decode cX10_checkIn 96 = .ok (.aload_n 0, 1) := by decide +kernel
theorem dX10_checkIn_97 : decode cX10_checkIn 97 = .ok (.getfield 47, 3) := by decide +kernel
theorem dX10_checkIn_100 : decode cX10_checkIn 100 = .ok (.iload 7, 2) := by decide +kernel
theorem dX10_checkIn_102 : decode cX10_checkIn 102 = .ok (.invokevirtual 149, 3) := by decide +kernel
theorem dX10_checkIn_105 : decode cX10_checkIn 105 = .ok (.istore 8, 2) := by decide +kernel
theorem dX10_checkIn_107 : decode cX10_checkIn 107 = .ok (.aload_n 0, 1) := by decide +kernel
theorem dX10_checkIn_108 : decode cX10_checkIn 108 = .ok (.getfield 47, 3) := by decide +kernel
theorem dX10_checkIn_111 : decode cX10_checkIn 111 = .ok (.getfield 138, 3) := by decide +kernel
theorem dX10_checkIn_114 : decode cX10_checkIn 114 = .ok (.iload 8, 2) := by decide +kernel
theorem dX10_checkIn_116 : decode cX10_checkIn 116 = .ok (.iload_n 2, 1) := by decide +kernel
theorem dX10_checkIn_117 : decode cX10_checkIn 117 = .ok (.iload_n 3, 1) := by decide +kernel
theorem dX10_checkIn_118 : decode cX10_checkIn 118 = .ok (.iload 4, 2) := by decide +kernel
theorem dX10_checkIn_120 : decode cX10_checkIn 120 = .ok (.iload 5, 2) := by decide +kernel
theorem dX10_checkIn_122 : decode cX10_checkIn 122 = .ok (.iload 6, 2) := by decide +kernel
theorem dX10_checkIn_124 : decode cX10_checkIn 124 = .ok (.invokevirtual 153, 3) := by decide +kernel
theorem dX10_checkIn_127 : decode cX10_checkIn 127 = .ok (.iload 8, 2) := by decide +kernel
theorem dX10_checkIn_129 : decode cX10_checkIn 129 = .ok (.ireturn, 1) := by decide +kernel
theorem dX10_run_0 : decode cX10_run 0 = .ok (.iload_n 1, 1) := by decide +kernel
theorem dX10_run_1 : decode cX10_run 1 = .ok (.iconst 1, 1) := by decide +kernel
theorem dX10_run_2 : decode cX10_run 2 = .ok (.sipush 300, 3) := by decide +kernel
theorem dX10_run_5 : decode cX10_run 5 = .ok (.invokestatic 134, 3) := by decide +kernel
theorem dX10_run_8 : decode cX10_run 8 = .ok (.ifCond .eq 17, 3) := by decide +kernel
theorem dX10_run_11 : decode cX10_run 11 = .ok (.aload_n 0, 1) := by decide +kernel
theorem dX10_run_12 : decode cX10_run 12 = .ok (.getfield 47, 3) := by decide +kernel
theorem dX10_run_15 : decode cX10_run 15 = .ok (.getfield 118, 3) := by decide +kernel
theorem dX10_run_18 : decode cX10_run 18 = .ok (.iload_n 1, 1) := by decide +kernel
theorem dX10_run_19 : decode cX10_run 19 = .ok (.iadd, 1) := by decide +kernel
theorem dX10_run_20 : decode cX10_run 20 = .ok (.ldc 156, 2) := by decide +kernel
theorem dX10_run_22 : decode cX10_run 22 = .ok (.if_icmp .le 5, 3) := by decide +kernel
theorem dX10_run_25 : decode cX10_run 25 = .ok (.iconst (-1), 1) := by decide +kernel
theorem dX10_run_26 : decode cX10_run 26 = .ok (.ireturn, 1) := by decide +kernel
theorem dX10_run_27 : decode cX10_run 27 = .ok (.aload_n 0, 1) := by decide +kernel
theorem dX10_run_28 : decode cX10_run 28 = .ok (.getfield 57, 3) := by decide +kernel
theorem dX10_run_31 : decode cX10_run 31 = .ok (.aload_n 0, 1) := by decide +kernel
theorem dX10_run_32 : decode cX10_run 32 = .ok (.getfield 47, 3) := by decide +kernel
theorem dX10_run_35 : decode cX10_run 35 = .ok (.invokevirtual 145, 3) := by decide +kernel
theorem dX10_run_38 : decode cX10_run 38 = .ok (.aload_n 0, 1) := by decide +kernel
theorem dX10_run_39 : decode cX10_run 39 = .ok (.getfield 47, 3) := by decide +kernel
theorem dX10_run_42 : decode cX10_run 42 = .ok (.iload_n 1, 1) := by decide +kernel
theorem dX10_run_43 : decode cX10_run 43 = .ok (.invokevirtual 157, 3) := by decide +kernel
theorem dX10_run_46 : decode cX10_run 46 = .ok (.ireturn, 1) := by decide +kernel
theorem dX10_slip_0 : decode cX10_slip 0 = .ok (.aload_n 0, 1) := by decide +kernel
theorem dX10_slip_1 : decode cX10_slip 1 = .ok (.getfield 35, 3) := by decide +kernel
theorem dX10_slip_4 : decode cX10_slip 4 = .ok (.iload_n 1, 1) := by decide +kernel
theorem dX10_slip_5 : decode cX10_slip 5 = .ok (.invokevirtual 92, 3) := by decide +kernel
theorem dX10_slip_8 : decode cX10_slip 8 = .ok (.ifCond .ne 5, 3) := by decide +kernel
theorem dX10_slip_11 : decode cX10_slip 11 = .ok (.iconst 0, 1) := by decide +kernel
theorem dX10_slip_12 : decode cX10_slip 12 = .ok (.ireturn, 1) := by decide +kernel
theorem dX10_slip_13 : decode cX10_slip 13 = .ok (.aload_n 0, 1) := by decide +kernel
theorem dX10_slip_14 : decode cX10_slip 14 = .ok (.getfield 47, 3) := by decide +kernel
theorem dX10_slip_17 : decode cX10_slip 17 = .ok (.iload_n 1, 1) := by decide +kernel
theorem dX10_slip_18 : decode cX10_slip 18 = .ok (.invokevirtual 160, 3) := by decide +kernel
theorem dX10_slip_21 : decode cX10_slip 21 = .ok (.istore_n 2, 1) := by decide +kernel
theorem dX10_slip_22 : decode cX10_slip 22 = .ok (.aload_n 0, 1) := by decide +kernel
theorem dX10_slip_23 : decode cX10_slip 23 = .ok (.getfield 47, 3) := by decide +kernel
theorem dX10_slip_26 : decode cX10_slip 26 = .ok (.iload_n 2, 1) := by decide +kernel
theorem dX10_slip_27 : decode cX10_slip 27 = .ok (.iconst 1, 1) := by decide +kernel
theorem dX10_slip_28 : decode cX10_slip 28 = .ok (.isub, 1) := by decide +kernel
theorem dX10_slip_29 : decode cX10_slip 29 = .ok (.invokevirtual 163, 3) := by decide +kernel
theorem dX10_slip_32 : decode cX10_slip 32 = .ok (.istore_n 3, 1) := by decide +kernel
theorem dX10_slip_33 : decode cX10_slip 33 = .ok (.aload_n 0, 1) := by decide +kernel
theorem dX10_slip_34 : decode cX10_slip 34 = .ok (.getfield 47, 3) := by decide +kernel
theorem dX10_slip_37 : decode cX10_slip 37 = .ok (.getfield 166, 3) := by decide +kernel
theorem dX10_slip_40 : decode cX10_slip 40 = .ok (.iload_n 2, 1) := by decide +kernel
theorem dX10_slip_41 : decode cX10_slip 41 = .ok (.iaload, 1) := by decide +kernel
theorem dX10_slip_42 : decode cX10_slip 42 = .ok (.istore 4, 2) := by decide +kernel
theorem dX10_slip_44 : decode cX10_slip 44 = .ok (.iload 4, 2) := by decide +kernel
theorem dX10_slip_46 : decode cX10_slip 46 = .ok (.ifCond .lt 15, 3) := by decide +kernel
theorem dX10_slip_49 : decode cX10_slip 49 = .ok (.aload_n 0, 1) := by decide +kernel
theorem dX10_slip_50 : decode cX10_slip 50 = .ok (.getfield 47, 3) := by decide +kernel
theorem dX10_slip_53 : decode cX10_slip 53 = .ok (.getfield 166, 3) := by decide +kernel
theorem dX10_slip_56 : decode cX10_slip 56 = .ok (.iload_n 3, 1) := by decide +kernel
theorem dX10_slip_57 : decode cX10_slip 57 = .ok (.iaload, 1) := by decide +kernel
theorem dX10_slip_58 : decode cX10_slip 58 = .ok (.ifCond .lt 5, 3) := by decide +kernel
theorem dX10_slip_61 : decode cX10_slip 61 = .ok (.iconst 0, 1) := by decide +kernel
theorem dX10_slip_62 : decode cX10_slip 62 = .ok (.ireturn, 1) := by decide +kernel
theorem dX10_slip_63 : decode cX10_slip 63 = .ok (.aload_n 0, 1) := by decide +kernel
theorem dX10_slip_64 : decode cX10_slip 64 = .ok (.getfield 57, 3) := by decide +kernel
theorem dX10_slip_67 : decode cX10_slip 67 = .ok (.aload_n 0, 1) := by decide +kernel
theorem dX10_slip_68 : decode cX10_slip 68 = .ok (.getfield 47, 3) := by decide +kernel
theorem dX10_slip_71 : decode cX10_slip 71 = .ok (.invokevirtual 145, 3) := by decide +kernel
theorem dX10_slip_74 : decode cX10_slip 74 = .ok (.aload_n 0, 1) := by decide +kernel
theorem dX10_slip_75 : decode cX10_slip 75 = .ok (.getfield 47, 3) := by decide +kernel
theorem dX10_slip_78 : decode cX10_slip 78 = .ok (.getfield 166, 3) := by decide +kernel
theorem dX10_slip_81 : decode cX10_slip 81 = .ok (.iload_n 2, 1) := by decide +kernel
theorem dX10_slip_82 : decode cX10_slip 82 = .ok (.iconst (-1), 1) := by decide +kernel
theorem dX10_slip_83 : decode cX10_slip 83 = .ok (.iastore, 1) := by decide +kernel
theorem dX10_slip_84 : decode cX10_slip 84 = .ok (.aload_n 0, 1) := by decide +kernel
theorem dX10_slip_85 : decode cX10_slip 85 = .ok (.getfield 47, 3) := by decide +kernel
theorem dX10_slip_88 : decode cX10_slip 88 = .ok (.getfield 166, 3) := by decide +kernel
theorem dX10_slip_91 : decode cX10_slip 91 = .ok (.iload_n 3, 1) := by decide +kernel
theorem dX10_slip_92 : decode cX10_slip 92 = .ok (.iload 4, 2) := by decide +kernel
theorem dX10_slip_94 : decode cX10_slip 94 = .ok (.iastore, 1) := by decide +kernel
theorem dX10_slip_95 : decode cX10_slip 95 = .ok (.aload_n 0, 1) := by decide +kernel
theorem dX10_slip_96 : decode cX10_slip 96 = .ok (.getfield 47, 3) := by decide +kernel
theorem dX10_slip_99 : decode cX10_slip 99 = .ok (.getfield 138, 3) := by decide +kernel
theorem dX10_slip_102 : decode cX10_slip 102 = .ok (.iload 4, 2) := by decide +kernel
theorem dX10_slip_104 : decode cX10_slip 104 = .ok (.iconst 1, 1) := by decide +kernel
theorem dX10_slip_105 : decode cX10_slip 105 = .ok (.iload_n 3, 1) := by decide +kernel
theorem dX10_slip_106 : decode cX10_slip 106 = .ok (.invokevirtual 169, 3) := by decide +kernel
theorem dX10_slip_109 : decode cX10_slip 109 = .ok (.iconst 1, 1) := by decide +kernel
theorem dX10_slip_110 : decode cX10_slip 110 = .ok (.ireturn, 1) := by decide +kernel
theorem dX10_takeOff_0 : decode cX10_takeOff 0 = .ok (.aload_n 0, 1) := by decide +kernel
theorem dX10_takeOff_1 : decode cX10_takeOff 1 = .ok (.getfield 35, 3) := by decide +kernel
theorem dX10_takeOff_4 : decode cX10_takeOff 4 = .ok (.iload_n 1, 1) := by decide +kernel
theorem dX10_takeOff_5 : decode cX10_takeOff 5 = .ok (.invokevirtual 92, 3) := by decide +kernel
theorem dX10_takeOff_8 : decode cX10_takeOff 8 = .ok (.ifCond .ne 5, 3) := by decide +kernel
theorem dX10_takeOff_11 : decode cX10_takeOff 11 = .ok (.iconst (-1), 1) := by decide +kernel
theorem dX10_takeOff_12 : decode cX10_takeOff 12 = .ok (.ireturn, 1) := by decide +kernel
theorem dX10_takeOff_13 : decode cX10_takeOff 13 = .ok (.aload_n 0, 1) := by decide +kernel
theorem dX10_takeOff_14 : decode cX10_takeOff 14 = .ok (.getfield 47, 3) := by decide +kernel
theorem dX10_takeOff_17 : decode cX10_takeOff 17 = .ok (.iload_n 1, 1) := by decide +kernel
theorem dX10_takeOff_18 : decode cX10_takeOff 18 = .ok (.invokevirtual 160, 3) := by decide +kernel
theorem dX10_takeOff_21 : decode cX10_takeOff 21 = .ok (.istore_n 2, 1) := by decide +kernel
theorem dX10_takeOff_22 : decode cX10_takeOff 22 = .ok (.aload_n 0, 1) := by decide +kernel
theorem dX10_takeOff_23 : decode cX10_takeOff 23 = .ok (.getfield 47, 3) := by decide +kernel
theorem dX10_takeOff_26 : decode cX10_takeOff 26 = .ok (.getfield 166, 3) := by decide +kernel
theorem dX10_takeOff_29 : decode cX10_takeOff 29 = .ok (.iload_n 2, 1) := by decide +kernel
theorem dX10_takeOff_30 : decode cX10_takeOff 30 = .ok (.iaload, 1) := by decide +kernel
theorem dX10_takeOff_31 : decode cX10_takeOff 31 = .ok (.istore_n 3, 1) := by decide +kernel
theorem dX10_takeOff_32 : decode cX10_takeOff 32 = .ok (.iload_n 3, 1) := by decide +kernel
theorem dX10_takeOff_33 : decode cX10_takeOff 33 = .ok (.ifCond .ge 6, 3) := by decide +kernel
theorem dX10_takeOff_36 : decode cX10_takeOff 36 = .ok (.bipush (-2), 2) := by decide +kernel
theorem dX10_takeOff_38 : decode cX10_takeOff 38 = .ok (.ireturn, 1) := by decide +kernel
theorem dX10_takeOff_39 : decode cX10_takeOff 39 = .ok (.aload_n 0, 1) := by decide +kernel
theorem dX10_takeOff_40 : decode cX10_takeOff 40 = .ok (.getfield 57, 3) := by decide +kernel
theorem dX10_takeOff_43 : decode cX10_takeOff 43 = .ok (.aload_n 0, 1) := by decide +kernel
theorem dX10_takeOff_44 : decode cX10_takeOff 44 = .ok (.getfield 47, 3) := by decide +kernel
theorem dX10_takeOff_47 : decode cX10_takeOff 47 = .ok (.invokevirtual 145, 3) := by decide +kernel
theorem dX10_takeOff_50 : decode cX10_takeOff 50 = .ok (.aload_n 0, 1) := by decide +kernel
theorem dX10_takeOff_51 : decode cX10_takeOff 51 = .ok (.getfield 47, 3) := by decide +kernel
theorem dX10_takeOff_54 : decode cX10_takeOff 54 = .ok (.getfield 166, 3) := by decide +kernel
theorem dX10_takeOff_57 : decode cX10_takeOff 57 = .ok (.iload_n 2, 1) := by decide +kernel
theorem dX10_takeOff_58 : decode cX10_takeOff 58 = .ok (.iconst (-1), 1) := by decide +kernel
theorem dX10_takeOff_59 : decode cX10_takeOff 59 = .ok (.iastore, 1) := by decide +kernel
theorem dX10_takeOff_60 : decode cX10_takeOff 60 = .ok (.aload_n 0, 1) := by decide +kernel
theorem dX10_takeOff_61 : decode cX10_takeOff 61 = .ok (.getfield 47, 3) := by decide +kernel
theorem dX10_takeOff_64 : decode cX10_takeOff 64 = .ok (.iload_n 3, 1) := by decide +kernel
theorem dX10_takeOff_65 : decode cX10_takeOff 65 = .ok (.invokevirtual 173, 3) := by decide +kernel
theorem dX10_takeOff_68 : decode cX10_takeOff 68 = .ok (.iload_n 3, 1) := by decide +kernel
theorem dX10_takeOff_69 : decode cX10_takeOff 69 = .ok (.ireturn, 1) := by decide +kernel
theorem dX10_setHead_0 : decode cX10_setHead 0 = .ok (.iload_n 1, 1) := by decide +kernel
theorem dX10_setHead_1 : decode cX10_setHead 1 = .ok (.iconst 0, 1) := by decide +kernel
theorem dX10_setHead_2 : decode cX10_setHead 2 = .ok (.iconst 3, 1) := by decide +kernel
theorem dX10_setHead_3 : decode cX10_setHead 3 = .ok (.invokestatic 134, 3) := by decide +kernel
theorem dX10_setHead_6 : decode cX10_setHead 6 = .ok (.ifCond .ne 5, 3) := by decide +kernel
theorem dX10_setHead_9 : decode cX10_setHead 9 = .ok (.iconst 0, 1) := by decide +kernel
theorem dX10_setHead_10 : decode cX10_setHead 10 = .ok (.ireturn, 1) := by decide +kernel
theorem dX10_setHead_11 : decode cX10_setHead 11 = .ok (.iconst 1, 1) := by decide +kernel
theorem dX10_setHead_12 : decode cX10_setHead 12 = .ok (.iload_n 1, 1) := by decide +kernel
theorem dX10_setHead_13 : decode cX10_setHead 13 = .ok (.ishl, 1) := by decide +kernel
theorem dX10_setHead_14 : decode cX10_setHead 14 = .ok (.istore_n 3, 1) := by decide +kernel
theorem dX10_setHead_15 : decode cX10_setHead 15 = .ok (.aload_n 0, 1) := by decide +kernel
theorem dX10_setHead_16 : decode cX10_setHead 16 = .ok (.getfield 47, 3) := by decide +kernel
theorem dX10_setHead_19 : decode cX10_setHead 19 = .ok (.getfield 176, 3) := by decide +kernel
theorem dX10_setHead_22 : decode cX10_setHead 22 = .ok (.iload_n 3, 1) := by decide +kernel
theorem dX10_setHead_23 : decode cX10_setHead 23 = .ok (.iand, 1) := by decide +kernel
theorem dX10_setHead_24 : decode cX10_setHead 24 = .ok (.ifCond .eq 7, 3) := by decide +kernel
theorem dX10_setHead_27 : decode cX10_setHead 27 = .ok (.iconst 1, 1) := by decide +kernel
theorem dX10_setHead_28 : decode cX10_setHead 28 = .ok (.goto 4, 3) := by decide +kernel
theorem dX10_setHead_31 : decode cX10_setHead 31 = .ok (.iconst 0, 1) := by decide +kernel
theorem dX10_setHead_32 : decode cX10_setHead 32 = .ok (.istore 4, 2) := by decide +kernel
theorem dX10_setHead_34 : decode cX10_setHead 34 = .ok (.iload 4, 2) := by decide +kernel
theorem dX10_setHead_36 : decode cX10_setHead 36 = .ok (.iload_n 2, 1) := by decide +kernel
theorem dX10_setHead_37 : decode cX10_setHead 37 = .ok (.if_icmp .ne 5, 3) := by decide +kernel
theorem dX10_setHead_40 : decode cX10_setHead 40 = .ok (.iconst 0, 1) := by decide +kernel
theorem dX10_setHead_41 : decode cX10_setHead 41 = .ok (.ireturn, 1) := by decide +kernel
theorem dX10_setHead_42 : decode cX10_setHead 42 = .ok (.aload_n 0, 1) := by decide +kernel
theorem dX10_setHead_43 : decode cX10_setHead 43 = .ok (.getfield 57, 3) := by decide +kernel
theorem dX10_setHead_46 : decode cX10_setHead 46 = .ok (.aload_n 0, 1) := by decide +kernel
theorem dX10_setHead_47 : decode cX10_setHead 47 = .ok (.getfield 47, 3) := by decide +kernel
theorem dX10_setHead_50 : decode cX10_setHead 50 = .ok (.invokevirtual 145, 3) := by decide +kernel
theorem dX10_setHead_53 : decode cX10_setHead 53 = .ok (.aload_n 0, 1) := by decide +kernel
theorem dX10_setHead_54 : decode cX10_setHead 54 = .ok (.getfield 47, 3) := by decide +kernel
theorem dX10_setHead_57 : decode cX10_setHead 57 = .ok (.dup, 1) := by decide +kernel
theorem dX10_setHead_58 : decode cX10_setHead 58 = .ok (.getfield 176, 3) := by decide +kernel
theorem dX10_setHead_61 : decode cX10_setHead 61 = .ok (.iload_n 3, 1) := by decide +kernel
theorem dX10_setHead_62 : decode cX10_setHead 62 = .ok (.ixor, 1) := by decide +kernel
theorem dX10_setHead_63 : decode cX10_setHead 63 = .ok (.putfield 176, 3) := by decide +kernel
theorem dX10_setHead_66 : decode cX10_setHead 66 = .ok (.iconst 1, 1) := by decide +kernel
theorem dX10_setHead_67 : decode cX10_setHead 67 = .ok (.ireturn, 1) := by decide +kernel
theorem dX10_loadChute_0 : decode cX10_loadChute 0 = .ok (.aload_n 0, 1) := by decide +kernel
theorem dX10_loadChute_1 : decode cX10_loadChute 1 = .ok (.getfield 35, 3) := by decide +kernel
theorem dX10_loadChute_4 : decode cX10_loadChute 4 = .ok (.iconst 3, 1) := by decide +kernel
theorem dX10_loadChute_5 : decode cX10_loadChute 5 = .ok (.iload_n 1, 1) := by decide +kernel
theorem dX10_loadChute_6 : decode cX10_loadChute 6 = .ok (.invokevirtual 127, 3) := by decide +kernel
theorem dX10_loadChute_9 : decode cX10_loadChute 9 = .ok (.istore_n 2, 1) := by decide +kernel
theorem dX10_loadChute_10 : decode cX10_loadChute 10 = .ok (.iload_n 2, 1) := by decide +kernel
theorem dX10_loadChute_11 : decode cX10_loadChute 11 = .ok (.iconst (-1), 1) := by decide +kernel
theorem dX10_loadChute_12 : decode cX10_loadChute 12 = .ok (.if_icmp .ne 5, 3) := by decide +kernel
theorem dX10_loadChute_15 : decode cX10_loadChute 15 = .ok (.iconst (-1), 1) := by decide +kernel
theorem dX10_loadChute_16 : decode cX10_loadChute 16 = .ok (.ireturn, 1) := by decide +kernel
theorem dX10_loadChute_17 : decode cX10_loadChute 17 = .ok (.aload_n 0, 1) := by decide +kernel
theorem dX10_loadChute_18 : decode cX10_loadChute 18 = .ok (.getfield 47, 3) := by decide +kernel
theorem dX10_loadChute_21 : decode cX10_loadChute 21 = .ok (.getfield 179, 3) := by decide +kernel
theorem dX10_loadChute_24 : decode cX10_loadChute 24 = .ok (.getfield 183, 3) := by decide +kernel
theorem dX10_loadChute_27 : decode cX10_loadChute 27 = .ok (.iload_n 2, 1) := by decide +kernel
theorem dX10_loadChute_28 : decode cX10_loadChute 28 = .ok (.iaload, 1) := by decide +kernel
theorem dX10_loadChute_29 : decode cX10_loadChute 29 = .ok (.istore_n 3, 1) := by decide +kernel
theorem dX10_loadChute_30 : decode cX10_loadChute 30 = .ok (.iload_n 3, 1) := by decide +kernel
theorem dX10_loadChute_31 : decode cX10_loadChute 31 = .ok (.ifCond .ne 6, 3) := by decide +kernel
theorem dX10_loadChute_34 : decode cX10_loadChute 34 = .ok (.bipush (-2), 2) := by decide +kernel
theorem dX10_loadChute_36 : decode cX10_loadChute 36 = .ok (.ireturn, 1) := by decide +kernel
theorem dX10_loadChute_37 : decode cX10_loadChute 37 = .ok (.aload_n 0, 1) := by decide +kernel
theorem dX10_loadChute_38 : decode cX10_loadChute 38 = .ok (.getfield 57, 3) := by decide +kernel
theorem dX10_loadChute_41 : decode cX10_loadChute 41 = .ok (.aload_n 0, 1) := by decide +kernel
theorem dX10_loadChute_42 : decode cX10_loadChute 42 = .ok (.getfield 47, 3) := by decide +kernel
theorem dX10_loadChute_45 : decode cX10_loadChute 45 = .ok (.invokevirtual 145, 3) := by decide +kernel
theorem dX10_loadChute_48 : decode cX10_loadChute 48 = .ok (.iconst 0, 1) := by decide +kernel
theorem dX10_loadChute_49 : decode cX10_loadChute 49 = .ok (.istore 4, 2) := by decide +kernel
theorem dX10_loadChute_51 : decode cX10_loadChute 51 = .ok (.iload 4, 2) := by decide +kernel
theorem dX10_loadChute_53 : decode cX10_loadChute 53 = .ok (.iload_n 3, 1) := by decide +kernel
theorem dX10_loadChute_54 : decode cX10_loadChute 54 = .ok (.if_icmp .ge 41, 3) := by decide +kernel
theorem dX10_loadChute_57 : decode cX10_loadChute 57 = .ok (.aload_n 0, 1) := by decide +kernel
theorem dX10_loadChute_58 : decode cX10_loadChute 58 = .ok (.getfield 47, 3) := by decide +kernel
theorem dX10_loadChute_61 : decode cX10_loadChute 61 = .ok (.getfield 179, 3) := by decide +kernel
theorem dX10_loadChute_64 : decode cX10_loadChute 64 = .ok (.iload_n 2, 1) := by decide +kernel
theorem dX10_loadChute_65 : decode cX10_loadChute 65 = .ok (.invokevirtual 188, 3) := by decide +kernel
theorem dX10_loadChute_68 : decode cX10_loadChute 68 = .ok (.istore 5, 2) := by decide +kernel
theorem dX10_loadChute_70 : decode cX10_loadChute 70 = .ok (.iload 5, 2) := by decide +kernel
theorem dX10_loadChute_72 : decode cX10_loadChute 72 = .ok (.ifCond .lt 17, 3) := by decide +kernel
theorem dX10_loadChute_75 : decode cX10_loadChute 75 = .ok (.aload_n 0, 1) := by decide +kernel
theorem dX10_loadChute_76 : decode cX10_loadChute 76 = .ok (.getfield 47, 3) := by decide +kernel
theorem dX10_loadChute_79 : decode cX10_loadChute 79 = .ok (.getfield 138, 3) := by decide +kernel
theorem dX10_loadChute_82 : decode cX10_loadChute 82 = .ok (.iload 5, 2) := by decide +kernel
theorem dX10_loadChute_84 : decode cX10_loadChute 84 = .ok (.iconst 3, 1) := by decide +kernel
theorem dX10_loadChute_85 : decode cX10_loadChute 85 = .ok (.iload_n 1, 1) := by decide +kernel
theorem dX10_loadChute_86 : decode cX10_loadChute 86 = .ok (.invokevirtual 169, 3) := by decide +kernel
theorem dX10_loadChute_89 : decode cX10_loadChute 89 = .ok (.iinc 4 1, 3) := by decide +kernel
theorem dX10_loadChute_92 : decode cX10_loadChute 92 = .ok (.goto (-41), 3) := by decide +kernel
theorem dX10_loadChute_95 : decode cX10_loadChute 95 = .ok (.iload_n 3, 1) := by decide +kernel
theorem dX10_loadChute_96 : decode cX10_loadChute 96 = .ok (.ireturn, 1) := by decide +kernel
theorem dX10_undo_0 : decode cX10_undo 0 = .ok (.aload_n 0, 1) := by decide +kernel
theorem dX10_undo_1 : decode cX10_undo 1 = .ok (.getfield 57, 3) := by decide +kernel
theorem dX10_undo_4 : decode cX10_undo 4 = .ok (.getfield 191, 3) := by decide +kernel
theorem dX10_undo_7 : decode cX10_undo 7 = .ok (.ifCond .ne 5, 3) := by decide +kernel
theorem dX10_undo_10 : decode cX10_undo 10 = .ok (.iconst (-1), 1) := by decide +kernel
theorem dX10_undo_11 : decode cX10_undo 11 = .ok (.ireturn, 1) := by decide +kernel
theorem dX10_undo_12 : decode cX10_undo 12 = .ok (.aload_n 0, 1) := by decide +kernel
theorem dX10_undo_13 : decode cX10_undo 13 = .ok (.getfield 57, 3) := by decide +kernel
theorem dX10_undo_16 : decode cX10_undo 16 = .ok (.aload_n 0, 1) := by decide +kernel
theorem dX10_undo_17 : decode cX10_undo 17 = .ok (.getfield 47, 3) := by decide +kernel
theorem dX10_undo_20 : decode cX10_undo 20 = .ok (.invokevirtual 192, 3) := by decide +kernel
theorem dX10_undo_23 : decode cX10_undo 23 = .ok (.aload_n 0, 1) := by decide +kernel
theorem dX10_undo_24 : decode cX10_undo 24 = .ok (.getfield 57, 3) := by decide +kernel
theorem dX10_undo_27 : decode cX10_undo 27 = .ok (.getfield 191, 3) := by decide +kernel
theorem dX10_undo_30 : decode cX10_undo 30 = .ok (.ireturn, 1) := by decide +kernel
theorem dX10_tick_0 : decode cX10_tick 0 = .ok (.aload_n 0, 1) := by decide +kernel
theorem dX10_tick_1 : decode cX10_tick 1 = .ok (.getfield 47, 3) := by decide +kernel
theorem dX10_tick_4 : decode cX10_tick 4 = .ok (.getfield 118, 3) := by decide +kernel
theorem dX10_tick_7 : decode cX10_tick 7 = .ok (.ireturn, 1) := by decide +kernel
theorem dX10_bagAt_0 : decode cX10_bagAt 0 = .ok (.aload_n 0, 1) := by decide +kernel
theorem dX10_bagAt_1 : decode cX10_bagAt 1 = .ok (.getfield 35, 3) := by decide +kernel
theorem dX10_bagAt_4 : decode cX10_bagAt 4 = .ok (.iload_n 1, 1) := by decide +kernel
theorem dX10_bagAt_5 : decode cX10_bagAt 5 = .ok (.invokevirtual 92, 3) := by decide +kernel
theorem dX10_bagAt_8 : decode cX10_bagAt 8 = .ok (.ifCond .ne 5, 3) := by decide +kernel
theorem dX10_bagAt_11 : decode cX10_bagAt 11 = .ok (.iconst (-1), 1) := by decide +kernel
theorem dX10_bagAt_12 : decode cX10_bagAt 12 = .ok (.ireturn, 1) := by decide +kernel
theorem dX10_bagAt_13 : decode cX10_bagAt 13 = .ok (.aload_n 0, 1) := by decide +kernel
theorem dX10_bagAt_14 : decode cX10_bagAt 14 = .ok (.getfield 47, 3) := by decide +kernel
theorem dX10_bagAt_17 : decode cX10_bagAt 17 = .ok (.getfield 166, 3) := by decide +kernel
theorem dX10_bagAt_20 : decode cX10_bagAt 20 = .ok (.aload_n 0, 1) := by decide +kernel
theorem dX10_bagAt_21 : decode cX10_bagAt 21 = .ok (.getfield 47, 3) := by decide +kernel
theorem dX10_bagAt_24 : decode cX10_bagAt 24 = .ok (.iload_n 1, 1) := by decide +kernel
theorem dX10_bagAt_25 : decode cX10_bagAt 25 = .ok (.invokevirtual 160, 3) := by decide +kernel
theorem dX10_bagAt_28 : decode cX10_bagAt 28 = .ok (.iaload, 1) := by decide +kernel
theorem dX10_bagAt_29 : decode cX10_bagAt 29 = .ok (.istore_n 2, 1) := by decide +kernel
theorem dX10_bagAt_30 : decode cX10_bagAt 30 = .ok (.iload_n 2, 1) := by decide +kernel
theorem dX10_bagAt_31 : decode cX10_bagAt 31 = .ok (.ifCond .ge 8, 3) := by decide +kernel
theorem dX10_bagAt_34 : decode cX10_bagAt 34 = .ok (.bipush (-2), 2) := by decide +kernel
theorem dX10_bagAt_36 : decode cX10_bagAt 36 = .ok (.goto 4, 3) := by decide +kernel
theorem dX10_bagAt_39 : decode cX10_bagAt 39 = .ok (.iload_n 2, 1) := by decide +kernel
theorem dX10_bagAt_40 : decode cX10_bagAt 40 = .ok (.ireturn, 1) := by decide +kernel
theorem dX10_recordLabel_0 : decode cX10_recordLabel 0 = .ok (.aload_n 0, 1) := by decide +kernel
theorem dX10_recordLabel_1 : decode cX10_recordLabel 1 = .ok (.getfield 35, 3) := by decide +kernel
theorem dX10_recordLabel_4 : decode cX10_recordLabel 4 = .ok (.iload_n 1, 1) := by decide +kernel
theorem dX10_recordLabel_5 : decode cX10_recordLabel 5 = .ok (.invokevirtual 92, 3) := by decide +kernel
theorem dX10_recordLabel_8 : decode cX10_recordLabel 8 = .ok (.ifCond .ne 5, 3) := by decide +kernel
theorem dX10_recordLabel_11 : decode cX10_recordLabel 11 = .ok (.iconst (-1), 1) := by decide +kernel
theorem dX10_recordLabel_12 : decode cX10_recordLabel 12 = .ok (.ireturn, 1) := by decide +kernel
theorem dX10_recordLabel_13 : decode cX10_recordLabel 13 = .ok (.aload_n 0, 1) := by decide +kernel
theorem dX10_recordLabel_14 : decode cX10_recordLabel 14 = .ok (.getfield 47, 3) := by decide +kernel
theorem dX10_recordLabel_17 : decode cX10_recordLabel 17 = .ok (.getfield 195, 3) := by decide +kernel
theorem dX10_recordLabel_20 : decode cX10_recordLabel 20 = .ok (.getfield 199, 3) := by decide +kernel
theorem dX10_recordLabel_23 : decode cX10_recordLabel 23 = .ok (.aload_n 0, 1) := by decide +kernel
theorem dX10_recordLabel_24 : decode cX10_recordLabel 24 = .ok (.getfield 47, 3) := by decide +kernel
theorem dX10_recordLabel_27 : decode cX10_recordLabel 27 = .ok (.iload_n 1, 1) := by decide +kernel
theorem dX10_recordLabel_28 : decode cX10_recordLabel 28 = .ok (.invokevirtual 160, 3) := by decide +kernel
theorem dX10_recordLabel_31 : decode cX10_recordLabel 31 = .ok (.iaload, 1) := by decide +kernel
theorem dX10_recordLabel_32 : decode cX10_recordLabel 32 = .ok (.istore_n 2, 1) := by decide +kernel
theorem dX10_recordLabel_33 : decode cX10_recordLabel 33 = .ok (.iload_n 2, 1) := by decide +kernel
theorem dX10_recordLabel_34 : decode cX10_recordLabel 34 = .ok (.bipush (-2), 2) := by decide +kernel
theorem dX10_recordLabel_36 : decode cX10_recordLabel 36 = .ok (.if_icmp .ne 6, 3) := by decide +kernel
theorem dX10_recordLabel_39 : decode cX10_recordLabel 39 = .ok (.bipush (-2), 2) := by decide +kernel
theorem dX10_recordLabel_41 : decode cX10_recordLabel 41 = .ok (.ireturn, 1) := by decide +kernel
theorem dX10_recordLabel_42 : decode cX10_recordLabel 42 = .ok (.iload_n 2, 1) := by decide +kernel
theorem dX10_recordLabel_43 : decode cX10_recordLabel 43 = .ok (.iconst (-1), 1) := by decide +kernel
theorem dX10_recordLabel_44 : decode cX10_recordLabel 44 = .ok (.if_icmp .ne 7, 3) := by decide +kernel
theorem dX10_recordLabel_47 : decode cX10_recordLabel 47 = .ok (.iconst 1, 1) := by decide +kernel
theorem dX10_recordLabel_48 : decode cX10_recordLabel 48 = .ok (.goto 4, 3) := by decide +kernel
theorem dX10_recordLabel_51 : decode cX10_recordLabel 51 = .ok (.iload_n 2, 1) := by decide +kernel
theorem dX10_recordLabel_52 : decode cX10_recordLabel 52 = .ok (.ireturn, 1) := by decide +kernel
theorem dX10_isCleared_0 : decode cX10_isCleared 0 = .ok (.aload_n 0, 1) := by decide +kernel
theorem dX10_isCleared_1 : decode cX10_isCleared 1 = .ok (.getfield 35, 3) := by decide +kernel
theorem dX10_isCleared_4 : decode cX10_isCleared 4 = .ok (.iload_n 1, 1) := by decide +kernel
theorem dX10_isCleared_5 : decode cX10_isCleared 5 = .ok (.invokevirtual 92, 3) := by decide +kernel
theorem dX10_isCleared_8 : decode cX10_isCleared 8 = .ok (.ifCond .ne 5, 3) := by decide +kernel
theorem dX10_isCleared_11 : decode cX10_isCleared 11 = .ok (.iconst 0, 1) := by decide +kernel
theorem dX10_isCleared_12 : decode cX10_isCleared 12 = .ok (.ireturn, 1) := by decide +kernel
theorem dX10_isCleared_13 : decode cX10_isCleared 13 = .ok (.aload_n 0, 1) := by decide +kernel
theorem dX10_isCleared_14 : decode cX10_isCleared 14 = .ok (.getfield 47, 3) := by decide +kernel
theorem dX10_isCleared_17 : decode cX10_isCleared 17 = .ok (.iload_n 1, 1) := by decide +kernel
theorem dX10_isCleared_18 : decode cX10_isCleared 18 = .ok (.invokevirtual 160, 3) := by decide +kernel
theorem dX10_isCleared_21 : decode cX10_isCleared 21 = .ok (.istore_n 2, 1) := by decide +kernel
theorem dX10_isCleared_22 : decode cX10_isCleared 22 = .ok (.aload_n 0, 1) := by decide +kernel
theorem dX10_isCleared_23 : decode cX10_isCleared 23 = .ok (.getfield 47, 3) := by decide +kernel
theorem dX10_isCleared_26 : decode cX10_isCleared 26 = .ok (.getfield 195, 3) := by decide +kernel
theorem dX10_isCleared_29 : decode cX10_isCleared 29 = .ok (.iload_n 2, 1) := by decide +kernel
theorem dX10_isCleared_30 : decode cX10_isCleared 30 = .ok (.invokevirtual 204, 3) := by decide +kernel
theorem dX10_isCleared_33 : decode cX10_isCleared 33 = .ok (.ifCond .eq 22, 3) := by decide +kernel
theorem dX10_isCleared_36 : decode cX10_isCleared 36 = .ok (.aload_n 0, 1) := by decide +kernel
theorem dX10_isCleared_37 : decode cX10_isCleared 37 = .ok (.getfield 47, 3) := by decide +kernel
theorem dX10_isCleared_40 : decode cX10_isCleared 40 = .ok (.getfield 195, 3) := by decide +kernel
theorem dX10_isCleared_43 : decode cX10_isCleared 43 = .ok (.getfield 205, 3) := by decide +kernel
theorem dX10_isCleared_46 : decode cX10_isCleared 46 = .ok (.iload_n 2, 1) := by decide +kernel
theorem dX10_isCleared_47 : decode cX10_isCleared 47 = .ok (.iaload, 1) := by decide +kernel
theorem dX10_isCleared_48 : decode cX10_isCleared 48 = .ok (.ifCond .eq 7, 3) := by decide +kernel
theorem dX10_isCleared_51 : decode cX10_isCleared 51 = .ok (.iconst 1, 1) := by decide +kernel
theorem dX10_isCleared_52 : decode cX10_isCleared 52 = .ok (.goto 4, 3) := by decide +kernel
theorem dX10_isCleared_55 : decode cX10_isCleared 55 = .ok (.iconst 0, 1) := by decide +kernel
theorem dX10_isCleared_56 : decode cX10_isCleared 56 = .ok (.ireturn, 1) := by decide +kernel
theorem dX10_passes_0 : decode cX10_passes 0 = .ok (.aload_n 0, 1) := by decide +kernel
theorem dX10_passes_1 : decode cX10_passes 1 = .ok (.getfield 35, 3) := by decide +kernel
theorem dX10_passes_4 : decode cX10_passes 4 = .ok (.iload_n 1, 1) := by decide +kernel
theorem dX10_passes_5 : decode cX10_passes 5 = .ok (.invokevirtual 92, 3) := by decide +kernel
theorem dX10_passes_8 : decode cX10_passes 8 = .ok (.ifCond .ne 5, 3) := by decide +kernel
theorem dX10_passes_11 : decode cX10_passes 11 = .ok (.iconst (-1), 1) := by decide +kernel
theorem dX10_passes_12 : decode cX10_passes 12 = .ok (.ireturn, 1) := by decide +kernel
theorem dX10_passes_13 : decode cX10_passes 13 = .ok (.aload_n 0, 1) := by decide +kernel
theorem dX10_passes_14 : decode cX10_passes 14 = .ok (.getfield 47, 3) := by decide +kernel
theorem dX10_passes_17 : decode cX10_passes 17 = .ok (.iload_n 1, 1) := by decide +kernel
theorem dX10_passes_18 : decode cX10_passes 18 = .ok (.invokevirtual 160, 3) := by decide +kernel
theorem dX10_passes_21 : decode cX10_passes 21 = .ok (.istore_n 2, 1) := by decide +kernel
theorem dX10_passes_22 : decode cX10_passes 22 = .ok (.aload_n 0, 1) := by decide +kernel
theorem dX10_passes_23 : decode cX10_passes 23 = .ok (.getfield 47, 3) := by decide +kernel
theorem dX10_passes_26 : decode cX10_passes 26 = .ok (.getfield 195, 3) := by decide +kernel
theorem dX10_passes_29 : decode cX10_passes 29 = .ok (.iload_n 2, 1) := by decide +kernel
theorem dX10_passes_30 : decode cX10_passes 30 = .ok (.invokevirtual 204, 3) := by decide +kernel
theorem dX10_passes_33 : decode cX10_passes 33 = .ok (.ifCond .eq 18, 3) := by decide +kernel
theorem dX10_passes_36 : decode cX10_passes 36 = .ok (.aload_n 0, 1) := by decide +kernel
theorem dX10_passes_37 : decode cX10_passes 37 = .ok (.getfield 47, 3) := by decide +kernel
theorem dX10_passes_40 : decode cX10_passes 40 = .ok (.getfield 195, 3) := by decide +kernel
theorem dX10_passes_43 : decode cX10_passes 43 = .ok (.getfield 208, 3) := by decide +kernel
theorem dX10_passes_46 : decode cX10_passes 46 = .ok (.iload_n 2, 1) := by decide +kernel
theorem dX10_passes_47 : decode cX10_passes 47 = .ok (.iaload, 1) := by decide +kernel
theorem dX10_passes_48 : decode cX10_passes 48 = .ok (.goto 5, 3) := by decide +kernel
theorem dX10_passes_51 : decode cX10_passes 51 = .ok (.bipush (-2), 2) := by decide +kernel
theorem dX10_passes_53 : decode cX10_passes 53 = .ok (.ireturn, 1) := by decide +kernel
theorem dX10_destination_0 : decode cX10_destination 0 = .ok (.aload_n 0, 1) := by decide +kernel
theorem dX10_destination_1 : decode cX10_destination 1 = .ok (.getfield 35, 3) := by decide +kernel
theorem dX10_destination_4 : decode cX10_destination 4 = .ok (.iload_n 1, 1) := by decide +kernel
theorem dX10_destination_5 : decode cX10_destination 5 = .ok (.invokevirtual 92, 3) := by decide +kernel
theorem dX10_destination_8 : decode cX10_destination 8 = .ok (.ifCond .ne 5, 3) := by decide +kernel
theorem dX10_destination_11 : decode cX10_destination 11 = .ok (.iconst (-1), 1) := by decide +kernel
theorem dX10_destination_12 : decode cX10_destination 12 = .ok (.ireturn, 1) := by decide +kernel
theorem dX10_destination_13 : decode cX10_destination 13 = .ok (.aload_n 0, 1) := by decide +kernel
theorem dX10_destination_14 : decode cX10_destination 14 = .ok (.getfield 47, 3) := by decide +kernel
theorem dX10_destination_17 : decode cX10_destination 17 = .ok (.iload_n 1, 1) := by decide +kernel
theorem dX10_destination_18 : decode cX10_destination 18 = .ok (.invokevirtual 160, 3) := by decide +kernel
theorem dX10_destination_21 : decode cX10_destination 21 = .ok (.istore_n 2, 1) := by decide +kernel
theorem dX10_destination_22 : decode cX10_destination 22 = .ok (.aload_n 0, 1) := by decide +kernel
theorem dX10_destination_23 : decode cX10_destination 23 = .ok (.getfield 47, 3) := by decide +kernel
theorem dX10_destination_26 : decode cX10_destination 26 = .ok (.getfield 195, 3) := by decide +kernel
theorem dX10_destination_29 : decode cX10_destination 29 = .ok (.iload_n 2, 1) := by decide +kernel
theorem dX10_destination_30 : decode cX10_destination 30 = .ok (.invokevirtual 204, 3) := by decide +kernel
theorem dX10_destination_33 : decode cX10_destination 33 = .ok (.ifCond .eq 14, 3) := by decide +kernel
theorem dX10_destination_36 : decode cX10_destination 36 = .ok (.aload_n 0, 1) := by decide +kernel
theorem dX10_destination_37 : decode cX10_destination 37 = .ok (.getfield 47, 3) := by decide +kernel
theorem dX10_destination_40 : decode cX10_destination 40 = .ok (.iload_n 2, 1) := by decide +kernel
theorem dX10_destination_41 : decode cX10_destination 41 = .ok (.invokevirtual 211, 3) := by decide +kernel
theorem dX10_destination_44 : decode cX10_destination 44 = .ok (.goto 5, 3) := by decide +kernel
theorem dX10_destination_47 : decode cX10_destination 47 = .ok (.bipush (-2), 2) := by decide +kernel
theorem dX10_destination_49 : decode cX10_destination 49 = .ok (.ireturn, 1) := by decide +kernel
theorem dX10_bags_0 : decode cX10_bags 0 = .ok (.aload_n 0, 1) := by decide +kernel
theorem dX10_bags_1 : decode cX10_bags 1 = .ok (.getfield 47, 3) := by decide +kernel
theorem dX10_bags_4 : decode cX10_bags 4 = .ok (.getfield 138, 3) := by decide +kernel
theorem dX10_bags_7 : decode cX10_bags 7 = .ok (.getfield 142, 3) := by decide +kernel
theorem dX10_bags_10 : decode cX10_bags 10 = .ok (.ireturn, 1) := by decide +kernel
theorem dX10_bagState_0 : decode cX10_bagState 0 = .ok (.aload_n 0, 1) := by decide +kernel
theorem dX10_bagState_1 : decode cX10_bagState 1 = .ok (.getfield 47, 3) := by decide +kernel
theorem dX10_bagState_4 : decode cX10_bagState 4 = .ok (.getfield 138, 3) := by decide +kernel
theorem dX10_bagState_7 : decode cX10_bagState 7 = .ok (.iload_n 1, 1) := by decide +kernel
theorem dX10_bagState_8 : decode cX10_bagState 8 = .ok (.invokevirtual 214, 3) := by decide +kernel
theorem dX10_bagState_11 : decode cX10_bagState 11 = .ok (.ifCond .eq 18, 3) := by decide +kernel
theorem dX10_bagState_14 : decode cX10_bagState 14 = .ok (.aload_n 0, 1) := by decide +kernel
theorem dX10_bagState_15 : decode cX10_bagState 15 = .ok (.getfield 47, 3) := by decide +kernel
theorem dX10_bagState_18 : decode cX10_bagState 18 = .ok (.getfield 138, 3) := by decide +kernel
theorem dX10_bagState_21 : decode cX10_bagState 21 = .ok (.getfield 215, 3) := by decide +kernel
theorem dX10_bagState_24 : decode cX10_bagState 24 = .ok (.iload_n 1, 1) := by decide +kernel
theorem dX10_bagState_25 : decode cX10_bagState 25 = .ok (.iaload, 1) := by decide +kernel
theorem dX10_bagState_26 : decode cX10_bagState 26 = .ok (.goto 4, 3) := by decide +kernel
theorem dX10_bagState_29 : decode cX10_bagState 29 = .ok (.iconst (-1), 1) := by decide +kernel
theorem dX10_bagState_30 : decode cX10_bagState 30 = .ok (.ireturn, 1) := by decide +kernel
theorem dX10_bagPlace_0 : decode cX10_bagPlace 0 = .ok (.aload_n 0, 1) := by decide +kernel
theorem dX10_bagPlace_1 : decode cX10_bagPlace 1 = .ok (.getfield 47, 3) := by decide +kernel
theorem dX10_bagPlace_4 : decode cX10_bagPlace 4 = .ok (.getfield 138, 3) := by decide +kernel
theorem dX10_bagPlace_7 : decode cX10_bagPlace 7 = .ok (.iload_n 1, 1) := by decide +kernel
theorem dX10_bagPlace_8 : decode cX10_bagPlace 8 = .ok (.invokevirtual 214, 3) := by decide +kernel
theorem dX10_bagPlace_11 : decode cX10_bagPlace 11 = .ok (.ifCond .ne 5, 3) := by decide +kernel
theorem dX10_bagPlace_14 : decode cX10_bagPlace 14 = .ok (.iconst (-1), 1) := by decide +kernel
theorem dX10_bagPlace_15 : decode cX10_bagPlace 15 = .ok (.ireturn, 1) := by decide +kernel
theorem dX10_bagPlace_16 : decode cX10_bagPlace 16 = .ok (.aload_n 0, 1) := by decide +kernel
theorem dX10_bagPlace_17 : decode cX10_bagPlace 17 = .ok (.getfield 47, 3) := by decide +kernel
theorem dX10_bagPlace_20 : decode cX10_bagPlace 20 = .ok (.getfield 138, 3) := by decide +kernel
theorem dX10_bagPlace_23 : decode cX10_bagPlace 23 = .ok (.getfield 215, 3) := by decide +kernel
theorem dX10_bagPlace_26 : decode cX10_bagPlace 26 = .ok (.iload_n 1, 1) := by decide +kernel
theorem dX10_bagPlace_27 : decode cX10_bagPlace 27 = .ok (.iaload, 1) := by decide +kernel
theorem dX10_bagPlace_28 : decode cX10_bagPlace 28 = .ok (.istore_n 2, 1) := by decide +kernel
theorem dX10_bagPlace_29 : decode cX10_bagPlace 29 = .ok (.iload_n 2, 1) := by decide +kernel
theorem dX10_bagPlace_30 : decode cX10_bagPlace 30 = .ok (.bipush 8, 2) := by decide +kernel
theorem dX10_bagPlace_32 : decode cX10_bagPlace 32 = .ok (.if_icmp .eq 9, 3) := by decide +kernel
theorem dX10_bagPlace_35 : decode cX10_bagPlace 35 = .ok (.iload_n 2, 1) := by decide +kernel
theorem dX10_bagPlace_36 : decode cX10_bagPlace 36 = .ok (.bipush 9, 2) := by decide +kernel
theorem dX10_bagPlace_38 : decode cX10_bagPlace 38 = .ok (.if_icmp .ne 6, 3) := by decide +kernel
theorem dX10_bagPlace_41 : decode cX10_bagPlace 41 = .ok (.bipush (-2), 2) := by decide +kernel
theorem dX10_bagPlace_43 : decode cX10_bagPlace 43 = .ok (.ireturn, 1) := by decide +kernel
theorem dX10_bagPlace_44 : decode cX10_bagPlace 44 = .ok (.aload_n 0, 1) := by decide +kernel
theorem dX10_bagPlace_45 : decode cX10_bagPlace 45 = .ok (.getfield 47, 3) := by decide +kernel
theorem dX10_bagPlace_48 : decode cX10_bagPlace 48 = .ok (.getfield 138, 3) := by decide +kernel
theorem dX10_bagPlace_51 : decode cX10_bagPlace 51 = .ok (.getfield 218, 3) := by decide +kernel
theorem dX10_bagPlace_54 : decode cX10_bagPlace 54 = .ok (.iload_n 1, 1) := by decide +kernel
theorem dX10_bagPlace_55 : decode cX10_bagPlace 55 = .ok (.iaload, 1) := by decide +kernel
theorem dX10_bagPlace_56 : decode cX10_bagPlace 56 = .ok (.istore_n 3, 1) := by decide +kernel
theorem dX10_bagPlace_57 : decode cX10_bagPlace 57 = .ok (.iload_n 2, 1) := by decide +kernel
theorem dX10_bagPlace_58 : decode cX10_bagPlace 58 = .ok (.iconst 1, 1) := by decide +kernel
theorem dX10_bagPlace_59 : decode cX10_bagPlace 59 = .ok (.if_icmp .ne 14, 3) := by decide +kernel
theorem dX10_bagPlace_62 : decode cX10_bagPlace 62 = .ok (.aload_n 0, 1) := by decide +kernel
theorem dX10_bagPlace_63 : decode cX10_bagPlace 63 = .ok (.getfield 47, 3) := by decide +kernel
theorem dX10_bagPlace_66 : decode cX10_bagPlace 66 = .ok (.iload_n 3, 1) := by decide +kernel
theorem dX10_bagPlace_67 : decode cX10_bagPlace 67 = .ok (.invokevirtual 221, 3) := by decide +kernel
theorem dX10_bagPlace_70 : decode cX10_bagPlace 70 = .ok (.goto 4, 3) := by decide +kernel
theorem dX10_bagPlace_73 : decode cX10_bagPlace 73 = .ok (.iload_n 3, 1) := by decide +kernel
theorem dX10_bagPlace_74 : decode cX10_bagPlace 74 = .ok (.ireturn, 1) := by decide +kernel
theorem dX10_deliveredAt_0 : decode cX10_deliveredAt 0 = .ok (.aload_n 0, 1) := by decide +kernel
theorem dX10_deliveredAt_1 : decode cX10_deliveredAt 1 = .ok (.getfield 47, 3) := by decide +kernel
theorem dX10_deliveredAt_4 : decode cX10_deliveredAt 4 = .ok (.getfield 138, 3) := by decide +kernel
theorem dX10_deliveredAt_7 : decode cX10_deliveredAt 7 = .ok (.iload_n 1, 1) := by decide +kernel
theorem dX10_deliveredAt_8 : decode cX10_deliveredAt 8 = .ok (.invokevirtual 214, 3) := by decide +kernel
theorem dX10_deliveredAt_11 : decode cX10_deliveredAt 11 = .ok (.ifCond .ne 5, 3) := by decide +kernel
theorem dX10_deliveredAt_14 : decode cX10_deliveredAt 14 = .ok (.iconst (-1), 1) := by decide +kernel
theorem dX10_deliveredAt_15 : decode cX10_deliveredAt 15 = .ok (.ireturn, 1) := by decide +kernel
theorem dX10_deliveredAt_16 : decode cX10_deliveredAt 16 = .ok (.aload_n 0, 1) := by decide +kernel
theorem dX10_deliveredAt_17 : decode cX10_deliveredAt 17 = .ok (.getfield 47, 3) := by decide +kernel
theorem dX10_deliveredAt_20 : decode cX10_deliveredAt 20 = .ok (.getfield 138, 3) := by decide +kernel
theorem dX10_deliveredAt_23 : decode cX10_deliveredAt 23 = .ok (.iload_n 1, 1) := by decide +kernel
theorem dX10_deliveredAt_24 : decode cX10_deliveredAt 24 = .ok (.invokevirtual 224, 3) := by decide +kernel
theorem dX10_deliveredAt_27 : decode cX10_deliveredAt 27 = .ok (.ifCond .eq 18, 3) := by decide +kernel
theorem dX10_deliveredAt_30 : decode cX10_deliveredAt 30 = .ok (.aload_n 0, 1) := by decide +kernel
theorem dX10_deliveredAt_31 : decode cX10_deliveredAt 31 = .ok (.getfield 47, 3) := by decide +kernel
theorem dX10_deliveredAt_34 : decode cX10_deliveredAt 34 = .ok (.getfield 138, 3) := by decide +kernel
theorem dX10_deliveredAt_37 : decode cX10_deliveredAt 37 = .ok (.getfield 227, 3) := by decide +kernel
theorem dX10_deliveredAt_40 : decode cX10_deliveredAt 40 = .ok (.iload_n 1, 1) := by decide +kernel
theorem dX10_deliveredAt_41 : decode cX10_deliveredAt 41 = .ok (.iaload, 1) := by decide +kernel
theorem dX10_deliveredAt_42 : decode cX10_deliveredAt 42 = .ok (.goto 5, 3) := by decide +kernel
theorem dX10_deliveredAt_45 : decode cX10_deliveredAt 45 = .ok (.bipush (-2), 2) := by decide +kernel
theorem dX10_deliveredAt_47 : decode cX10_deliveredAt 47 = .ok (.ireturn, 1) := by decide +kernel
theorem dX10_properLabel_0 : decode cX10_properLabel 0 = .ok (.aload_n 0, 1) := by decide +kernel
theorem dX10_properLabel_1 : decode cX10_properLabel 1 = .ok (.getfield 47, 3) := by decide +kernel
theorem dX10_properLabel_4 : decode cX10_properLabel 4 = .ok (.getfield 138, 3) := by decide +kernel
theorem dX10_properLabel_7 : decode cX10_properLabel 7 = .ok (.iload_n 1, 1) := by decide +kernel
theorem dX10_properLabel_8 : decode cX10_properLabel 8 = .ok (.invokevirtual 214, 3) := by decide +kernel
theorem dX10_properLabel_11 : decode cX10_properLabel 11 = .ok (.ifCond .ne 5, 3) := by decide +kernel
theorem dX10_properLabel_14 : decode cX10_properLabel 14 = .ok (.iconst (-1), 1) := by decide +kernel
theorem dX10_properLabel_15 : decode cX10_properLabel 15 = .ok (.ireturn, 1) := by decide +kernel
theorem dX10_properLabel_16 : decode cX10_properLabel 16 = .ok (.aload_n 0, 1) := by decide +kernel
theorem dX10_properLabel_17 : decode cX10_properLabel 17 = .ok (.getfield 47, 3) := by decide +kernel
theorem dX10_properLabel_20 : decode cX10_properLabel 20 = .ok (.iload_n 1, 1) := by decide +kernel
theorem dX10_properLabel_21 : decode cX10_properLabel 21 = .ok (.invokevirtual 230, 3) := by decide +kernel
theorem dX10_properLabel_24 : decode cX10_properLabel 24 = .ok (.istore_n 2, 1) := by decide +kernel
theorem dX10_properLabel_25 : decode cX10_properLabel 25 = .ok (.iload_n 2, 1) := by decide +kernel
theorem dX10_properLabel_26 : decode cX10_properLabel 26 = .ok (.ifCond .ne 8, 3) := by decide +kernel
theorem dX10_properLabel_29 : decode cX10_properLabel 29 = .ok (.bipush (-2), 2) := by decide +kernel
theorem dX10_properLabel_31 : decode cX10_properLabel 31 = .ok (.goto 4, 3) := by decide +kernel
theorem dX10_properLabel_34 : decode cX10_properLabel 34 = .ok (.iload_n 2, 1) := by decide +kernel
theorem dX10_properLabel_35 : decode cX10_properLabel 35 = .ok (.ireturn, 1) := by decide +kernel
theorem dX10_waiting_0 : decode cX10_waiting 0 = .ok (.aload_n 0, 1) := by decide +kernel
theorem dX10_waiting_1 : decode cX10_waiting 1 = .ok (.aload_n 0, 1) := by decide +kernel
theorem dX10_waiting_2 : decode cX10_waiting 2 = .ok (.getfield 35, 3) := by decide +kernel
theorem dX10_waiting_5 : decode cX10_waiting 5 = .ok (.iconst 1, 1) := by decide +kernel
theorem dX10_waiting_6 : decode cX10_waiting 6 = .ok (.iload_n 1, 1) := by decide +kernel
theorem dX10_waiting_7 : decode cX10_waiting 7 = .ok (.invokevirtual 127, 3) := by decide +kernel
theorem dX10_waiting_10 : decode cX10_waiting 10 = .ok (.invokevirtual 233, 3) := by decide +kernel
theorem dX10_waiting_13 : decode cX10_waiting 13 = .ok (.ireturn, 1) := by decide +kernel
theorem dX10_chuteSize_0 : decode cX10_chuteSize 0 = .ok (.aload_n 0, 1) := by decide +kernel
theorem dX10_chuteSize_1 : decode cX10_chuteSize 1 = .ok (.aload_n 0, 1) := by decide +kernel
theorem dX10_chuteSize_2 : decode cX10_chuteSize 2 = .ok (.getfield 35, 3) := by decide +kernel
theorem dX10_chuteSize_5 : decode cX10_chuteSize 5 = .ok (.iconst 3, 1) := by decide +kernel
theorem dX10_chuteSize_6 : decode cX10_chuteSize 6 = .ok (.iload_n 1, 1) := by decide +kernel
theorem dX10_chuteSize_7 : decode cX10_chuteSize 7 = .ok (.invokevirtual 127, 3) := by decide +kernel
theorem dX10_chuteSize_10 : decode cX10_chuteSize 10 = .ok (.invokevirtual 233, 3) := by decide +kernel
theorem dX10_chuteSize_13 : decode cX10_chuteSize 13 = .ok (.ireturn, 1) := by decide +kernel
theorem dX10_screenSize_0 : decode cX10_screenSize 0 = .ok (.aload_n 0, 1) := by decide +kernel
theorem dX10_screenSize_1 : decode cX10_screenSize 1 = .ok (.aload_n 0, 1) := by decide +kernel
theorem dX10_screenSize_2 : decode cX10_screenSize 2 = .ok (.getfield 35, 3) := by decide +kernel
theorem dX10_screenSize_5 : decode cX10_screenSize 5 = .ok (.iconst 4, 1) := by decide +kernel
theorem dX10_screenSize_6 : decode cX10_screenSize 6 = .ok (.iload_n 1, 1) := by decide +kernel
theorem dX10_screenSize_7 : decode cX10_screenSize 7 = .ok (.invokevirtual 127, 3) := by decide +kernel
theorem dX10_screenSize_10 : decode cX10_screenSize 10 = .ok (.invokevirtual 233, 3) := by decide +kernel
theorem dX10_screenSize_13 : decode cX10_screenSize 13 = .ok (.ireturn, 1) := by decide +kernel
theorem dX10_screenLevel_0 : decode cX10_screenLevel 0 = .ok (.aload_n 0, 1) := by decide +kernel
theorem dX10_screenLevel_1 : decode cX10_screenLevel 1 = .ok (.getfield 35, 3) := by decide +kernel
theorem dX10_screenLevel_4 : decode cX10_screenLevel 4 = .ok (.iconst 4, 1) := by decide +kernel
theorem dX10_screenLevel_5 : decode cX10_screenLevel 5 = .ok (.iload_n 1, 1) := by decide +kernel
theorem dX10_screenLevel_6 : decode cX10_screenLevel 6 = .ok (.invokevirtual 127, 3) := by decide +kernel
theorem dX10_screenLevel_9 : decode cX10_screenLevel 9 = .ok (.istore_n 2, 1) := by decide +kernel
theorem dX10_screenLevel_10 : decode cX10_screenLevel 10 = .ok (.iload_n 2, 1) := by decide +kernel
theorem dX10_screenLevel_11 : decode cX10_screenLevel 11 = .ok (.iconst (-1), 1) := by decide +kernel
theorem dX10_screenLevel_12 : decode cX10_screenLevel 12 = .ok (.if_icmp .ne 5, 3) := by decide +kernel
theorem dX10_screenLevel_15 : decode cX10_screenLevel 15 = .ok (.iconst (-1), 1) := by decide +kernel
theorem dX10_screenLevel_16 : decode cX10_screenLevel 16 = .ok (.ireturn, 1) := by decide +kernel
theorem dX10_screenLevel_17 : decode cX10_screenLevel 17 = .ok (.aload_n 0, 1) := by decide +kernel
theorem dX10_screenLevel_18 : decode cX10_screenLevel 18 = .ok (.getfield 47, 3) := by decide +kernel
theorem dX10_screenLevel_21 : decode cX10_screenLevel 21 = .ok (.getfield 179, 3) := by decide +kernel
theorem dX10_screenLevel_24 : decode cX10_screenLevel 24 = .ok (.getfield 183, 3) := by decide +kernel
theorem dX10_screenLevel_27 : decode cX10_screenLevel 27 = .ok (.iload_n 2, 1) := by decide +kernel
theorem dX10_screenLevel_28 : decode cX10_screenLevel 28 = .ok (.iaload, 1) := by decide +kernel
theorem dX10_screenLevel_29 : decode cX10_screenLevel 29 = .ok (.ifCond .ne 7, 3) := by decide +kernel
theorem dX10_screenLevel_32 : decode cX10_screenLevel 32 = .ok (.iconst 0, 1) := by decide +kernel
theorem dX10_screenLevel_33 : decode cX10_screenLevel 33 = .ok (.goto 12, 3) := by decide +kernel
theorem dX10_screenLevel_36 : decode cX10_screenLevel 36 = .ok (.aload_n 0, 1) := by decide +kernel
theorem dX10_screenLevel_37 : decode cX10_screenLevel 37 = .ok (.getfield 47, 3) := by decide +kernel
theorem dX10_screenLevel_40 : decode cX10_screenLevel 40 = .ok (.getfield 236, 3) := by decide +kernel
theorem dX10_screenLevel_43 : decode cX10_screenLevel 43 = .ok (.iload_n 2, 1) := by decide +kernel
theorem dX10_screenLevel_44 : decode cX10_screenLevel 44 = .ok (.iaload, 1) := by decide +kernel
theorem dX10_screenLevel_45 : decode cX10_screenLevel 45 = .ok (.ireturn, 1) := by decide +kernel
theorem dX10_storeSize_0 : decode cX10_storeSize 0 = .ok (.aload_n 0, 1) := by decide +kernel
theorem dX10_storeSize_1 : decode cX10_storeSize 1 = .ok (.aload_n 0, 1) := by decide +kernel
theorem dX10_storeSize_2 : decode cX10_storeSize 2 = .ok (.getfield 35, 3) := by decide +kernel
theorem dX10_storeSize_5 : decode cX10_storeSize 5 = .ok (.iconst 5, 1) := by decide +kernel
theorem dX10_storeSize_6 : decode cX10_storeSize 6 = .ok (.iload_n 1, 1) := by decide +kernel
theorem dX10_storeSize_7 : decode cX10_storeSize 7 = .ok (.invokevirtual 127, 3) := by decide +kernel
theorem dX10_storeSize_10 : decode cX10_storeSize 10 = .ok (.invokevirtual 233, 3) := by decide +kernel
theorem dX10_storeSize_13 : decode cX10_storeSize 13 = .ok (.ireturn, 1) := by decide +kernel
theorem dX10_stationSize_0 : decode cX10_stationSize 0 = .ok (.aload_n 0, 1) := by decide +kernel
theorem dX10_stationSize_1 : decode cX10_stationSize 1 = .ok (.aload_n 0, 1) := by decide +kernel
theorem dX10_stationSize_2 : decode cX10_stationSize 2 = .ok (.getfield 35, 3) := by decide +kernel
theorem dX10_stationSize_5 : decode cX10_stationSize 5 = .ok (.bipush 6, 2) := by decide +kernel
theorem dX10_stationSize_7 : decode cX10_stationSize 7 = .ok (.iload_n 1, 1) := by decide +kernel
theorem dX10_stationSize_8 : decode cX10_stationSize 8 = .ok (.invokevirtual 127, 3) := by decide +kernel
theorem dX10_stationSize_11 : decode cX10_stationSize 11 = .ok (.invokevirtual 233, 3) := by decide +kernel
theorem dX10_stationSize_14 : decode cX10_stationSize 14 = .ok (.ireturn, 1) := by decide +kernel
theorem dX10_exitSize_0 : decode cX10_exitSize 0 = .ok (.aload_n 0, 1) := by decide +kernel
theorem dX10_exitSize_1 : decode cX10_exitSize 1 = .ok (.getfield 35, 3) := by decide +kernel
theorem dX10_exitSize_4 : decode cX10_exitSize 4 = .ok (.iload_n 1, 1) := by decide +kernel
theorem dX10_exitSize_5 : decode cX10_exitSize 5 = .ok (.invokevirtual 92, 3) := by decide +kernel
theorem dX10_exitSize_8 : decode cX10_exitSize 8 = .ok (.ifCond .eq 17, 3) := by decide +kernel
theorem dX10_exitSize_11 : decode cX10_exitSize 11 = .ok (.aload_n 0, 1) := by decide +kernel
theorem dX10_exitSize_12 : decode cX10_exitSize 12 = .ok (.getfield 35, 3) := by decide +kernel
theorem dX10_exitSize_15 : decode cX10_exitSize 15 = .ok (.getfield 96, 3) := by decide +kernel
theorem dX10_exitSize_18 : decode cX10_exitSize 18 = .ok (.iload_n 1, 1) := by decide +kernel
theorem dX10_exitSize_19 : decode cX10_exitSize 19 = .ok (.iaload, 1) := by decide +kernel
theorem dX10_exitSize_20 : decode cX10_exitSize 20 = .ok (.bipush 7, 2) := by decide +kernel
theorem dX10_exitSize_22 : decode cX10_exitSize 22 = .ok (.if_icmp .eq 5, 3) := by decide +kernel
theorem dX10_exitSize_25 : decode cX10_exitSize 25 = .ok (.iconst (-1), 1) := by decide +kernel
theorem dX10_exitSize_26 : decode cX10_exitSize 26 = .ok (.ireturn, 1) := by decide +kernel
theorem dX10_exitSize_27 : decode cX10_exitSize 27 = .ok (.aload_n 0, 1) := by decide +kernel
theorem dX10_exitSize_28 : decode cX10_exitSize 28 = .ok (.getfield 47, 3) := by decide +kernel
theorem dX10_exitSize_31 : decode cX10_exitSize 31 = .ok (.getfield 179, 3) := by decide +kernel
theorem dX10_exitSize_34 : decode cX10_exitSize 34 = .ok (.getfield 183, 3) := by decide +kernel
theorem dX10_exitSize_37 : decode cX10_exitSize 37 = .ok (.iload_n 1, 1) := by decide +kernel
theorem dX10_exitSize_38 : decode cX10_exitSize 38 = .ok (.iaload, 1) := by decide +kernel
theorem dX10_exitSize_39 : decode cX10_exitSize 39 = .ok (.ireturn, 1) := by decide +kernel
theorem dX10_readyAt_0 : decode cX10_readyAt 0 = .ok (.aload_n 0, 1) := by decide +kernel
theorem dX10_readyAt_1 : decode cX10_readyAt 1 = .ok (.getfield 35, 3) := by decide +kernel
theorem dX10_readyAt_4 : decode cX10_readyAt 4 = .ok (.iload_n 1, 1) := by decide +kernel
theorem dX10_readyAt_5 : decode cX10_readyAt 5 = .ok (.invokevirtual 92, 3) := by decide +kernel
theorem dX10_readyAt_8 : decode cX10_readyAt 8 = .ok (.ifCond .eq 18, 3) := by decide +kernel
theorem dX10_readyAt_11 : decode cX10_readyAt 11 = .ok (.aload_n 0, 1) := by decide +kernel
theorem dX10_readyAt_12 : decode cX10_readyAt 12 = .ok (.getfield 35, 3) := by decide +kernel
theorem dX10_readyAt_15 : decode cX10_readyAt 15 = .ok (.getfield 96, 3) := by decide +kernel
theorem dX10_readyAt_18 : decode cX10_readyAt 18 = .ok (.iload_n 1, 1) := by decide +kernel
theorem dX10_readyAt_19 : decode cX10_readyAt 19 = .ok (.iaload, 1) := by decide +kernel
theorem dX10_readyAt_20 : decode cX10_readyAt 20 = .ok (.invokestatic 239, 3) := by decide +kernel
theorem dX10_readyAt_23 : decode cX10_readyAt 23 = .ok (.ifCond .ne 5, 3) := by decide +kernel
theorem dX10_readyAt_26 : decode cX10_readyAt 26 = .ok (.iconst (-1), 1) := by decide +kernel
theorem dX10_readyAt_27 : decode cX10_readyAt 27 = .ok (.ireturn, 1) := by decide +kernel
theorem dX10_readyAt_28 : decode cX10_readyAt 28 = .ok (.aload_n 0, 1) := by decide +kernel
theorem dX10_readyAt_29 : decode cX10_readyAt 29 = .ok (.getfield 47, 3) := by decide +kernel
theorem dX10_readyAt_32 : decode cX10_readyAt 32 = .ok (.getfield 242, 3) := by decide +kernel
theorem dX10_readyAt_35 : decode cX10_readyAt 35 = .ok (.iload_n 1, 1) := by decide +kernel
theorem dX10_readyAt_36 : decode cX10_readyAt 36 = .ok (.iaload, 1) := by decide +kernel
theorem dX10_readyAt_37 : decode cX10_readyAt 37 = .ok (.ireturn, 1) := by decide +kernel
theorem dX10_onRing_0 : decode cX10_onRing 0 = .ok (.aload_n 0, 1) := by decide +kernel
theorem dX10_onRing_1 : decode cX10_onRing 1 = .ok (.getfield 47, 3) := by decide +kernel
theorem dX10_onRing_4 : decode cX10_onRing 4 = .ok (.iconst 1, 1) := by decide +kernel
theorem dX10_onRing_5 : decode cX10_onRing 5 = .ok (.invokevirtual 245, 3) := by decide +kernel
theorem dX10_onRing_8 : decode cX10_onRing 8 = .ok (.aload_n 0, 1) := by decide +kernel
theorem dX10_onRing_9 : decode cX10_onRing 9 = .ok (.getfield 47, 3) := by decide +kernel
theorem dX10_onRing_12 : decode cX10_onRing 12 = .ok (.iconst 0, 1) := by decide +kernel
theorem dX10_onRing_13 : decode cX10_onRing 13 = .ok (.invokevirtual 245, 3) := by decide +kernel
theorem dX10_onRing_16 : decode cX10_onRing 16 = .ok (.iadd, 1) := by decide +kernel
theorem dX10_onRing_17 : decode cX10_onRing 17 = .ok (.ireturn, 1) := by decide +kernel
theorem dX10_untracked_0 : decode cX10_untracked 0 = .ok (.aload_n 0, 1) := by decide +kernel
theorem dX10_untracked_1 : decode cX10_untracked 1 = .ok (.getfield 47, 3) := by decide +kernel
theorem dX10_untracked_4 : decode cX10_untracked 4 = .ok (.iconst 0, 1) := by decide +kernel
theorem dX10_untracked_5 : decode cX10_untracked 5 = .ok (.invokevirtual 245, 3) := by decide +kernel
theorem dX10_untracked_8 : decode cX10_untracked 8 = .ok (.ireturn, 1) := by decide +kernel
theorem dX10_count_0 : decode cX10_count 0 = .ok (.iload_n 1, 1) := by decide +kernel
theorem dX10_count_1 : decode cX10_count 1 = .ok (.iconst 0, 1) := by decide +kernel
theorem dX10_count_2 : decode cX10_count 2 = .ok (.bipush 7, 2) := by decide +kernel
theorem dX10_count_4 : decode cX10_count 4 = .ok (.invokestatic 134, 3) := by decide +kernel
theorem dX10_count_7 : decode cX10_count 7 = .ok (.ifCond .eq 15, 3) := by decide +kernel
theorem dX10_count_10 : decode cX10_count 10 = .ok (.aload_n 0, 1) := by decide +kernel
theorem dX10_count_11 : decode cX10_count 11 = .ok (.getfield 47, 3) := by decide +kernel
theorem dX10_count_14 : decode cX10_count 14 = .ok (.getfield 249, 3) := by decide +kernel
theorem dX10_count_17 : decode cX10_count 17 = .ok (.iload_n 1, 1) := by decide +kernel
theorem dX10_count_18 : decode cX10_count 18 = .ok (.iaload, 1) := by decide +kernel
theorem dX10_count_19 : decode cX10_count 19 = .ok (.goto 4, 3) := by decide +kernel
theorem dX10_count_22 : decode cX10_count 22 = .ok (.iconst (-1), 1) := by decide +kernel
theorem dX10_count_23 : decode cX10_count 23 = .ok (.ireturn, 1) := by decide +kernel
theorem dX10_misrouted_0 : decode cX10_misrouted 0 = .ok (.aload_n 0, 1) := by decide +kernel
theorem dX10_misrouted_1 : decode cX10_misrouted 1 = .ok (.getfield 35, 3) := by decide +kernel
theorem dX10_misrouted_4 : decode cX10_misrouted 4 = .ok (.iconst 3, 1) := by decide +kernel
theorem dX10_misrouted_5 : decode cX10_misrouted 5 = .ok (.iload_n 1, 1) := by decide +kernel
theorem dX10_misrouted_6 : decode cX10_misrouted 6 = .ok (.invokevirtual 127, 3) := by decide +kernel
theorem dX10_misrouted_9 : decode cX10_misrouted 9 = .ok (.iconst (-1), 1) := by decide +kernel
theorem dX10_misrouted_10 : decode cX10_misrouted 10 = .ok (.if_icmp .ne 5, 3) := by decide +kernel
theorem dX10_misrouted_13 : decode cX10_misrouted 13 = .ok (.iconst (-1), 1) := by decide +kernel
theorem dX10_misrouted_14 : decode cX10_misrouted 14 = .ok (.ireturn, 1) := by decide +kernel
theorem dX10_misrouted_15 : decode cX10_misrouted 15 = .ok (.iconst 0, 1) := by decide +kernel
theorem dX10_misrouted_16 : decode cX10_misrouted 16 = .ok (.istore_n 2, 1) := by decide +kernel
theorem dX10_misrouted_17 : decode cX10_misrouted 17 = .ok (.iconst 0, 1) := by decide +kernel
theorem dX10_misrouted_18 : decode cX10_misrouted 18 = .ok (.istore_n 3, 1) := by decide +kernel
theorem dX10_misrouted_19 : decode cX10_misrouted 19 = .ok (.iload_n 3, 1) := by decide +kernel
theorem dX10_misrouted_20 : decode cX10_misrouted 20 = .ok (.aload_n 0, 1) := by decide +kernel
theorem dX10_misrouted_21 : decode cX10_misrouted 21 = .ok (.getfield 47, 3) := by decide +kernel
theorem dX10_misrouted_24 : decode cX10_misrouted 24 = .ok (.getfield 138, 3) := by decide +kernel
theorem dX10_misrouted_27 : decode cX10_misrouted 27 = .ok (.getfield 142, 3) := by decide +kernel
theorem dX10_misrouted_30 : decode cX10_misrouted 30 = .ok (.if_icmp .ge 54, 3) := by decide +kernel
theorem dX10_misrouted_33 : decode cX10_misrouted 33 = .ok (.aload_n 0, 1) := by decide +kernel
theorem dX10_misrouted_34 : decode cX10_misrouted 34 = .ok (.getfield 47, 3) := by decide +kernel
theorem dX10_misrouted_37 : decode cX10_misrouted 37 = .ok (.getfield 138, 3) := by decide +kernel
theorem dX10_misrouted_40 : decode cX10_misrouted 40 = .ok (.iload_n 3, 1) := by decide +kernel
theorem dX10_misrouted_41 : decode cX10_misrouted 41 = .ok (.invokevirtual 224, 3) := by decide +kernel
theorem dX10_misrouted_44 : decode cX10_misrouted 44 = .ok (.ifCond .eq 34, 3) := by decide +kernel
theorem dX10_misrouted_47 : decode cX10_misrouted 47 = .ok (.aload_n 0, 1) := by decide +kernel
theorem dX10_misrouted_48 : decode cX10_misrouted 48 = .ok (.getfield 47, 3) := by decide +kernel
theorem dX10_misrouted_51 : decode cX10_misrouted 51 = .ok (.getfield 138, 3) := by decide +kernel
theorem dX10_misrouted_54 : decode cX10_misrouted 54 = .ok (.getfield 218, 3) := by decide +kernel
theorem dX10_misrouted_57 : decode cX10_misrouted 57 = .ok (.iload_n 3, 1) := by decide +kernel
theorem dX10_misrouted_58 : decode cX10_misrouted 58 = .ok (.iaload, 1) := by decide +kernel
theorem dX10_misrouted_59 : decode cX10_misrouted 59 = .ok (.iload_n 1, 1) := by decide +kernel
theorem dX10_misrouted_60 : decode cX10_misrouted 60 = .ok (.if_icmp .ne 18, 3) := by decide +kernel
theorem dX10_misrouted_63 : decode cX10_misrouted 63 = .ok (.aload_n 0, 1) := by decide +kernel
theorem dX10_misrouted_64 : decode cX10_misrouted 64 = .ok (.getfield 47, 3) := by decide +kernel
theorem dX10_misrouted_67 : decode cX10_misrouted 67 = .ok (.iload_n 3, 1) := by decide +kernel
theorem dX10_misrouted_68 : decode cX10_misrouted 68 = .ok (.iload_n 1, 1) := by decide +kernel
theorem dX10_misrouted_69 : decode cX10_misrouted 69 = .ok (.invokevirtual 250, 3) := by decide +kernel
theorem dX10_misrouted_72 : decode cX10_misrouted 72 = .ok (.ifCond .eq 6, 3) := by decide +kernel
theorem dX10_misrouted_75 : decode cX10_misrouted 75 = .ok (.iinc 2 1, 3) := by decide +kernel
theorem dX10_misrouted_78 : decode cX10_misrouted 78 = .ok (.iinc 3 1, 3) := by decide +kernel
theorem dX10_misrouted_81 : decode cX10_misrouted 81 = .ok (.goto (-62), 3) := by decide +kernel
theorem dX10_misrouted_84 : decode cX10_misrouted 84 = .ok (.iload_n 2, 1) := by decide +kernel
theorem dX10_misrouted_85 : decode cX10_misrouted 85 = .ok (.ireturn, 1) := by decide +kernel
theorem dX10_delivered_0 : decode cX10_delivered 0 = .ok (.aload_n 0, 1) := by decide +kernel
theorem dX10_delivered_1 : decode cX10_delivered 1 = .ok (.getfield 35, 3) := by decide +kernel
theorem dX10_delivered_4 : decode cX10_delivered 4 = .ok (.getfield 103, 3) := by decide +kernel
theorem dX10_delivered_7 : decode cX10_delivered 7 = .ok (.iload_n 1, 1) := by decide +kernel
theorem dX10_delivered_8 : decode cX10_delivered 8 = .ok (.invokevirtual 112, 3) := by decide +kernel
theorem dX10_delivered_11 : decode cX10_delivered 11 = .ok (.ifCond .ne 5, 3) := by decide +kernel
theorem dX10_delivered_14 : decode cX10_delivered 14 = .ok (.iconst (-1), 1) := by decide +kernel
theorem dX10_delivered_15 : decode cX10_delivered 15 = .ok (.ireturn, 1) := by decide +kernel
theorem dX10_delivered_16 : decode cX10_delivered 16 = .ok (.iconst 0, 1) := by decide +kernel
theorem dX10_delivered_17 : decode cX10_delivered 17 = .ok (.istore_n 2, 1) := by decide +kernel
theorem dX10_delivered_18 : decode cX10_delivered 18 = .ok (.iconst 0, 1) := by decide +kernel
theorem dX10_delivered_19 : decode cX10_delivered 19 = .ok (.istore_n 3, 1) := by decide +kernel
theorem dX10_delivered_20 : decode cX10_delivered 20 = .ok (.iload_n 3, 1) := by decide +kernel
theorem dX10_delivered_21 : decode cX10_delivered 21 = .ok (.aload_n 0, 1) := by decide +kernel
theorem dX10_delivered_22 : decode cX10_delivered 22 = .ok (.getfield 47, 3) := by decide +kernel
theorem dX10_delivered_25 : decode cX10_delivered 25 = .ok (.getfield 138, 3) := by decide +kernel
theorem dX10_delivered_28 : decode cX10_delivered 28 = .ok (.getfield 142, 3) := by decide +kernel
theorem dX10_delivered_31 : decode cX10_delivered 31 = .ok (.if_icmp .ge 42, 3) := by decide +kernel
theorem dX10_delivered_34 : decode cX10_delivered 34 = .ok (.aload_n 0, 1) := by decide +kernel
theorem dX10_delivered_35 : decode cX10_delivered 35 = .ok (.getfield 47, 3) := by decide +kernel
theorem dX10_delivered_38 : decode cX10_delivered 38 = .ok (.getfield 138, 3) := by decide +kernel
theorem dX10_delivered_41 : decode cX10_delivered 41 = .ok (.iload_n 3, 1) := by decide +kernel
theorem dX10_delivered_42 : decode cX10_delivered 42 = .ok (.invokevirtual 224, 3) := by decide +kernel
theorem dX10_delivered_45 : decode cX10_delivered 45 = .ok (.ifCond .eq 22, 3) := by decide +kernel
theorem dX10_delivered_48 : decode cX10_delivered 48 = .ok (.aload_n 0, 1) := by decide +kernel
theorem dX10_delivered_49 : decode cX10_delivered 49 = .ok (.getfield 47, 3) := by decide +kernel
theorem dX10_delivered_52 : decode cX10_delivered 52 = .ok (.getfield 138, 3) := by decide +kernel
theorem dX10_delivered_55 : decode cX10_delivered 55 = .ok (.getfield 254, 3) := by decide +kernel
theorem dX10_delivered_58 : decode cX10_delivered 58 = .ok (.iload_n 3, 1) := by decide +kernel
theorem dX10_delivered_59 : decode cX10_delivered 59 = .ok (.iaload, 1) := by decide +kernel
theorem dX10_delivered_60 : decode cX10_delivered 60 = .ok (.iload_n 1, 1) := by decide +kernel
theorem dX10_delivered_61 : decode cX10_delivered 61 = .ok (.if_icmp .ne 6, 3) := by decide +kernel
theorem dX10_delivered_64 : decode cX10_delivered 64 = .ok (.iinc 2 1, 3) := by decide +kernel
theorem dX10_delivered_67 : decode cX10_delivered 67 = .ok (.iinc 3 1, 3) := by decide +kernel
theorem dX10_delivered_70 : decode cX10_delivered 70 = .ok (.goto (-50), 3) := by decide +kernel
theorem dX10_delivered_73 : decode cX10_delivered 73 = .ok (.iload_n 2, 1) := by decide +kernel
theorem dX10_delivered_74 : decode cX10_delivered 74 = .ok (.ireturn, 1) := by decide +kernel
theorem dX10_ticksToChute_0 : decode cX10_ticksToChute 0 = .ok (.aload_n 0, 1) := by decide +kernel
theorem dX10_ticksToChute_1 : decode cX10_ticksToChute 1 = .ok (.getfield 47, 3) := by decide +kernel
theorem dX10_ticksToChute_4 : decode cX10_ticksToChute 4 = .ok (.getfield 138, 3) := by decide +kernel
theorem dX10_ticksToChute_7 : decode cX10_ticksToChute 7 = .ok (.iload_n 1, 1) := by decide +kernel
theorem dX10_ticksToChute_8 : decode cX10_ticksToChute 8 = .ok (.invokevirtual 214, 3) := by decide +kernel
theorem dX10_ticksToChute_11 : decode cX10_ticksToChute 11 = .ok (.ifCond .eq 14, 3) := by decide +kernel
theorem dX10_ticksToChute_14 : decode cX10_ticksToChute 14 = .ok (.iload_n 2, 1) := by decide +kernel
theorem dX10_ticksToChute_15 : decode cX10_ticksToChute 15 = .ok (.iconst 1, 1) := by decide +kernel
theorem dX10_ticksToChute_16 : decode cX10_ticksToChute 16 = .ok (.sipush 300, 3) := by decide +kernel
theorem dX10_ticksToChute_19 : decode cX10_ticksToChute 19 = .ok (.invokestatic 134, 3) := by decide +kernel
theorem dX10_ticksToChute_22 : decode cX10_ticksToChute 22 = .ok (.ifCond .ne 5, 3) := by decide +kernel
theorem dX10_ticksToChute_25 : decode cX10_ticksToChute 25 = .ok (.iconst (-1), 1) := by decide +kernel
theorem dX10_ticksToChute_26 : decode cX10_ticksToChute 26 = .ok (.ireturn, 1) := by decide +kernel
theorem dX10_ticksToChute_27 : decode cX10_ticksToChute 27 = .ok (.aload_n 0, 1) := by decide +kernel
theorem dX10_ticksToChute_28 : decode cX10_ticksToChute 28 = .ok (.getfield 51, 3) := by decide +kernel
theorem dX10_ticksToChute_31 : decode cX10_ticksToChute 31 = .ok (.aload_n 0, 1) := by decide +kernel
theorem dX10_ticksToChute_32 : decode cX10_ticksToChute 32 = .ok (.getfield 47, 3) := by decide +kernel
theorem dX10_ticksToChute_35 : decode cX10_ticksToChute 35 = .ok (.invokevirtual 257, 3) := by decide +kernel
theorem dX10_ticksToChute_38 : decode cX10_ticksToChute 38 = .ok (.aload_n 0, 1) := by decide +kernel
theorem dX10_ticksToChute_39 : decode cX10_ticksToChute 39 = .ok (.getfield 51, 3) := by decide +kernel
theorem dX10_ticksToChute_42 : decode cX10_ticksToChute 42 = .ok (.iload_n 1, 1) := by decide +kernel
theorem dX10_ticksToChute_43 : decode cX10_ticksToChute 43 = .ok (.iload_n 2, 1) := by decide +kernel
theorem dX10_ticksToChute_44 : decode cX10_ticksToChute 44 = .ok (.invokevirtual 260, 3) := by decide +kernel
theorem dX10_ticksToChute_47 : decode cX10_ticksToChute 47 = .ok (.ireturn, 1) := by decide +kernel
theorem dX10_forecastState_0 : decode cX10_forecastState 0 = .ok (.aload_n 0, 1) := by decide +kernel
theorem dX10_forecastState_1 : decode cX10_forecastState 1 = .ok (.getfield 47, 3) := by decide +kernel
theorem dX10_forecastState_4 : decode cX10_forecastState 4 = .ok (.getfield 138, 3) := by decide +kernel
theorem dX10_forecastState_7 : decode cX10_forecastState 7 = .ok (.iload_n 1, 1) := by decide +kernel
theorem dX10_forecastState_8 : decode cX10_forecastState 8 = .ok (.invokevirtual 214, 3) := by decide +kernel
theorem dX10_forecastState_11 : decode cX10_forecastState 11 = .ok (.ifCond .eq 14, 3) := by decide +kernel
theorem dX10_forecastState_14 : decode cX10_forecastState 14 = .ok (.iload_n 2, 1) := by decide +kernel
theorem dX10_forecastState_15 : decode cX10_forecastState 15 = .ok (.iconst 1, 1) := by decide +kernel
theorem dX10_forecastState_16 : decode cX10_forecastState 16 = .ok (.sipush 300, 3) := by decide +kernel
theorem dX10_forecastState_19 : decode cX10_forecastState 19 = .ok (.invokestatic 134, 3) := by decide +kernel
theorem dX10_forecastState_22 : decode cX10_forecastState 22 = .ok (.ifCond .ne 5, 3) := by decide +kernel
theorem dX10_forecastState_25 : decode cX10_forecastState 25 = .ok (.iconst (-1), 1) := by decide +kernel
theorem dX10_forecastState_26 : decode cX10_forecastState 26 = .ok (.ireturn, 1) := by decide +kernel
theorem dX10_forecastState_27 : decode cX10_forecastState 27 = .ok (.aload_n 0, 1) := by decide +kernel
theorem dX10_forecastState_28 : decode cX10_forecastState 28 = .ok (.getfield 51, 3) := by decide +kernel
theorem dX10_forecastState_31 : decode cX10_forecastState 31 = .ok (.aload_n 0, 1) := by decide +kernel
theorem dX10_forecastState_32 : decode cX10_forecastState 32 = .ok (.getfield 47, 3) := by decide +kernel
theorem dX10_forecastState_35 : decode cX10_forecastState 35 = .ok (.invokevirtual 257, 3) := by decide +kernel
theorem dX10_forecastState_38 : decode cX10_forecastState 38 = .ok (.aload_n 0, 1) := by decide +kernel
theorem dX10_forecastState_39 : decode cX10_forecastState 39 = .ok (.getfield 51, 3) := by decide +kernel
theorem dX10_forecastState_42 : decode cX10_forecastState 42 = .ok (.iload_n 2, 1) := by decide +kernel
theorem dX10_forecastState_43 : decode cX10_forecastState 43 = .ok (.invokevirtual 157, 3) := by decide +kernel
theorem dX10_forecastState_46 : decode cX10_forecastState 46 = .ok (.pop, 1) := by decide +kernel
theorem dX10_forecastState_47 : decode cX10_forecastState 47 = .ok (.aload_n 0, 1) := by decide +kernel
theorem dX10_forecastState_48 : decode cX10_forecastState 48 = .ok (.getfield 51, 3) := by decide +kernel
theorem dX10_forecastState_51 : decode cX10_forecastState 51 = .ok (.getfield 138, 3) := by decide +kernel
theorem dX10_forecastState_54 : decode cX10_forecastState 54 = .ok (.getfield 215, 3) := by decide +kernel
theorem dX10_forecastState_57 : decode cX10_forecastState 57 = .ok (.iload_n 1, 1) := by decide +kernel
theorem dX10_forecastState_58 : decode cX10_forecastState 58 = .ok (.iaload, 1) := by decide +kernel
theorem dX10_forecastState_59 : decode cX10_forecastState 59 = .ok (.ireturn, 1) := by decide +kernel
theorem dX10_forecastDelivered_0 : decode cX10_forecastDelivered 0 = .ok (.iload_n 1, 1) := by decide +kernel
theorem dX10_forecastDelivered_1 : decode cX10_forecastDelivered 1 = .ok (.iconst 1, 1) := by decide +kernel
theorem dX10_forecastDelivered_2 : decode cX10_forecastDelivered 2 = .ok (.sipush 300, 3) := by decide +kernel
theorem dX10_forecastDelivered_5 : decode cX10_forecastDelivered 5 = .ok (.invokestatic 134, 3) := by decide +kernel
theorem dX10_forecastDelivered_8 : decode cX10_forecastDelivered 8 = .ok (.ifCond .ne 5, 3) := by decide +kernel
theorem dX10_forecastDelivered_11 : decode cX10_forecastDelivered 11 = .ok (.iconst (-1), 1) := by decide +kernel
theorem dX10_forecastDelivered_12 : decode cX10_forecastDelivered 12 = .ok (.ireturn, 1) := by decide +kernel
theorem dX10_forecastDelivered_13 : decode cX10_forecastDelivered 13 = .ok (.aload_n 0, 1) := by decide +kernel
theorem dX10_forecastDelivered_14 : decode cX10_forecastDelivered 14 = .ok (.getfield 51, 3) := by decide +kernel
theorem dX10_forecastDelivered_17 : decode cX10_forecastDelivered 17 = .ok (.aload_n 0, 1) := by decide +kernel
theorem dX10_forecastDelivered_18 : decode cX10_forecastDelivered 18 = .ok (.getfield 47, 3) := by decide +kernel
theorem dX10_forecastDelivered_21 : decode cX10_forecastDelivered 21 = .ok (.invokevirtual 257, 3) := by decide +kernel
theorem dX10_forecastDelivered_24 : decode cX10_forecastDelivered 24 = .ok (.aload_n 0, 1) := by decide +kernel
theorem dX10_forecastDelivered_25 : decode cX10_forecastDelivered 25 = .ok (.getfield 51, 3) := by decide +kernel
theorem dX10_forecastDelivered_28 : decode cX10_forecastDelivered 28 = .ok (.iload_n 1, 1) := by decide +kernel
theorem dX10_forecastDelivered_29 : decode cX10_forecastDelivered 29 = .ok (.invokevirtual 157, 3) := by decide +kernel
theorem dX10_forecastDelivered_32 : decode cX10_forecastDelivered 32 = .ok (.ireturn, 1) := by decide +kernel
theorem dX10_bestInlet_0 : decode cX10_bestInlet 0 = .ok (.aload_n 0, 1) := by decide +kernel
theorem dX10_bestInlet_1 : decode cX10_bestInlet 1 = .ok (.getfield 35, 3) := by decide +kernel
theorem dX10_bestInlet_4 : decode cX10_bestInlet 4 = .ok (.getfield 103, 3) := by decide +kernel
theorem dX10_bestInlet_7 : decode cX10_bestInlet 7 = .ok (.iload_n 1, 1) := by decide +kernel
theorem dX10_bestInlet_8 : decode cX10_bestInlet 8 = .ok (.invokevirtual 112, 3) := by decide +kernel
theorem dX10_bestInlet_11 : decode cX10_bestInlet 11 = .ok (.ifCond .eq 14, 3) := by decide +kernel
theorem dX10_bestInlet_14 : decode cX10_bestInlet 14 = .ok (.iload_n 2, 1) := by decide +kernel
theorem dX10_bestInlet_15 : decode cX10_bestInlet 15 = .ok (.iconst 1, 1) := by decide +kernel
theorem dX10_bestInlet_16 : decode cX10_bestInlet 16 = .ok (.sipush 300, 3) := by decide +kernel
theorem dX10_bestInlet_19 : decode cX10_bestInlet 19 = .ok (.invokestatic 134, 3) := by decide +kernel
theorem dX10_bestInlet_22 : decode cX10_bestInlet 22 = .ok (.ifCond .ne 5, 3) := by decide +kernel
theorem dX10_bestInlet_25 : decode cX10_bestInlet 25 = .ok (.iconst (-1), 1) := by decide +kernel
theorem dX10_bestInlet_26 : decode cX10_bestInlet 26 = .ok (.ireturn, 1) := by decide +kernel
theorem dX10_bestInlet_27 : decode cX10_bestInlet 27 = .ok (.aload_n 0, 1) := by decide +kernel
theorem dX10_bestInlet_28 : decode cX10_bestInlet 28 = .ok (.getfield 47, 3) := by decide +kernel
theorem dX10_bestInlet_31 : decode cX10_bestInlet 31 = .ok (.getfield 138, 3) := by decide +kernel
theorem dX10_bestInlet_34 : decode cX10_bestInlet 34 = .ok (.getfield 142, 3) := by decide +kernel
theorem dX10_bestInlet_37 : decode cX10_bestInlet 37 = .ok (.bipush 100, 2) := by decide +kernel
theorem dX10_bestInlet_39 : decode cX10_bestInlet 39 = .ok (.if_icmp .lt 6, 3) := by decide +kernel
theorem dX10_bestInlet_42 : decode cX10_bestInlet 42 = .ok (.bipush (-2), 2) := by decide +kernel
theorem dX10_bestInlet_44 : decode cX10_bestInlet 44 = .ok (.ireturn, 1) := by decide +kernel
theorem dX10_bestInlet_45 : decode cX10_bestInlet 45 = .ok (.bipush (-2), 2) := by decide +kernel
theorem dX10_bestInlet_47 : decode cX10_bestInlet 47 = .ok (.istore_n 3, 1) := by decide +kernel
theorem dX10_bestInlet_48 : decode cX10_bestInlet 48 = .ok (.iload_n 2, 1) := by decide +kernel
theorem dX10_bestInlet_49 : decode cX10_bestInlet 49 = .ok (.istore 4, 2) := by decide +kernel
theorem dX10_bestInlet_51 : decode cX10_bestInlet 51 = .ok (.iconst 0, 1) := by decide +kernel
theorem dX10_bestInlet_52 : decode cX10_bestInlet 52 = .ok (.istore 5, 2) := by decide +kernel
theorem dX10_bestInlet_54 : decode cX10_bestInlet 54 = .ok (.iload 5, 2) := by decide +kernel
theorem dX10_bestInlet_56 : decode cX10_bestInlet 56 = .ok (.aload_n 0, 1) := by decide +kernel
theorem dX10_bestInlet_57 : decode cX10_bestInlet 57 = .ok (.getfield 35, 3) := by decide +kernel
theorem dX10_bestInlet_60 : decode cX10_bestInlet 60 = .ok (.getfield 100, 3) := by decide +kernel
theorem dX10_bestInlet_63 : decode cX10_bestInlet 63 = .ok (.iconst 1, 1) := by decide +kernel
theorem dX10_bestInlet_64 : decode cX10_bestInlet 64 = .ok (.iaload, 1) := by decide +kernel
theorem dX10_bestInlet_65 : decode cX10_bestInlet 65 = .ok (.if_icmp .ge 58, 3) := by decide +kernel
theorem dX10_bestInlet_68 : decode cX10_bestInlet 68 = .ok (.aload_n 0, 1) := by decide +kernel
theorem dX10_bestInlet_69 : decode cX10_bestInlet 69 = .ok (.getfield 51, 3) := by decide +kernel
theorem dX10_bestInlet_72 : decode cX10_bestInlet 72 = .ok (.aload_n 0, 1) := by decide +kernel
theorem dX10_bestInlet_73 : decode cX10_bestInlet 73 = .ok (.getfield 47, 3) := by decide +kernel
theorem dX10_bestInlet_76 : decode cX10_bestInlet 76 = .ok (.invokevirtual 257, 3) := by decide +kernel
theorem dX10_bestInlet_79 : decode cX10_bestInlet 79 = .ok (.aload_n 0, 1) := by decide +kernel
theorem dX10_bestInlet_80 : decode cX10_bestInlet 80 = .ok (.iload_n 1, 1) := by decide +kernel
theorem dX10_bestInlet_81 : decode cX10_bestInlet 81 = .ok (.iload 5, 2) := by decide +kernel
theorem dX10_bestInlet_83 : decode cX10_bestInlet 83 = .ok (.invokevirtual 263, 3) := by decide +kernel
theorem dX10_bestInlet_86 : decode cX10_bestInlet 86 = .ok (.istore 6, 2) := by decide +kernel
theorem dX10_bestInlet_88 : decode cX10_bestInlet 88 = .ok (.aload_n 0, 1) := by decide +kernel
theorem dX10_bestInlet_89 : decode cX10_bestInlet 89 = .ok (.getfield 51, 3) := by decide +kernel
theorem dX10_bestInlet_92 : decode cX10_bestInlet 92 = .ok (.iload 6, 2) := by decide +kernel
theorem dX10_bestInlet_94 : decode cX10_bestInlet 94 = .ok (.iload 4, 2) := by decide +kernel
theorem dX10_bestInlet_96 : decode cX10_bestInlet 96 = .ok (.invokevirtual 260, 3) := by decide +kernel
theorem dX10_bestInlet_99 : decode cX10_bestInlet 99 = .ok (.istore 7, 2) := by decide +kernel
theorem dX10_bestInlet_101 : decode cX10_bestInlet 101 = .ok (.iload 7, 2) := by decide +kernel
theorem dX10_bestInlet_103 : decode cX10_bestInlet 103 = .ok (.bipush (-2), 2) := by decide +kernel
theorem dX10_bestInlet_105 : decode cX10_bestInlet 105 = .ok (.if_icmp .eq 12, 3) := by decide +kernel
theorem dX10_bestInlet_108 : decode cX10_bestInlet 108 = .ok (.iload 5, 2) := by decide +kernel
theorem dX10_bestInlet_110 : decode cX10_bestInlet 110 = .ok (.istore_n 3, 1) := by decide +kernel
theorem dX10_bestInlet_111 : decode cX10_bestInlet 111 = .ok (.iload 7, 2) := by decide +kernel
theorem dX10_bestInlet_113 : decode cX10_bestInlet 113 = .ok (.iconst 1, 1) := by decide +kernel
theorem dX10_bestInlet_114 : decode cX10_bestInlet 114 = .ok (.isub, 1) := by decide +kernel
theorem dX10_bestInlet_115 : decode cX10_bestInlet 115 = .ok (.istore 4, 2) := by decide +kernel
theorem dX10_bestInlet_117 : decode cX10_bestInlet 117 = .ok (.iinc 5 1, 3) := by decide +kernel
theorem dX10_bestInlet_120 : decode cX10_bestInlet 120 = .ok (.goto (-66), 3) := by decide +kernel
theorem dX10_bestInlet_123 : decode cX10_bestInlet 123 = .ok (.iload_n 3, 1) := by decide +kernel
theorem dX10_bestInlet_124 : decode cX10_bestInlet 124 = .ok (.ireturn, 1) := by decide +kernel
theorem dX10_latestDelay_0 : decode cX10_latestDelay 0 = .ok (.aload_n 0, 1) := by decide +kernel
theorem dX10_latestDelay_1 : decode cX10_latestDelay 1 = .ok (.getfield 35, 3) := by decide +kernel
theorem dX10_latestDelay_4 : decode cX10_latestDelay 4 = .ok (.getfield 103, 3) := by decide +kernel
theorem dX10_latestDelay_7 : decode cX10_latestDelay 7 = .ok (.iload_n 1, 1) := by decide +kernel
theorem dX10_latestDelay_8 : decode cX10_latestDelay 8 = .ok (.invokevirtual 112, 3) := by decide +kernel
theorem dX10_latestDelay_11 : decode cX10_latestDelay 11 = .ok (.ifCond .eq 16, 3) := by decide +kernel
theorem dX10_latestDelay_14 : decode cX10_latestDelay 14 = .ok (.aload_n 0, 1) := by decide +kernel
theorem dX10_latestDelay_15 : decode cX10_latestDelay 15 = .ok (.getfield 35, 3) := by decide +kernel
theorem dX10_latestDelay_18 : decode cX10_latestDelay 18 = .ok (.iconst 1, 1) := by decide +kernel
theorem dX10_latestDelay_19 : decode cX10_latestDelay 19 = .ok (.iload_n 2, 1) := by decide +kernel
theorem dX10_latestDelay_20 : decode cX10_latestDelay 20 = .ok (.invokevirtual 127, 3) := by decide +kernel
theorem dX10_latestDelay_23 : decode cX10_latestDelay 23 = .ok (.iconst (-1), 1) := by decide +kernel
theorem dX10_latestDelay_24 : decode cX10_latestDelay 24 = .ok (.if_icmp .ne 5, 3) := by decide +kernel
theorem dX10_latestDelay_27 : decode cX10_latestDelay 27 = .ok (.iconst (-1), 1) := by decide +kernel
theorem dX10_latestDelay_28 : decode cX10_latestDelay 28 = .ok (.ireturn, 1) := by decide +kernel
theorem dX10_latestDelay_29 : decode cX10_latestDelay 29 = .ok (.aload_n 0, 1) := by decide +kernel
theorem dX10_latestDelay_30 : decode cX10_latestDelay 30 = .ok (.getfield 47, 3) := by decide +kernel
theorem dX10_latestDelay_33 : decode cX10_latestDelay 33 = .ok (.getfield 138, 3) := by decide +kernel
theorem dX10_latestDelay_36 : decode cX10_latestDelay 36 = .ok (.getfield 142, 3) := by decide +kernel
theorem dX10_latestDelay_39 : decode cX10_latestDelay 39 = .ok (.bipush 100, 2) := by decide +kernel
theorem dX10_latestDelay_41 : decode cX10_latestDelay 41 = .ok (.if_icmp .lt 6, 3) := by decide +kernel
theorem dX10_latestDelay_44 : decode cX10_latestDelay 44 = .ok (.bipush (-2), 2) := by decide +kernel
theorem dX10_latestDelay_46 : decode cX10_latestDelay 46 = .ok (.ireturn, 1) := by decide +kernel
theorem dX10_latestDelay_47 : decode cX10_latestDelay 47 = .ok (.bipush 30, 2) := by decide +kernel
theorem dX10_latestDelay_49 : decode cX10_latestDelay 49 = .ok (.istore_n 3, 1) := by decide +kernel
theorem dX10_latestDelay_50 : decode cX10_latestDelay 50 = .ok (.iload_n 3, 1) := by decide +kernel
theorem dX10_latestDelay_51 : decode cX10_latestDelay 51 = .ok (.ifCond .lt 21, 3) := by decide +kernel
theorem dX10_latestDelay_54 : decode cX10_latestDelay 54 = .ok (.aload_n 0, 1) := by decide +kernel
theorem dX10_latestDelay_55 : decode cX10_latestDelay 55 = .ok (.iload_n 1, 1) := by decide +kernel
theorem dX10_latestDelay_56 : decode cX10_latestDelay 56 = .ok (.iload_n 2, 1) := by decide +kernel
theorem dX10_latestDelay_57 : decode cX10_latestDelay 57 = .ok (.iload_n 3, 1) := by decide +kernel
theorem dX10_latestDelay_58 : decode cX10_latestDelay 58 = .ok (.invokevirtual 266, 3) := by decide +kernel
theorem dX10_latestDelay_61 : decode cX10_latestDelay 61 = .ok (.ifCond .eq 5, 3) := by decide +kernel
theorem dX10_latestDelay_64 : decode cX10_latestDelay 64 = .ok (.iload_n 3, 1) := by decide +kernel
theorem dX10_latestDelay_65 : decode cX10_latestDelay 65 = .ok (.ireturn, 1) := by decide +kernel
theorem dX10_latestDelay_66 : decode cX10_latestDelay 66 = .ok (.iinc 3 (-1), 3) := by decide +kernel
theorem dX10_latestDelay_69 : decode cX10_latestDelay 69 = .ok (.goto (-19), 3) := by decide +kernel
theorem dX10_latestDelay_72 : decode cX10_latestDelay 72 = .ok (.bipush (-2), 2) := by decide +kernel
theorem dX10_latestDelay_74 : decode cX10_latestDelay 74 = .ok (.ireturn, 1) := by decide +kernel
theorem dX10_mapLength_0 : decode cX10_mapLength 0 = .ok (.aload_n 0, 1) := by decide +kernel
theorem dX10_mapLength_1 : decode cX10_mapLength 1 = .ok (.getfield 35, 3) := by decide +kernel
theorem dX10_mapLength_4 : decode cX10_mapLength 4 = .ok (.getfield 89, 3) := by decide +kernel
theorem dX10_mapLength_7 : decode cX10_mapLength 7 = .ok (.iconst 1, 1) := by decide +kernel
theorem dX10_mapLength_8 : decode cX10_mapLength 8 = .ok (.iadd, 1) := by decide +kernel
theorem dX10_mapLength_9 : decode cX10_mapLength 9 = .ok (.ireturn, 1) := by decide +kernel
theorem dX10_mapByte_0 : decode cX10_mapByte 0 = .ok (.iload_n 1, 1) := by decide +kernel
theorem dX10_mapByte_1 : decode cX10_mapByte 1 = .ok (.ifCond .ge 5, 3) := by decide +kernel
theorem dX10_mapByte_4 : decode cX10_mapByte 4 = .ok (.iconst (-1), 1) := by decide +kernel
theorem dX10_mapByte_5 : decode cX10_mapByte 5 = .ok (.ireturn, 1) := by decide +kernel
theorem dX10_mapByte_6 : decode cX10_mapByte 6 = .ok (.iload_n 1, 1) := by decide +kernel
theorem dX10_mapByte_7 : decode cX10_mapByte 7 = .ok (.aload_n 0, 1) := by decide +kernel
theorem dX10_mapByte_8 : decode cX10_mapByte 8 = .ok (.getfield 35, 3) := by decide +kernel
theorem dX10_mapByte_11 : decode cX10_mapByte 11 = .ok (.getfield 89, 3) := by decide +kernel
theorem dX10_mapByte_14 : decode cX10_mapByte 14 = .ok (.if_icmp .le 6, 3) := by decide +kernel
theorem dX10_mapByte_17 : decode cX10_mapByte 17 = .ok (.bipush (-2), 2) := by decide +kernel
theorem dX10_mapByte_19 : decode cX10_mapByte 19 = .ok (.ireturn, 1) := by decide +kernel
theorem dX10_mapByte_20 : decode cX10_mapByte 20 = .ok (.iload_n 1, 1) := by decide +kernel
theorem dX10_mapByte_21 : decode cX10_mapByte 21 = .ok (.aload_n 0, 1) := by decide +kernel
theorem dX10_mapByte_22 : decode cX10_mapByte 22 = .ok (.getfield 35, 3) := by decide +kernel
theorem dX10_mapByte_25 : decode cX10_mapByte 25 = .ok (.getfield 89, 3) := by decide +kernel
theorem dX10_mapByte_28 : decode cX10_mapByte 28 = .ok (.if_icmp .ne 8, 3) := by decide +kernel
theorem dX10_mapByte_31 : decode cX10_mapByte 31 = .ok (.bipush 10, 2) := by decide +kernel
theorem dX10_mapByte_33 : decode cX10_mapByte 33 = .ok (.goto 18, 3) := by decide +kernel
theorem dX10_mapByte_36 : decode cX10_mapByte 36 = .ok (.aload_n 0, 1) := by decide +kernel
theorem dX10_mapByte_37 : decode cX10_mapByte 37 = .ok (.getfield 47, 3) := by decide +kernel
theorem dX10_mapByte_40 : decode cX10_mapByte 40 = .ok (.aload_n 0, 1) := by decide +kernel
theorem dX10_mapByte_41 : decode cX10_mapByte 41 = .ok (.getfield 47, 3) := by decide +kernel
theorem dX10_mapByte_44 : decode cX10_mapByte 44 = .ok (.iload_n 1, 1) := by decide +kernel
theorem dX10_mapByte_45 : decode cX10_mapByte 45 = .ok (.invokevirtual 160, 3) := by decide +kernel
theorem dX10_mapByte_48 : decode cX10_mapByte 48 = .ok (.invokevirtual 269, 3) := by decide +kernel
theorem dX10_mapByte_51 : decode cX10_mapByte 51 = .ok (.ireturn, 1) := by decide +kernel
theorem dX10_setupLength_0 : decode cX10_setupLength 0 = .ok (.aload_n 0, 1) := by decide +kernel
theorem dX10_setupLength_1 : decode cX10_setupLength 1 = .ok (.getfield 28, 3) := by decide +kernel
theorem dX10_setupLength_4 : decode cX10_setupLength 4 = .ok (.getfield 272, 3) := by decide +kernel
theorem dX10_setupLength_7 : decode cX10_setupLength 7 = .ok (.ireturn, 1) := by decide +kernel
theorem dX10_setupByte_0 : decode cX10_setupByte 0 = .ok (.iload_n 1, 1) := by decide +kernel
theorem dX10_setupByte_1 : decode cX10_setupByte 1 = .ok (.ifCond .ge 5, 3) := by decide +kernel
theorem dX10_setupByte_4 : decode cX10_setupByte 4 = .ok (.iconst (-1), 1) := by decide +kernel
theorem dX10_setupByte_5 : decode cX10_setupByte 5 = .ok (.ireturn, 1) := by decide +kernel
theorem dX10_setupByte_6 : decode cX10_setupByte 6 = .ok (.iload_n 1, 1) := by decide +kernel
theorem dX10_setupByte_7 : decode cX10_setupByte 7 = .ok (.aload_n 0, 1) := by decide +kernel
theorem dX10_setupByte_8 : decode cX10_setupByte 8 = .ok (.getfield 28, 3) := by decide +kernel
theorem dX10_setupByte_11 : decode cX10_setupByte 11 = .ok (.getfield 272, 3) := by decide +kernel
theorem dX10_setupByte_14 : decode cX10_setupByte 14 = .ok (.if_icmp .ge 15, 3) := by decide +kernel
theorem dX10_setupByte_17 : decode cX10_setupByte 17 = .ok (.aload_n 0, 1) := by decide +kernel
theorem dX10_setupByte_18 : decode cX10_setupByte 18 = .ok (.getfield 28, 3) := by decide +kernel
theorem dX10_setupByte_21 : decode cX10_setupByte 21 = .ok (.getfield 273, 3) := by decide +kernel
theorem dX10_setupByte_24 : decode cX10_setupByte 24 = .ok (.iload_n 1, 1) := by decide +kernel
theorem dX10_setupByte_25 : decode cX10_setupByte 25 = .ok (.baload, 1) := by decide +kernel
theorem dX10_setupByte_26 : decode cX10_setupByte 26 = .ok (.goto 5, 3) := by decide +kernel
theorem dX10_setupByte_29 : decode cX10_setupByte 29 = .ok (.bipush (-2), 2) := by decide +kernel
theorem dX10_setupByte_31 : decode cX10_setupByte 31 = .ok (.ireturn, 1) := by decide +kernel
theorem dX10_tapeLength_0 : decode cX10_tapeLength 0 = .ok (.aload_n 0, 1) := by decide +kernel
theorem dX10_tapeLength_1 : decode cX10_tapeLength 1 = .ok (.getfield 10, 3) := by decide +kernel
theorem dX10_tapeLength_4 : decode cX10_tapeLength 4 = .ok (.getfield 69, 3) := by decide +kernel
theorem dX10_tapeLength_7 : decode cX10_tapeLength 7 = .ok (.ireturn, 1) := by decide +kernel
theorem dX10_isWithin_0 : decode cX10_isWithin 0 = .ok (.iload_n 0, 1) := by decide +kernel
theorem dX10_isWithin_1 : decode cX10_isWithin 1 = .ok (.iload_n 1, 1) := by decide +kernel
theorem dX10_isWithin_2 : decode cX10_isWithin 2 = .ok (.if_icmp .lt 12, 3) := by decide +kernel
theorem dX10_isWithin_5 : decode cX10_isWithin 5 = .ok (.iload_n 0, 1) := by decide +kernel
theorem dX10_isWithin_6 : decode cX10_isWithin 6 = .ok (.iload_n 2, 1) := by decide +kernel
theorem dX10_isWithin_7 : decode cX10_isWithin 7 = .ok (.if_icmp .gt 7, 3) := by decide +kernel
theorem dX10_isWithin_10 : decode cX10_isWithin 10 = .ok (.iconst 1, 1) := by decide +kernel
theorem dX10_isWithin_11 : decode cX10_isWithin 11 = .ok (.goto 4, 3) := by decide +kernel
theorem dX10_isWithin_14 : decode cX10_isWithin 14 = .ok (.iconst 0, 1) := by decide +kernel
theorem dX10_isWithin_15 : decode cX10_isWithin 15 = .ok (.ireturn, 1) := by decide +kernel
theorem dX10_isLabel_0 : decode cX10_isLabel 0 = .ok (.iload_n 0, 1) := by decide +kernel
theorem dX10_isLabel_1 : decode cX10_isLabel 1 = .ok (.ifCond .eq 16, 3) := by decide +kernel
theorem dX10_isLabel_4 : decode cX10_isLabel 4 = .ok (.iload_n 0, 1) := by decide +kernel
theorem dX10_isLabel_5 : decode cX10_isLabel 5 = .ok (.sipush 1000, 3) := by decide +kernel
theorem dX10_isLabel_8 : decode cX10_isLabel 8 = .ok (.ldc_w 277, 3) := by decide +kernel
theorem dX10_isLabel_11 : decode cX10_isLabel 11 = .ok (.invokestatic 134, 3) := by decide +kernel
theorem dX10_isLabel_14 : decode cX10_isLabel 14 = .ok (.ifCond .eq 7, 3) := by decide +kernel
theorem dX10_isLabel_17 : decode cX10_isLabel 17 = .ok (.iconst 1, 1) := by decide +kernel
theorem dX10_isLabel_18 : decode cX10_isLabel 18 = .ok (.goto 4, 3) := by decide +kernel
theorem dX10_isLabel_21 : decode cX10_isLabel 21 = .ok (.iconst 0, 1) := by decide +kernel
theorem dX10_isLabel_22 : decode cX10_isLabel 22 = .ok (.ireturn, 1) := by decide +kernel
theorem dX10_isOutlet_0 : decode cX10_isOutlet 0 = .ok (.iload_n 0, 1) := by decide +kernel
theorem dX10_isOutlet_1 : decode cX10_isOutlet 1 = .ok (.iconst 3, 1) := by decide +kernel
theorem dX10_isOutlet_2 : decode cX10_isOutlet 2 = .ok (.bipush 6, 2) := by decide +kernel
theorem dX10_isOutlet_4 : decode cX10_isOutlet 4 = .ok (.invokestatic 134, 3) := by decide +kernel
theorem dX10_isOutlet_7 : decode cX10_isOutlet 7 = .ok (.ireturn, 1) := by decide +kernel
theorem dX10_hasExit_0 : decode cX10_hasExit 0 = .ok (.iload_n 0, 1) := by decide +kernel
theorem dX10_hasExit_1 : decode cX10_hasExit 1 = .ok (.invokestatic 239, 3) := by decide +kernel
theorem dX10_hasExit_4 : decode cX10_hasExit 4 = .ok (.ifCond .eq 12, 3) := by decide +kernel
theorem dX10_hasExit_7 : decode cX10_hasExit 7 = .ok (.iload_n 0, 1) := by decide +kernel
theorem dX10_hasExit_8 : decode cX10_hasExit 8 = .ok (.iconst 3, 1) := by decide +kernel
theorem dX10_hasExit_9 : decode cX10_hasExit 9 = .ok (.if_icmp .eq 7, 3) := by decide +kernel
theorem dX10_hasExit_12 : decode cX10_hasExit 12 = .ok (.iconst 1, 1) := by decide +kernel
theorem dX10_hasExit_13 : decode cX10_hasExit 13 = .ok (.goto 4, 3) := by decide +kernel
theorem dX10_hasExit_16 : decode cX10_hasExit 16 = .ok (.iconst 0, 1) := by decide +kernel
theorem dX10_hasExit_17 : decode cX10_hasExit 17 = .ok (.ireturn, 1) := by decide +kernel
theorem dX10_wordOf_0 : decode cX10_wordOf 0 = .ok (.iload_n 0, 1) := by decide +kernel
theorem dX10_wordOf_1 : decode cX10_wordOf 1 = .ok (.tableswitch 55 1 5 #[35, 39, 43, 47, 51], 35) := by decide +kernel
theorem dX10_wordOf_36 : decode cX10_wordOf 36 = .ok (.ldc_w 278, 3) := by decide +kernel
theorem dX10_wordOf_39 : decode cX10_wordOf 39 = .ok (.areturn, 1) := by decide +kernel
theorem dX10_wordOf_40 : decode cX10_wordOf 40 = .ok (.ldc_w 280, 3) := by decide +kernel
theorem dX10_wordOf_43 : decode cX10_wordOf 43 = .ok (.areturn, 1) := by decide +kernel
theorem dX10_wordOf_44 : decode cX10_wordOf 44 = .ok (.ldc_w 282, 3) := by decide +kernel
theorem dX10_wordOf_47 : decode cX10_wordOf 47 = .ok (.areturn, 1) := by decide +kernel
theorem dX10_wordOf_48 : decode cX10_wordOf 48 = .ok (.ldc_w 284, 3) := by decide +kernel
theorem dX10_wordOf_51 : decode cX10_wordOf 51 = .ok (.areturn, 1) := by decide +kernel
theorem dX10_wordOf_52 : decode cX10_wordOf 52 = .ok (.ldc_w 286, 3) := by decide +kernel
theorem dX10_wordOf_55 : decode cX10_wordOf 55 = .ok (.areturn, 1) := by decide +kernel
theorem dX10_wordOf_56 : decode cX10_wordOf 56 = .ok (.ldc_w 288, 3) := by decide +kernel
theorem dX10_wordOf_59 : decode cX10_wordOf 59 = .ok (.areturn, 1) := by decide +kernel
theorem dX10_sizeAt_0 : decode cX10_sizeAt 0 = .ok (.iload_n 1, 1) := by decide +kernel
theorem dX10_sizeAt_1 : decode cX10_sizeAt 1 = .ok (.iconst (-1), 1) := by decide +kernel
theorem dX10_sizeAt_2 : decode cX10_sizeAt 2 = .ok (.if_icmp .ne 7, 3) := by decide +kernel
theorem dX10_sizeAt_5 : decode cX10_sizeAt 5 = .ok (.iconst (-1), 1) := by decide +kernel
theorem dX10_sizeAt_6 : decode cX10_sizeAt 6 = .ok (.goto 15, 3) := by decide +kernel
theorem dX10_sizeAt_9 : decode cX10_sizeAt 9 = .ok (.aload_n 0, 1) := by decide +kernel
theorem dX10_sizeAt_10 : decode cX10_sizeAt 10 = .ok (.getfield 47, 3) := by decide +kernel
theorem dX10_sizeAt_13 : decode cX10_sizeAt 13 = .ok (.getfield 179, 3) := by decide +kernel
theorem dX10_sizeAt_16 : decode cX10_sizeAt 16 = .ok (.getfield 183, 3) := by decide +kernel
theorem dX10_sizeAt_19 : decode cX10_sizeAt 19 = .ok (.iload_n 1, 1) := by decide +kernel
theorem dX10_sizeAt_20 : decode cX10_sizeAt 20 = .ok (.iaload, 1) := by decide +kernel
theorem dX10_sizeAt_21 : decode cX10_sizeAt 21 = .ok (.ireturn, 1) := by decide +kernel
theorem dX10_addTrialBag_0 : decode cX10_addTrialBag 0 = .ok (.aload_n 0, 1) := by decide +kernel
theorem dX10_addTrialBag_1 : decode cX10_addTrialBag 1 = .ok (.getfield 51, 3) := by decide +kernel
theorem dX10_addTrialBag_4 : decode cX10_addTrialBag 4 = .ok (.aload_n 0, 1) := by decide +kernel
theorem dX10_addTrialBag_5 : decode cX10_addTrialBag 5 = .ok (.getfield 35, 3) := by decide +kernel
theorem dX10_addTrialBag_8 : decode cX10_addTrialBag 8 = .ok (.iconst 1, 1) := by decide +kernel
theorem dX10_addTrialBag_9 : decode cX10_addTrialBag 9 = .ok (.iload_n 2, 1) := by decide +kernel
theorem dX10_addTrialBag_10 : decode cX10_addTrialBag 10 = .ok (.invokevirtual 127, 3) := by decide +kernel
theorem dX10_addTrialBag_13 : decode cX10_addTrialBag 13 = .ok (.invokevirtual 149, 3) := by decide +kernel
theorem dX10_addTrialBag_16 : decode cX10_addTrialBag 16 = .ok (.istore_n 3, 1) := by decide +kernel
theorem dX10_addTrialBag_17 : decode cX10_addTrialBag 17 = .ok (.aload_n 0, 1) := by decide +kernel
theorem dX10_addTrialBag_18 : decode cX10_addTrialBag 18 = .ok (.getfield 35, 3) := by decide +kernel
theorem dX10_addTrialBag_21 : decode cX10_addTrialBag 21 = .ok (.getfield 103, 3) := by decide +kernel
theorem dX10_addTrialBag_24 : decode cX10_addTrialBag 24 = .ok (.getfield 115, 3) := by decide +kernel
theorem dX10_addTrialBag_27 : decode cX10_addTrialBag 27 = .ok (.iload_n 1, 1) := by decide +kernel
theorem dX10_addTrialBag_28 : decode cX10_addTrialBag 28 = .ok (.iaload, 1) := by decide +kernel
theorem dX10_addTrialBag_29 : decode cX10_addTrialBag 29 = .ok (.sipush 1000, 3) := by decide +kernel
theorem dX10_addTrialBag_32 : decode cX10_addTrialBag 32 = .ok (.imul, 1) := by decide +kernel
theorem dX10_addTrialBag_33 : decode cX10_addTrialBag 33 = .ok (.istore 4, 2) := by decide +kernel
theorem dX10_addTrialBag_35 : decode cX10_addTrialBag 35 = .ok (.aload_n 0, 1) := by decide +kernel
theorem dX10_addTrialBag_36 : decode cX10_addTrialBag 36 = .ok (.getfield 51, 3) := by decide +kernel
theorem dX10_addTrialBag_39 : decode cX10_addTrialBag 39 = .ok (.getfield 138, 3) := by decide +kernel
theorem dX10_addTrialBag_42 : decode cX10_addTrialBag 42 = .ok (.iload_n 3, 1) := by decide +kernel
theorem dX10_addTrialBag_43 : decode cX10_addTrialBag 43 = .ok (.iload 4, 2) := by decide +kernel
theorem dX10_addTrialBag_45 : decode cX10_addTrialBag 45 = .ok (.bipush 15, 2) := by decide +kernel
theorem dX10_addTrialBag_47 : decode cX10_addTrialBag 47 = .ok (.iconst 0, 1) := by decide +kernel
theorem dX10_addTrialBag_48 : decode cX10_addTrialBag 48 = .ok (.iconst 0, 1) := by decide +kernel
theorem dX10_addTrialBag_49 : decode cX10_addTrialBag 49 = .ok (.iconst 0, 1) := by decide +kernel
theorem dX10_addTrialBag_50 : decode cX10_addTrialBag 50 = .ok (.invokevirtual 153, 3) := by decide +kernel
theorem dX10_addTrialBag_53 : decode cX10_addTrialBag 53 = .ok (.iload_n 3, 1) := by decide +kernel
theorem dX10_addTrialBag_54 : decode cX10_addTrialBag 54 = .ok (.ireturn, 1) := by decide +kernel
theorem dX10_arrivesInTime_0 : decode cX10_arrivesInTime 0 = .ok (.aload_n 0, 1) := by decide +kernel
theorem dX10_arrivesInTime_1 : decode cX10_arrivesInTime 1 = .ok (.getfield 35, 3) := by decide +kernel
theorem dX10_arrivesInTime_4 : decode cX10_arrivesInTime 4 = .ok (.getfield 103, 3) := by decide +kernel
theorem dX10_arrivesInTime_7 : decode cX10_arrivesInTime 7 = .ok (.getfield 124, 3) := by decide +kernel
theorem dX10_arrivesInTime_10 : decode cX10_arrivesInTime 10 = .ok (.iload_n 1, 1) := by decide +kernel
theorem dX10_arrivesInTime_11 : decode cX10_arrivesInTime 11 = .ok (.iaload, 1) := by decide +kernel
theorem dX10_arrivesInTime_12 : decode cX10_arrivesInTime 12 = .ok (.iconst 1, 1) := by decide +kernel
theorem dX10_arrivesInTime_13 : decode cX10_arrivesInTime 13 = .ok (.isub, 1) := by decide +kernel
theorem dX10_arrivesInTime_14 : decode cX10_arrivesInTime 14 = .ok (.aload_n 0, 1) := by decide +kernel
theorem dX10_arrivesInTime_15 : decode cX10_arrivesInTime 15 = .ok (.getfield 47, 3) := by decide +kernel
theorem dX10_arrivesInTime_18 : decode cX10_arrivesInTime 18 = .ok (.getfield 118, 3) := by decide +kernel
theorem dX10_arrivesInTime_21 : decode cX10_arrivesInTime 21 = .ok (.iload_n 3, 1) := by decide +kernel
theorem dX10_arrivesInTime_22 : decode cX10_arrivesInTime 22 = .ok (.iadd, 1) := by decide +kernel
theorem dX10_arrivesInTime_23 : decode cX10_arrivesInTime 23 = .ok (.isub, 1) := by decide +kernel
theorem dX10_arrivesInTime_24 : decode cX10_arrivesInTime 24 = .ok (.istore 4, 2) := by decide +kernel
theorem dX10_arrivesInTime_26 : decode cX10_arrivesInTime 26 = .ok (.iload 4, 2) := by decide +kernel
theorem dX10_arrivesInTime_28 : decode cX10_arrivesInTime 28 = .ok (.iconst 1, 1) := by decide +kernel
theorem dX10_arrivesInTime_29 : decode cX10_arrivesInTime 29 = .ok (.if_icmp .ge 5, 3) := by decide +kernel
theorem dX10_arrivesInTime_32 : decode cX10_arrivesInTime 32 = .ok (.iconst 0, 1) := by decide +kernel
theorem dX10_arrivesInTime_33 : decode cX10_arrivesInTime 33 = .ok (.ireturn, 1) := by decide +kernel
theorem dX10_arrivesInTime_34 : decode cX10_arrivesInTime 34 = .ok (.aload_n 0, 1) := by decide +kernel
theorem dX10_arrivesInTime_35 : decode cX10_arrivesInTime 35 = .ok (.getfield 51, 3) := by decide +kernel
theorem dX10_arrivesInTime_38 : decode cX10_arrivesInTime 38 = .ok (.aload_n 0, 1) := by decide +kernel
theorem dX10_arrivesInTime_39 : decode cX10_arrivesInTime 39 = .ok (.getfield 47, 3) := by decide +kernel
theorem dX10_arrivesInTime_42 : decode cX10_arrivesInTime 42 = .ok (.invokevirtual 257, 3) := by decide +kernel
theorem dX10_arrivesInTime_45 : decode cX10_arrivesInTime 45 = .ok (.aload_n 0, 1) := by decide +kernel
theorem dX10_arrivesInTime_46 : decode cX10_arrivesInTime 46 = .ok (.getfield 51, 3) := by decide +kernel
theorem dX10_arrivesInTime_49 : decode cX10_arrivesInTime 49 = .ok (.iload_n 3, 1) := by decide +kernel
theorem dX10_arrivesInTime_50 : decode cX10_arrivesInTime 50 = .ok (.invokevirtual 157, 3) := by decide +kernel
theorem dX10_arrivesInTime_53 : decode cX10_arrivesInTime 53 = .ok (.pop, 1) := by decide +kernel
theorem dX10_arrivesInTime_54 : decode cX10_arrivesInTime 54 = .ok (.aload_n 0, 1) := by decide +kernel
theorem dX10_arrivesInTime_55 : decode cX10_arrivesInTime 55 = .ok (.iload_n 1, 1) := by decide +kernel
theorem dX10_arrivesInTime_56 : decode cX10_arrivesInTime 56 = .ok (.iload_n 2, 1) := by decide +kernel
theorem dX10_arrivesInTime_57 : decode cX10_arrivesInTime 57 = .ok (.invokevirtual 263, 3) := by decide +kernel
theorem dX10_arrivesInTime_60 : decode cX10_arrivesInTime 60 = .ok (.istore 5, 2) := by decide +kernel
theorem dX10_arrivesInTime_62 : decode cX10_arrivesInTime 62 = .ok (.aload_n 0, 1) := by decide +kernel
theorem dX10_arrivesInTime_63 : decode cX10_arrivesInTime 63 = .ok (.getfield 51, 3) := by decide +kernel
theorem dX10_arrivesInTime_66 : decode cX10_arrivesInTime 66 = .ok (.iload 5, 2) := by decide +kernel
theorem dX10_arrivesInTime_68 : decode cX10_arrivesInTime 68 = .ok (.sipush 300, 3) := by decide +kernel
theorem dX10_arrivesInTime_71 : decode cX10_arrivesInTime 71 = .ok (.iload 4, 2) := by decide +kernel
theorem dX10_arrivesInTime_73 : decode cX10_arrivesInTime 73 = .ok (.invokestatic 290, 3) := by decide +kernel
theorem dX10_arrivesInTime_76 : decode cX10_arrivesInTime 76 = .ok (.invokevirtual 260, 3) := by decide +kernel
theorem dX10_arrivesInTime_79 : decode cX10_arrivesInTime 79 = .ok (.istore 6, 2) := by decide +kernel
theorem dX10_arrivesInTime_81 : decode cX10_arrivesInTime 81 = .ok (.iload 6, 2) := by decide +kernel
theorem dX10_arrivesInTime_83 : decode cX10_arrivesInTime 83 = .ok (.bipush (-2), 2) := by decide +kernel
theorem dX10_arrivesInTime_85 : decode cX10_arrivesInTime 85 = .ok (.if_icmp .eq 35, 3) := by decide +kernel
theorem dX10_arrivesInTime_88 : decode cX10_arrivesInTime 88 = .ok (.aload_n 0, 1) := by decide +kernel
theorem dX10_arrivesInTime_89 : decode cX10_arrivesInTime 89 = .ok (.getfield 51, 3) := by decide +kernel
theorem dX10_arrivesInTime_92 : decode cX10_arrivesInTime 92 = .ok (.getfield 138, 3) := by decide +kernel
theorem dX10_arrivesInTime_95 : decode cX10_arrivesInTime 95 = .ok (.getfield 218, 3) := by decide +kernel
theorem dX10_arrivesInTime_98 : decode cX10_arrivesInTime 98 = .ok (.iload 5, 2) := by decide +kernel
theorem dX10_arrivesInTime_100 : decode cX10_arrivesInTime 100 = .ok (.iaload, 1) := by decide +kernel
theorem dX10_arrivesInTime_101 : decode cX10_arrivesInTime 101 = .ok (.aload_n 0, 1) := by decide +kernel
theorem dX10_arrivesInTime_102 : decode cX10_arrivesInTime 102 = .ok (.getfield 35, 3) := by decide +kernel
theorem dX10_arrivesInTime_105 : decode cX10_arrivesInTime 105 = .ok (.getfield 103, 3) := by decide +kernel
theorem dX10_arrivesInTime_108 : decode cX10_arrivesInTime 108 = .ok (.getfield 295, 3) := by decide +kernel
theorem dX10_arrivesInTime_111 : decode cX10_arrivesInTime 111 = .ok (.iload_n 1, 1) := by decide +kernel
theorem dX10_arrivesInTime_112 : decode cX10_arrivesInTime 112 = .ok (.iaload, 1) := by decide +kernel
theorem dX10_arrivesInTime_113 : decode cX10_arrivesInTime 113 = .ok (.if_icmp .ne 7, 3) := by decide +kernel
theorem dX10_arrivesInTime_116 : decode cX10_arrivesInTime 116 = .ok (.iconst 1, 1) := by decide +kernel
theorem dX10_arrivesInTime_117 : decode cX10_arrivesInTime 117 = .ok (.goto 4, 3) := by decide +kernel
theorem dX10_arrivesInTime_120 : decode cX10_arrivesInTime 120 = .ok (.iconst 0, 1) := by decide +kernel
theorem dX10_arrivesInTime_121 : decode cX10_arrivesInTime 121 = .ok (.ireturn, 1) := by decide +kernel
theorem dX11_init_0 : decode cX11_init 0 = .ok (.aload_n 0, 1) := by decide +kernel
theorem dX11_init_1 : decode cX11_init 1 = .ok (.invokespecial 1, 3) := by decide +kernel
theorem dX11_init_4 : decode cX11_init 4 = .ok (.aload_n 0, 1) := by decide +kernel
theorem dX11_init_5 : decode cX11_init 5 = .ok (.sipush 900, 3) := by decide +kernel
theorem dX11_init_8 : decode cX11_init 8 = .ok (.newarray .byte, 2) := by decide +kernel
theorem dX11_init_10 : decode cX11_init 10 = .ok (.putfield 7, 3) := by decide +kernel
theorem dX11_init_13 : decode cX11_init 13 = .ok (.aload_n 0, 1) := by decide +kernel
theorem dX11_init_14 : decode cX11_init 14 = .ok (.bipush (-2), 2) := by decide +kernel
theorem dX11_init_16 : decode cX11_init 16 = .ok (.putfield 13, 3) := by decide +kernel
theorem dX11_init_19 : decode cX11_init 19 = .ok (.aload_n 0, 1) := by decide +kernel
theorem dX11_init_20 : decode cX11_init 20 = .ok (.sipush 400, 3) := by decide +kernel
theorem dX11_init_23 : decode cX11_init 23 = .ok (.newarray .int, 2) := by decide +kernel
theorem dX11_init_25 : decode cX11_init 25 = .ok (.putfield 17, 3) := by decide +kernel
theorem dX11_init_28 : decode cX11_init 28 = .ok (.aload_n 0, 1) := by decide +kernel
theorem dX11_init_29 : decode cX11_init 29 = .ok (.sipush 400, 3) := by decide +kernel
theorem dX11_init_32 : decode cX11_init 32 = .ok (.newarray .int, 2) := by decide +kernel
theorem dX11_init_34 : decode cX11_init 34 = .ok (.putfield 21, 3) := by decide +kernel
theorem dX11_init_37 : decode cX11_init 37 = .ok (.aload_n 0, 1) := by decide +kernel
theorem dX11_init_38 : decode cX11_init 38 = .ok (.sipush 1200, 3) := by decide +kernel
theorem dX11_init_41 : decode cX11_init 41 = .ok (.newarray .int, 2) := by decide +kernel
theorem dX11_init_43 : decode cX11_init 43 = .ok (.putfield 24, 3) := by decide +kernel
theorem dX11_init_46 : decode cX11_init 46 = .ok (.aload_n 0, 1) := by decide +kernel
theorem dX11_init_47 : decode cX11_init 47 = .ok (.sipush 1200, 3) := by decide +kernel
theorem dX11_init_50 : decode cX11_init 50 = .ok (.newarray .int, 2) := by decide +kernel
theorem dX11_init_52 : decode cX11_init 52 = .ok (.putfield 27, 3) := by decide +kernel
theorem dX11_init_55 : decode cX11_init 55 = .ok (.aload_n 0, 1) := by decide +kernel
theorem dX11_init_56 : decode cX11_init 56 = .ok (.sipush 12000, 3) := by decide +kernel
theorem dX11_init_59 : decode cX11_init 59 = .ok (.newarray .int, 2) := by decide +kernel
theorem dX11_init_61 : decode cX11_init 61 = .ok (.putfield 30, 3) := by decide +kernel
theorem dX11_init_64 : decode cX11_init 64 = .ok (.aload_n 0, 1) := by decide +kernel
theorem dX11_init_65 : decode cX11_init 65 = .ok (.bipush 100, 2) := by decide +kernel
theorem dX11_init_67 : decode cX11_init 67 = .ok (.newarray .int, 2) := by decide +kernel
theorem dX11_init_69 : decode cX11_init 69 = .ok (.putfield 33, 3) := by decide +kernel
theorem dX11_init_72 : decode cX11_init 72 = .ok (.aload_n 0, 1) := by decide +kernel
theorem dX11_init_73 : decode cX11_init 73 = .ok (.bipush 100, 2) := by decide +kernel
theorem dX11_init_75 : decode cX11_init 75 = .ok (.newarray .int, 2) := by decide +kernel
theorem dX11_init_77 : decode cX11_init 77 = .ok (.putfield 36, 3) := by decide +kernel
theorem dX11_init_80 : decode cX11_init 80 = .ok (.aload_n 0, 1) := by decide +kernel
theorem dX11_init_81 : decode cX11_init 81 = .ok (.bipush 100, 2) := by decide +kernel
theorem dX11_init_83 : decode cX11_init 83 = .ok (.newarray .int, 2) := by decide +kernel
theorem dX11_init_85 : decode cX11_init 85 = .ok (.putfield 39, 3) := by decide +kernel
theorem dX11_init_88 : decode cX11_init 88 = .ok (.aload_n 0, 1) := by decide +kernel
theorem dX11_init_89 : decode cX11_init 89 = .ok (.bipush 100, 2) := by decide +kernel
theorem dX11_init_91 : decode cX11_init 91 = .ok (.newarray .int, 2) := by decide +kernel
theorem dX11_init_93 : decode cX11_init 93 = .ok (.putfield 42, 3) := by decide +kernel
