theorem dX11_ticksFor_30 : decode cX11_ticksFor 30 = .ok (.ifCond .eq 7, 3) := by decide +kernel
theorem dX11_ticksFor_33 : decode cX11_ticksFor 33 = .ok (.iload_n 3, 1) := by decide +kernel
theorem dX11_ticksFor_34 : decode cX11_ticksFor 34 = .ok (.goto 5, 3) := by decide +kernel
theorem dX11_ticksFor_37 : decode cX11_ticksFor 37 = .ok (.bipush (-2), 2) := by decide +kernel
theorem dX11_ticksFor_39 : decode cX11_ticksFor 39 = .ok (.ireturn, 1) := by decide +kernel
theorem dX11_ticksToChute_0 : decode cX11_ticksToChute 0 = .ok (.aload_n 0, 1) := by decide +kernel
theorem dX11_ticksToChute_1 : decode cX11_ticksToChute 1 = .ok (.iload_n 1, 1) := by decide +kernel
theorem dX11_ticksToChute_2 : decode cX11_ticksToChute 2 = .ok (.invokevirtual 324, 3) := by decide +kernel
theorem dX11_ticksToChute_5 : decode cX11_ticksToChute 5 = .ok (.ifCond .eq 15, 3) := by decide +kernel
theorem dX11_ticksToChute_8 : decode cX11_ticksToChute 8 = .ok (.iload_n 2, 1) := by decide +kernel
theorem dX11_ticksToChute_9 : decode cX11_ticksToChute 9 = .ok (.i2l, 1) := by decide +kernel
theorem dX11_ticksToChute_10 : decode cX11_ticksToChute 10 = .ok (.lconst 1, 1) := by decide +kernel
theorem dX11_ticksToChute_11 : decode cX11_ticksToChute 11 = .ok (.ldc2_w 307, 3) := by decide +kernel
theorem dX11_ticksToChute_14 : decode cX11_ticksToChute 14 = .ok (.invokestatic 88, 3) := by decide +kernel
theorem dX11_ticksToChute_17 : decode cX11_ticksToChute 17 = .ok (.ifCond .ne 5, 3) := by decide +kernel
theorem dX11_ticksToChute_20 : decode cX11_ticksToChute 20 = .ok (.iconst (-1), 1) := by decide +kernel
theorem dX11_ticksToChute_21 : decode cX11_ticksToChute 21 = .ok (.ireturn, 1) := by decide +kernel
theorem dX11_ticksToChute_22 : decode cX11_ticksToChute 22 = .ok (.aload_n 0, 1) := by decide +kernel
theorem dX11_ticksToChute_23 : decode cX11_ticksToChute 23 = .ok (.invokevirtual 338, 3) := by decide +kernel
theorem dX11_ticksToChute_26 : decode cX11_ticksToChute 26 = .ok (.aload_n 0, 1) := by decide +kernel
theorem dX11_ticksToChute_27 : decode cX11_ticksToChute 27 = .ok (.iload_n 1, 1) := by decide +kernel
theorem dX11_ticksToChute_28 : decode cX11_ticksToChute 28 = .ok (.iload_n 2, 1) := by decide +kernel
theorem dX11_ticksToChute_29 : decode cX11_ticksToChute 29 = .ok (.invokevirtual 341, 3) := by decide +kernel
theorem dX11_ticksToChute_32 : decode cX11_ticksToChute 32 = .ok (.istore_n 3, 1) := by decide +kernel
theorem dX11_ticksToChute_33 : decode cX11_ticksToChute 33 = .ok (.aload_n 0, 1) := by decide +kernel
theorem dX11_ticksToChute_34 : decode cX11_ticksToChute 34 = .ok (.invokevirtual 344, 3) := by decide +kernel
theorem dX11_ticksToChute_37 : decode cX11_ticksToChute 37 = .ok (.iload_n 3, 1) := by decide +kernel
theorem dX11_ticksToChute_38 : decode cX11_ticksToChute 38 = .ok (.ireturn, 1) := by decide +kernel
theorem dX11_forecastState_0 : decode cX11_forecastState 0 = .ok (.aload_n 0, 1) := by decide +kernel
theorem dX11_forecastState_1 : decode cX11_forecastState 1 = .ok (.iload_n 1, 1) := by decide +kernel
theorem dX11_forecastState_2 : decode cX11_forecastState 2 = .ok (.invokevirtual 324, 3) := by decide +kernel
theorem dX11_forecastState_5 : decode cX11_forecastState 5 = .ok (.ifCond .eq 15, 3) := by decide +kernel
theorem dX11_forecastState_8 : decode cX11_forecastState 8 = .ok (.iload_n 2, 1) := by decide +kernel
theorem dX11_forecastState_9 : decode cX11_forecastState 9 = .ok (.i2l, 1) := by decide +kernel
theorem dX11_forecastState_10 : decode cX11_forecastState 10 = .ok (.lconst 1, 1) := by decide +kernel
theorem dX11_forecastState_11 : decode cX11_forecastState 11 = .ok (.ldc2_w 307, 3) := by decide +kernel
theorem dX11_forecastState_14 : decode cX11_forecastState 14 = .ok (.invokestatic 88, 3) := by decide +kernel
theorem dX11_forecastState_17 : decode cX11_forecastState 17 = .ok (.ifCond .ne 5, 3) := by decide +kernel
theorem dX11_forecastState_20 : decode cX11_forecastState 20 = .ok (.iconst (-1), 1) := by decide +kernel
theorem dX11_forecastState_21 : decode cX11_forecastState 21 = .ok (.ireturn, 1) := by decide +kernel
theorem dX11_forecastState_22 : decode cX11_forecastState 22 = .ok (.aload_n 0, 1) := by decide +kernel
theorem dX11_forecastState_23 : decode cX11_forecastState 23 = .ok (.invokevirtual 338, 3) := by decide +kernel
theorem dX11_forecastState_26 : decode cX11_forecastState 26 = .ok (.iconst 0, 1) := by decide +kernel
theorem dX11_forecastState_27 : decode cX11_forecastState 27 = .ok (.istore_n 3, 1) := by decide +kernel
theorem dX11_forecastState_28 : decode cX11_forecastState 28 = .ok (.iload_n 3, 1) := by decide +kernel
theorem dX11_forecastState_29 : decode cX11_forecastState 29 = .ok (.iload_n 2, 1) := by decide +kernel
theorem dX11_forecastState_30 : decode cX11_forecastState 30 = .ok (.if_icmp .ge 13, 3) := by decide +kernel
theorem dX11_forecastState_33 : decode cX11_forecastState 33 = .ok (.aload_n 0, 1) := by decide +kernel
theorem dX11_forecastState_34 : decode cX11_forecastState 34 = .ok (.invokevirtual 310, 3) := by decide +kernel
theorem dX11_forecastState_37 : decode cX11_forecastState 37 = .ok (.iinc 3 1, 3) := by decide +kernel
theorem dX11_forecastState_40 : decode cX11_forecastState 40 = .ok (.goto (-12), 3) := by decide +kernel
theorem dX11_forecastState_43 : decode cX11_forecastState 43 = .ok (.aload_n 0, 1) := by decide +kernel
theorem dX11_forecastState_44 : decode cX11_forecastState 44 = .ok (.iload_n 1, 1) := by decide +kernel
theorem dX11_forecastState_45 : decode cX11_forecastState 45 = .ok (.iconst 0, 1) := by decide +kernel
theorem dX11_forecastState_46 : decode cX11_forecastState 46 = .ok (.invokevirtual 198, 3) := by decide +kernel
theorem dX11_forecastState_49 : decode cX11_forecastState 49 = .ok (.istore_n 3, 1) := by decide +kernel
theorem dX11_forecastState_50 : decode cX11_forecastState 50 = .ok (.aload_n 0, 1) := by decide +kernel
theorem dX11_forecastState_51 : decode cX11_forecastState 51 = .ok (.invokevirtual 344, 3) := by decide +kernel
theorem dX11_forecastState_54 : decode cX11_forecastState 54 = .ok (.iload_n 3, 1) := by decide +kernel
theorem dX11_forecastState_55 : decode cX11_forecastState 55 = .ok (.ireturn, 1) := by decide +kernel
theorem dX11_forecastDelivered_0 : decode cX11_forecastDelivered 0 = .ok (.iload_n 1, 1) := by decide +kernel
theorem dX11_forecastDelivered_1 : decode cX11_forecastDelivered 1 = .ok (.i2l, 1) := by decide +kernel
theorem dX11_forecastDelivered_2 : decode cX11_forecastDelivered 2 = .ok (.lconst 1, 1) := by decide +kernel
theorem dX11_forecastDelivered_3 : decode cX11_forecastDelivered 3 = .ok (.ldc2_w 307, 3) := by decide +kernel
theorem dX11_forecastDelivered_6 : decode cX11_forecastDelivered 6 = .ok (.invokestatic 88, 3) := by decide +kernel
theorem dX11_forecastDelivered_9 : decode cX11_forecastDelivered 9 = .ok (.ifCond .ne 5, 3) := by decide +kernel
theorem dX11_forecastDelivered_12 : decode cX11_forecastDelivered 12 = .ok (.iconst (-1), 1) := by decide +kernel
theorem dX11_forecastDelivered_13 : decode cX11_forecastDelivered 13 = .ok (.ireturn, 1) := by decide +kernel
theorem dX11_forecastDelivered_14 : decode cX11_forecastDelivered 14 = .ok (.aload_n 0, 1) := by decide +kernel
theorem dX11_forecastDelivered_15 : decode cX11_forecastDelivered 15 = .ok (.invokevirtual 338, 3) := by decide +kernel
theorem dX11_forecastDelivered_18 : decode cX11_forecastDelivered 18 = .ok (.iconst 0, 1) := by decide +kernel
theorem dX11_forecastDelivered_19 : decode cX11_forecastDelivered 19 = .ok (.istore_n 2, 1) := by decide +kernel
theorem dX11_forecastDelivered_20 : decode cX11_forecastDelivered 20 = .ok (.iload_n 2, 1) := by decide +kernel
theorem dX11_forecastDelivered_21 : decode cX11_forecastDelivered 21 = .ok (.iload_n 1, 1) := by decide +kernel
theorem dX11_forecastDelivered_22 : decode cX11_forecastDelivered 22 = .ok (.if_icmp .ge 13, 3) := by decide +kernel
theorem dX11_forecastDelivered_25 : decode cX11_forecastDelivered 25 = .ok (.aload_n 0, 1) := by decide +kernel
theorem dX11_forecastDelivered_26 : decode cX11_forecastDelivered 26 = .ok (.invokevirtual 310, 3) := by decide +kernel
theorem dX11_forecastDelivered_29 : decode cX11_forecastDelivered 29 = .ok (.iinc 2 1, 3) := by decide +kernel
theorem dX11_forecastDelivered_32 : decode cX11_forecastDelivered 32 = .ok (.goto (-12), 3) := by decide +kernel
theorem dX11_forecastDelivered_35 : decode cX11_forecastDelivered 35 = .ok (.aload_n 0, 1) := by decide +kernel
theorem dX11_forecastDelivered_36 : decode cX11_forecastDelivered 36 = .ok (.getfield 24, 3) := by decide +kernel
theorem dX11_forecastDelivered_39 : decode cX11_forecastDelivered 39 = .ok (.bipush 10, 2) := by decide +kernel
theorem dX11_forecastDelivered_41 : decode cX11_forecastDelivered 41 = .ok (.iaload, 1) := by decide +kernel
theorem dX11_forecastDelivered_42 : decode cX11_forecastDelivered 42 = .ok (.aload_n 0, 1) := by decide +kernel
theorem dX11_forecastDelivered_43 : decode cX11_forecastDelivered 43 = .ok (.getfield 27, 3) := by decide +kernel
theorem dX11_forecastDelivered_46 : decode cX11_forecastDelivered 46 = .ok (.bipush 10, 2) := by decide +kernel
theorem dX11_forecastDelivered_48 : decode cX11_forecastDelivered 48 = .ok (.iaload, 1) := by decide +kernel
theorem dX11_forecastDelivered_49 : decode cX11_forecastDelivered 49 = .ok (.isub, 1) := by decide +kernel
theorem dX11_forecastDelivered_50 : decode cX11_forecastDelivered 50 = .ok (.istore_n 2, 1) := by decide +kernel
theorem dX11_forecastDelivered_51 : decode cX11_forecastDelivered 51 = .ok (.aload_n 0, 1) := by decide +kernel
theorem dX11_forecastDelivered_52 : decode cX11_forecastDelivered 52 = .ok (.invokevirtual 344, 3) := by decide +kernel
theorem dX11_forecastDelivered_55 : decode cX11_forecastDelivered 55 = .ok (.iload_n 2, 1) := by decide +kernel
theorem dX11_forecastDelivered_56 : decode cX11_forecastDelivered 56 = .ok (.ireturn, 1) := by decide +kernel
theorem dX11_additional_0 : decode cX11_additional 0 = .ok (.aload_n 0, 1) := by decide +kernel
theorem dX11_additional_1 : decode cX11_additional 1 = .ok (.iload_n 2, 1) := by decide +kernel
theorem dX11_additional_2 : decode cX11_additional 2 = .ok (.sipush 1000, 3) := by decide +kernel
theorem dX11_additional_5 : decode cX11_additional 5 = .ok (.aload_n 0, 1) := by decide +kernel
theorem dX11_additional_6 : decode cX11_additional 6 = .ok (.iload_n 1, 1) := by decide +kernel
theorem dX11_additional_7 : decode cX11_additional 7 = .ok (.iconst 0, 1) := by decide +kernel
theorem dX11_additional_8 : decode cX11_additional 8 = .ok (.invokevirtual 186, 3) := by decide +kernel
theorem dX11_additional_11 : decode cX11_additional 11 = .ok (.imul, 1) := by decide +kernel
theorem dX11_additional_12 : decode cX11_additional 12 = .ok (.bipush 15, 2) := by decide +kernel
theorem dX11_additional_14 : decode cX11_additional 14 = .ok (.iconst 0, 1) := by decide +kernel
theorem dX11_additional_15 : decode cX11_additional 15 = .ok (.iconst 0, 1) := by decide +kernel
theorem dX11_additional_16 : decode cX11_additional 16 = .ok (.iconst 0, 1) := by decide +kernel
theorem dX11_additional_17 : decode cX11_additional 17 = .ok (.invokevirtual 303, 3) := by decide +kernel
theorem dX11_additional_20 : decode cX11_additional 20 = .ok (.ireturn, 1) := by decide +kernel
theorem dX11_bestInlet_0 : decode cX11_bestInlet 0 = .ok (.aload_n 0, 1) := by decide +kernel
theorem dX11_bestInlet_1 : decode cX11_bestInlet 1 = .ok (.iload_n 1, 1) := by decide +kernel
theorem dX11_bestInlet_2 : decode cX11_bestInlet 2 = .ok (.invokevirtual 318, 3) := by decide +kernel
theorem dX11_bestInlet_5 : decode cX11_bestInlet 5 = .ok (.ifCond .eq 15, 3) := by decide +kernel
theorem dX11_bestInlet_8 : decode cX11_bestInlet 8 = .ok (.iload_n 2, 1) := by decide +kernel
theorem dX11_bestInlet_9 : decode cX11_bestInlet 9 = .ok (.i2l, 1) := by decide +kernel
theorem dX11_bestInlet_10 : decode cX11_bestInlet 10 = .ok (.lconst 1, 1) := by decide +kernel
theorem dX11_bestInlet_11 : decode cX11_bestInlet 11 = .ok (.ldc2_w 307, 3) := by decide +kernel
theorem dX11_bestInlet_14 : decode cX11_bestInlet 14 = .ok (.invokestatic 88, 3) := by decide +kernel
theorem dX11_bestInlet_17 : decode cX11_bestInlet 17 = .ok (.ifCond .ne 5, 3) := by decide +kernel
theorem dX11_bestInlet_20 : decode cX11_bestInlet 20 = .ok (.iconst (-1), 1) := by decide +kernel
theorem dX11_bestInlet_21 : decode cX11_bestInlet 21 = .ok (.ireturn, 1) := by decide +kernel
theorem dX11_bestInlet_22 : decode cX11_bestInlet 22 = .ok (.aload_n 0, 1) := by decide +kernel
theorem dX11_bestInlet_23 : decode cX11_bestInlet 23 = .ok (.getfield 24, 3) := by decide +kernel
theorem dX11_bestInlet_26 : decode cX11_bestInlet 26 = .ok (.iconst 1, 1) := by decide +kernel
theorem dX11_bestInlet_27 : decode cX11_bestInlet 27 = .ok (.iaload, 1) := by decide +kernel
theorem dX11_bestInlet_28 : decode cX11_bestInlet 28 = .ok (.bipush 100, 2) := by decide +kernel
theorem dX11_bestInlet_30 : decode cX11_bestInlet 30 = .ok (.if_icmp .ne 6, 3) := by decide +kernel
theorem dX11_bestInlet_33 : decode cX11_bestInlet 33 = .ok (.bipush (-2), 2) := by decide +kernel
theorem dX11_bestInlet_35 : decode cX11_bestInlet 35 = .ok (.ireturn, 1) := by decide +kernel
theorem dX11_bestInlet_36 : decode cX11_bestInlet 36 = .ok (.bipush (-2), 2) := by decide +kernel
theorem dX11_bestInlet_38 : decode cX11_bestInlet 38 = .ok (.istore_n 3, 1) := by decide +kernel
theorem dX11_bestInlet_39 : decode cX11_bestInlet 39 = .ok (.iconst 0, 1) := by decide +kernel
theorem dX11_bestInlet_40 : decode cX11_bestInlet 40 = .ok (.istore 4, 2) := by decide +kernel
theorem dX11_bestInlet_42 : decode cX11_bestInlet 42 = .ok (.iconst 0, 1) := by decide +kernel
theorem dX11_bestInlet_43 : decode cX11_bestInlet 43 = .ok (.istore 5, 2) := by decide +kernel
theorem dX11_bestInlet_45 : decode cX11_bestInlet 45 = .ok (.iload 5, 2) := by decide +kernel
theorem dX11_bestInlet_47 : decode cX11_bestInlet 47 = .ok (.aload_n 0, 1) := by decide +kernel
theorem dX11_bestInlet_48 : decode cX11_bestInlet 48 = .ok (.iconst 1, 1) := by decide +kernel
theorem dX11_bestInlet_49 : decode cX11_bestInlet 49 = .ok (.invokevirtual 183, 3) := by decide +kernel
theorem dX11_bestInlet_52 : decode cX11_bestInlet 52 = .ok (.if_icmp .ge 54, 3) := by decide +kernel
theorem dX11_bestInlet_55 : decode cX11_bestInlet 55 = .ok (.aload_n 0, 1) := by decide +kernel
theorem dX11_bestInlet_56 : decode cX11_bestInlet 56 = .ok (.invokevirtual 338, 3) := by decide +kernel
theorem dX11_bestInlet_59 : decode cX11_bestInlet 59 = .ok (.aload_n 0, 1) := by decide +kernel
theorem dX11_bestInlet_60 : decode cX11_bestInlet 60 = .ok (.aload_n 0, 1) := by decide +kernel
theorem dX11_bestInlet_61 : decode cX11_bestInlet 61 = .ok (.iload_n 1, 1) := by decide +kernel
theorem dX11_bestInlet_62 : decode cX11_bestInlet 62 = .ok (.iload 5, 2) := by decide +kernel
theorem dX11_bestInlet_64 : decode cX11_bestInlet 64 = .ok (.invokevirtual 347, 3) := by decide +kernel
theorem dX11_bestInlet_67 : decode cX11_bestInlet 67 = .ok (.iload_n 2, 1) := by decide +kernel
theorem dX11_bestInlet_68 : decode cX11_bestInlet 68 = .ok (.invokevirtual 341, 3) := by decide +kernel
theorem dX11_bestInlet_71 : decode cX11_bestInlet 71 = .ok (.istore 6, 2) := by decide +kernel
theorem dX11_bestInlet_73 : decode cX11_bestInlet 73 = .ok (.aload_n 0, 1) := by decide +kernel
theorem dX11_bestInlet_74 : decode cX11_bestInlet 74 = .ok (.invokevirtual 344, 3) := by decide +kernel
theorem dX11_bestInlet_77 : decode cX11_bestInlet 77 = .ok (.iload 6, 2) := by decide +kernel
theorem dX11_bestInlet_79 : decode cX11_bestInlet 79 = .ok (.ifCond .lt 21, 3) := by decide +kernel
theorem dX11_bestInlet_82 : decode cX11_bestInlet 82 = .ok (.iload_n 3, 1) := by decide +kernel
theorem dX11_bestInlet_83 : decode cX11_bestInlet 83 = .ok (.ifCond .lt 10, 3) := by decide +kernel
theorem dX11_bestInlet_86 : decode cX11_bestInlet 86 = .ok (.iload 6, 2) := by decide +kernel
theorem dX11_bestInlet_88 : decode cX11_bestInlet 88 = .ok (.iload 4, 2) := by decide +kernel
theorem dX11_bestInlet_90 : decode cX11_bestInlet 90 = .ok (.if_icmp .ge 10, 3) := by decide +kernel
theorem dX11_bestInlet_93 : decode cX11_bestInlet 93 = .ok (.iload 5, 2) := by decide +kernel
theorem dX11_bestInlet_95 : decode cX11_bestInlet 95 = .ok (.istore_n 3, 1) := by decide +kernel
theorem dX11_bestInlet_96 : decode cX11_bestInlet 96 = .ok (.iload 6, 2) := by decide +kernel
theorem dX11_bestInlet_98 : decode cX11_bestInlet 98 = .ok (.istore 4, 2) := by decide +kernel
theorem dX11_bestInlet_100 : decode cX11_bestInlet 100 = .ok (.iinc 5 1, 3) := by decide +kernel
theorem dX11_bestInlet_103 : decode cX11_bestInlet 103 = .ok (.goto (-58), 3) := by decide +kernel
theorem dX11_bestInlet_106 : decode cX11_bestInlet 106 = .ok (.iload_n 3, 1) := by decide +kernel
theorem dX11_bestInlet_107 : decode cX11_bestInlet 107 = .ok (.ireturn, 1) := by decide +kernel
theorem dX11_isInTime_0 : decode cX11_isInTime 0 = .ok (.aload_n 0, 1) := by decide +kernel
theorem dX11_isInTime_1 : decode cX11_isInTime 1 = .ok (.invokevirtual 338, 3) := by decide +kernel
theorem dX11_isInTime_4 : decode cX11_isInTime 4 = .ok (.iconst 0, 1) := by decide +kernel
theorem dX11_isInTime_5 : decode cX11_isInTime 5 = .ok (.istore 4, 2) := by decide +kernel
theorem dX11_isInTime_7 : decode cX11_isInTime 7 = .ok (.iload 4, 2) := by decide +kernel
theorem dX11_isInTime_9 : decode cX11_isInTime 9 = .ok (.iload_n 3, 1) := by decide +kernel
theorem dX11_isInTime_10 : decode cX11_isInTime 10 = .ok (.if_icmp .ge 13, 3) := by decide +kernel
theorem dX11_isInTime_13 : decode cX11_isInTime 13 = .ok (.aload_n 0, 1) := by decide +kernel
theorem dX11_isInTime_14 : decode cX11_isInTime 14 = .ok (.invokevirtual 310, 3) := by decide +kernel
theorem dX11_isInTime_17 : decode cX11_isInTime 17 = .ok (.iinc 4 1, 3) := by decide +kernel
theorem dX11_isInTime_20 : decode cX11_isInTime 20 = .ok (.goto (-13), 3) := by decide +kernel
theorem dX11_isInTime_23 : decode cX11_isInTime 23 = .ok (.aload_n 0, 1) := by decide +kernel
theorem dX11_isInTime_24 : decode cX11_isInTime 24 = .ok (.iload_n 1, 1) := by decide +kernel
theorem dX11_isInTime_25 : decode cX11_isInTime 25 = .ok (.iload_n 2, 1) := by decide +kernel
theorem dX11_isInTime_26 : decode cX11_isInTime 26 = .ok (.invokevirtual 347, 3) := by decide +kernel
theorem dX11_isInTime_29 : decode cX11_isInTime 29 = .ok (.istore 4, 2) := by decide +kernel
theorem dX11_isInTime_31 : decode cX11_isInTime 31 = .ok (.aload_n 0, 1) := by decide +kernel
theorem dX11_isInTime_32 : decode cX11_isInTime 32 = .ok (.iload 4, 2) := by decide +kernel
theorem dX11_isInTime_34 : decode cX11_isInTime 34 = .ok (.sipush 300, 3) := by decide +kernel
theorem dX11_isInTime_37 : decode cX11_isInTime 37 = .ok (.invokevirtual 341, 3) := by decide +kernel
theorem dX11_isInTime_40 : decode cX11_isInTime 40 = .ok (.istore 5, 2) := by decide +kernel
theorem dX11_isInTime_42 : decode cX11_isInTime 42 = .ok (.iload 5, 2) := by decide +kernel
theorem dX11_isInTime_44 : decode cX11_isInTime 44 = .ok (.ifCond .lt 38, 3) := by decide +kernel
theorem dX11_isInTime_47 : decode cX11_isInTime 47 = .ok (.aload_n 0, 1) := by decide +kernel
theorem dX11_isInTime_48 : decode cX11_isInTime 48 = .ok (.iload 4, 2) := by decide +kernel
theorem dX11_isInTime_50 : decode cX11_isInTime 50 = .ok (.iconst 1, 1) := by decide +kernel
theorem dX11_isInTime_51 : decode cX11_isInTime 51 = .ok (.invokevirtual 198, 3) := by decide +kernel
theorem dX11_isInTime_54 : decode cX11_isInTime 54 = .ok (.aload_n 0, 1) := by decide +kernel
theorem dX11_isInTime_55 : decode cX11_isInTime 55 = .ok (.iload_n 1, 1) := by decide +kernel
theorem dX11_isInTime_56 : decode cX11_isInTime 56 = .ok (.iconst 1, 1) := by decide +kernel
theorem dX11_isInTime_57 : decode cX11_isInTime 57 = .ok (.invokevirtual 186, 3) := by decide +kernel
theorem dX11_isInTime_60 : decode cX11_isInTime 60 = .ok (.if_icmp .ne 22, 3) := by decide +kernel
theorem dX11_isInTime_63 : decode cX11_isInTime 63 = .ok (.aload_n 0, 1) := by decide +kernel
theorem dX11_isInTime_64 : decode cX11_isInTime 64 = .ok (.getfield 24, 3) := by decide +kernel
theorem dX11_isInTime_67 : decode cX11_isInTime 67 = .ok (.iconst 0, 1) := by decide +kernel
theorem dX11_isInTime_68 : decode cX11_isInTime 68 = .ok (.iaload, 1) := by decide +kernel
theorem dX11_isInTime_69 : decode cX11_isInTime 69 = .ok (.aload_n 0, 1) := by decide +kernel
theorem dX11_isInTime_70 : decode cX11_isInTime 70 = .ok (.iload_n 1, 1) := by decide +kernel
theorem dX11_isInTime_71 : decode cX11_isInTime 71 = .ok (.iconst 3, 1) := by decide +kernel
theorem dX11_isInTime_72 : decode cX11_isInTime 72 = .ok (.invokevirtual 186, 3) := by decide +kernel
theorem dX11_isInTime_75 : decode cX11_isInTime 75 = .ok (.if_icmp .ge 7, 3) := by decide +kernel
theorem dX11_isInTime_78 : decode cX11_isInTime 78 = .ok (.iconst 1, 1) := by decide +kernel
theorem dX11_isInTime_79 : decode cX11_isInTime 79 = .ok (.goto 4, 3) := by decide +kernel
theorem dX11_isInTime_82 : decode cX11_isInTime 82 = .ok (.iconst 0, 1) := by decide +kernel
theorem dX11_isInTime_83 : decode cX11_isInTime 83 = .ok (.istore 6, 2) := by decide +kernel
theorem dX11_isInTime_85 : decode cX11_isInTime 85 = .ok (.aload_n 0, 1) := by decide +kernel
theorem dX11_isInTime_86 : decode cX11_isInTime 86 = .ok (.invokevirtual 344, 3) := by decide +kernel
theorem dX11_isInTime_89 : decode cX11_isInTime 89 = .ok (.iload 6, 2) := by decide +kernel
theorem dX11_isInTime_91 : decode cX11_isInTime 91 = .ok (.ireturn, 1) := by decide +kernel
theorem dX11_latestDelay_0 : decode cX11_latestDelay 0 = .ok (.aload_n 0, 1) := by decide +kernel
theorem dX11_latestDelay_1 : decode cX11_latestDelay 1 = .ok (.iload_n 1, 1) := by decide +kernel
theorem dX11_latestDelay_2 : decode cX11_latestDelay 2 = .ok (.invokevirtual 318, 3) := by decide +kernel
theorem dX11_latestDelay_5 : decode cX11_latestDelay 5 = .ok (.ifCond .eq 12, 3) := by decide +kernel
theorem dX11_latestDelay_8 : decode cX11_latestDelay 8 = .ok (.aload_n 0, 1) := by decide +kernel
theorem dX11_latestDelay_9 : decode cX11_latestDelay 9 = .ok (.iconst 1, 1) := by decide +kernel
theorem dX11_latestDelay_10 : decode cX11_latestDelay 10 = .ok (.iload_n 2, 1) := by decide +kernel
theorem dX11_latestDelay_11 : decode cX11_latestDelay 11 = .ok (.invokevirtual 290, 3) := by decide +kernel
theorem dX11_latestDelay_14 : decode cX11_latestDelay 14 = .ok (.ifCond .ne 5, 3) := by decide +kernel
theorem dX11_latestDelay_17 : decode cX11_latestDelay 17 = .ok (.iconst (-1), 1) := by decide +kernel
theorem dX11_latestDelay_18 : decode cX11_latestDelay 18 = .ok (.ireturn, 1) := by decide +kernel
theorem dX11_latestDelay_19 : decode cX11_latestDelay 19 = .ok (.aload_n 0, 1) := by decide +kernel
theorem dX11_latestDelay_20 : decode cX11_latestDelay 20 = .ok (.getfield 24, 3) := by decide +kernel
theorem dX11_latestDelay_23 : decode cX11_latestDelay 23 = .ok (.iconst 1, 1) := by decide +kernel
theorem dX11_latestDelay_24 : decode cX11_latestDelay 24 = .ok (.iaload, 1) := by decide +kernel
theorem dX11_latestDelay_25 : decode cX11_latestDelay 25 = .ok (.bipush 100, 2) := by decide +kernel
theorem dX11_latestDelay_27 : decode cX11_latestDelay 27 = .ok (.if_icmp .ne 6, 3) := by decide +kernel
theorem dX11_latestDelay_30 : decode cX11_latestDelay 30 = .ok (.bipush (-2), 2) := by decide +kernel
theorem dX11_latestDelay_32 : decode cX11_latestDelay 32 = .ok (.ireturn, 1) := by decide +kernel
theorem dX11_latestDelay_33 : decode cX11_latestDelay 33 = .ok (.bipush 30, 2) := by decide +kernel
theorem dX11_latestDelay_35 : decode cX11_latestDelay 35 = .ok (.istore_n 3, 1) := by decide +kernel
theorem dX11_latestDelay_36 : decode cX11_latestDelay 36 = .ok (.iload_n 3, 1) := by decide +kernel
theorem dX11_latestDelay_37 : decode cX11_latestDelay 37 = .ok (.ifCond .lt 21, 3) := by decide +kernel
theorem dX11_latestDelay_40 : decode cX11_latestDelay 40 = .ok (.aload_n 0, 1) := by decide +kernel
theorem dX11_latestDelay_41 : decode cX11_latestDelay 41 = .ok (.iload_n 1, 1) := by decide +kernel
theorem dX11_latestDelay_42 : decode cX11_latestDelay 42 = .ok (.iload_n 2, 1) := by decide +kernel
theorem dX11_latestDelay_43 : decode cX11_latestDelay 43 = .ok (.iload_n 3, 1) := by decide +kernel
theorem dX11_latestDelay_44 : decode cX11_latestDelay 44 = .ok (.invokevirtual 350, 3) := by decide +kernel
theorem dX11_latestDelay_47 : decode cX11_latestDelay 47 = .ok (.ifCond .eq 5, 3) := by decide +kernel
theorem dX11_latestDelay_50 : decode cX11_latestDelay 50 = .ok (.iload_n 3, 1) := by decide +kernel
theorem dX11_latestDelay_51 : decode cX11_latestDelay 51 = .ok (.ireturn, 1) := by decide +kernel
theorem dX11_latestDelay_52 : decode cX11_latestDelay 52 = .ok (.iinc 3 (-1), 3) := by decide +kernel
theorem dX11_latestDelay_55 : decode cX11_latestDelay 55 = .ok (.goto (-19), 3) := by decide +kernel
theorem dX11_latestDelay_58 : decode cX11_latestDelay 58 = .ok (.bipush (-2), 2) := by decide +kernel
theorem dX11_latestDelay_60 : decode cX11_latestDelay 60 = .ok (.ireturn, 1) := by decide +kernel
theorem dX11_says_0 : decode cX11_says 0 = .ok (.aload_n 0, 1) := by decide +kernel
theorem dX11_says_1 : decode cX11_says 1 = .ok (.getfield 48, 3) := by decide +kernel
theorem dX11_says_4 : decode cX11_says 4 = .ok (.aload_n 0, 1) := by decide +kernel
theorem dX11_says_5 : decode cX11_says 5 = .ok (.getfield 354, 3) := by decide +kernel
theorem dX11_says_8 : decode cX11_says 8 = .ok (.iload_n 1, 1) := by decide +kernel
theorem dX11_says_9 : decode cX11_says 9 = .ok (.iastore, 1) := by decide +kernel
theorem dX11_says_10 : decode cX11_says 10 = .ok (.aload_n 0, 1) := by decide +kernel
theorem dX11_says_11 : decode cX11_says 11 = .ok (.dup, 1) := by decide +kernel
theorem dX11_says_12 : decode cX11_says 12 = .ok (.getfield 354, 3) := by decide +kernel
theorem dX11_says_15 : decode cX11_says 15 = .ok (.iconst 1, 1) := by decide +kernel
theorem dX11_says_16 : decode cX11_says 16 = .ok (.iadd, 1) := by decide +kernel
theorem dX11_says_17 : decode cX11_says 17 = .ok (.putfield 354, 3) := by decide +kernel
theorem dX11_says_20 : decode cX11_says 20 = .ok (.return_, 1) := by decide +kernel
theorem dX11_saysWord_0 : decode cX11_saysWord 0 = .ok (.bipush 35, 2) := by decide +kernel
theorem dX11_saysWord_2 : decode cX11_saysWord 2 = .ok (.istore_n 3, 1) := by decide +kernel
theorem dX11_saysWord_3 : decode cX11_saysWord 3 = .ok (.iload_n 3, 1) := by decide +kernel
theorem dX11_saysWord_4 : decode cX11_saysWord 4 = .ok (.ifCond .lt 33, 3) := by decide +kernel
theorem dX11_saysWord_7 : decode cX11_saysWord 7 = .ok (.lload_n 1, 1) := by decide +kernel
theorem dX11_saysWord_8 : decode cX11_saysWord 8 = .ok (.iload_n 3, 1) := by decide +kernel
theorem dX11_saysWord_9 : decode cX11_saysWord 9 = .ok (.lshr, 1) := by decide +kernel
theorem dX11_saysWord_10 : decode cX11_saysWord 10 = .ok (.ldc2_w 357, 3) := by decide +kernel
theorem dX11_saysWord_13 : decode cX11_saysWord 13 = .ok (.land, 1) := by decide +kernel
theorem dX11_saysWord_14 : decode cX11_saysWord 14 = .ok (.l2i, 1) := by decide +kernel
theorem dX11_saysWord_15 : decode cX11_saysWord 15 = .ok (.istore 4, 2) := by decide +kernel
theorem dX11_saysWord_17 : decode cX11_saysWord 17 = .ok (.iload 4, 2) := by decide +kernel
theorem dX11_saysWord_19 : decode cX11_saysWord 19 = .ok (.ifCond .le 12, 3) := by decide +kernel
theorem dX11_saysWord_22 : decode cX11_saysWord 22 = .ok (.aload_n 0, 1) := by decide +kernel
theorem dX11_saysWord_23 : decode cX11_saysWord 23 = .ok (.bipush 96, 2) := by decide +kernel
theorem dX11_saysWord_25 : decode cX11_saysWord 25 = .ok (.iload 4, 2) := by decide +kernel
theorem dX11_saysWord_27 : decode cX11_saysWord 27 = .ok (.iadd, 1) := by decide +kernel
theorem dX11_saysWord_28 : decode cX11_saysWord 28 = .ok (.invokevirtual 359, 3) := by decide +kernel
theorem dX11_saysWord_31 : decode cX11_saysWord 31 = .ok (.iinc 3 (-5), 3) := by decide +kernel
theorem dX11_saysWord_34 : decode cX11_saysWord 34 = .ok (.goto (-31), 3) := by decide +kernel
theorem dX11_saysWord_37 : decode cX11_saysWord 37 = .ok (.return_, 1) := by decide +kernel
theorem dX11_saysNumber_0 : decode cX11_saysNumber 0 = .ok (.iconst 1, 1) := by decide +kernel
theorem dX11_saysNumber_1 : decode cX11_saysNumber 1 = .ok (.istore_n 2, 1) := by decide +kernel
theorem dX11_saysNumber_2 : decode cX11_saysNumber 2 = .ok (.iload_n 1, 1) := by decide +kernel
theorem dX11_saysNumber_3 : decode cX11_saysNumber 3 = .ok (.iload_n 2, 1) := by decide +kernel
theorem dX11_saysNumber_4 : decode cX11_saysNumber 4 = .ok (.idiv, 1) := by decide +kernel
theorem dX11_saysNumber_5 : decode cX11_saysNumber 5 = .ok (.bipush 9, 2) := by decide +kernel
theorem dX11_saysNumber_7 : decode cX11_saysNumber 7 = .ok (.if_icmp .le 11, 3) := by decide +kernel
theorem dX11_saysNumber_10 : decode cX11_saysNumber 10 = .ok (.iload_n 2, 1) := by decide +kernel
theorem dX11_saysNumber_11 : decode cX11_saysNumber 11 = .ok (.bipush 10, 2) := by decide +kernel
theorem dX11_saysNumber_13 : decode cX11_saysNumber 13 = .ok (.imul, 1) := by decide +kernel
theorem dX11_saysNumber_14 : decode cX11_saysNumber 14 = .ok (.istore_n 2, 1) := by decide +kernel
theorem dX11_saysNumber_15 : decode cX11_saysNumber 15 = .ok (.goto (-13), 3) := by decide +kernel
theorem dX11_saysNumber_18 : decode cX11_saysNumber 18 = .ok (.aload_n 0, 1) := by decide +kernel
theorem dX11_saysNumber_19 : decode cX11_saysNumber 19 = .ok (.bipush 32, 2) := by decide +kernel
theorem dX11_saysNumber_21 : decode cX11_saysNumber 21 = .ok (.invokevirtual 359, 3) := by decide +kernel
theorem dX11_saysNumber_24 : decode cX11_saysNumber 24 = .ok (.iload_n 2, 1) := by decide +kernel
theorem dX11_saysNumber_25 : decode cX11_saysNumber 25 = .ok (.ifCond .le 24, 3) := by decide +kernel
theorem dX11_saysNumber_28 : decode cX11_saysNumber 28 = .ok (.aload_n 0, 1) := by decide +kernel
theorem dX11_saysNumber_29 : decode cX11_saysNumber 29 = .ok (.bipush 48, 2) := by decide +kernel
theorem dX11_saysNumber_31 : decode cX11_saysNumber 31 = .ok (.iload_n 1, 1) := by decide +kernel
theorem dX11_saysNumber_32 : decode cX11_saysNumber 32 = .ok (.iload_n 2, 1) := by decide +kernel
theorem dX11_saysNumber_33 : decode cX11_saysNumber 33 = .ok (.idiv, 1) := by decide +kernel
theorem dX11_saysNumber_34 : decode cX11_saysNumber 34 = .ok (.bipush 10, 2) := by decide +kernel
theorem dX11_saysNumber_36 : decode cX11_saysNumber 36 = .ok (.irem, 1) := by decide +kernel
theorem dX11_saysNumber_37 : decode cX11_saysNumber 37 = .ok (.iadd, 1) := by decide +kernel
theorem dX11_saysNumber_38 : decode cX11_saysNumber 38 = .ok (.invokevirtual 359, 3) := by decide +kernel
theorem dX11_saysNumber_41 : decode cX11_saysNumber 41 = .ok (.iload_n 2, 1) := by decide +kernel
theorem dX11_saysNumber_42 : decode cX11_saysNumber 42 = .ok (.bipush 10, 2) := by decide +kernel
theorem dX11_saysNumber_44 : decode cX11_saysNumber 44 = .ok (.idiv, 1) := by decide +kernel
theorem dX11_saysNumber_45 : decode cX11_saysNumber 45 = .ok (.istore_n 2, 1) := by decide +kernel
theorem dX11_saysNumber_46 : decode cX11_saysNumber 46 = .ok (.goto (-22), 3) := by decide +kernel
theorem dX11_saysNumber_49 : decode cX11_saysNumber 49 = .ok (.return_, 1) := by decide +kernel
theorem dX11_saysBoth_0 : decode cX11_saysBoth 0 = .ok (.aload_n 0, 1) := by decide +kernel
theorem dX11_saysBoth_1 : decode cX11_saysBoth 1 = .ok (.bipush 32, 2) := by decide +kernel
theorem dX11_saysBoth_3 : decode cX11_saysBoth 3 = .ok (.invokevirtual 359, 3) := by decide +kernel
theorem dX11_saysBoth_6 : decode cX11_saysBoth 6 = .ok (.aload_n 0, 1) := by decide +kernel
theorem dX11_saysBoth_7 : decode cX11_saysBoth 7 = .ok (.lload_n 1, 1) := by decide +kernel
theorem dX11_saysBoth_8 : decode cX11_saysBoth 8 = .ok (.invokevirtual 362, 3) := by decide +kernel
theorem dX11_saysBoth_11 : decode cX11_saysBoth 11 = .ok (.aload_n 0, 1) := by decide +kernel
theorem dX11_saysBoth_12 : decode cX11_saysBoth 12 = .ok (.iload_n 3, 1) := by decide +kernel
theorem dX11_saysBoth_13 : decode cX11_saysBoth 13 = .ok (.invokevirtual 366, 3) := by decide +kernel
theorem dX11_saysBoth_16 : decode cX11_saysBoth 16 = .ok (.return_, 1) := by decide +kernel
theorem dX11_wordOf_0 : decode cX11_wordOf 0 = .ok (.iload_n 0, 1) := by decide +kernel
theorem dX11_wordOf_1 : decode cX11_wordOf 1 = .ok (.iconst 1, 1) := by decide +kernel
theorem dX11_wordOf_2 : decode cX11_wordOf 2 = .ok (.if_icmp .ne 9, 3) := by decide +kernel
theorem dX11_wordOf_5 : decode cX11_wordOf 5 = .ok (.ldc2_w 106, 3) := by decide +kernel
theorem dX11_wordOf_8 : decode cX11_wordOf 8 = .ok (.goto 50, 3) := by decide +kernel
theorem dX11_wordOf_11 : decode cX11_wordOf 11 = .ok (.iload_n 0, 1) := by decide +kernel
theorem dX11_wordOf_12 : decode cX11_wordOf 12 = .ok (.iconst 2, 1) := by decide +kernel
theorem dX11_wordOf_13 : decode cX11_wordOf 13 = .ok (.if_icmp .ne 9, 3) := by decide +kernel
theorem dX11_wordOf_16 : decode cX11_wordOf 16 = .ok (.ldc2_w 108, 3) := by decide +kernel
theorem dX11_wordOf_19 : decode cX11_wordOf 19 = .ok (.goto 39, 3) := by decide +kernel
theorem dX11_wordOf_22 : decode cX11_wordOf 22 = .ok (.iload_n 0, 1) := by decide +kernel
theorem dX11_wordOf_23 : decode cX11_wordOf 23 = .ok (.iconst 3, 1) := by decide +kernel
theorem dX11_wordOf_24 : decode cX11_wordOf 24 = .ok (.if_icmp .ne 9, 3) := by decide +kernel
theorem dX11_wordOf_27 : decode cX11_wordOf 27 = .ok (.ldc2_w 110, 3) := by decide +kernel
theorem dX11_wordOf_30 : decode cX11_wordOf 30 = .ok (.goto 28, 3) := by decide +kernel
theorem dX11_wordOf_33 : decode cX11_wordOf 33 = .ok (.iload_n 0, 1) := by decide +kernel
theorem dX11_wordOf_34 : decode cX11_wordOf 34 = .ok (.iconst 4, 1) := by decide +kernel
theorem dX11_wordOf_35 : decode cX11_wordOf 35 = .ok (.if_icmp .ne 9, 3) := by decide +kernel
theorem dX11_wordOf_38 : decode cX11_wordOf 38 = .ok (.ldc2_w 112, 3) := by decide +kernel
theorem dX11_wordOf_41 : decode cX11_wordOf 41 = .ok (.goto 17, 3) := by decide +kernel
theorem dX11_wordOf_44 : decode cX11_wordOf 44 = .ok (.iload_n 0, 1) := by decide +kernel
theorem dX11_wordOf_45 : decode cX11_wordOf 45 = .ok (.iconst 5, 1) := by decide +kernel
theorem dX11_wordOf_46 : decode cX11_wordOf 46 = .ok (.if_icmp .ne 9, 3) := by decide +kernel
theorem dX11_wordOf_49 : decode cX11_wordOf 49 = .ok (.ldc2_w 114, 3) := by decide +kernel
theorem dX11_wordOf_52 : decode cX11_wordOf 52 = .ok (.goto 6, 3) := by decide +kernel
theorem dX11_wordOf_55 : decode cX11_wordOf 55 = .ok (.ldc2_w 116, 3) := by decide +kernel
theorem dX11_wordOf_58 : decode cX11_wordOf 58 = .ok (.lreturn, 1) := by decide +kernel
theorem dX11_saysDevice_0 : decode cX11_saysDevice 0 = .ok (.aload_n 0, 1) := by decide +kernel
theorem dX11_saysDevice_1 : decode cX11_saysDevice 1 = .ok (.getfield 17, 3) := by decide +kernel
theorem dX11_saysDevice_4 : decode cX11_saysDevice 4 = .ok (.iload_n 1, 1) := by decide +kernel
theorem dX11_saysDevice_5 : decode cX11_saysDevice 5 = .ok (.iaload, 1) := by decide +kernel
theorem dX11_saysDevice_6 : decode cX11_saysDevice 6 = .ok (.istore_n 2, 1) := by decide +kernel
theorem dX11_saysDevice_7 : decode cX11_saysDevice 7 = .ok (.aload_n 0, 1) := by decide +kernel
theorem dX11_saysDevice_8 : decode cX11_saysDevice 8 = .ok (.iload_n 2, 1) := by decide +kernel
theorem dX11_saysDevice_9 : decode cX11_saysDevice 9 = .ok (.invokestatic 369, 3) := by decide +kernel
theorem dX11_saysDevice_12 : decode cX11_saysDevice 12 = .ok (.invokevirtual 362, 3) := by decide +kernel
theorem dX11_saysDevice_15 : decode cX11_saysDevice 15 = .ok (.aload_n 0, 1) := by decide +kernel
theorem dX11_saysDevice_16 : decode cX11_saysDevice 16 = .ok (.aload_n 0, 1) := by decide +kernel
theorem dX11_saysDevice_17 : decode cX11_saysDevice 17 = .ok (.getfield 17, 3) := by decide +kernel
theorem dX11_saysDevice_20 : decode cX11_saysDevice 20 = .ok (.iload_n 1, 1) := by decide +kernel
theorem dX11_saysDevice_21 : decode cX11_saysDevice 21 = .ok (.iconst 1, 1) := by decide +kernel
theorem dX11_saysDevice_22 : decode cX11_saysDevice 22 = .ok (.iadd, 1) := by decide +kernel
theorem dX11_saysDevice_23 : decode cX11_saysDevice 23 = .ok (.iaload, 1) := by decide +kernel
theorem dX11_saysDevice_24 : decode cX11_saysDevice 24 = .ok (.invokevirtual 366, 3) := by decide +kernel
theorem dX11_saysDevice_27 : decode cX11_saysDevice 27 = .ok (.iload_n 2, 1) := by decide +kernel
theorem dX11_saysDevice_28 : decode cX11_saysDevice 28 = .ok (.iconst 3, 1) := by decide +kernel
theorem dX11_saysDevice_29 : decode cX11_saysDevice 29 = .ok (.if_icmp .lt 33, 3) := by decide +kernel
theorem dX11_saysDevice_32 : decode cX11_saysDevice 32 = .ok (.aload_n 0, 1) := by decide +kernel
theorem dX11_saysDevice_33 : decode cX11_saysDevice 33 = .ok (.ldc2_w 130, 3) := by decide +kernel
theorem dX11_saysDevice_36 : decode cX11_saysDevice 36 = .ok (.aload_n 0, 1) := by decide +kernel
theorem dX11_saysDevice_37 : decode cX11_saysDevice 37 = .ok (.getfield 17, 3) := by decide +kernel
theorem dX11_saysDevice_40 : decode cX11_saysDevice 40 = .ok (.iload_n 1, 1) := by decide +kernel
theorem dX11_saysDevice_41 : decode cX11_saysDevice 41 = .ok (.iconst 2, 1) := by decide +kernel
theorem dX11_saysDevice_42 : decode cX11_saysDevice 42 = .ok (.iadd, 1) := by decide +kernel
theorem dX11_saysDevice_43 : decode cX11_saysDevice 43 = .ok (.iaload, 1) := by decide +kernel
theorem dX11_saysDevice_44 : decode cX11_saysDevice 44 = .ok (.invokevirtual 373, 3) := by decide +kernel
theorem dX11_saysDevice_47 : decode cX11_saysDevice 47 = .ok (.aload_n 0, 1) := by decide +kernel
theorem dX11_saysDevice_48 : decode cX11_saysDevice 48 = .ok (.ldc2_w 136, 3) := by decide +kernel
theorem dX11_saysDevice_51 : decode cX11_saysDevice 51 = .ok (.aload_n 0, 1) := by decide +kernel
theorem dX11_saysDevice_52 : decode cX11_saysDevice 52 = .ok (.getfield 17, 3) := by decide +kernel
theorem dX11_saysDevice_55 : decode cX11_saysDevice 55 = .ok (.iload_n 1, 1) := by decide +kernel
theorem dX11_saysDevice_56 : decode cX11_saysDevice 56 = .ok (.iconst 3, 1) := by decide +kernel
theorem dX11_saysDevice_57 : decode cX11_saysDevice 57 = .ok (.iadd, 1) := by decide +kernel
theorem dX11_saysDevice_58 : decode cX11_saysDevice 58 = .ok (.iaload, 1) := by decide +kernel
theorem dX11_saysDevice_59 : decode cX11_saysDevice 59 = .ok (.invokevirtual 373, 3) := by decide +kernel
theorem dX11_saysDevice_62 : decode cX11_saysDevice 62 = .ok (.iload_n 2, 1) := by decide +kernel
theorem dX11_saysDevice_63 : decode cX11_saysDevice 63 = .ok (.iconst 4, 1) := by decide +kernel
theorem dX11_saysDevice_64 : decode cX11_saysDevice 64 = .ok (.if_icmp .ne 43, 3) := by decide +kernel
theorem dX11_saysDevice_67 : decode cX11_saysDevice 67 = .ok (.aload_n 0, 1) := by decide +kernel
theorem dX11_saysDevice_68 : decode cX11_saysDevice 68 = .ok (.ldc2_w 138, 3) := by decide +kernel
theorem dX11_saysDevice_71 : decode cX11_saysDevice 71 = .ok (.aload_n 0, 1) := by decide +kernel
theorem dX11_saysDevice_72 : decode cX11_saysDevice 72 = .ok (.getfield 17, 3) := by decide +kernel
theorem dX11_saysDevice_75 : decode cX11_saysDevice 75 = .ok (.iload_n 1, 1) := by decide +kernel
theorem dX11_saysDevice_76 : decode cX11_saysDevice 76 = .ok (.iconst 4, 1) := by decide +kernel
theorem dX11_saysDevice_77 : decode cX11_saysDevice 77 = .ok (.iadd, 1) := by decide +kernel
theorem dX11_saysDevice_78 : decode cX11_saysDevice 78 = .ok (.iaload, 1) := by decide +kernel
theorem dX11_saysDevice_79 : decode cX11_saysDevice 79 = .ok (.invokevirtual 373, 3) := by decide +kernel
theorem dX11_saysDevice_82 : decode cX11_saysDevice 82 = .ok (.aload_n 0, 1) := by decide +kernel
theorem dX11_saysDevice_83 : decode cX11_saysDevice 83 = .ok (.aload_n 0, 1) := by decide +kernel
theorem dX11_saysDevice_84 : decode cX11_saysDevice 84 = .ok (.getfield 17, 3) := by decide +kernel
theorem dX11_saysDevice_87 : decode cX11_saysDevice 87 = .ok (.iload_n 1, 1) := by decide +kernel
theorem dX11_saysDevice_88 : decode cX11_saysDevice 88 = .ok (.iconst 5, 1) := by decide +kernel
theorem dX11_saysDevice_89 : decode cX11_saysDevice 89 = .ok (.iadd, 1) := by decide +kernel
theorem dX11_saysDevice_90 : decode cX11_saysDevice 90 = .ok (.iaload, 1) := by decide +kernel
theorem dX11_saysDevice_91 : decode cX11_saysDevice 91 = .ok (.invokevirtual 366, 3) := by decide +kernel
theorem dX11_saysDevice_94 : decode cX11_saysDevice 94 = .ok (.aload_n 0, 1) := by decide +kernel
theorem dX11_saysDevice_95 : decode cX11_saysDevice 95 = .ok (.aload_n 0, 1) := by decide +kernel
theorem dX11_saysDevice_96 : decode cX11_saysDevice 96 = .ok (.getfield 17, 3) := by decide +kernel
theorem dX11_saysDevice_99 : decode cX11_saysDevice 99 = .ok (.iload_n 1, 1) := by decide +kernel
theorem dX11_saysDevice_100 : decode cX11_saysDevice 100 = .ok (.bipush 6, 2) := by decide +kernel
theorem dX11_saysDevice_102 : decode cX11_saysDevice 102 = .ok (.iadd, 1) := by decide +kernel
theorem dX11_saysDevice_103 : decode cX11_saysDevice 103 = .ok (.iaload, 1) := by decide +kernel
theorem dX11_saysDevice_104 : decode cX11_saysDevice 104 = .ok (.invokevirtual 366, 3) := by decide +kernel
theorem dX11_saysDevice_107 : decode cX11_saysDevice 107 = .ok (.iload_n 2, 1) := by decide +kernel
theorem dX11_saysDevice_108 : decode cX11_saysDevice 108 = .ok (.bipush 6, 2) := by decide +kernel
theorem dX11_saysDevice_110 : decode cX11_saysDevice 110 = .ok (.if_icmp .ne 18, 3) := by decide +kernel
theorem dX11_saysDevice_113 : decode cX11_saysDevice 113 = .ok (.aload_n 0, 1) := by decide +kernel
theorem dX11_saysDevice_114 : decode cX11_saysDevice 114 = .ok (.ldc2_w 140, 3) := by decide +kernel
theorem dX11_saysDevice_117 : decode cX11_saysDevice 117 = .ok (.aload_n 0, 1) := by decide +kernel
theorem dX11_saysDevice_118 : decode cX11_saysDevice 118 = .ok (.getfield 17, 3) := by decide +kernel
theorem dX11_saysDevice_121 : decode cX11_saysDevice 121 = .ok (.iload_n 1, 1) := by decide +kernel
theorem dX11_saysDevice_122 : decode cX11_saysDevice 122 = .ok (.iconst 4, 1) := by decide +kernel
theorem dX11_saysDevice_123 : decode cX11_saysDevice 123 = .ok (.iadd, 1) := by decide +kernel
theorem dX11_saysDevice_124 : decode cX11_saysDevice 124 = .ok (.iaload, 1) := by decide +kernel
theorem dX11_saysDevice_125 : decode cX11_saysDevice 125 = .ok (.invokevirtual 373, 3) := by decide +kernel
theorem dX11_saysDevice_128 : decode cX11_saysDevice 128 = .ok (.iload_n 2, 1) := by decide +kernel
theorem dX11_saysDevice_129 : decode cX11_saysDevice 129 = .ok (.iconst 3, 1) := by decide +kernel
theorem dX11_saysDevice_130 : decode cX11_saysDevice 130 = .ok (.if_icmp .le 19, 3) := by decide +kernel
theorem dX11_saysDevice_133 : decode cX11_saysDevice 133 = .ok (.aload_n 0, 1) := by decide +kernel
theorem dX11_saysDevice_134 : decode cX11_saysDevice 134 = .ok (.ldc2_w 142, 3) := by decide +kernel
theorem dX11_saysDevice_137 : decode cX11_saysDevice 137 = .ok (.aload_n 0, 1) := by decide +kernel
theorem dX11_saysDevice_138 : decode cX11_saysDevice 138 = .ok (.getfield 17, 3) := by decide +kernel
theorem dX11_saysDevice_141 : decode cX11_saysDevice 141 = .ok (.iload_n 1, 1) := by decide +kernel
theorem dX11_saysDevice_142 : decode cX11_saysDevice 142 = .ok (.bipush 7, 2) := by decide +kernel
theorem dX11_saysDevice_144 : decode cX11_saysDevice 144 = .ok (.iadd, 1) := by decide +kernel
theorem dX11_saysDevice_145 : decode cX11_saysDevice 145 = .ok (.iaload, 1) := by decide +kernel
theorem dX11_saysDevice_146 : decode cX11_saysDevice 146 = .ok (.invokevirtual 373, 3) := by decide +kernel
theorem dX11_saysDevice_149 : decode cX11_saysDevice 149 = .ok (.aload_n 0, 1) := by decide +kernel
theorem dX11_saysDevice_150 : decode cX11_saysDevice 150 = .ok (.bipush 59, 2) := by decide +kernel
theorem dX11_saysDevice_152 : decode cX11_saysDevice 152 = .ok (.invokevirtual 359, 3) := by decide +kernel
theorem dX11_saysDevice_155 : decode cX11_saysDevice 155 = .ok (.return_, 1) := by decide +kernel
theorem dX11_saysSetup_0 : decode cX11_saysSetup 0 = .ok (.aload_n 0, 1) := by decide +kernel
theorem dX11_saysSetup_1 : decode cX11_saysSetup 1 = .ok (.iconst 0, 1) := by decide +kernel
theorem dX11_saysSetup_2 : decode cX11_saysSetup 2 = .ok (.putfield 354, 3) := by decide +kernel
theorem dX11_saysSetup_5 : decode cX11_saysSetup 5 = .ok (.aload_n 0, 1) := by decide +kernel
theorem dX11_saysSetup_6 : decode cX11_saysSetup 6 = .ok (.ldc2_w 156, 3) := by decide +kernel
theorem dX11_saysSetup_9 : decode cX11_saysSetup 9 = .ok (.invokevirtual 362, 3) := by decide +kernel
theorem dX11_saysSetup_12 : decode cX11_saysSetup 12 = .ok (.aload_n 0, 1) := by decide +kernel
theorem dX11_saysSetup_13 : decode cX11_saysSetup 13 = .ok (.aload_n 0, 1) := by decide +kernel
theorem dX11_saysSetup_14 : decode cX11_saysSetup 14 = .ok (.getfield 17, 3) := by decide +kernel
theorem dX11_saysSetup_17 : decode cX11_saysSetup 17 = .ok (.iconst 0, 1) := by decide +kernel
theorem dX11_saysSetup_18 : decode cX11_saysSetup 18 = .ok (.iaload, 1) := by decide +kernel
theorem dX11_saysSetup_19 : decode cX11_saysSetup 19 = .ok (.invokevirtual 366, 3) := by decide +kernel
theorem dX11_saysSetup_22 : decode cX11_saysSetup 22 = .ok (.aload_n 0, 1) := by decide +kernel
theorem dX11_saysSetup_23 : decode cX11_saysSetup 23 = .ok (.bipush 59, 2) := by decide +kernel
theorem dX11_saysSetup_25 : decode cX11_saysSetup 25 = .ok (.invokevirtual 359, 3) := by decide +kernel
theorem dX11_saysSetup_28 : decode cX11_saysSetup 28 = .ok (.iconst 0, 1) := by decide +kernel
theorem dX11_saysSetup_29 : decode cX11_saysSetup 29 = .ok (.istore_n 1, 1) := by decide +kernel
theorem dX11_saysSetup_30 : decode cX11_saysSetup 30 = .ok (.iload_n 1, 1) := by decide +kernel
theorem dX11_saysSetup_31 : decode cX11_saysSetup 31 = .ok (.aload_n 0, 1) := by decide +kernel
theorem dX11_saysSetup_32 : decode cX11_saysSetup 32 = .ok (.getfield 17, 3) := by decide +kernel
theorem dX11_saysSetup_35 : decode cX11_saysSetup 35 = .ok (.iconst 1, 1) := by decide +kernel
theorem dX11_saysSetup_36 : decode cX11_saysSetup 36 = .ok (.iaload, 1) := by decide +kernel
theorem dX11_saysSetup_37 : decode cX11_saysSetup 37 = .ok (.if_icmp .ge 21, 3) := by decide +kernel
theorem dX11_saysSetup_40 : decode cX11_saysSetup 40 = .ok (.aload_n 0, 1) := by decide +kernel
theorem dX11_saysSetup_41 : decode cX11_saysSetup 41 = .ok (.sipush 140, 3) := by decide +kernel
theorem dX11_saysSetup_44 : decode cX11_saysSetup 44 = .ok (.bipush 8, 2) := by decide +kernel
theorem dX11_saysSetup_46 : decode cX11_saysSetup 46 = .ok (.iload_n 1, 1) := by decide +kernel
theorem dX11_saysSetup_47 : decode cX11_saysSetup 47 = .ok (.imul, 1) := by decide +kernel
theorem dX11_saysSetup_48 : decode cX11_saysSetup 48 = .ok (.iadd, 1) := by decide +kernel
theorem dX11_saysSetup_49 : decode cX11_saysSetup 49 = .ok (.invokevirtual 377, 3) := by decide +kernel
theorem dX11_saysSetup_52 : decode cX11_saysSetup 52 = .ok (.iinc 1 1, 3) := by decide +kernel
theorem dX11_saysSetup_55 : decode cX11_saysSetup 55 = .ok (.goto (-25), 3) := by decide +kernel
theorem dX11_saysSetup_58 : decode cX11_saysSetup 58 = .ok (.iconst 0, 1) := by decide +kernel
theorem dX11_saysSetup_59 : decode cX11_saysSetup 59 = .ok (.istore_n 1, 1) := by decide +kernel
theorem dX11_saysSetup_60 : decode cX11_saysSetup 60 = .ok (.iload_n 1, 1) := by decide +kernel
theorem dX11_saysSetup_61 : decode cX11_saysSetup 61 = .ok (.aload_n 0, 1) := by decide +kernel
theorem dX11_saysSetup_62 : decode cX11_saysSetup 62 = .ok (.getfield 17, 3) := by decide +kernel
theorem dX11_saysSetup_65 : decode cX11_saysSetup 65 = .ok (.iconst 4, 1) := by decide +kernel
theorem dX11_saysSetup_66 : decode cX11_saysSetup 66 = .ok (.iaload, 1) := by decide +kernel
theorem dX11_saysSetup_67 : decode cX11_saysSetup 67 = .ok (.if_icmp .ge 71, 3) := by decide +kernel
theorem dX11_saysSetup_70 : decode cX11_saysSetup 70 = .ok (.aload_n 0, 1) := by decide +kernel
theorem dX11_saysSetup_71 : decode cX11_saysSetup 71 = .ok (.ldc2_w 165, 3) := by decide +kernel
theorem dX11_saysSetup_74 : decode cX11_saysSetup 74 = .ok (.invokevirtual 362, 3) := by decide +kernel
theorem dX11_saysSetup_77 : decode cX11_saysSetup 77 = .ok (.aload_n 0, 1) := by decide +kernel
theorem dX11_saysSetup_78 : decode cX11_saysSetup 78 = .ok (.aload_n 0, 1) := by decide +kernel
theorem dX11_saysSetup_79 : decode cX11_saysSetup 79 = .ok (.iload_n 1, 1) := by decide +kernel
theorem dX11_saysSetup_80 : decode cX11_saysSetup 80 = .ok (.iconst 0, 1) := by decide +kernel
theorem dX11_saysSetup_81 : decode cX11_saysSetup 81 = .ok (.invokevirtual 186, 3) := by decide +kernel
theorem dX11_saysSetup_84 : decode cX11_saysSetup 84 = .ok (.invokevirtual 366, 3) := by decide +kernel
theorem dX11_saysSetup_87 : decode cX11_saysSetup 87 = .ok (.aload_n 0, 1) := by decide +kernel
theorem dX11_saysSetup_88 : decode cX11_saysSetup 88 = .ok (.ldc2_w 110, 3) := by decide +kernel
theorem dX11_saysSetup_91 : decode cX11_saysSetup 91 = .ok (.aload_n 0, 1) := by decide +kernel
theorem dX11_saysSetup_92 : decode cX11_saysSetup 92 = .ok (.iload_n 1, 1) := by decide +kernel
theorem dX11_saysSetup_93 : decode cX11_saysSetup 93 = .ok (.iconst 1, 1) := by decide +kernel
theorem dX11_saysSetup_94 : decode cX11_saysSetup 94 = .ok (.invokevirtual 186, 3) := by decide +kernel
theorem dX11_saysSetup_97 : decode cX11_saysSetup 97 = .ok (.invokevirtual 373, 3) := by decide +kernel
theorem dX11_saysSetup_100 : decode cX11_saysSetup 100 = .ok (.aload_n 0, 1) := by decide +kernel
theorem dX11_saysSetup_101 : decode cX11_saysSetup 101 = .ok (.ldc2_w 150, 3) := by decide +kernel
theorem dX11_saysSetup_104 : decode cX11_saysSetup 104 = .ok (.aload_n 0, 1) := by decide +kernel
theorem dX11_saysSetup_105 : decode cX11_saysSetup 105 = .ok (.iload_n 1, 1) := by decide +kernel
theorem dX11_saysSetup_106 : decode cX11_saysSetup 106 = .ok (.iconst 2, 1) := by decide +kernel
theorem dX11_saysSetup_107 : decode cX11_saysSetup 107 = .ok (.invokevirtual 186, 3) := by decide +kernel
theorem dX11_saysSetup_110 : decode cX11_saysSetup 110 = .ok (.invokevirtual 373, 3) := by decide +kernel
theorem dX11_saysSetup_113 : decode cX11_saysSetup 113 = .ok (.aload_n 0, 1) := by decide +kernel
theorem dX11_saysSetup_114 : decode cX11_saysSetup 114 = .ok (.ldc2_w 153, 3) := by decide +kernel
theorem dX11_saysSetup_117 : decode cX11_saysSetup 117 = .ok (.aload_n 0, 1) := by decide +kernel
theorem dX11_saysSetup_118 : decode cX11_saysSetup 118 = .ok (.iload_n 1, 1) := by decide +kernel
theorem dX11_saysSetup_119 : decode cX11_saysSetup 119 = .ok (.iconst 3, 1) := by decide +kernel
theorem dX11_saysSetup_120 : decode cX11_saysSetup 120 = .ok (.invokevirtual 186, 3) := by decide +kernel
theorem dX11_saysSetup_123 : decode cX11_saysSetup 123 = .ok (.invokevirtual 373, 3) := by decide +kernel
theorem dX11_saysSetup_126 : decode cX11_saysSetup 126 = .ok (.aload_n 0, 1) := by decide +kernel
theorem dX11_saysSetup_127 : decode cX11_saysSetup 127 = .ok (.bipush 59, 2) := by decide +kernel
theorem dX11_saysSetup_129 : decode cX11_saysSetup 129 = .ok (.invokevirtual 359, 3) := by decide +kernel
theorem dX11_saysSetup_132 : decode cX11_saysSetup 132 = .ok (.iinc 1 1, 3) := by decide +kernel
theorem dX11_saysSetup_135 : decode cX11_saysSetup 135 = .ok (.goto (-75), 3) := by decide +kernel
theorem dX11_saysSetup_138 : decode cX11_saysSetup 138 = .ok (.aload_n 0, 1) := by decide +kernel
theorem dX11_saysSetup_139 : decode cX11_saysSetup 139 = .ok (.ldc2_w 170, 3) := by decide +kernel
theorem dX11_saysSetup_142 : decode cX11_saysSetup 142 = .ok (.invokevirtual 362, 3) := by decide +kernel
theorem dX11_saysSetup_145 : decode cX11_saysSetup 145 = .ok (.aload_n 0, 1) := by decide +kernel
theorem dX11_saysSetup_146 : decode cX11_saysSetup 146 = .ok (.aload_n 0, 1) := by decide +kernel
theorem dX11_saysSetup_147 : decode cX11_saysSetup 147 = .ok (.getfield 17, 3) := by decide +kernel
theorem dX11_saysSetup_150 : decode cX11_saysSetup 150 = .ok (.iconst 2, 1) := by decide +kernel
theorem dX11_saysSetup_151 : decode cX11_saysSetup 151 = .ok (.iaload, 1) := by decide +kernel
theorem dX11_saysSetup_152 : decode cX11_saysSetup 152 = .ok (.invokevirtual 366, 3) := by decide +kernel
theorem dX11_saysSetup_155 : decode cX11_saysSetup 155 = .ok (.aload_n 0, 1) := by decide +kernel
theorem dX11_saysSetup_156 : decode cX11_saysSetup 156 = .ok (.bipush 59, 2) := by decide +kernel
theorem dX11_saysSetup_158 : decode cX11_saysSetup 158 = .ok (.invokevirtual 359, 3) := by decide +kernel
theorem dX11_saysSetup_161 : decode cX11_saysSetup 161 = .ok (.aload_n 0, 1) := by decide +kernel
theorem dX11_saysSetup_162 : decode cX11_saysSetup 162 = .ok (.ldc2_w 172, 3) := by decide +kernel
theorem dX11_saysSetup_165 : decode cX11_saysSetup 165 = .ok (.invokevirtual 362, 3) := by decide +kernel
theorem dX11_saysSetup_168 : decode cX11_saysSetup 168 = .ok (.aload_n 0, 1) := by decide +kernel
theorem dX11_saysSetup_169 : decode cX11_saysSetup 169 = .ok (.aload_n 0, 1) := by decide +kernel
theorem dX11_saysSetup_170 : decode cX11_saysSetup 170 = .ok (.getfield 17, 3) := by decide +kernel
theorem dX11_saysSetup_173 : decode cX11_saysSetup 173 = .ok (.iconst 3, 1) := by decide +kernel
theorem dX11_saysSetup_174 : decode cX11_saysSetup 174 = .ok (.iaload, 1) := by decide +kernel
theorem dX11_saysSetup_175 : decode cX11_saysSetup 175 = .ok (.invokevirtual 366, 3) := by decide +kernel
theorem dX11_saysSetup_178 : decode cX11_saysSetup 178 = .ok (.aload_n 0, 1) := by decide +kernel
theorem dX11_saysSetup_179 : decode cX11_saysSetup 179 = .ok (.bipush 59, 2) := by decide +kernel
theorem dX11_saysSetup_181 : decode cX11_saysSetup 181 = .ok (.invokevirtual 359, 3) := by decide +kernel
theorem dX11_saysSetup_184 : decode cX11_saysSetup 184 = .ok (.return_, 1) := by decide +kernel
theorem dX11_saysMap_0 : decode cX11_saysMap 0 = .ok (.aload_n 0, 1) := by decide +kernel
theorem dX11_saysMap_1 : decode cX11_saysMap 1 = .ok (.iconst 0, 1) := by decide +kernel
theorem dX11_saysMap_2 : decode cX11_saysMap 2 = .ok (.putfield 354, 3) := by decide +kernel
theorem dX11_saysMap_5 : decode cX11_saysMap 5 = .ok (.iconst 0, 1) := by decide +kernel
theorem dX11_saysMap_6 : decode cX11_saysMap 6 = .ok (.istore_n 1, 1) := by decide +kernel
theorem dX11_saysMap_7 : decode cX11_saysMap 7 = .ok (.iload_n 1, 1) := by decide +kernel
theorem dX11_saysMap_8 : decode cX11_saysMap 8 = .ok (.aload_n 0, 1) := by decide +kernel
theorem dX11_saysMap_9 : decode cX11_saysMap 9 = .ok (.getfield 17, 3) := by decide +kernel
theorem dX11_saysMap_12 : decode cX11_saysMap 12 = .ok (.iconst 0, 1) := by decide +kernel
theorem dX11_saysMap_13 : decode cX11_saysMap 13 = .ok (.iaload, 1) := by decide +kernel
theorem dX11_saysMap_14 : decode cX11_saysMap 14 = .ok (.if_icmp .ge 124, 3) := by decide +kernel
theorem dX11_saysMap_17 : decode cX11_saysMap 17 = .ok (.aload_n 0, 1) := by decide +kernel
theorem dX11_saysMap_18 : decode cX11_saysMap 18 = .ok (.getfield 24, 3) := by decide +kernel
theorem dX11_saysMap_21 : decode cX11_saysMap 21 = .ok (.bipush 90, 2) := by decide +kernel
theorem dX11_saysMap_23 : decode cX11_saysMap 23 = .ok (.iload_n 1, 1) := by decide +kernel
theorem dX11_saysMap_24 : decode cX11_saysMap 24 = .ok (.iadd, 1) := by decide +kernel
theorem dX11_saysMap_25 : decode cX11_saysMap 25 = .ok (.iaload, 1) := by decide +kernel
theorem dX11_saysMap_26 : decode cX11_saysMap 26 = .ok (.ifCond .lt 7, 3) := by decide +kernel
theorem dX11_saysMap_29 : decode cX11_saysMap 29 = .ok (.iconst 1, 1) := by decide +kernel
theorem dX11_saysMap_30 : decode cX11_saysMap 30 = .ok (.goto 4, 3) := by decide +kernel
theorem dX11_saysMap_33 : decode cX11_saysMap 33 = .ok (.iconst 0, 1) := by decide +kernel
theorem dX11_saysMap_34 : decode cX11_saysMap 34 = .ok (.istore_n 2, 1) := by decide +kernel
theorem dX11_saysMap_35 : decode cX11_saysMap 35 = .ok (.aload_n 0, 1) := by decide +kernel
theorem dX11_saysMap_36 : decode cX11_saysMap 36 = .ok (.getfield 24, 3) := by decide +kernel
theorem dX11_saysMap_39 : decode cX11_saysMap 39 = .ok (.sipush 150, 3) := by decide +kernel
theorem dX11_saysMap_42 : decode cX11_saysMap 42 = .ok (.iload_n 1, 1) := by decide +kernel
theorem dX11_saysMap_43 : decode cX11_saysMap 43 = .ok (.iadd, 1) := by decide +kernel
theorem dX11_saysMap_44 : decode cX11_saysMap 44 = .ok (.iaload, 1) := by decide +kernel
theorem dX11_saysMap_45 : decode cX11_saysMap 45 = .ok (.ifCond .ne 21, 3) := by decide +kernel
theorem dX11_saysMap_48 : decode cX11_saysMap 48 = .ok (.aload_n 0, 1) := by decide +kernel
theorem dX11_saysMap_49 : decode cX11_saysMap 49 = .ok (.iload_n 2, 1) := by decide +kernel
theorem dX11_saysMap_50 : decode cX11_saysMap 50 = .ok (.ifCond .eq 8, 3) := by decide +kernel
theorem dX11_saysMap_53 : decode cX11_saysMap 53 = .ok (.bipush 120, 2) := by decide +kernel
theorem dX11_saysMap_55 : decode cX11_saysMap 55 = .ok (.goto 5, 3) := by decide +kernel
theorem dX11_saysMap_58 : decode cX11_saysMap 58 = .ok (.bipush 46, 2) := by decide +kernel
theorem dX11_saysMap_60 : decode cX11_saysMap 60 = .ok (.invokevirtual 359, 3) := by decide +kernel
theorem dX11_saysMap_63 : decode cX11_saysMap 63 = .ok (.goto 69, 3) := by decide +kernel
theorem dX11_saysMap_66 : decode cX11_saysMap 66 = .ok (.iload_n 2, 1) := by decide +kernel
theorem dX11_saysMap_67 : decode cX11_saysMap 67 = .ok (.ifCond .ne 12, 3) := by decide +kernel
theorem dX11_saysMap_70 : decode cX11_saysMap 70 = .ok (.aload_n 0, 1) := by decide +kernel
theorem dX11_saysMap_71 : decode cX11_saysMap 71 = .ok (.bipush 111, 2) := by decide +kernel
theorem dX11_saysMap_73 : decode cX11_saysMap 73 = .ok (.invokevirtual 359, 3) := by decide +kernel
theorem dX11_saysMap_76 : decode cX11_saysMap 76 = .ok (.goto 56, 3) := by decide +kernel
theorem dX11_saysMap_79 : decode cX11_saysMap 79 = .ok (.aload_n 0, 1) := by decide +kernel
theorem dX11_saysMap_80 : decode cX11_saysMap 80 = .ok (.getfield 24, 3) := by decide +kernel
theorem dX11_saysMap_83 : decode cX11_saysMap 83 = .ok (.sipush 210, 3) := by decide +kernel
theorem dX11_saysMap_86 : decode cX11_saysMap 86 = .ok (.iload_n 1, 1) := by decide +kernel
theorem dX11_saysMap_87 : decode cX11_saysMap 87 = .ok (.iadd, 1) := by decide +kernel
theorem dX11_saysMap_88 : decode cX11_saysMap 88 = .ok (.iaload, 1) := by decide +kernel
theorem dX11_saysMap_89 : decode cX11_saysMap 89 = .ok (.istore_n 3, 1) := by decide +kernel
theorem dX11_saysMap_90 : decode cX11_saysMap 90 = .ok (.aload_n 0, 1) := by decide +kernel
theorem dX11_saysMap_91 : decode cX11_saysMap 91 = .ok (.iload_n 3, 1) := by decide +kernel
theorem dX11_saysMap_92 : decode cX11_saysMap 92 = .ok (.ifCond .ne 8, 3) := by decide +kernel
theorem dX11_saysMap_95 : decode cX11_saysMap 95 = .ok (.bipush 97, 2) := by decide +kernel
theorem dX11_saysMap_97 : decode cX11_saysMap 97 = .ok (.goto 32, 3) := by decide +kernel
theorem dX11_saysMap_100 : decode cX11_saysMap 100 = .ok (.iload_n 3, 1) := by decide +kernel
theorem dX11_saysMap_101 : decode cX11_saysMap 101 = .ok (.ifCond .ge 8, 3) := by decide +kernel
theorem dX11_saysMap_104 : decode cX11_saysMap 104 = .ok (.bipush 98, 2) := by decide +kernel
theorem dX11_saysMap_106 : decode cX11_saysMap 106 = .ok (.goto 23, 3) := by decide +kernel
theorem dX11_saysMap_109 : decode cX11_saysMap 109 = .ok (.aload_n 0, 1) := by decide +kernel
theorem dX11_saysMap_110 : decode cX11_saysMap 110 = .ok (.getfield 24, 3) := by decide +kernel
theorem dX11_saysMap_113 : decode cX11_saysMap 113 = .ok (.sipush 270, 3) := by decide +kernel
theorem dX11_saysMap_116 : decode cX11_saysMap 116 = .ok (.iload_n 1, 1) := by decide +kernel
theorem dX11_saysMap_117 : decode cX11_saysMap 117 = .ok (.iadd, 1) := by decide +kernel
theorem dX11_saysMap_118 : decode cX11_saysMap 118 = .ok (.iaload, 1) := by decide +kernel
theorem dX11_saysMap_119 : decode cX11_saysMap 119 = .ok (.ifCond .ne 8, 3) := by decide +kernel
theorem dX11_saysMap_122 : decode cX11_saysMap 122 = .ok (.bipush 99, 2) := by decide +kernel
theorem dX11_saysMap_124 : decode cX11_saysMap 124 = .ok (.goto 5, 3) := by decide +kernel
theorem dX11_saysMap_127 : decode cX11_saysMap 127 = .ok (.bipush 100, 2) := by decide +kernel
theorem dX11_saysMap_129 : decode cX11_saysMap 129 = .ok (.invokevirtual 359, 3) := by decide +kernel
theorem dX11_saysMap_132 : decode cX11_saysMap 132 = .ok (.iinc 1 1, 3) := by decide +kernel
theorem dX11_saysMap_135 : decode cX11_saysMap 135 = .ok (.goto (-128), 3) := by decide +kernel
theorem dX11_saysMap_138 : decode cX11_saysMap 138 = .ok (.aload_n 0, 1) := by decide +kernel
theorem dX11_saysMap_139 : decode cX11_saysMap 139 = .ok (.bipush 10, 2) := by decide +kernel
theorem dX11_saysMap_141 : decode cX11_saysMap 141 = .ok (.invokevirtual 359, 3) := by decide +kernel
theorem dX11_saysMap_144 : decode cX11_saysMap 144 = .ok (.return_, 1) := by decide +kernel
theorem dX11_said_0 : decode cX11_said 0 = .ok (.iload_n 1, 1) := by decide +kernel
theorem dX11_said_1 : decode cX11_said 1 = .ok (.ifCond .ge 7, 3) := by decide +kernel
theorem dX11_said_4 : decode cX11_said 4 = .ok (.iconst (-1), 1) := by decide +kernel
theorem dX11_said_5 : decode cX11_said 5 = .ok (.goto 22, 3) := by decide +kernel
theorem dX11_said_8 : decode cX11_said 8 = .ok (.iload_n 1, 1) := by decide +kernel
theorem dX11_said_9 : decode cX11_said 9 = .ok (.aload_n 0, 1) := by decide +kernel
theorem dX11_said_10 : decode cX11_said 10 = .ok (.getfield 354, 3) := by decide +kernel
theorem dX11_said_13 : decode cX11_said 13 = .ok (.if_icmp .ge 12, 3) := by decide +kernel
theorem dX11_said_16 : decode cX11_said 16 = .ok (.aload_n 0, 1) := by decide +kernel
theorem dX11_said_17 : decode cX11_said 17 = .ok (.getfield 48, 3) := by decide +kernel
theorem dX11_said_20 : decode cX11_said 20 = .ok (.iload_n 1, 1) := by decide +kernel
theorem dX11_said_21 : decode cX11_said 21 = .ok (.iaload, 1) := by decide +kernel
theorem dX11_said_22 : decode cX11_said 22 = .ok (.goto 5, 3) := by decide +kernel
theorem dX11_said_25 : decode cX11_said 25 = .ok (.bipush (-2), 2) := by decide +kernel
theorem dX11_said_27 : decode cX11_said 27 = .ok (.ireturn, 1) := by decide +kernel
theorem dX11_mapLength_0 : decode cX11_mapLength 0 = .ok (.aload_n 0, 1) := by decide +kernel
theorem dX11_mapLength_1 : decode cX11_mapLength 1 = .ok (.invokevirtual 380, 3) := by decide +kernel
theorem dX11_mapLength_4 : decode cX11_mapLength 4 = .ok (.aload_n 0, 1) := by decide +kernel
theorem dX11_mapLength_5 : decode cX11_mapLength 5 = .ok (.getfield 354, 3) := by decide +kernel
theorem dX11_mapLength_8 : decode cX11_mapLength 8 = .ok (.ireturn, 1) := by decide +kernel
theorem dX11_mapByte_0 : decode cX11_mapByte 0 = .ok (.aload_n 0, 1) := by decide +kernel
theorem dX11_mapByte_1 : decode cX11_mapByte 1 = .ok (.invokevirtual 380, 3) := by decide +kernel
theorem dX11_mapByte_4 : decode cX11_mapByte 4 = .ok (.aload_n 0, 1) := by decide +kernel
theorem dX11_mapByte_5 : decode cX11_mapByte 5 = .ok (.iload_n 1, 1) := by decide +kernel
theorem dX11_mapByte_6 : decode cX11_mapByte 6 = .ok (.invokevirtual 383, 3) := by decide +kernel
theorem dX11_mapByte_9 : decode cX11_mapByte 9 = .ok (.ireturn, 1) := by decide +kernel
theorem dX11_setupLength_0 : decode cX11_setupLength 0 = .ok (.aload_n 0, 1) := by decide +kernel
theorem dX11_setupLength_1 : decode cX11_setupLength 1 = .ok (.invokevirtual 386, 3) := by decide +kernel
theorem dX11_setupLength_4 : decode cX11_setupLength 4 = .ok (.aload_n 0, 1) := by decide +kernel
theorem dX11_setupLength_5 : decode cX11_setupLength 5 = .ok (.getfield 354, 3) := by decide +kernel
theorem dX11_setupLength_8 : decode cX11_setupLength 8 = .ok (.ireturn, 1) := by decide +kernel
theorem dX11_setupByte_0 : decode cX11_setupByte 0 = .ok (.aload_n 0, 1) := by decide +kernel
theorem dX11_setupByte_1 : decode cX11_setupByte 1 = .ok (.invokevirtual 386, 3) := by decide +kernel
theorem dX11_setupByte_4 : decode cX11_setupByte 4 = .ok (.aload_n 0, 1) := by decide +kernel
theorem dX11_setupByte_5 : decode cX11_setupByte 5 = .ok (.iload_n 1, 1) := by decide +kernel
theorem dX11_setupByte_6 : decode cX11_setupByte 6 = .ok (.invokevirtual 383, 3) := by decide +kernel
theorem dX11_setupByte_9 : decode cX11_setupByte 9 = .ok (.ireturn, 1) := by decide +kernel
theorem dX11_tapeLength_0 : decode cX11_tapeLength 0 = .ok (.aload_n 0, 1) := by decide +kernel
theorem dX11_tapeLength_1 : decode cX11_tapeLength 1 = .ok (.getfield 57, 3) := by decide +kernel
theorem dX11_tapeLength_4 : decode cX11_tapeLength 4 = .ok (.ireturn, 1) := by decide +kernel
theorem dJ9_max_7cf53_0 : decode cJ9_max_7cf53 0 = .ok (.iload_n 0, 1) := by decide +kernel
theorem dJ9_max_7cf53_1 : decode cJ9_max_7cf53 1 = .ok (.iload_n 1, 1) := by decide +kernel
theorem dJ9_max_7cf53_2 : decode cJ9_max_7cf53 2 = .ok (.if_icmp .lt 7, 3) := by decide +kernel
theorem dJ9_max_7cf53_5 : decode cJ9_max_7cf53 5 = .ok (.iload_n 0, 1) := by decide +kernel
theorem dJ9_max_7cf53_6 : decode cJ9_max_7cf53 6 = .ok (.goto 4, 3) := by decide +kernel
theorem dJ9_max_7cf53_9 : decode cJ9_max_7cf53 9 = .ok (.iload_n 1, 1) := by decide +kernel
theorem dJ9_max_7cf53_10 : decode cJ9_max_7cf53 10 = .ok (.ireturn, 1) := by decide +kernel
theorem dJ9_min_7cf53_0 : decode cJ9_min_7cf53 0 = .ok (.iload_n 0, 1) := by decide +kernel
theorem dJ9_min_7cf53_1 : decode cJ9_min_7cf53 1 = .ok (.iload_n 1, 1) := by decide +kernel
theorem dJ9_min_7cf53_2 : decode cJ9_min_7cf53 2 = .ok (.if_icmp .gt 7, 3) := by decide +kernel
theorem dJ9_min_7cf53_5 : decode cJ9_min_7cf53 5 = .ok (.iload_n 0, 1) := by decide +kernel
theorem dJ9_min_7cf53_6 : decode cJ9_min_7cf53 6 = .ok (.goto 4, 3) := by decide +kernel
theorem dJ9_min_7cf53_9 : decode cJ9_min_7cf53 9 = .ok (.iload_n 1, 1) := by decide +kernel
theorem dJ9_min_7cf53_10 : decode cJ9_min_7cf53 10 = .ok (.ireturn, 1) := by decide +kernel
theorem dJ0_length_8abf5_0 : decode cJ0_length_8abf5 0 = .ok (.aload_n 0, 1) := by decide +kernel
theorem dJ0_length_8abf5_1 : decode cJ0_length_8abf5 1 = .ok (.getfield 9, 3) := by decide +kernel
theorem dJ0_length_8abf5_4 : decode cJ0_length_8abf5 4 = .ok (.arraylength, 1) := by decide +kernel
theorem dJ0_length_8abf5_5 : decode cJ0_length_8abf5 5 = .ok (.aload_n 0, 1) := by decide +kernel
theorem dJ0_length_8abf5_6 : decode cJ0_length_8abf5 6 = .ok (.invokevirtual 335, 3) := by decide +kernel
theorem dJ0_length_8abf5_9 : decode cJ0_length_8abf5 9 = .ok (.ishr, 1) := by decide +kernel
theorem dJ0_length_8abf5_10 : decode cJ0_length_8abf5 10 = .ok (.ireturn, 1) := by decide +kernel
theorem dJ0_charAt_5068e_0 : decode cJ0_charAt_5068e 0 = .ok (.aload_n 0, 1) := by decide +kernel
theorem dJ0_charAt_5068e_1 : decode cJ0_charAt_5068e 1 = .ok (.invokevirtual 492, 3) := by decide +kernel
theorem dJ0_charAt_5068e_4 : decode cJ0_charAt_5068e 4 = .ok (.ifCond .eq 12, 3) := by decide +kernel
theorem dJ0_charAt_5068e_7 : decode cJ0_charAt_5068e 7 = .ok (.aload_n 0, 1) := by decide +kernel
theorem dJ0_charAt_5068e_8 : decode cJ0_charAt_5068e 8 = .ok (.getfield 9, 3) := by decide +kernel
theorem dJ0_charAt_5068e_11 : decode cJ0_charAt_5068e 11 = .ok (.iload_n 1, 1) := by decide +kernel
theorem dJ0_charAt_5068e_12 : decode cJ0_charAt_5068e 12 = .ok (.invokestatic 495, 3) := by decide +kernel
theorem dJ0_charAt_5068e_15 : decode cJ0_charAt_5068e 15 = .ok (.ireturn, 1) := by decide +kernel
theorem dJ0_charAt_5068e_16 : decode cJ0_charAt_5068e 16 = .ok (.aload_n 0, 1) := by decide +kernel
theorem dJ0_charAt_5068e_17 : decode cJ0_charAt_5068e 17 = .ok (.getfield 9, 3) := by decide +kernel
theorem dJ0_charAt_5068e_20 : decode cJ0_charAt_5068e 20 = .ok (.iload_n 1, 1) := by decide +kernel
theorem dJ0_charAt_5068e_21 : decode cJ0_charAt_5068e 21 = .ok (.invokestatic 498, 3) := by decide +kernel
theorem dJ0_charAt_5068e_24 : decode cJ0_charAt_5068e 24 = .ok (.ireturn, 1) := by decide +kernel
theorem dJ0_coder_7d493_0 : decode cJ0_coder_7d493 0 = .ok (.getstatic 38, 3) := by decide +kernel
theorem dJ0_coder_7d493_3 : decode cJ0_coder_7d493 3 = .ok (.ifCond .eq 10, 3) := by decide +kernel
theorem dJ0_coder_7d493_6 : decode cJ0_coder_7d493 6 = .ok (.aload_n 0, 1) := by decide +kernel
theorem dJ0_coder_7d493_7 : decode cJ0_coder_7d493 7 = .ok (.getfield 15, 3) := by decide +kernel
theorem dJ0_coder_7d493_10 : decode cJ0_coder_7d493 10 = .ok (.goto 4, 3) := by decide +kernel
theorem dJ0_coder_7d493_13 : decode cJ0_coder_7d493 13 = .ok (.iconst 1, 1) := by decide +kernel
theorem dJ0_coder_7d493_14 : decode cJ0_coder_7d493 14 = .ok (.ireturn, 1) := by decide +kernel
theorem dJ0_isLatin1_aae02_0 : decode cJ0_isLatin1_aae02 0 = .ok (.getstatic 38, 3) := by decide +kernel
theorem dJ0_isLatin1_aae02_3 : decode cJ0_isLatin1_aae02 3 = .ok (.ifCond .eq 14, 3) := by decide +kernel
theorem dJ0_isLatin1_aae02_6 : decode cJ0_isLatin1_aae02 6 = .ok (.aload_n 0, 1) := by decide +kernel
theorem dJ0_isLatin1_aae02_7 : decode cJ0_isLatin1_aae02 7 = .ok (.getfield 15, 3) := by decide +kernel
theorem dJ0_isLatin1_aae02_10 : decode cJ0_isLatin1_aae02 10 = .ok (.ifCond .ne 7, 3) := by decide +kernel
theorem dJ0_isLatin1_aae02_13 : decode cJ0_isLatin1_aae02 13 = .ok (.iconst 1, 1) := by decide +kernel
theorem dJ0_isLatin1_aae02_14 : decode cJ0_isLatin1_aae02 14 = .ok (.goto 4, 3) := by decide +kernel
theorem dJ0_isLatin1_aae02_17 : decode cJ0_isLatin1_aae02 17 = .ok (.iconst 0, 1) := by decide +kernel
theorem dJ0_isLatin1_aae02_18 : decode cJ0_isLatin1_aae02 18 = .ok (.ireturn, 1) := by decide +kernel
theorem dJ0_checkIndex_df160_0 : decode cJ0_checkIndex_df160 0 = .ok (.iload_n 0, 1) := by decide +kernel
theorem dJ0_checkIndex_df160_1 : decode cJ0_checkIndex_df160 1 = .ok (.iload_n 1, 1) := by decide +kernel
theorem dJ0_checkIndex_df160_2 : decode cJ0_checkIndex_df160 2 = .ok (.getstatic 1053, 3) := by decide +kernel
theorem dJ0_checkIndex_df160_5 : decode cJ0_checkIndex_df160 5 = .ok (.invokestatic 1059, 3) := by decide +kernel
theorem dJ0_checkIndex_df160_8 : decode cJ0_checkIndex_df160 8 = .ok (.pop, 1) := by decide +kernel
theorem dJ0_checkIndex_df160_9 : decode cJ0_checkIndex_df160 9 = .ok (.return_, 1) := by decide +kernel
theorem dJ1_charAt_3b067_0 : decode cJ1_charAt_3b067 0 = .ok (.iload_n 1, 1) := by decide +kernel
theorem dJ1_charAt_3b067_1 : decode cJ1_charAt_3b067 1 = .ok (.aload_n 0, 1) := by decide +kernel
theorem dJ1_charAt_3b067_2 : decode cJ1_charAt_3b067 2 = .ok (.arraylength, 1) := by decide +kernel
theorem dJ1_charAt_3b067_3 : decode cJ1_charAt_3b067 3 = .ok (.invokestatic 9, 3) := by decide +kernel
theorem dJ1_charAt_3b067_6 : decode cJ1_charAt_3b067 6 = .ok (.aload_n 0, 1) := by decide +kernel
theorem dJ1_charAt_3b067_7 : decode cJ1_charAt_3b067 7 = .ok (.iload_n 1, 1) := by decide +kernel
theorem dJ1_charAt_3b067_8 : decode cJ1_charAt_3b067 8 = .ok (.baload, 1) := by decide +kernel
theorem dJ1_charAt_3b067_9 : decode cJ1_charAt_3b067 9 = .ok (.sipush 255, 3) := by decide +kernel
theorem dJ1_charAt_3b067_12 : decode cJ1_charAt_3b067 12 = .ok (.iand, 1) := by decide +kernel
theorem dJ1_charAt_3b067_13 : decode cJ1_charAt_3b067 13 = .ok (.i2c, 1) := by decide +kernel
theorem dJ1_charAt_3b067_14 : decode cJ1_charAt_3b067 14 = .ok (.ireturn, 1) := by decide +kernel
theorem dJ2_getChar_3b067_0 : decode cJ2_getChar_3b067 0 = .ok (.getstatic 44, 3) := by decide +kernel
theorem dJ2_getChar_3b067_3 : decode cJ2_getChar_3b067 3 = .ok (.ifCond .ne 25, 3) := by decide +kernel
theorem dJ2_getChar_3b067_6 : decode cJ2_getChar_3b067 6 = .ok (.iload_n 1, 1) := by decide +kernel
theorem dJ2_getChar_3b067_7 : decode cJ2_getChar_3b067 7 = .ok (.ifCond .lt 11, 3) := by decide +kernel
theorem dJ2_getChar_3b067_10 : decode cJ2_getChar_3b067 10 = .ok (.iload_n 1, 1) := by decide +kernel
theorem dJ2_getChar_3b067_11 : decode cJ2_getChar_3b067 11 = .ok (.aload_n 0, 1) := by decide +kernel
theorem dJ2_getChar_3b067_12 : decode cJ2_getChar_3b067 12 = .ok (.invokestatic 48, 3) := by decide +kernel
theorem dJ2_getChar_3b067_15 : decode cJ2_getChar_3b067 15 = .ok (.if_icmp .lt 13, 3) := by decide +kernel
theorem dJ2_getChar_3b067_18 : decode cJ2_getChar_3b067 18 = .ok (.new 52, 3) := by decide +kernel
theorem dJ2_getChar_3b067_21 : decode cJ2_getChar_3b067 21 = .ok (.dup, 1) := by decide +kernel
theorem dJ2_getChar_3b067_22 : decode cJ2_getChar_3b067 22 = .ok (.ldc 54, 2) := by decide +kernel
theorem dJ2_getChar_3b067_24 : decode cJ2_getChar_3b067 24 = .ok (.invokespecial 56, 3) := by decide +kernel
theorem dJ2_getChar_3b067_27 : decode cJ2_getChar_3b067 27 = .ok (.athrow, 1) := by decide +kernel
theorem dJ2_getChar_3b067_28 : decode cJ2_getChar_3b067 28 = .ok (.iload_n 1, 1) := by decide +kernel
theorem dJ2_getChar_3b067_29 : decode cJ2_getChar_3b067 29 = .ok (.iconst 1, 1) := by decide +kernel
theorem dJ2_getChar_3b067_30 : decode cJ2_getChar_3b067 30 = .ok (.ishl, 1) := by decide +kernel
theorem dJ2_getChar_3b067_31 : decode cJ2_getChar_3b067 31 = .ok (.istore_n 1, 1) := by decide +kernel
theorem dJ2_getChar_3b067_32 : decode cJ2_getChar_3b067 32 = .ok (.aload_n 0, 1) := by decide +kernel
theorem dJ2_getChar_3b067_33 : decode cJ2_getChar_3b067 33 = .ok (.iload_n 1, 1) := by decide +kernel
theorem dJ2_getChar_3b067_34 : decode cJ2_getChar_3b067 34 = .ok (.iinc 1 1, 3) := by decide +kernel
theorem dJ2_getChar_3b067_37 : decode cJ2_getChar_3b067 37 = .ok (.baload, 1) := by decide +kernel
theorem dJ2_getChar_3b067_38 : decode cJ2_getChar_3b067 38 = .ok (.sipush 255, 3) := by decide +kernel
theorem dJ2_getChar_3b067_41 : decode cJ2_getChar_3b067 41 = .ok (.iand, 1) := by decide +kernel
theorem dJ2_getChar_3b067_42 : decode cJ2_getChar_3b067 42 = .ok (.getstatic 59, 3) := by decide +kernel
theorem dJ2_getChar_3b067_45 : decode cJ2_getChar_3b067 45 = .ok (.ishl, 1) := by decide +kernel
theorem dJ2_getChar_3b067_46 : decode cJ2_getChar_3b067 46 = .ok (.aload_n 0, 1) := by decide +kernel
theorem dJ2_getChar_3b067_47 : decode cJ2_getChar_3b067 47 = .ok (.iload_n 1, 1) := by decide +kernel
theorem dJ2_getChar_3b067_48 : decode cJ2_getChar_3b067 48 = .ok (.baload, 1) := by decide +kernel
theorem dJ2_getChar_3b067_49 : decode cJ2_getChar_3b067 49 = .ok (.sipush 255, 3) := by decide +kernel
theorem dJ2_getChar_3b067_52 : decode cJ2_getChar_3b067 52 = .ok (.iand, 1) := by decide +kernel
theorem dJ2_getChar_3b067_53 : decode cJ2_getChar_3b067 53 = .ok (.getstatic 63, 3) := by decide +kernel
theorem dJ2_getChar_3b067_56 : decode cJ2_getChar_3b067 56 = .ok (.ishl, 1) := by decide +kernel
theorem dJ2_getChar_3b067_57 : decode cJ2_getChar_3b067 57 = .ok (.ior, 1) := by decide +kernel
theorem dJ2_getChar_3b067_58 : decode cJ2_getChar_3b067 58 = .ok (.i2c, 1) := by decide +kernel
theorem dJ2_getChar_3b067_59 : decode cJ2_getChar_3b067 59 = .ok (.ireturn, 1) := by decide +kernel
theorem dJ2_length_9d52b_0 : decode cJ2_length_9d52b 0 = .ok (.aload_n 0, 1) := by decide +kernel
theorem dJ2_length_9d52b_1 : decode cJ2_length_9d52b 1 = .ok (.arraylength, 1) := by decide +kernel
theorem dJ2_length_9d52b_2 : decode cJ2_length_9d52b 2 = .ok (.iconst 1, 1) := by decide +kernel
theorem dJ2_length_9d52b_3 : decode cJ2_length_9d52b 3 = .ok (.ishr, 1) := by decide +kernel
theorem dJ2_length_9d52b_4 : decode cJ2_length_9d52b 4 = .ok (.ireturn, 1) := by decide +kernel
theorem dJ2_charAt_3b067_0 : decode cJ2_charAt_3b067 0 = .ok (.iload_n 1, 1) := by decide +kernel
theorem dJ2_charAt_3b067_1 : decode cJ2_charAt_3b067 1 = .ok (.aload_n 0, 1) := by decide +kernel
theorem dJ2_charAt_3b067_2 : decode cJ2_charAt_3b067 2 = .ok (.invokestatic 67, 3) := by decide +kernel
theorem dJ2_charAt_3b067_5 : decode cJ2_charAt_3b067 5 = .ok (.aload_n 0, 1) := by decide +kernel
theorem dJ2_charAt_3b067_6 : decode cJ2_charAt_3b067 6 = .ok (.iload_n 1, 1) := by decide +kernel
theorem dJ2_charAt_3b067_7 : decode cJ2_charAt_3b067 7 = .ok (.invokestatic 71, 3) := by decide +kernel
theorem dJ2_charAt_3b067_10 : decode cJ2_charAt_3b067 10 = .ok (.ireturn, 1) := by decide +kernel
theorem dJ2_checkIndex_2214a_0 : decode cJ2_checkIndex_2214a 0 = .ok (.iload_n 0, 1) := by decide +kernel
theorem dJ2_checkIndex_2214a_1 : decode cJ2_checkIndex_2214a 1 = .ok (.aload_n 1, 1) := by decide +kernel
theorem dJ2_checkIndex_2214a_2 : decode cJ2_checkIndex_2214a 2 = .ok (.invokestatic 48, 3) := by decide +kernel
theorem dJ2_checkIndex_2214a_5 : decode cJ2_checkIndex_2214a 5 = .ok (.invokestatic 414, 3) := by decide +kernel
theorem dJ2_checkIndex_2214a_8 : decode cJ2_checkIndex_2214a 8 = .ok (.return_, 1) := by decide +kernel
theorem dJ7_fill_53178_0 : decode cJ7_fill_53178 0 = .ok (.iconst 0, 1) := by decide +kernel
theorem dJ7_fill_53178_1 : decode cJ7_fill_53178 1 = .ok (.istore_n 2, 1) := by decide +kernel
theorem dJ7_fill_53178_2 : decode cJ7_fill_53178 2 = .ok (.aload_n 0, 1) := by decide +kernel
theorem dJ7_fill_53178_3 : decode cJ7_fill_53178 3 = .ok (.arraylength, 1) := by decide +kernel
theorem dJ7_fill_53178_4 : decode cJ7_fill_53178 4 = .ok (.istore_n 3, 1) := by decide +kernel
theorem dJ7_fill_53178_5 : decode cJ7_fill_53178 5 = .ok (.iload_n 2, 1) := by decide +kernel
theorem dJ7_fill_53178_6 : decode cJ7_fill_53178 6 = .ok (.iload_n 3, 1) := by decide +kernel
theorem dJ7_fill_53178_7 : decode cJ7_fill_53178 7 = .ok (.if_icmp .ge 13, 3) := by decide +kernel
theorem dJ7_fill_53178_10 : decode cJ7_fill_53178 10 = .ok (.aload_n 0, 1) := by decide +kernel
theorem dJ7_fill_53178_11 : decode cJ7_fill_53178 11 = .ok (.iload_n 2, 1) := by decide +kernel
theorem dJ7_fill_53178_12 : decode cJ7_fill_53178 12 = .ok (.iload_n 1, 1) := by decide +kernel
theorem dJ7_fill_53178_13 : decode cJ7_fill_53178 13 = .ok (.iastore, 1) := by decide +kernel
theorem dJ7_fill_53178_14 : decode cJ7_fill_53178 14 = .ok (.iinc 2 1, 3) := by decide +kernel
theorem dJ7_fill_53178_17 : decode cJ7_fill_53178 17 = .ok (.goto (-12), 3) := by decide +kernel
theorem dJ7_fill_53178_20 : decode cJ7_fill_53178 20 = .ok (.return_, 1) := by decide +kernel
theorem dJ3_checkIndex_8e157_0 : decode cJ3_checkIndex_8e157 0 = .ok (.iload_n 0, 1) := by decide +kernel
theorem dJ3_checkIndex_8e157_1 : decode cJ3_checkIndex_8e157 1 = .ok (.ifCond .lt 8, 3) := by decide +kernel
theorem dJ3_checkIndex_8e157_4 : decode cJ3_checkIndex_8e157 4 = .ok (.iload_n 0, 1) := by decide +kernel
theorem dJ3_checkIndex_8e157_5 : decode cJ3_checkIndex_8e157 5 = .ok (.iload_n 1, 1) := by decide +kernel
theorem dJ3_checkIndex_8e157_6 : decode cJ3_checkIndex_8e157 6 = .ok (.if_icmp .lt 10, 3) := by decide +kernel
theorem dJ3_checkIndex_8e157_9 : decode cJ3_checkIndex_8e157 9 = .ok (.aload_n 2, 1) := by decide +kernel
theorem dJ3_checkIndex_8e157_10 : decode cJ3_checkIndex_8e157 10 = .ok (.iload_n 0, 1) := by decide +kernel
theorem dJ3_checkIndex_8e157_11 : decode cJ3_checkIndex_8e157 11 = .ok (.iload_n 1, 1) := by decide +kernel
theorem dJ3_checkIndex_8e157_12 : decode cJ3_checkIndex_8e157 12 = .ok (.invokestatic 95, 3) := by decide +kernel
theorem dJ3_checkIndex_8e157_15 : decode cJ3_checkIndex_8e157 15 = .ok (.athrow, 1) := by decide +kernel
theorem dJ3_checkIndex_8e157_16 : decode cJ3_checkIndex_8e157 16 = .ok (.iload_n 0, 1) := by decide +kernel
theorem dJ3_checkIndex_8e157_17 : decode cJ3_checkIndex_8e157 17 = .ok (.ireturn, 1) := by decide +kernel
theorem dL_law_0 : decode cL_law 0 = .ok (.new 7, 3) := by decide +kernel
theorem dL_law_3 : decode cL_law 3 = .ok (.dup, 1) := by decide +kernel
theorem dL_law_4 : decode cL_law 4 = .ok (.invokespecial 9, 3) := by decide +kernel
theorem dL_law_7 : decode cL_law 7 = .ok (.astore_n 1, 1) := by decide +kernel
theorem dL_law_8 : decode cL_law 8 = .ok (.new 10, 3) := by decide +kernel
theorem dL_law_11 : decode cL_law 11 = .ok (.dup, 1) := by decide +kernel
theorem dL_law_12 : decode cL_law 12 = .ok (.invokespecial 12, 3) := by decide +kernel
theorem dL_law_15 : decode cL_law 15 = .ok (.astore_n 2, 1) := by decide +kernel
theorem dL_law_16 : decode cL_law 16 = .ok (.iconst 0, 1) := by decide +kernel
theorem dL_law_17 : decode cL_law 17 = .ok (.istore_n 3, 1) := by decide +kernel
theorem dL_law_18 : decode cL_law 18 = .ok (.iload_n 3, 1) := by decide +kernel
theorem dL_law_19 : decode cL_law 19 = .ok (.aload_n 0, 1) := by decide +kernel
theorem dL_law_20 : decode cL_law 20 = .ok (.arraylength, 1) := by decide +kernel
theorem dL_law_21 : decode cL_law 21 = .ok (.bipush 7, 2) := by decide +kernel
theorem dL_law_23 : decode cL_law 23 = .ok (.isub, 1) := by decide +kernel
theorem dL_law_24 : decode cL_law 24 = .ok (.if_icmp .gt 1445, 3) := by decide +kernel
theorem dL_law_27 : decode cL_law 27 = .ok (.aload_n 0, 1) := by decide +kernel
theorem dL_law_28 : decode cL_law 28 = .ok (.iload_n 3, 1) := by decide +kernel
theorem dL_law_29 : decode cL_law 29 = .ok (.iaload, 1) := by decide +kernel
theorem dL_law_30 : decode cL_law 30 = .ok (.bipush 63, 2) := by decide +kernel
theorem dL_law_32 : decode cL_law 32 = .ok (.iand, 1) := by decide +kernel
theorem dL_law_33 : decode cL_law 33 = .ok (.tableswitch 1430 0 50 #[219, 282, 305, 318, 331, 344, 367, 390, 403, 426, 449, 524, 547, 570, 593, 642, 665, 678, 691, 714, 737, 760, 783, 806, 819, 842, 865, 888, 911, 934, 957, 980, 1003, 1026, 1049, 1072, 1095, 1108, 1121, 1144, 1167, 1190, 1223, 1256, 1279, 1312, 1345, 1358, 1381, 1394, 1417], 219) := by decide +kernel
theorem dL_law_252 : decode cL_law 252 = .ok (.aload_n 1, 1) := by decide +kernel
theorem dL_law_253 : decode cL_law 253 = .ok (.aload_n 0, 1) := by decide +kernel
theorem dL_law_254 : decode cL_law 254 = .ok (.iload_n 3, 1) := by decide +kernel
theorem dL_law_255 : decode cL_law 255 = .ok (.iconst 1, 1) := by decide +kernel
theorem dL_law_256 : decode cL_law 256 = .ok (.iadd, 1) := by decide +kernel
theorem dL_law_257 : decode cL_law 257 = .ok (.iaload, 1) := by decide +kernel
theorem dL_law_258 : decode cL_law 258 = .ok (.aload_n 0, 1) := by decide +kernel
theorem dL_law_259 : decode cL_law 259 = .ok (.iload_n 3, 1) := by decide +kernel
theorem dL_law_260 : decode cL_law 260 = .ok (.iconst 2, 1) := by decide +kernel
theorem dL_law_261 : decode cL_law 261 = .ok (.iadd, 1) := by decide +kernel
theorem dL_law_262 : decode cL_law 262 = .ok (.iaload, 1) := by decide +kernel
theorem dL_law_263 : decode cL_law 263 = .ok (.aload_n 0, 1) := by decide +kernel
theorem dL_law_264 : decode cL_law 264 = .ok (.iload_n 3, 1) := by decide +kernel
theorem dL_law_265 : decode cL_law 265 = .ok (.iconst 3, 1) := by decide +kernel
theorem dL_law_266 : decode cL_law 266 = .ok (.iadd, 1) := by decide +kernel
theorem dL_law_267 : decode cL_law 267 = .ok (.iaload, 1) := by decide +kernel
theorem dL_law_268 : decode cL_law 268 = .ok (.aload_n 0, 1) := by decide +kernel
theorem dL_law_269 : decode cL_law 269 = .ok (.iload_n 3, 1) := by decide +kernel
theorem dL_law_270 : decode cL_law 270 = .ok (.iconst 4, 1) := by decide +kernel
theorem dL_law_271 : decode cL_law 271 = .ok (.iadd, 1) := by decide +kernel
theorem dL_law_272 : decode cL_law 272 = .ok (.iaload, 1) := by decide +kernel
theorem dL_law_273 : decode cL_law 273 = .ok (.aload_n 0, 1) := by decide +kernel
theorem dL_law_274 : decode cL_law 274 = .ok (.iload_n 3, 1) := by decide +kernel
theorem dL_law_275 : decode cL_law 275 = .ok (.iconst 5, 1) := by decide +kernel
theorem dL_law_276 : decode cL_law 276 = .ok (.iadd, 1) := by decide +kernel
theorem dL_law_277 : decode cL_law 277 = .ok (.iaload, 1) := by decide +kernel
theorem dL_law_278 : decode cL_law 278 = .ok (.invokevirtual 13, 3) := by decide +kernel
theorem dL_law_281 : decode cL_law 281 = .ok (.aload_n 2, 1) := by decide +kernel
theorem dL_law_282 : decode cL_law 282 = .ok (.aload_n 0, 1) := by decide +kernel
theorem dL_law_283 : decode cL_law 283 = .ok (.iload_n 3, 1) := by decide +kernel
theorem dL_law_284 : decode cL_law 284 = .ok (.iconst 1, 1) := by decide +kernel
theorem dL_law_285 : decode cL_law 285 = .ok (.iadd, 1) := by decide +kernel
theorem dL_law_286 : decode cL_law 286 = .ok (.iaload, 1) := by decide +kernel
theorem dL_law_287 : decode cL_law 287 = .ok (.aload_n 0, 1) := by decide +kernel
theorem dL_law_288 : decode cL_law 288 = .ok (.iload_n 3, 1) := by decide +kernel
theorem dL_law_289 : decode cL_law 289 = .ok (.iconst 2, 1) := by decide +kernel
theorem dL_law_290 : decode cL_law 290 = .ok (.iadd, 1) := by decide +kernel
theorem dL_law_291 : decode cL_law 291 = .ok (.iaload, 1) := by decide +kernel
theorem dL_law_292 : decode cL_law 292 = .ok (.aload_n 0, 1) := by decide +kernel
theorem dL_law_293 : decode cL_law 293 = .ok (.iload_n 3, 1) := by decide +kernel
theorem dL_law_294 : decode cL_law 294 = .ok (.iconst 3, 1) := by decide +kernel
theorem dL_law_295 : decode cL_law 295 = .ok (.iadd, 1) := by decide +kernel
theorem dL_law_296 : decode cL_law 296 = .ok (.iaload, 1) := by decide +kernel
theorem dL_law_297 : decode cL_law 297 = .ok (.aload_n 0, 1) := by decide +kernel
theorem dL_law_298 : decode cL_law 298 = .ok (.iload_n 3, 1) := by decide +kernel
theorem dL_law_299 : decode cL_law 299 = .ok (.iconst 4, 1) := by decide +kernel
theorem dL_law_300 : decode cL_law 300 = .ok (.iadd, 1) := by decide +kernel
theorem dL_law_301 : decode cL_law 301 = .ok (.iaload, 1) := by decide +kernel
theorem dL_law_302 : decode cL_law 302 = .ok (.aload_n 0, 1) := by decide +kernel
theorem dL_law_303 : decode cL_law 303 = .ok (.iload_n 3, 1) := by decide +kernel
theorem dL_law_304 : decode cL_law 304 = .ok (.iconst 5, 1) := by decide +kernel
theorem dL_law_305 : decode cL_law 305 = .ok (.iadd, 1) := by decide +kernel
theorem dL_law_306 : decode cL_law 306 = .ok (.iaload, 1) := by decide +kernel
theorem dL_law_307 : decode cL_law 307 = .ok (.invokevirtual 17, 3) := by decide +kernel
theorem dL_law_310 : decode cL_law 310 = .ok (.if_icmp .eq 1153, 3) := by decide +kernel
theorem dL_law_313 : decode cL_law 313 = .ok (.iconst 0, 1) := by decide +kernel
theorem dL_law_314 : decode cL_law 314 = .ok (.ireturn, 1) := by decide +kernel
theorem dL_law_315 : decode cL_law 315 = .ok (.aload_n 1, 1) := by decide +kernel
theorem dL_law_316 : decode cL_law 316 = .ok (.aload_n 0, 1) := by decide +kernel
theorem dL_law_317 : decode cL_law 317 = .ok (.iload_n 3, 1) := by decide +kernel
theorem dL_law_318 : decode cL_law 318 = .ok (.iconst 1, 1) := by decide +kernel
theorem dL_law_319 : decode cL_law 319 = .ok (.iadd, 1) := by decide +kernel
theorem dL_law_320 : decode cL_law 320 = .ok (.iaload, 1) := by decide +kernel
theorem dL_law_321 : decode cL_law 321 = .ok (.invokevirtual 18, 3) := by decide +kernel
theorem dL_law_324 : decode cL_law 324 = .ok (.aload_n 2, 1) := by decide +kernel
theorem dL_law_325 : decode cL_law 325 = .ok (.aload_n 0, 1) := by decide +kernel
theorem dL_law_326 : decode cL_law 326 = .ok (.iload_n 3, 1) := by decide +kernel
theorem dL_law_327 : decode cL_law 327 = .ok (.iconst 1, 1) := by decide +kernel
theorem dL_law_328 : decode cL_law 328 = .ok (.iadd, 1) := by decide +kernel
theorem dL_law_329 : decode cL_law 329 = .ok (.iaload, 1) := by decide +kernel
theorem dL_law_330 : decode cL_law 330 = .ok (.invokevirtual 22, 3) := by decide +kernel
theorem dL_law_333 : decode cL_law 333 = .ok (.if_icmp .eq 1130, 3) := by decide +kernel
theorem dL_law_336 : decode cL_law 336 = .ok (.iconst 0, 1) := by decide +kernel
theorem dL_law_337 : decode cL_law 337 = .ok (.ireturn, 1) := by decide +kernel
theorem dL_law_338 : decode cL_law 338 = .ok (.aload_n 1, 1) := by decide +kernel
theorem dL_law_339 : decode cL_law 339 = .ok (.invokevirtual 23, 3) := by decide +kernel
theorem dL_law_342 : decode cL_law 342 = .ok (.aload_n 2, 1) := by decide +kernel
theorem dL_law_343 : decode cL_law 343 = .ok (.invokevirtual 27, 3) := by decide +kernel
theorem dL_law_346 : decode cL_law 346 = .ok (.if_icmp .eq 1117, 3) := by decide +kernel
theorem dL_law_349 : decode cL_law 349 = .ok (.iconst 0, 1) := by decide +kernel
theorem dL_law_350 : decode cL_law 350 = .ok (.ireturn, 1) := by decide +kernel
theorem dL_law_351 : decode cL_law 351 = .ok (.aload_n 1, 1) := by decide +kernel
theorem dL_law_352 : decode cL_law 352 = .ok (.invokevirtual 28, 3) := by decide +kernel
theorem dL_law_355 : decode cL_law 355 = .ok (.aload_n 2, 1) := by decide +kernel
theorem dL_law_356 : decode cL_law 356 = .ok (.invokevirtual 31, 3) := by decide +kernel
theorem dL_law_359 : decode cL_law 359 = .ok (.if_icmp .eq 1104, 3) := by decide +kernel
theorem dL_law_362 : decode cL_law 362 = .ok (.iconst 0, 1) := by decide +kernel
theorem dL_law_363 : decode cL_law 363 = .ok (.ireturn, 1) := by decide +kernel
theorem dL_law_364 : decode cL_law 364 = .ok (.aload_n 1, 1) := by decide +kernel
theorem dL_law_365 : decode cL_law 365 = .ok (.invokevirtual 32, 3) := by decide +kernel
theorem dL_law_368 : decode cL_law 368 = .ok (.aload_n 2, 1) := by decide +kernel
theorem dL_law_369 : decode cL_law 369 = .ok (.invokevirtual 35, 3) := by decide +kernel
theorem dL_law_372 : decode cL_law 372 = .ok (.if_icmp .eq 1091, 3) := by decide +kernel
theorem dL_law_375 : decode cL_law 375 = .ok (.iconst 0, 1) := by decide +kernel
theorem dL_law_376 : decode cL_law 376 = .ok (.ireturn, 1) := by decide +kernel
theorem dL_law_377 : decode cL_law 377 = .ok (.aload_n 1, 1) := by decide +kernel
theorem dL_law_378 : decode cL_law 378 = .ok (.aload_n 0, 1) := by decide +kernel
theorem dL_law_379 : decode cL_law 379 = .ok (.iload_n 3, 1) := by decide +kernel
theorem dL_law_380 : decode cL_law 380 = .ok (.iconst 1, 1) := by decide +kernel
theorem dL_law_381 : decode cL_law 381 = .ok (.iadd, 1) := by decide +kernel
theorem dL_law_382 : decode cL_law 382 = .ok (.iaload, 1) := by decide +kernel
theorem dL_law_383 : decode cL_law 383 = .ok (.invokevirtual 36, 3) := by decide +kernel
theorem dL_law_386 : decode cL_law 386 = .ok (.aload_n 2, 1) := by decide +kernel
theorem dL_law_387 : decode cL_law 387 = .ok (.aload_n 0, 1) := by decide +kernel
theorem dL_law_388 : decode cL_law 388 = .ok (.iload_n 3, 1) := by decide +kernel
theorem dL_law_389 : decode cL_law 389 = .ok (.iconst 1, 1) := by decide +kernel
theorem dL_law_390 : decode cL_law 390 = .ok (.iadd, 1) := by decide +kernel
theorem dL_law_391 : decode cL_law 391 = .ok (.iaload, 1) := by decide +kernel
theorem dL_law_392 : decode cL_law 392 = .ok (.invokevirtual 39, 3) := by decide +kernel
theorem dL_law_395 : decode cL_law 395 = .ok (.if_icmp .eq 1068, 3) := by decide +kernel
theorem dL_law_398 : decode cL_law 398 = .ok (.iconst 0, 1) := by decide +kernel
theorem dL_law_399 : decode cL_law 399 = .ok (.ireturn, 1) := by decide +kernel
theorem dL_law_400 : decode cL_law 400 = .ok (.aload_n 1, 1) := by decide +kernel
theorem dL_law_401 : decode cL_law 401 = .ok (.aload_n 0, 1) := by decide +kernel
theorem dL_law_402 : decode cL_law 402 = .ok (.iload_n 3, 1) := by decide +kernel
theorem dL_law_403 : decode cL_law 403 = .ok (.iconst 1, 1) := by decide +kernel
theorem dL_law_404 : decode cL_law 404 = .ok (.iadd, 1) := by decide +kernel
theorem dL_law_405 : decode cL_law 405 = .ok (.iaload, 1) := by decide +kernel
theorem dL_law_406 : decode cL_law 406 = .ok (.invokevirtual 40, 3) := by decide +kernel
theorem dL_law_409 : decode cL_law 409 = .ok (.aload_n 2, 1) := by decide +kernel
theorem dL_law_410 : decode cL_law 410 = .ok (.aload_n 0, 1) := by decide +kernel
theorem dL_law_411 : decode cL_law 411 = .ok (.iload_n 3, 1) := by decide +kernel
theorem dL_law_412 : decode cL_law 412 = .ok (.iconst 1, 1) := by decide +kernel
theorem dL_law_413 : decode cL_law 413 = .ok (.iadd, 1) := by decide +kernel
theorem dL_law_414 : decode cL_law 414 = .ok (.iaload, 1) := by decide +kernel
theorem dL_law_415 : decode cL_law 415 = .ok (.invokevirtual 43, 3) := by decide +kernel
theorem dL_law_418 : decode cL_law 418 = .ok (.if_icmp .eq 1045, 3) := by decide +kernel
theorem dL_law_421 : decode cL_law 421 = .ok (.iconst 0, 1) := by decide +kernel
theorem dL_law_422 : decode cL_law 422 = .ok (.ireturn, 1) := by decide +kernel
theorem dL_law_423 : decode cL_law 423 = .ok (.aload_n 1, 1) := by decide +kernel
theorem dL_law_424 : decode cL_law 424 = .ok (.invokevirtual 44, 3) := by decide +kernel
theorem dL_law_427 : decode cL_law 427 = .ok (.aload_n 2, 1) := by decide +kernel
theorem dL_law_428 : decode cL_law 428 = .ok (.invokevirtual 47, 3) := by decide +kernel
theorem dL_law_431 : decode cL_law 431 = .ok (.if_icmp .eq 1032, 3) := by decide +kernel
theorem dL_law_434 : decode cL_law 434 = .ok (.iconst 0, 1) := by decide +kernel
theorem dL_law_435 : decode cL_law 435 = .ok (.ireturn, 1) := by decide +kernel
theorem dL_law_436 : decode cL_law 436 = .ok (.aload_n 1, 1) := by decide +kernel
theorem dL_law_437 : decode cL_law 437 = .ok (.aload_n 0, 1) := by decide +kernel
theorem dL_law_438 : decode cL_law 438 = .ok (.iload_n 3, 1) := by decide +kernel
theorem dL_law_439 : decode cL_law 439 = .ok (.iconst 1, 1) := by decide +kernel
theorem dL_law_440 : decode cL_law 440 = .ok (.iadd, 1) := by decide +kernel
theorem dL_law_441 : decode cL_law 441 = .ok (.iaload, 1) := by decide +kernel
theorem dL_law_442 : decode cL_law 442 = .ok (.invokevirtual 48, 3) := by decide +kernel
theorem dL_law_445 : decode cL_law 445 = .ok (.aload_n 2, 1) := by decide +kernel
theorem dL_law_446 : decode cL_law 446 = .ok (.aload_n 0, 1) := by decide +kernel
theorem dL_law_447 : decode cL_law 447 = .ok (.iload_n 3, 1) := by decide +kernel
theorem dL_law_448 : decode cL_law 448 = .ok (.iconst 1, 1) := by decide +kernel
theorem dL_law_449 : decode cL_law 449 = .ok (.iadd, 1) := by decide +kernel
theorem dL_law_450 : decode cL_law 450 = .ok (.iaload, 1) := by decide +kernel
theorem dL_law_451 : decode cL_law 451 = .ok (.invokevirtual 51, 3) := by decide +kernel
theorem dL_law_454 : decode cL_law 454 = .ok (.if_icmp .eq 1009, 3) := by decide +kernel
theorem dL_law_457 : decode cL_law 457 = .ok (.iconst 0, 1) := by decide +kernel
theorem dL_law_458 : decode cL_law 458 = .ok (.ireturn, 1) := by decide +kernel
theorem dL_law_459 : decode cL_law 459 = .ok (.aload_n 1, 1) := by decide +kernel
theorem dL_law_460 : decode cL_law 460 = .ok (.aload_n 0, 1) := by decide +kernel
theorem dL_law_461 : decode cL_law 461 = .ok (.iload_n 3, 1) := by decide +kernel
theorem dL_law_462 : decode cL_law 462 = .ok (.iconst 1, 1) := by decide +kernel
theorem dL_law_463 : decode cL_law 463 = .ok (.iadd, 1) := by decide +kernel
theorem dL_law_464 : decode cL_law 464 = .ok (.iaload, 1) := by decide +kernel
theorem dL_law_465 : decode cL_law 465 = .ok (.invokevirtual 52, 3) := by decide +kernel
theorem dL_law_468 : decode cL_law 468 = .ok (.aload_n 2, 1) := by decide +kernel
theorem dL_law_469 : decode cL_law 469 = .ok (.aload_n 0, 1) := by decide +kernel
theorem dL_law_470 : decode cL_law 470 = .ok (.iload_n 3, 1) := by decide +kernel
theorem dL_law_471 : decode cL_law 471 = .ok (.iconst 1, 1) := by decide +kernel
theorem dL_law_472 : decode cL_law 472 = .ok (.iadd, 1) := by decide +kernel
theorem dL_law_473 : decode cL_law 473 = .ok (.iaload, 1) := by decide +kernel
theorem dL_law_474 : decode cL_law 474 = .ok (.invokevirtual 55, 3) := by decide +kernel
theorem dL_law_477 : decode cL_law 477 = .ok (.if_icmp .eq 986, 3) := by decide +kernel
theorem dL_law_480 : decode cL_law 480 = .ok (.iconst 0, 1) := by decide +kernel
theorem dL_law_481 : decode cL_law 481 = .ok (.ireturn, 1) := by decide +kernel
theorem dL_law_482 : decode cL_law 482 = .ok (.aload_n 1, 1) := by decide +kernel
theorem dL_law_483 : decode cL_law 483 = .ok (.aload_n 0, 1) := by decide +kernel
theorem dL_law_484 : decode cL_law 484 = .ok (.iload_n 3, 1) := by decide +kernel
theorem dL_law_485 : decode cL_law 485 = .ok (.iconst 1, 1) := by decide +kernel
theorem dL_law_486 : decode cL_law 486 = .ok (.iadd, 1) := by decide +kernel
theorem dL_law_487 : decode cL_law 487 = .ok (.iaload, 1) := by decide +kernel
theorem dL_law_488 : decode cL_law 488 = .ok (.aload_n 0, 1) := by decide +kernel
theorem dL_law_489 : decode cL_law 489 = .ok (.iload_n 3, 1) := by decide +kernel
theorem dL_law_490 : decode cL_law 490 = .ok (.iconst 2, 1) := by decide +kernel
theorem dL_law_491 : decode cL_law 491 = .ok (.iadd, 1) := by decide +kernel
theorem dL_law_492 : decode cL_law 492 = .ok (.iaload, 1) := by decide +kernel
theorem dL_law_493 : decode cL_law 493 = .ok (.aload_n 0, 1) := by decide +kernel
theorem dL_law_494 : decode cL_law 494 = .ok (.iload_n 3, 1) := by decide +kernel
theorem dL_law_495 : decode cL_law 495 = .ok (.iconst 3, 1) := by decide +kernel
theorem dL_law_496 : decode cL_law 496 = .ok (.iadd, 1) := by decide +kernel
theorem dL_law_497 : decode cL_law 497 = .ok (.iaload, 1) := by decide +kernel
theorem dL_law_498 : decode cL_law 498 = .ok (.aload_n 0, 1) := by decide +kernel
theorem dL_law_499 : decode cL_law 499 = .ok (.iload_n 3, 1) := by decide +kernel
theorem dL_law_500 : decode cL_law 500 = .ok (.iconst 4, 1) := by decide +kernel
theorem dL_law_501 : decode cL_law 501 = .ok (.iadd, 1) := by decide +kernel
theorem dL_law_502 : decode cL_law 502 = .ok (.iaload, 1) := by decide +kernel
theorem dL_law_503 : decode cL_law 503 = .ok (.aload_n 0, 1) := by decide +kernel
theorem dL_law_504 : decode cL_law 504 = .ok (.iload_n 3, 1) := by decide +kernel
theorem dL_law_505 : decode cL_law 505 = .ok (.iconst 5, 1) := by decide +kernel
theorem dL_law_506 : decode cL_law 506 = .ok (.iadd, 1) := by decide +kernel
theorem dL_law_507 : decode cL_law 507 = .ok (.iaload, 1) := by decide +kernel
theorem dL_law_508 : decode cL_law 508 = .ok (.aload_n 0, 1) := by decide +kernel
theorem dL_law_509 : decode cL_law 509 = .ok (.iload_n 3, 1) := by decide +kernel
theorem dL_law_510 : decode cL_law 510 = .ok (.bipush 6, 2) := by decide +kernel
theorem dL_law_512 : decode cL_law 512 = .ok (.iadd, 1) := by decide +kernel
theorem dL_law_513 : decode cL_law 513 = .ok (.iaload, 1) := by decide +kernel
theorem dL_law_514 : decode cL_law 514 = .ok (.invokevirtual 56, 3) := by decide +kernel
theorem dL_law_517 : decode cL_law 517 = .ok (.aload_n 2, 1) := by decide +kernel
theorem dL_law_518 : decode cL_law 518 = .ok (.aload_n 0, 1) := by decide +kernel
theorem dL_law_519 : decode cL_law 519 = .ok (.iload_n 3, 1) := by decide +kernel
theorem dL_law_520 : decode cL_law 520 = .ok (.iconst 1, 1) := by decide +kernel
theorem dL_law_521 : decode cL_law 521 = .ok (.iadd, 1) := by decide +kernel
theorem dL_law_522 : decode cL_law 522 = .ok (.iaload, 1) := by decide +kernel
theorem dL_law_523 : decode cL_law 523 = .ok (.aload_n 0, 1) := by decide +kernel
theorem dL_law_524 : decode cL_law 524 = .ok (.iload_n 3, 1) := by decide +kernel
theorem dL_law_525 : decode cL_law 525 = .ok (.iconst 2, 1) := by decide +kernel
theorem dL_law_526 : decode cL_law 526 = .ok (.iadd, 1) := by decide +kernel
theorem dL_law_527 : decode cL_law 527 = .ok (.iaload, 1) := by decide +kernel
theorem dL_law_528 : decode cL_law 528 = .ok (.aload_n 0, 1) := by decide +kernel
theorem dL_law_529 : decode cL_law 529 = .ok (.iload_n 3, 1) := by decide +kernel
theorem dL_law_530 : decode cL_law 530 = .ok (.iconst 3, 1) := by decide +kernel
theorem dL_law_531 : decode cL_law 531 = .ok (.iadd, 1) := by decide +kernel
theorem dL_law_532 : decode cL_law 532 = .ok (.iaload, 1) := by decide +kernel
theorem dL_law_533 : decode cL_law 533 = .ok (.aload_n 0, 1) := by decide +kernel
theorem dL_law_534 : decode cL_law 534 = .ok (.iload_n 3, 1) := by decide +kernel
theorem dL_law_535 : decode cL_law 535 = .ok (.iconst 4, 1) := by decide +kernel
theorem dL_law_536 : decode cL_law 536 = .ok (.iadd, 1) := by decide +kernel
theorem dL_law_537 : decode cL_law 537 = .ok (.iaload, 1) := by decide +kernel
theorem dL_law_538 : decode cL_law 538 = .ok (.aload_n 0, 1) := by decide +kernel
theorem dL_law_539 : decode cL_law 539 = .ok (.iload_n 3, 1) := by decide +kernel
theorem dL_law_540 : decode cL_law 540 = .ok (.iconst 5, 1) := by decide +kernel
theorem dL_law_541 : decode cL_law 541 = .ok (.iadd, 1) := by decide +kernel
theorem dL_law_542 : decode cL_law 542 = .ok (.iaload, 1) := by decide +kernel
theorem dL_law_543 : decode cL_law 543 = .ok (.aload_n 0, 1) := by decide +kernel
theorem dL_law_544 : decode cL_law 544 = .ok (.iload_n 3, 1) := by decide +kernel
theorem dL_law_545 : decode cL_law 545 = .ok (.bipush 6, 2) := by decide +kernel
theorem dL_law_547 : decode cL_law 547 = .ok (.iadd, 1) := by decide +kernel
theorem dL_law_548 : decode cL_law 548 = .ok (.iaload, 1) := by decide +kernel
theorem dL_law_549 : decode cL_law 549 = .ok (.invokevirtual 60, 3) := by decide +kernel
theorem dL_law_552 : decode cL_law 552 = .ok (.if_icmp .eq 911, 3) := by decide +kernel
theorem dL_law_555 : decode cL_law 555 = .ok (.iconst 0, 1) := by decide +kernel
theorem dL_law_556 : decode cL_law 556 = .ok (.ireturn, 1) := by decide +kernel
theorem dL_law_557 : decode cL_law 557 = .ok (.aload_n 1, 1) := by decide +kernel
theorem dL_law_558 : decode cL_law 558 = .ok (.aload_n 0, 1) := by decide +kernel
theorem dL_law_559 : decode cL_law 559 = .ok (.iload_n 3, 1) := by decide +kernel
theorem dL_law_560 : decode cL_law 560 = .ok (.iconst 1, 1) := by decide +kernel
theorem dL_law_561 : decode cL_law 561 = .ok (.iadd, 1) := by decide +kernel
theorem dL_law_562 : decode cL_law 562 = .ok (.iaload, 1) := by decide +kernel
theorem dL_law_563 : decode cL_law 563 = .ok (.invokevirtual 61, 3) := by decide +kernel
theorem dL_law_566 : decode cL_law 566 = .ok (.aload_n 2, 1) := by decide +kernel
theorem dL_law_567 : decode cL_law 567 = .ok (.aload_n 0, 1) := by decide +kernel
theorem dL_law_568 : decode cL_law 568 = .ok (.iload_n 3, 1) := by decide +kernel
theorem dL_law_569 : decode cL_law 569 = .ok (.iconst 1, 1) := by decide +kernel
theorem dL_law_570 : decode cL_law 570 = .ok (.iadd, 1) := by decide +kernel
theorem dL_law_571 : decode cL_law 571 = .ok (.iaload, 1) := by decide +kernel
theorem dL_law_572 : decode cL_law 572 = .ok (.invokevirtual 64, 3) := by decide +kernel
theorem dL_law_575 : decode cL_law 575 = .ok (.if_icmp .eq 888, 3) := by decide +kernel
theorem dL_law_578 : decode cL_law 578 = .ok (.iconst 0, 1) := by decide +kernel
theorem dL_law_579 : decode cL_law 579 = .ok (.ireturn, 1) := by decide +kernel
theorem dL_law_580 : decode cL_law 580 = .ok (.aload_n 1, 1) := by decide +kernel
theorem dL_law_581 : decode cL_law 581 = .ok (.aload_n 0, 1) := by decide +kernel
theorem dL_law_582 : decode cL_law 582 = .ok (.iload_n 3, 1) := by decide +kernel
theorem dL_law_583 : decode cL_law 583 = .ok (.iconst 1, 1) := by decide +kernel
theorem dL_law_584 : decode cL_law 584 = .ok (.iadd, 1) := by decide +kernel
theorem dL_law_585 : decode cL_law 585 = .ok (.iaload, 1) := by decide +kernel
theorem dL_law_586 : decode cL_law 586 = .ok (.invokevirtual 65, 3) := by decide +kernel
theorem dL_law_589 : decode cL_law 589 = .ok (.aload_n 2, 1) := by decide +kernel
theorem dL_law_590 : decode cL_law 590 = .ok (.aload_n 0, 1) := by decide +kernel
theorem dL_law_591 : decode cL_law 591 = .ok (.iload_n 3, 1) := by decide +kernel
theorem dL_law_592 : decode cL_law 592 = .ok (.iconst 1, 1) := by decide +kernel
theorem dL_law_593 : decode cL_law 593 = .ok (.iadd, 1) := by decide +kernel
theorem dL_law_594 : decode cL_law 594 = .ok (.iaload, 1) := by decide +kernel
theorem dL_law_595 : decode cL_law 595 = .ok (.invokevirtual 69, 3) := by decide +kernel
theorem dL_law_598 : decode cL_law 598 = .ok (.if_icmp .eq 865, 3) := by decide +kernel
theorem dL_law_601 : decode cL_law 601 = .ok (.iconst 0, 1) := by decide +kernel
theorem dL_law_602 : decode cL_law 602 = .ok (.ireturn, 1) := by decide +kernel
theorem dL_law_603 : decode cL_law 603 = .ok (.aload_n 1, 1) := by decide +kernel
theorem dL_law_604 : decode cL_law 604 = .ok (.aload_n 0, 1) := by decide +kernel
theorem dL_law_605 : decode cL_law 605 = .ok (.iload_n 3, 1) := by decide +kernel
theorem dL_law_606 : decode cL_law 606 = .ok (.iconst 1, 1) := by decide +kernel
theorem dL_law_607 : decode cL_law 607 = .ok (.iadd, 1) := by decide +kernel
theorem dL_law_608 : decode cL_law 608 = .ok (.iaload, 1) := by decide +kernel
theorem dL_law_609 : decode cL_law 609 = .ok (.invokevirtual 70, 3) := by decide +kernel
theorem dL_law_612 : decode cL_law 612 = .ok (.aload_n 2, 1) := by decide +kernel
theorem dL_law_613 : decode cL_law 613 = .ok (.aload_n 0, 1) := by decide +kernel
theorem dL_law_614 : decode cL_law 614 = .ok (.iload_n 3, 1) := by decide +kernel
theorem dL_law_615 : decode cL_law 615 = .ok (.iconst 1, 1) := by decide +kernel
theorem dL_law_616 : decode cL_law 616 = .ok (.iadd, 1) := by decide +kernel
theorem dL_law_617 : decode cL_law 617 = .ok (.iaload, 1) := by decide +kernel
theorem dL_law_618 : decode cL_law 618 = .ok (.invokevirtual 73, 3) := by decide +kernel
theorem dL_law_621 : decode cL_law 621 = .ok (.if_icmp .eq 842, 3) := by decide +kernel
theorem dL_law_624 : decode cL_law 624 = .ok (.iconst 0, 1) := by decide +kernel
theorem dL_law_625 : decode cL_law 625 = .ok (.ireturn, 1) := by decide +kernel
theorem dL_law_626 : decode cL_law 626 = .ok (.aload_n 1, 1) := by decide +kernel
theorem dL_law_627 : decode cL_law 627 = .ok (.aload_n 0, 1) := by decide +kernel
theorem dL_law_628 : decode cL_law 628 = .ok (.iload_n 3, 1) := by decide +kernel
theorem dL_law_629 : decode cL_law 629 = .ok (.iconst 1, 1) := by decide +kernel
theorem dL_law_630 : decode cL_law 630 = .ok (.iadd, 1) := by decide +kernel
theorem dL_law_631 : decode cL_law 631 = .ok (.iaload, 1) := by decide +kernel
theorem dL_law_632 : decode cL_law 632 = .ok (.aload_n 0, 1) := by decide +kernel
theorem dL_law_633 : decode cL_law 633 = .ok (.iload_n 3, 1) := by decide +kernel
theorem dL_law_634 : decode cL_law 634 = .ok (.iconst 2, 1) := by decide +kernel
theorem dL_law_635 : decode cL_law 635 = .ok (.iadd, 1) := by decide +kernel
theorem dL_law_636 : decode cL_law 636 = .ok (.iaload, 1) := by decide +kernel
theorem dL_law_637 : decode cL_law 637 = .ok (.ifCond .eq 7, 3) := by decide +kernel
theorem dL_law_640 : decode cL_law 640 = .ok (.iconst 1, 1) := by decide +kernel
theorem dL_law_641 : decode cL_law 641 = .ok (.goto 4, 3) := by decide +kernel
theorem dL_law_644 : decode cL_law 644 = .ok (.iconst 0, 1) := by decide +kernel
theorem dL_law_645 : decode cL_law 645 = .ok (.invokevirtual 74, 3) := by decide +kernel
theorem dL_law_648 : decode cL_law 648 = .ok (.aload_n 2, 1) := by decide +kernel
theorem dL_law_649 : decode cL_law 649 = .ok (.aload_n 0, 1) := by decide +kernel
theorem dL_law_650 : decode cL_law 650 = .ok (.iload_n 3, 1) := by decide +kernel
theorem dL_law_651 : decode cL_law 651 = .ok (.iconst 1, 1) := by decide +kernel
theorem dL_law_652 : decode cL_law 652 = .ok (.iadd, 1) := by decide +kernel
theorem dL_law_653 : decode cL_law 653 = .ok (.iaload, 1) := by decide +kernel
theorem dL_law_654 : decode cL_law 654 = .ok (.aload_n 0, 1) := by decide +kernel
theorem dL_law_655 : decode cL_law 655 = .ok (.iload_n 3, 1) := by decide +kernel
theorem dL_law_656 : decode cL_law 656 = .ok (.iconst 2, 1) := by decide +kernel
theorem dL_law_657 : decode cL_law 657 = .ok (.iadd, 1) := by decide +kernel
theorem dL_law_658 : decode cL_law 658 = .ok (.iaload, 1) := by decide +kernel
theorem dL_law_659 : decode cL_law 659 = .ok (.ifCond .eq 7, 3) := by decide +kernel
theorem dL_law_662 : decode cL_law 662 = .ok (.iconst 1, 1) := by decide +kernel
theorem dL_law_663 : decode cL_law 663 = .ok (.goto 4, 3) := by decide +kernel
theorem dL_law_666 : decode cL_law 666 = .ok (.iconst 0, 1) := by decide +kernel
theorem dL_law_667 : decode cL_law 667 = .ok (.invokevirtual 78, 3) := by decide +kernel
theorem dL_law_670 : decode cL_law 670 = .ok (.if_icmp .eq 793, 3) := by decide +kernel
theorem dL_law_673 : decode cL_law 673 = .ok (.iconst 0, 1) := by decide +kernel
theorem dL_law_674 : decode cL_law 674 = .ok (.ireturn, 1) := by decide +kernel
theorem dL_law_675 : decode cL_law 675 = .ok (.aload_n 1, 1) := by decide +kernel
theorem dL_law_676 : decode cL_law 676 = .ok (.aload_n 0, 1) := by decide +kernel
theorem dL_law_677 : decode cL_law 677 = .ok (.iload_n 3, 1) := by decide +kernel
theorem dL_law_678 : decode cL_law 678 = .ok (.iconst 1, 1) := by decide +kernel
theorem dL_law_679 : decode cL_law 679 = .ok (.iadd, 1) := by decide +kernel
theorem dL_law_680 : decode cL_law 680 = .ok (.iaload, 1) := by decide +kernel
theorem dL_law_681 : decode cL_law 681 = .ok (.invokevirtual 79, 3) := by decide +kernel
theorem dL_law_684 : decode cL_law 684 = .ok (.aload_n 2, 1) := by decide +kernel
theorem dL_law_685 : decode cL_law 685 = .ok (.aload_n 0, 1) := by decide +kernel
theorem dL_law_686 : decode cL_law 686 = .ok (.iload_n 3, 1) := by decide +kernel
theorem dL_law_687 : decode cL_law 687 = .ok (.iconst 1, 1) := by decide +kernel
theorem dL_law_688 : decode cL_law 688 = .ok (.iadd, 1) := by decide +kernel
theorem dL_law_689 : decode cL_law 689 = .ok (.iaload, 1) := by decide +kernel
theorem dL_law_690 : decode cL_law 690 = .ok (.invokevirtual 82, 3) := by decide +kernel
theorem dL_law_693 : decode cL_law 693 = .ok (.if_icmp .eq 770, 3) := by decide +kernel
theorem dL_law_696 : decode cL_law 696 = .ok (.iconst 0, 1) := by decide +kernel
theorem dL_law_697 : decode cL_law 697 = .ok (.ireturn, 1) := by decide +kernel
theorem dL_law_698 : decode cL_law 698 = .ok (.aload_n 1, 1) := by decide +kernel
theorem dL_law_699 : decode cL_law 699 = .ok (.invokevirtual 83, 3) := by decide +kernel
theorem dL_law_702 : decode cL_law 702 = .ok (.aload_n 2, 1) := by decide +kernel
theorem dL_law_703 : decode cL_law 703 = .ok (.invokevirtual 86, 3) := by decide +kernel
theorem dL_law_706 : decode cL_law 706 = .ok (.if_icmp .eq 757, 3) := by decide +kernel
theorem dL_law_709 : decode cL_law 709 = .ok (.iconst 0, 1) := by decide +kernel
theorem dL_law_710 : decode cL_law 710 = .ok (.ireturn, 1) := by decide +kernel
theorem dL_law_711 : decode cL_law 711 = .ok (.aload_n 1, 1) := by decide +kernel
theorem dL_law_712 : decode cL_law 712 = .ok (.invokevirtual 87, 3) := by decide +kernel
theorem dL_law_715 : decode cL_law 715 = .ok (.aload_n 2, 1) := by decide +kernel
theorem dL_law_716 : decode cL_law 716 = .ok (.invokevirtual 90, 3) := by decide +kernel
theorem dL_law_719 : decode cL_law 719 = .ok (.if_icmp .eq 744, 3) := by decide +kernel
theorem dL_law_722 : decode cL_law 722 = .ok (.iconst 0, 1) := by decide +kernel
theorem dL_law_723 : decode cL_law 723 = .ok (.ireturn, 1) := by decide +kernel
theorem dL_law_724 : decode cL_law 724 = .ok (.aload_n 1, 1) := by decide +kernel
theorem dL_law_725 : decode cL_law 725 = .ok (.aload_n 0, 1) := by decide +kernel
theorem dL_law_726 : decode cL_law 726 = .ok (.iload_n 3, 1) := by decide +kernel
theorem dL_law_727 : decode cL_law 727 = .ok (.iconst 1, 1) := by decide +kernel
theorem dL_law_728 : decode cL_law 728 = .ok (.iadd, 1) := by decide +kernel
theorem dL_law_729 : decode cL_law 729 = .ok (.iaload, 1) := by decide +kernel
theorem dL_law_730 : decode cL_law 730 = .ok (.invokevirtual 91, 3) := by decide +kernel
theorem dL_law_733 : decode cL_law 733 = .ok (.aload_n 2, 1) := by decide +kernel
theorem dL_law_734 : decode cL_law 734 = .ok (.aload_n 0, 1) := by decide +kernel
theorem dL_law_735 : decode cL_law 735 = .ok (.iload_n 3, 1) := by decide +kernel
theorem dL_law_736 : decode cL_law 736 = .ok (.iconst 1, 1) := by decide +kernel
theorem dL_law_737 : decode cL_law 737 = .ok (.iadd, 1) := by decide +kernel
theorem dL_law_738 : decode cL_law 738 = .ok (.iaload, 1) := by decide +kernel
theorem dL_law_739 : decode cL_law 739 = .ok (.invokevirtual 94, 3) := by decide +kernel
theorem dL_law_742 : decode cL_law 742 = .ok (.if_icmp .eq 721, 3) := by decide +kernel
theorem dL_law_745 : decode cL_law 745 = .ok (.iconst 0, 1) := by decide +kernel
