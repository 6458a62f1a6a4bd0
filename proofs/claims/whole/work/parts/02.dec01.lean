theorem dX6_readDiverter_15 : decode cX6_readDiverter 15 = .ok (.if_icmp .ne 5, 3) := by decide +kernel
theorem dX6_readDiverter_18 : decode cX6_readDiverter 18 = .ok (.iconst 0, 1) := by decide +kernel
theorem dX6_readDiverter_19 : decode cX6_readDiverter 19 = .ok (.ireturn, 1) := by decide +kernel
theorem dX6_readDiverter_20 : decode cX6_readDiverter 20 = .ok (.aload_n 0, 1) := by decide +kernel
theorem dX6_readDiverter_21 : decode cX6_readDiverter 21 = .ok (.getfield 15, 3) := by decide +kernel
theorem dX6_readDiverter_24 : decode cX6_readDiverter 24 = .ok (.getfield 126, 3) := by decide +kernel
theorem dX6_readDiverter_27 : decode cX6_readDiverter 27 = .ok (.iload_n 1, 1) := by decide +kernel
theorem dX6_readDiverter_28 : decode cX6_readDiverter 28 = .ok (.iload_n 2, 1) := by decide +kernel
theorem dX6_readDiverter_29 : decode cX6_readDiverter 29 = .ok (.iastore, 1) := by decide +kernel
theorem dX6_readDiverter_30 : decode cX6_readDiverter 30 = .ok (.aload_n 0, 1) := by decide +kernel
theorem dX6_readDiverter_31 : decode cX6_readDiverter 31 = .ok (.getfield 9, 3) := by decide +kernel
theorem dX6_readDiverter_34 : decode cX6_readDiverter 34 = .ok (.ldc 129, 2) := by decide +kernel
theorem dX6_readDiverter_36 : decode cX6_readDiverter 36 = .ok (.iconst 1, 1) := by decide +kernel
theorem dX6_readDiverter_37 : decode cX6_readDiverter 37 = .ok (.bipush 9, 2) := by decide +kernel
theorem dX6_readDiverter_39 : decode cX6_readDiverter 39 = .ok (.invokevirtual 32, 3) := by decide +kernel
theorem dX6_readDiverter_42 : decode cX6_readDiverter 42 = .ok (.istore_n 3, 1) := by decide +kernel
theorem dX6_readDiverter_43 : decode cX6_readDiverter 43 = .ok (.aload_n 0, 1) := by decide +kernel
theorem dX6_readDiverter_44 : decode cX6_readDiverter 44 = .ok (.getfield 15, 3) := by decide +kernel
theorem dX6_readDiverter_47 : decode cX6_readDiverter 47 = .ok (.getfield 131, 3) := by decide +kernel
theorem dX6_readDiverter_50 : decode cX6_readDiverter 50 = .ok (.iload_n 1, 1) := by decide +kernel
theorem dX6_readDiverter_51 : decode cX6_readDiverter 51 = .ok (.iload_n 3, 1) := by decide +kernel
theorem dX6_readDiverter_52 : decode cX6_readDiverter 52 = .ok (.iastore, 1) := by decide +kernel
theorem dX6_readDiverter_53 : decode cX6_readDiverter 53 = .ok (.iload_n 3, 1) := by decide +kernel
theorem dX6_readDiverter_54 : decode cX6_readDiverter 54 = .ok (.iconst (-1), 1) := by decide +kernel
theorem dX6_readDiverter_55 : decode cX6_readDiverter 55 = .ok (.if_icmp .eq 7, 3) := by decide +kernel
theorem dX6_readDiverter_58 : decode cX6_readDiverter 58 = .ok (.iconst 1, 1) := by decide +kernel
theorem dX6_readDiverter_59 : decode cX6_readDiverter 59 = .ok (.goto 4, 3) := by decide +kernel
theorem dX6_readDiverter_62 : decode cX6_readDiverter 62 = .ok (.iconst 0, 1) := by decide +kernel
theorem dX6_readDiverter_63 : decode cX6_readDiverter 63 = .ok (.ireturn, 1) := by decide +kernel
theorem dX6_readLevelTimes_0 : decode cX6_readLevelTimes 0 = .ok (.aload_n 0, 1) := by decide +kernel
theorem dX6_readLevelTimes_1 : decode cX6_readLevelTimes 1 = .ok (.getfield 9, 3) := by decide +kernel
theorem dX6_readLevelTimes_4 : decode cX6_readLevelTimes 4 = .ok (.ldc 134, 2) := by decide +kernel
theorem dX6_readLevelTimes_6 : decode cX6_readLevelTimes 6 = .ok (.invokevirtual 42, 3) := by decide +kernel
theorem dX6_readLevelTimes_9 : decode cX6_readLevelTimes 9 = .ok (.ifCond .ne 5, 3) := by decide +kernel
theorem dX6_readLevelTimes_12 : decode cX6_readLevelTimes 12 = .ok (.iconst 0, 1) := by decide +kernel
theorem dX6_readLevelTimes_13 : decode cX6_readLevelTimes 13 = .ok (.ireturn, 1) := by decide +kernel
theorem dX6_readLevelTimes_14 : decode cX6_readLevelTimes 14 = .ok (.iconst 1, 1) := by decide +kernel
theorem dX6_readLevelTimes_15 : decode cX6_readLevelTimes 15 = .ok (.istore_n 2, 1) := by decide +kernel
theorem dX6_readLevelTimes_16 : decode cX6_readLevelTimes 16 = .ok (.iload_n 2, 1) := by decide +kernel
theorem dX6_readLevelTimes_17 : decode cX6_readLevelTimes 17 = .ok (.iconst 3, 1) := by decide +kernel
theorem dX6_readLevelTimes_18 : decode cX6_readLevelTimes 18 = .ok (.if_icmp .gt 39, 3) := by decide +kernel
theorem dX6_readLevelTimes_21 : decode cX6_readLevelTimes 21 = .ok (.aload_n 0, 1) := by decide +kernel
theorem dX6_readLevelTimes_22 : decode cX6_readLevelTimes 22 = .ok (.getfield 9, 3) := by decide +kernel
theorem dX6_readLevelTimes_25 : decode cX6_readLevelTimes 25 = .ok (.iconst 1, 1) := by decide +kernel
theorem dX6_readLevelTimes_26 : decode cX6_readLevelTimes 26 = .ok (.bipush 99, 2) := by decide +kernel
theorem dX6_readLevelTimes_28 : decode cX6_readLevelTimes 28 = .ok (.invokevirtual 136, 3) := by decide +kernel
theorem dX6_readLevelTimes_31 : decode cX6_readLevelTimes 31 = .ok (.istore_n 3, 1) := by decide +kernel
theorem dX6_readLevelTimes_32 : decode cX6_readLevelTimes 32 = .ok (.iload_n 3, 1) := by decide +kernel
theorem dX6_readLevelTimes_33 : decode cX6_readLevelTimes 33 = .ok (.iconst (-1), 1) := by decide +kernel
theorem dX6_readLevelTimes_34 : decode cX6_readLevelTimes 34 = .ok (.if_icmp .ne 5, 3) := by decide +kernel
theorem dX6_readLevelTimes_37 : decode cX6_readLevelTimes 37 = .ok (.iconst 0, 1) := by decide +kernel
theorem dX6_readLevelTimes_38 : decode cX6_readLevelTimes 38 = .ok (.ireturn, 1) := by decide +kernel
theorem dX6_readLevelTimes_39 : decode cX6_readLevelTimes 39 = .ok (.aload_n 0, 1) := by decide +kernel
theorem dX6_readLevelTimes_40 : decode cX6_readLevelTimes 40 = .ok (.getfield 15, 3) := by decide +kernel
theorem dX6_readLevelTimes_43 : decode cX6_readLevelTimes 43 = .ok (.getfield 140, 3) := by decide +kernel
theorem dX6_readLevelTimes_46 : decode cX6_readLevelTimes 46 = .ok (.iload_n 2, 1) := by decide +kernel
theorem dX6_readLevelTimes_47 : decode cX6_readLevelTimes 47 = .ok (.aaload, 1) := by decide +kernel
theorem dX6_readLevelTimes_48 : decode cX6_readLevelTimes 48 = .ok (.iload_n 1, 1) := by decide +kernel
theorem dX6_readLevelTimes_49 : decode cX6_readLevelTimes 49 = .ok (.iload_n 3, 1) := by decide +kernel
theorem dX6_readLevelTimes_50 : decode cX6_readLevelTimes 50 = .ok (.iastore, 1) := by decide +kernel
theorem dX6_readLevelTimes_51 : decode cX6_readLevelTimes 51 = .ok (.iinc 2 1, 3) := by decide +kernel
theorem dX6_readLevelTimes_54 : decode cX6_readLevelTimes 54 = .ok (.goto (-38), 3) := by decide +kernel
theorem dX6_readLevelTimes_57 : decode cX6_readLevelTimes 57 = .ok (.iconst 1, 1) := by decide +kernel
theorem dX6_readLevelTimes_58 : decode cX6_readLevelTimes 58 = .ok (.ireturn, 1) := by decide +kernel
theorem dX6_readWorkingTime_0 : decode cX6_readWorkingTime 0 = .ok (.aload_n 0, 1) := by decide +kernel
theorem dX6_readWorkingTime_1 : decode cX6_readWorkingTime 1 = .ok (.getfield 9, 3) := by decide +kernel
theorem dX6_readWorkingTime_4 : decode cX6_readWorkingTime 4 = .ok (.ldc 143, 2) := by decide +kernel
theorem dX6_readWorkingTime_6 : decode cX6_readWorkingTime 6 = .ok (.iconst 1, 1) := by decide +kernel
theorem dX6_readWorkingTime_7 : decode cX6_readWorkingTime 7 = .ok (.bipush 99, 2) := by decide +kernel
theorem dX6_readWorkingTime_9 : decode cX6_readWorkingTime 9 = .ok (.invokevirtual 32, 3) := by decide +kernel
theorem dX6_readWorkingTime_12 : decode cX6_readWorkingTime 12 = .ok (.istore_n 2, 1) := by decide +kernel
theorem dX6_readWorkingTime_13 : decode cX6_readWorkingTime 13 = .ok (.aload_n 0, 1) := by decide +kernel
theorem dX6_readWorkingTime_14 : decode cX6_readWorkingTime 14 = .ok (.getfield 15, 3) := by decide +kernel
theorem dX6_readWorkingTime_17 : decode cX6_readWorkingTime 17 = .ok (.getfield 140, 3) := by decide +kernel
theorem dX6_readWorkingTime_20 : decode cX6_readWorkingTime 20 = .ok (.iconst 1, 1) := by decide +kernel
theorem dX6_readWorkingTime_21 : decode cX6_readWorkingTime 21 = .ok (.aaload, 1) := by decide +kernel
theorem dX6_readWorkingTime_22 : decode cX6_readWorkingTime 22 = .ok (.iload_n 1, 1) := by decide +kernel
theorem dX6_readWorkingTime_23 : decode cX6_readWorkingTime 23 = .ok (.iload_n 2, 1) := by decide +kernel
theorem dX6_readWorkingTime_24 : decode cX6_readWorkingTime 24 = .ok (.iastore, 1) := by decide +kernel
theorem dX6_readWorkingTime_25 : decode cX6_readWorkingTime 25 = .ok (.iload_n 2, 1) := by decide +kernel
theorem dX6_readWorkingTime_26 : decode cX6_readWorkingTime 26 = .ok (.iconst (-1), 1) := by decide +kernel
theorem dX6_readWorkingTime_27 : decode cX6_readWorkingTime 27 = .ok (.if_icmp .eq 7, 3) := by decide +kernel
theorem dX6_readWorkingTime_30 : decode cX6_readWorkingTime 30 = .ok (.iconst 1, 1) := by decide +kernel
theorem dX6_readWorkingTime_31 : decode cX6_readWorkingTime 31 = .ok (.goto 4, 3) := by decide +kernel
theorem dX6_readWorkingTime_34 : decode cX6_readWorkingTime 34 = .ok (.iconst 0, 1) := by decide +kernel
theorem dX6_readWorkingTime_35 : decode cX6_readWorkingTime 35 = .ok (.ireturn, 1) := by decide +kernel
theorem dX6_readExit_0 : decode cX6_readExit 0 = .ok (.aload_n 0, 1) := by decide +kernel
theorem dX6_readExit_1 : decode cX6_readExit 1 = .ok (.getfield 9, 3) := by decide +kernel
theorem dX6_readExit_4 : decode cX6_readExit 4 = .ok (.ldc 145, 2) := by decide +kernel
theorem dX6_readExit_6 : decode cX6_readExit 6 = .ok (.invokevirtual 42, 3) := by decide +kernel
theorem dX6_readExit_9 : decode cX6_readExit 9 = .ok (.ifCond .ne 5, 3) := by decide +kernel
theorem dX6_readExit_12 : decode cX6_readExit 12 = .ok (.iconst 0, 1) := by decide +kernel
theorem dX6_readExit_13 : decode cX6_readExit 13 = .ok (.ireturn, 1) := by decide +kernel
theorem dX6_readExit_14 : decode cX6_readExit 14 = .ok (.aload_n 0, 1) := by decide +kernel
theorem dX6_readExit_15 : decode cX6_readExit 15 = .ok (.invokevirtual 90, 3) := by decide +kernel
theorem dX6_readExit_18 : decode cX6_readExit 18 = .ok (.istore_n 2, 1) := by decide +kernel
theorem dX6_readExit_19 : decode cX6_readExit 19 = .ok (.iload_n 2, 1) := by decide +kernel
theorem dX6_readExit_20 : decode cX6_readExit 20 = .ok (.iconst (-1), 1) := by decide +kernel
theorem dX6_readExit_21 : decode cX6_readExit 21 = .ok (.if_icmp .ne 5, 3) := by decide +kernel
theorem dX6_readExit_24 : decode cX6_readExit 24 = .ok (.iconst 0, 1) := by decide +kernel
theorem dX6_readExit_25 : decode cX6_readExit 25 = .ok (.ireturn, 1) := by decide +kernel
theorem dX6_readExit_26 : decode cX6_readExit 26 = .ok (.aload_n 0, 1) := by decide +kernel
theorem dX6_readExit_27 : decode cX6_readExit 27 = .ok (.getfield 15, 3) := by decide +kernel
theorem dX6_readExit_30 : decode cX6_readExit 30 = .ok (.getfield 147, 3) := by decide +kernel
theorem dX6_readExit_33 : decode cX6_readExit 33 = .ok (.iload_n 1, 1) := by decide +kernel
theorem dX6_readExit_34 : decode cX6_readExit 34 = .ok (.iload_n 2, 1) := by decide +kernel
theorem dX6_readExit_35 : decode cX6_readExit 35 = .ok (.iastore, 1) := by decide +kernel
theorem dX6_readExit_36 : decode cX6_readExit 36 = .ok (.aload_n 0, 1) := by decide +kernel
theorem dX6_readExit_37 : decode cX6_readExit 37 = .ok (.getfield 15, 3) := by decide +kernel
theorem dX6_readExit_40 : decode cX6_readExit 40 = .ok (.getfield 121, 3) := by decide +kernel
theorem dX6_readExit_43 : decode cX6_readExit 43 = .ok (.iload_n 2, 1) := by decide +kernel
theorem dX6_readExit_44 : decode cX6_readExit 44 = .ok (.bipush 7, 2) := by decide +kernel
theorem dX6_readExit_46 : decode cX6_readExit 46 = .ok (.iastore, 1) := by decide +kernel
theorem dX6_readExit_47 : decode cX6_readExit 47 = .ok (.iconst 1, 1) := by decide +kernel
theorem dX6_readExit_48 : decode cX6_readExit 48 = .ok (.ireturn, 1) := by decide +kernel
theorem dX6_readFlights_0 : decode cX6_readFlights 0 = .ok (.iconst 0, 1) := by decide +kernel
theorem dX6_readFlights_1 : decode cX6_readFlights 1 = .ok (.istore_n 1, 1) := by decide +kernel
theorem dX6_readFlights_2 : decode cX6_readFlights 2 = .ok (.iload_n 1, 1) := by decide +kernel
theorem dX6_readFlights_3 : decode cX6_readFlights 3 = .ok (.bipush 10, 2) := by decide +kernel
theorem dX6_readFlights_5 : decode cX6_readFlights 5 = .ok (.if_icmp .gt 63, 3) := by decide +kernel
theorem dX6_readFlights_8 : decode cX6_readFlights 8 = .ok (.aload_n 0, 1) := by decide +kernel
theorem dX6_readFlights_9 : decode cX6_readFlights 9 = .ok (.getfield 9, 3) := by decide +kernel
theorem dX6_readFlights_12 : decode cX6_readFlights 12 = .ok (.ldc 150, 2) := by decide +kernel
theorem dX6_readFlights_14 : decode cX6_readFlights 14 = .ok (.invokevirtual 87, 3) := by decide +kernel
theorem dX6_readFlights_17 : decode cX6_readFlights 17 = .ok (.ifCond .ne 5, 3) := by decide +kernel
theorem dX6_readFlights_20 : decode cX6_readFlights 20 = .ok (.iconst 1, 1) := by decide +kernel
theorem dX6_readFlights_21 : decode cX6_readFlights 21 = .ok (.ireturn, 1) := by decide +kernel
theorem dX6_readFlights_22 : decode cX6_readFlights 22 = .ok (.aload_n 0, 1) := by decide +kernel
theorem dX6_readFlights_23 : decode cX6_readFlights 23 = .ok (.getfield 15, 3) := by decide +kernel
theorem dX6_readFlights_26 : decode cX6_readFlights 26 = .ok (.getfield 152, 3) := by decide +kernel
theorem dX6_readFlights_29 : decode cX6_readFlights 29 = .ok (.getfield 156, 3) := by decide +kernel
theorem dX6_readFlights_32 : decode cX6_readFlights 32 = .ok (.bipush 10, 2) := by decide +kernel
theorem dX6_readFlights_34 : decode cX6_readFlights 34 = .ok (.if_icmp .lt 5, 3) := by decide +kernel
theorem dX6_readFlights_37 : decode cX6_readFlights 37 = .ok (.iconst 0, 1) := by decide +kernel
theorem dX6_readFlights_38 : decode cX6_readFlights 38 = .ok (.ireturn, 1) := by decide +kernel
theorem dX6_readFlights_39 : decode cX6_readFlights 39 = .ok (.aload_n 0, 1) := by decide +kernel
theorem dX6_readFlights_40 : decode cX6_readFlights 40 = .ok (.getfield 9, 3) := by decide +kernel
theorem dX6_readFlights_43 : decode cX6_readFlights 43 = .ok (.aload_n 0, 1) := by decide +kernel
theorem dX6_readFlights_44 : decode cX6_readFlights 44 = .ok (.getfield 9, 3) := by decide +kernel
theorem dX6_readFlights_47 : decode cX6_readFlights 47 = .ok (.getfield 76, 3) := by decide +kernel
theorem dX6_readFlights_50 : decode cX6_readFlights 50 = .ok (.invokevirtual 24, 3) := by decide +kernel
theorem dX6_readFlights_53 : decode cX6_readFlights 53 = .ok (.aload_n 0, 1) := by decide +kernel
theorem dX6_readFlights_54 : decode cX6_readFlights 54 = .ok (.invokevirtual 161, 3) := by decide +kernel
theorem dX6_readFlights_57 : decode cX6_readFlights 57 = .ok (.ifCond .ne 5, 3) := by decide +kernel
theorem dX6_readFlights_60 : decode cX6_readFlights 60 = .ok (.iconst 0, 1) := by decide +kernel
theorem dX6_readFlights_61 : decode cX6_readFlights 61 = .ok (.ireturn, 1) := by decide +kernel
theorem dX6_readFlights_62 : decode cX6_readFlights 62 = .ok (.iinc 1 1, 3) := by decide +kernel
theorem dX6_readFlights_65 : decode cX6_readFlights 65 = .ok (.goto (-63), 3) := by decide +kernel
theorem dX6_readFlights_68 : decode cX6_readFlights 68 = .ok (.iconst 0, 1) := by decide +kernel
theorem dX6_readFlights_69 : decode cX6_readFlights 69 = .ok (.ireturn, 1) := by decide +kernel
theorem dX6_readFlight_0 : decode cX6_readFlight 0 = .ok (.aload_n 0, 1) := by decide +kernel
theorem dX6_readFlight_1 : decode cX6_readFlight 1 = .ok (.getfield 9, 3) := by decide +kernel
theorem dX6_readFlight_4 : decode cX6_readFlight 4 = .ok (.getfield 115, 3) := by decide +kernel
theorem dX6_readFlight_7 : decode cX6_readFlight 7 = .ok (.istore_n 1, 1) := by decide +kernel
theorem dX6_readFlight_8 : decode cX6_readFlight 8 = .ok (.iload_n 1, 1) := by decide +kernel
theorem dX6_readFlight_9 : decode cX6_readFlight 9 = .ok (.iconst 1, 1) := by decide +kernel
theorem dX6_readFlight_10 : decode cX6_readFlight 10 = .ok (.sipush 999, 3) := by decide +kernel
theorem dX6_readFlight_13 : decode cX6_readFlight 13 = .ok (.invokestatic 164, 3) := by decide +kernel
theorem dX6_readFlight_16 : decode cX6_readFlight 16 = .ok (.ifCond .eq 22, 3) := by decide +kernel
theorem dX6_readFlight_19 : decode cX6_readFlight 19 = .ok (.aload_n 0, 1) := by decide +kernel
theorem dX6_readFlight_20 : decode cX6_readFlight 20 = .ok (.getfield 15, 3) := by decide +kernel
theorem dX6_readFlight_23 : decode cX6_readFlight 23 = .ok (.getfield 152, 3) := by decide +kernel
theorem dX6_readFlight_26 : decode cX6_readFlight 26 = .ok (.iload_n 1, 1) := by decide +kernel
theorem dX6_readFlight_27 : decode cX6_readFlight 27 = .ok (.sipush 1000, 3) := by decide +kernel
theorem dX6_readFlight_30 : decode cX6_readFlight 30 = .ok (.imul, 1) := by decide +kernel
theorem dX6_readFlight_31 : decode cX6_readFlight 31 = .ok (.invokevirtual 168, 3) := by decide +kernel
theorem dX6_readFlight_34 : decode cX6_readFlight 34 = .ok (.iconst (-1), 1) := by decide +kernel
theorem dX6_readFlight_35 : decode cX6_readFlight 35 = .ok (.if_icmp .eq 5, 3) := by decide +kernel
theorem dX6_readFlight_38 : decode cX6_readFlight 38 = .ok (.iconst 0, 1) := by decide +kernel
theorem dX6_readFlight_39 : decode cX6_readFlight 39 = .ok (.ireturn, 1) := by decide +kernel
theorem dX6_readFlight_40 : decode cX6_readFlight 40 = .ok (.aload_n 0, 1) := by decide +kernel
theorem dX6_readFlight_41 : decode cX6_readFlight 41 = .ok (.getfield 9, 3) := by decide +kernel
theorem dX6_readFlight_44 : decode cX6_readFlight 44 = .ok (.aload_n 0, 1) := by decide +kernel
theorem dX6_readFlight_45 : decode cX6_readFlight 45 = .ok (.getfield 9, 3) := by decide +kernel
theorem dX6_readFlight_48 : decode cX6_readFlight 48 = .ok (.getfield 76, 3) := by decide +kernel
theorem dX6_readFlight_51 : decode cX6_readFlight 51 = .ok (.invokevirtual 24, 3) := by decide +kernel
theorem dX6_readFlight_54 : decode cX6_readFlight 54 = .ok (.aload_n 0, 1) := by decide +kernel
theorem dX6_readFlight_55 : decode cX6_readFlight 55 = .ok (.getfield 9, 3) := by decide +kernel
theorem dX6_readFlight_58 : decode cX6_readFlight 58 = .ok (.ldc 172, 2) := by decide +kernel
theorem dX6_readFlight_60 : decode cX6_readFlight 60 = .ok (.iconst 0, 1) := by decide +kernel
theorem dX6_readFlight_61 : decode cX6_readFlight 61 = .ok (.aload_n 0, 1) := by decide +kernel
theorem dX6_readFlight_62 : decode cX6_readFlight 62 = .ok (.getfield 15, 3) := by decide +kernel
theorem dX6_readFlight_65 : decode cX6_readFlight 65 = .ok (.getfield 69, 3) := by decide +kernel
theorem dX6_readFlight_68 : decode cX6_readFlight 68 = .ok (.iconst 3, 1) := by decide +kernel
theorem dX6_readFlight_69 : decode cX6_readFlight 69 = .ok (.iaload, 1) := by decide +kernel
theorem dX6_readFlight_70 : decode cX6_readFlight 70 = .ok (.iconst 1, 1) := by decide +kernel
theorem dX6_readFlight_71 : decode cX6_readFlight 71 = .ok (.isub, 1) := by decide +kernel
theorem dX6_readFlight_72 : decode cX6_readFlight 72 = .ok (.invokevirtual 32, 3) := by decide +kernel
theorem dX6_readFlight_75 : decode cX6_readFlight 75 = .ok (.istore_n 2, 1) := by decide +kernel
theorem dX6_readFlight_76 : decode cX6_readFlight 76 = .ok (.iload_n 2, 1) := by decide +kernel
theorem dX6_readFlight_77 : decode cX6_readFlight 77 = .ok (.iconst (-1), 1) := by decide +kernel
theorem dX6_readFlight_78 : decode cX6_readFlight 78 = .ok (.if_icmp .ne 5, 3) := by decide +kernel
theorem dX6_readFlight_81 : decode cX6_readFlight 81 = .ok (.iconst 0, 1) := by decide +kernel
theorem dX6_readFlight_82 : decode cX6_readFlight 82 = .ok (.ireturn, 1) := by decide +kernel
theorem dX6_readFlight_83 : decode cX6_readFlight 83 = .ok (.aload_n 0, 1) := by decide +kernel
theorem dX6_readFlight_84 : decode cX6_readFlight 84 = .ok (.getfield 9, 3) := by decide +kernel
theorem dX6_readFlight_87 : decode cX6_readFlight 87 = .ok (.ldc 174, 2) := by decide +kernel
theorem dX6_readFlight_89 : decode cX6_readFlight 89 = .ok (.iconst 0, 1) := by decide +kernel
theorem dX6_readFlight_90 : decode cX6_readFlight 90 = .ok (.ldc 176, 2) := by decide +kernel
theorem dX6_readFlight_92 : decode cX6_readFlight 92 = .ok (.invokevirtual 32, 3) := by decide +kernel
theorem dX6_readFlight_95 : decode cX6_readFlight 95 = .ok (.istore_n 3, 1) := by decide +kernel
theorem dX6_readFlight_96 : decode cX6_readFlight 96 = .ok (.iload_n 3, 1) := by decide +kernel
theorem dX6_readFlight_97 : decode cX6_readFlight 97 = .ok (.iconst (-1), 1) := by decide +kernel
theorem dX6_readFlight_98 : decode cX6_readFlight 98 = .ok (.if_icmp .ne 5, 3) := by decide +kernel
theorem dX6_readFlight_101 : decode cX6_readFlight 101 = .ok (.iconst 0, 1) := by decide +kernel
theorem dX6_readFlight_102 : decode cX6_readFlight 102 = .ok (.ireturn, 1) := by decide +kernel
theorem dX6_readFlight_103 : decode cX6_readFlight 103 = .ok (.aload_n 0, 1) := by decide +kernel
theorem dX6_readFlight_104 : decode cX6_readFlight 104 = .ok (.getfield 9, 3) := by decide +kernel
theorem dX6_readFlight_107 : decode cX6_readFlight 107 = .ok (.ldc 177, 2) := by decide +kernel
theorem dX6_readFlight_109 : decode cX6_readFlight 109 = .ok (.iload_n 3, 1) := by decide +kernel
theorem dX6_readFlight_110 : decode cX6_readFlight 110 = .ok (.iconst 1, 1) := by decide +kernel
theorem dX6_readFlight_111 : decode cX6_readFlight 111 = .ok (.iadd, 1) := by decide +kernel
theorem dX6_readFlight_112 : decode cX6_readFlight 112 = .ok (.ldc 179, 2) := by decide +kernel
theorem dX6_readFlight_114 : decode cX6_readFlight 114 = .ok (.invokevirtual 32, 3) := by decide +kernel
theorem dX6_readFlight_117 : decode cX6_readFlight 117 = .ok (.istore 4, 2) := by decide +kernel
theorem dX6_readFlight_119 : decode cX6_readFlight 119 = .ok (.iload 4, 2) := by decide +kernel
theorem dX6_readFlight_121 : decode cX6_readFlight 121 = .ok (.iconst (-1), 1) := by decide +kernel
theorem dX6_readFlight_122 : decode cX6_readFlight 122 = .ok (.if_icmp .ne 5, 3) := by decide +kernel
theorem dX6_readFlight_125 : decode cX6_readFlight 125 = .ok (.iconst 0, 1) := by decide +kernel
theorem dX6_readFlight_126 : decode cX6_readFlight 126 = .ok (.ireturn, 1) := by decide +kernel
theorem dX6_readFlight_127 : decode cX6_readFlight 127 = .ok (.aload_n 0, 1) := by decide +kernel
theorem dX6_readFlight_128 : decode cX6_readFlight 128 = .ok (.getfield 15, 3) := by decide +kernel
theorem dX6_readFlight_131 : decode cX6_readFlight 131 = .ok (.getfield 152, 3) := by decide +kernel
theorem dX6_readFlight_134 : decode cX6_readFlight 134 = .ok (.iload_n 1, 1) := by decide +kernel
theorem dX6_readFlight_135 : decode cX6_readFlight 135 = .ok (.iload_n 2, 1) := by decide +kernel
theorem dX6_readFlight_136 : decode cX6_readFlight 136 = .ok (.iload_n 3, 1) := by decide +kernel
theorem dX6_readFlight_137 : decode cX6_readFlight 137 = .ok (.iload 4, 2) := by decide +kernel
theorem dX6_readFlight_139 : decode cX6_readFlight 139 = .ok (.invokevirtual 180, 3) := by decide +kernel
theorem dX6_readFlight_142 : decode cX6_readFlight 142 = .ok (.aload_n 0, 1) := by decide +kernel
theorem dX6_readFlight_143 : decode cX6_readFlight 143 = .ok (.getfield 9, 3) := by decide +kernel
theorem dX6_readFlight_146 : decode cX6_readFlight 146 = .ok (.ldc 40, 2) := by decide +kernel
theorem dX6_readFlight_148 : decode cX6_readFlight 148 = .ok (.invokevirtual 42, 3) := by decide +kernel
theorem dX6_readFlight_151 : decode cX6_readFlight 151 = .ok (.ireturn, 1) := by decide +kernel
theorem dX6_readWindow_0 : decode cX6_readWindow 0 = .ok (.aload_n 0, 1) := by decide +kernel
theorem dX6_readWindow_1 : decode cX6_readWindow 1 = .ok (.getfield 9, 3) := by decide +kernel
theorem dX6_readWindow_4 : decode cX6_readWindow 4 = .ok (.ldc 184, 2) := by decide +kernel
theorem dX6_readWindow_6 : decode cX6_readWindow 6 = .ok (.invokevirtual 87, 3) := by decide +kernel
theorem dX6_readWindow_9 : decode cX6_readWindow 9 = .ok (.ifCond .ne 5, 3) := by decide +kernel
theorem dX6_readWindow_12 : decode cX6_readWindow 12 = .ok (.iconst 1, 1) := by decide +kernel
theorem dX6_readWindow_13 : decode cX6_readWindow 13 = .ok (.ireturn, 1) := by decide +kernel
theorem dX6_readWindow_14 : decode cX6_readWindow 14 = .ok (.aload_n 0, 1) := by decide +kernel
theorem dX6_readWindow_15 : decode cX6_readWindow 15 = .ok (.getfield 15, 3) := by decide +kernel
theorem dX6_readWindow_18 : decode cX6_readWindow 18 = .ok (.aload_n 0, 1) := by decide +kernel
theorem dX6_readWindow_19 : decode cX6_readWindow 19 = .ok (.getfield 9, 3) := by decide +kernel
theorem dX6_readWindow_22 : decode cX6_readWindow 22 = .ok (.ldc 184, 2) := by decide +kernel
theorem dX6_readWindow_24 : decode cX6_readWindow 24 = .ok (.iconst 0, 1) := by decide +kernel
theorem dX6_readWindow_25 : decode cX6_readWindow 25 = .ok (.iconst 3, 1) := by decide +kernel
theorem dX6_readWindow_26 : decode cX6_readWindow 26 = .ok (.invokevirtual 32, 3) := by decide +kernel
theorem dX6_readWindow_29 : decode cX6_readWindow 29 = .ok (.putfield 186, 3) := by decide +kernel
theorem dX6_readWindow_32 : decode cX6_readWindow 32 = .ok (.aload_n 0, 1) := by decide +kernel
theorem dX6_readWindow_33 : decode cX6_readWindow 33 = .ok (.getfield 15, 3) := by decide +kernel
theorem dX6_readWindow_36 : decode cX6_readWindow 36 = .ok (.getfield 186, 3) := by decide +kernel
theorem dX6_readWindow_39 : decode cX6_readWindow 39 = .ok (.iconst (-1), 1) := by decide +kernel
theorem dX6_readWindow_40 : decode cX6_readWindow 40 = .ok (.if_icmp .eq 19, 3) := by decide +kernel
theorem dX6_readWindow_43 : decode cX6_readWindow 43 = .ok (.aload_n 0, 1) := by decide +kernel
theorem dX6_readWindow_44 : decode cX6_readWindow 44 = .ok (.getfield 9, 3) := by decide +kernel
theorem dX6_readWindow_47 : decode cX6_readWindow 47 = .ok (.ldc 40, 2) := by decide +kernel
theorem dX6_readWindow_49 : decode cX6_readWindow 49 = .ok (.invokevirtual 42, 3) := by decide +kernel
theorem dX6_readWindow_52 : decode cX6_readWindow 52 = .ok (.ifCond .eq 7, 3) := by decide +kernel
theorem dX6_readWindow_55 : decode cX6_readWindow 55 = .ok (.iconst 1, 1) := by decide +kernel
theorem dX6_readWindow_56 : decode cX6_readWindow 56 = .ok (.goto 4, 3) := by decide +kernel
theorem dX6_readWindow_59 : decode cX6_readWindow 59 = .ok (.iconst 0, 1) := by decide +kernel
theorem dX6_readWindow_60 : decode cX6_readWindow 60 = .ok (.ireturn, 1) := by decide +kernel
theorem dX6_readPassLimit_0 : decode cX6_readPassLimit 0 = .ok (.aload_n 0, 1) := by decide +kernel
theorem dX6_readPassLimit_1 : decode cX6_readPassLimit 1 = .ok (.getfield 9, 3) := by decide +kernel
theorem dX6_readPassLimit_4 : decode cX6_readPassLimit 4 = .ok (.ldc 188, 2) := by decide +kernel
theorem dX6_readPassLimit_6 : decode cX6_readPassLimit 6 = .ok (.invokevirtual 87, 3) := by decide +kernel
theorem dX6_readPassLimit_9 : decode cX6_readPassLimit 9 = .ok (.ifCond .ne 5, 3) := by decide +kernel
theorem dX6_readPassLimit_12 : decode cX6_readPassLimit 12 = .ok (.iconst 1, 1) := by decide +kernel
theorem dX6_readPassLimit_13 : decode cX6_readPassLimit 13 = .ok (.ireturn, 1) := by decide +kernel
theorem dX6_readPassLimit_14 : decode cX6_readPassLimit 14 = .ok (.aload_n 0, 1) := by decide +kernel
theorem dX6_readPassLimit_15 : decode cX6_readPassLimit 15 = .ok (.getfield 15, 3) := by decide +kernel
theorem dX6_readPassLimit_18 : decode cX6_readPassLimit 18 = .ok (.aload_n 0, 1) := by decide +kernel
theorem dX6_readPassLimit_19 : decode cX6_readPassLimit 19 = .ok (.getfield 9, 3) := by decide +kernel
theorem dX6_readPassLimit_22 : decode cX6_readPassLimit 22 = .ok (.ldc 188, 2) := by decide +kernel
theorem dX6_readPassLimit_24 : decode cX6_readPassLimit 24 = .ok (.iconst 1, 1) := by decide +kernel
theorem dX6_readPassLimit_25 : decode cX6_readPassLimit 25 = .ok (.bipush 9, 2) := by decide +kernel
theorem dX6_readPassLimit_27 : decode cX6_readPassLimit 27 = .ok (.invokevirtual 32, 3) := by decide +kernel
theorem dX6_readPassLimit_30 : decode cX6_readPassLimit 30 = .ok (.putfield 190, 3) := by decide +kernel
theorem dX6_readPassLimit_33 : decode cX6_readPassLimit 33 = .ok (.aload_n 0, 1) := by decide +kernel
theorem dX6_readPassLimit_34 : decode cX6_readPassLimit 34 = .ok (.getfield 15, 3) := by decide +kernel
theorem dX6_readPassLimit_37 : decode cX6_readPassLimit 37 = .ok (.getfield 190, 3) := by decide +kernel
theorem dX6_readPassLimit_40 : decode cX6_readPassLimit 40 = .ok (.iconst (-1), 1) := by decide +kernel
theorem dX6_readPassLimit_41 : decode cX6_readPassLimit 41 = .ok (.if_icmp .eq 19, 3) := by decide +kernel
theorem dX6_readPassLimit_44 : decode cX6_readPassLimit 44 = .ok (.aload_n 0, 1) := by decide +kernel
theorem dX6_readPassLimit_45 : decode cX6_readPassLimit 45 = .ok (.getfield 9, 3) := by decide +kernel
theorem dX6_readPassLimit_48 : decode cX6_readPassLimit 48 = .ok (.ldc 40, 2) := by decide +kernel
theorem dX6_readPassLimit_50 : decode cX6_readPassLimit 50 = .ok (.invokevirtual 42, 3) := by decide +kernel
theorem dX6_readPassLimit_53 : decode cX6_readPassLimit 53 = .ok (.ifCond .eq 7, 3) := by decide +kernel
theorem dX6_readPassLimit_56 : decode cX6_readPassLimit 56 = .ok (.iconst 1, 1) := by decide +kernel
theorem dX6_readPassLimit_57 : decode cX6_readPassLimit 57 = .ok (.goto 4, 3) := by decide +kernel
theorem dX6_readPassLimit_60 : decode cX6_readPassLimit 60 = .ok (.iconst 0, 1) := by decide +kernel
theorem dX6_readPassLimit_61 : decode cX6_readPassLimit 61 = .ok (.ireturn, 1) := by decide +kernel
theorem dX7_init_0 : decode cX7_init 0 = .ok (.aload_n 0, 1) := by decide +kernel
theorem dX7_init_1 : decode cX7_init 1 = .ok (.invokespecial 3, 3) := by decide +kernel
theorem dX7_init_4 : decode cX7_init 4 = .ok (.aload_n 0, 1) := by decide +kernel
theorem dX7_init_5 : decode cX7_init 5 = .ok (.sipush 900, 3) := by decide +kernel
theorem dX7_init_8 : decode cX7_init 8 = .ok (.newarray .byte, 2) := by decide +kernel
theorem dX7_init_10 : decode cX7_init 10 = .ok (.putfield 9, 3) := by decide +kernel
theorem dX7_init_13 : decode cX7_init 13 = .ok (.return_, 1) := by decide +kernel
theorem dX7_addWord_0 : decode cX7_addWord 0 = .ok (.bipush 24, 2) := by decide +kernel
theorem dX7_addWord_2 : decode cX7_addWord 2 = .ok (.istore_n 2, 1) := by decide +kernel
theorem dX7_addWord_3 : decode cX7_addWord 3 = .ok (.iload_n 2, 1) := by decide +kernel
theorem dX7_addWord_4 : decode cX7_addWord 4 = .ok (.ifCond .lt 42, 3) := by decide +kernel
theorem dX7_addWord_7 : decode cX7_addWord 7 = .ok (.aload_n 0, 1) := by decide +kernel
theorem dX7_addWord_8 : decode cX7_addWord 8 = .ok (.getfield 15, 3) := by decide +kernel
theorem dX7_addWord_11 : decode cX7_addWord 11 = .ok (.sipush 900, 3) := by decide +kernel
theorem dX7_addWord_14 : decode cX7_addWord 14 = .ok (.if_icmp .ge 26, 3) := by decide +kernel
theorem dX7_addWord_17 : decode cX7_addWord 17 = .ok (.aload_n 0, 1) := by decide +kernel
theorem dX7_addWord_18 : decode cX7_addWord 18 = .ok (.getfield 9, 3) := by decide +kernel
theorem dX7_addWord_21 : decode cX7_addWord 21 = .ok (.aload_n 0, 1) := by decide +kernel
theorem dX7_addWord_22 : decode cX7_addWord 22 = .ok (.getfield 15, 3) := by decide +kernel
theorem dX7_addWord_25 : decode cX7_addWord 25 = .ok (.iload_n 1, 1) := by decide +kernel
theorem dX7_addWord_26 : decode cX7_addWord 26 = .ok (.iload_n 2, 1) := by decide +kernel
theorem dX7_addWord_27 : decode cX7_addWord 27 = .ok (.iushr, 1) := by decide +kernel
theorem dX7_addWord_28 : decode cX7_addWord 28 = .ok (.i2b, 1) := by decide +kernel
theorem dX7_addWord_29 : decode cX7_addWord 29 = .ok (.bastore, 1) := by decide +kernel
theorem dX7_addWord_30 : decode cX7_addWord 30 = .ok (.aload_n 0, 1) := by decide +kernel
theorem dX7_addWord_31 : decode cX7_addWord 31 = .ok (.dup, 1) := by decide +kernel
theorem dX7_addWord_32 : decode cX7_addWord 32 = .ok (.getfield 15, 3) := by decide +kernel
theorem dX7_addWord_35 : decode cX7_addWord 35 = .ok (.iconst 1, 1) := by decide +kernel
theorem dX7_addWord_36 : decode cX7_addWord 36 = .ok (.iadd, 1) := by decide +kernel
theorem dX7_addWord_37 : decode cX7_addWord 37 = .ok (.putfield 15, 3) := by decide +kernel
theorem dX7_addWord_40 : decode cX7_addWord 40 = .ok (.iinc 2 (-8), 3) := by decide +kernel
theorem dX7_addWord_43 : decode cX7_addWord 43 = .ok (.goto (-40), 3) := by decide +kernel
theorem dX7_addWord_46 : decode cX7_addWord 46 = .ok (.return_, 1) := by decide +kernel
theorem dX7_findToken_0 : decode cX7_findToken 0 = .ok (.aload_n 0, 1) := by decide +kernel
theorem dX7_findToken_1 : decode cX7_findToken 1 = .ok (.iload_n 1, 1) := by decide +kernel
theorem dX7_findToken_2 : decode cX7_findToken 2 = .ok (.putfield 19, 3) := by decide +kernel
theorem dX7_findToken_5 : decode cX7_findToken 5 = .ok (.aload_n 0, 1) := by decide +kernel
theorem dX7_findToken_6 : decode cX7_findToken 6 = .ok (.getfield 19, 3) := by decide +kernel
theorem dX7_findToken_9 : decode cX7_findToken 9 = .ok (.aload_n 0, 1) := by decide +kernel
theorem dX7_findToken_10 : decode cX7_findToken 10 = .ok (.getfield 15, 3) := by decide +kernel
theorem dX7_findToken_13 : decode cX7_findToken 13 = .ok (.if_icmp .ge 44, 3) := by decide +kernel
theorem dX7_findToken_16 : decode cX7_findToken 16 = .ok (.aload_n 0, 1) := by decide +kernel
theorem dX7_findToken_17 : decode cX7_findToken 17 = .ok (.getfield 9, 3) := by decide +kernel
theorem dX7_findToken_20 : decode cX7_findToken 20 = .ok (.aload_n 0, 1) := by decide +kernel
theorem dX7_findToken_21 : decode cX7_findToken 21 = .ok (.getfield 19, 3) := by decide +kernel
theorem dX7_findToken_24 : decode cX7_findToken 24 = .ok (.baload, 1) := by decide +kernel
theorem dX7_findToken_25 : decode cX7_findToken 25 = .ok (.bipush 32, 2) := by decide +kernel
theorem dX7_findToken_27 : decode cX7_findToken 27 = .ok (.if_icmp .eq 17, 3) := by decide +kernel
theorem dX7_findToken_30 : decode cX7_findToken 30 = .ok (.aload_n 0, 1) := by decide +kernel
theorem dX7_findToken_31 : decode cX7_findToken 31 = .ok (.getfield 9, 3) := by decide +kernel
theorem dX7_findToken_34 : decode cX7_findToken 34 = .ok (.aload_n 0, 1) := by decide +kernel
theorem dX7_findToken_35 : decode cX7_findToken 35 = .ok (.getfield 19, 3) := by decide +kernel
theorem dX7_findToken_38 : decode cX7_findToken 38 = .ok (.baload, 1) := by decide +kernel
theorem dX7_findToken_39 : decode cX7_findToken 39 = .ok (.bipush 10, 2) := by decide +kernel
theorem dX7_findToken_41 : decode cX7_findToken 41 = .ok (.if_icmp .ne 16, 3) := by decide +kernel
theorem dX7_findToken_44 : decode cX7_findToken 44 = .ok (.aload_n 0, 1) := by decide +kernel
theorem dX7_findToken_45 : decode cX7_findToken 45 = .ok (.dup, 1) := by decide +kernel
theorem dX7_findToken_46 : decode cX7_findToken 46 = .ok (.getfield 19, 3) := by decide +kernel
theorem dX7_findToken_49 : decode cX7_findToken 49 = .ok (.iconst 1, 1) := by decide +kernel
theorem dX7_findToken_50 : decode cX7_findToken 50 = .ok (.iadd, 1) := by decide +kernel
theorem dX7_findToken_51 : decode cX7_findToken 51 = .ok (.putfield 19, 3) := by decide +kernel
theorem dX7_findToken_54 : decode cX7_findToken 54 = .ok (.goto (-49), 3) := by decide +kernel
theorem dX7_findToken_57 : decode cX7_findToken 57 = .ok (.aload_n 0, 1) := by decide +kernel
theorem dX7_findToken_58 : decode cX7_findToken 58 = .ok (.aload_n 0, 1) := by decide +kernel
theorem dX7_findToken_59 : decode cX7_findToken 59 = .ok (.getfield 19, 3) := by decide +kernel
theorem dX7_findToken_62 : decode cX7_findToken 62 = .ok (.putfield 22, 3) := by decide +kernel
theorem dX7_findToken_65 : decode cX7_findToken 65 = .ok (.aload_n 0, 1) := by decide +kernel
theorem dX7_findToken_66 : decode cX7_findToken 66 = .ok (.getfield 22, 3) := by decide +kernel
theorem dX7_findToken_69 : decode cX7_findToken 69 = .ok (.aload_n 0, 1) := by decide +kernel
theorem dX7_findToken_70 : decode cX7_findToken 70 = .ok (.getfield 15, 3) := by decide +kernel
theorem dX7_findToken_73 : decode cX7_findToken 73 = .ok (.if_icmp .ge 44, 3) := by decide +kernel
theorem dX7_findToken_76 : decode cX7_findToken 76 = .ok (.aload_n 0, 1) := by decide +kernel
theorem dX7_findToken_77 : decode cX7_findToken 77 = .ok (.getfield 9, 3) := by decide +kernel
theorem dX7_findToken_80 : decode cX7_findToken 80 = .ok (.aload_n 0, 1) := by decide +kernel
theorem dX7_findToken_81 : decode cX7_findToken 81 = .ok (.getfield 22, 3) := by decide +kernel
theorem dX7_findToken_84 : decode cX7_findToken 84 = .ok (.baload, 1) := by decide +kernel
theorem dX7_findToken_85 : decode cX7_findToken 85 = .ok (.bipush 97, 2) := by decide +kernel
theorem dX7_findToken_87 : decode cX7_findToken 87 = .ok (.if_icmp .lt 30, 3) := by decide +kernel
theorem dX7_findToken_90 : decode cX7_findToken 90 = .ok (.aload_n 0, 1) := by decide +kernel
theorem dX7_findToken_91 : decode cX7_findToken 91 = .ok (.getfield 9, 3) := by decide +kernel
theorem dX7_findToken_94 : decode cX7_findToken 94 = .ok (.aload_n 0, 1) := by decide +kernel
theorem dX7_findToken_95 : decode cX7_findToken 95 = .ok (.getfield 22, 3) := by decide +kernel
theorem dX7_findToken_98 : decode cX7_findToken 98 = .ok (.baload, 1) := by decide +kernel
theorem dX7_findToken_99 : decode cX7_findToken 99 = .ok (.bipush 122, 2) := by decide +kernel
theorem dX7_findToken_101 : decode cX7_findToken 101 = .ok (.if_icmp .gt 16, 3) := by decide +kernel
theorem dX7_findToken_104 : decode cX7_findToken 104 = .ok (.aload_n 0, 1) := by decide +kernel
theorem dX7_findToken_105 : decode cX7_findToken 105 = .ok (.dup, 1) := by decide +kernel
theorem dX7_findToken_106 : decode cX7_findToken 106 = .ok (.getfield 22, 3) := by decide +kernel
theorem dX7_findToken_109 : decode cX7_findToken 109 = .ok (.iconst 1, 1) := by decide +kernel
theorem dX7_findToken_110 : decode cX7_findToken 110 = .ok (.iadd, 1) := by decide +kernel
theorem dX7_findToken_111 : decode cX7_findToken 111 = .ok (.putfield 22, 3) := by decide +kernel
theorem dX7_findToken_114 : decode cX7_findToken 114 = .ok (.goto (-49), 3) := by decide +kernel
theorem dX7_findToken_117 : decode cX7_findToken 117 = .ok (.aload_n 0, 1) := by decide +kernel
theorem dX7_findToken_118 : decode cX7_findToken 118 = .ok (.getfield 22, 3) := by decide +kernel
theorem dX7_findToken_121 : decode cX7_findToken 121 = .ok (.aload_n 0, 1) := by decide +kernel
theorem dX7_findToken_122 : decode cX7_findToken 122 = .ok (.getfield 19, 3) := by decide +kernel
theorem dX7_findToken_125 : decode cX7_findToken 125 = .ok (.if_icmp .le 7, 3) := by decide +kernel
theorem dX7_findToken_128 : decode cX7_findToken 128 = .ok (.iconst 1, 1) := by decide +kernel
theorem dX7_findToken_129 : decode cX7_findToken 129 = .ok (.goto 4, 3) := by decide +kernel
theorem dX7_findToken_132 : decode cX7_findToken 132 = .ok (.iconst 0, 1) := by decide +kernel
theorem dX7_findToken_133 : decode cX7_findToken 133 = .ok (.istore_n 2, 1) := by decide +kernel
theorem dX7_findToken_134 : decode cX7_findToken 134 = .ok (.iconst 0, 1) := by decide +kernel
theorem dX7_findToken_135 : decode cX7_findToken 135 = .ok (.istore_n 3, 1) := by decide +kernel
theorem dX7_findToken_136 : decode cX7_findToken 136 = .ok (.iload_n 2, 1) := by decide +kernel
theorem dX7_findToken_137 : decode cX7_findToken 137 = .ok (.ifCond .ne 73, 3) := by decide +kernel
theorem dX7_findToken_140 : decode cX7_findToken 140 = .ok (.aload_n 0, 1) := by decide +kernel
theorem dX7_findToken_141 : decode cX7_findToken 141 = .ok (.getfield 22, 3) := by decide +kernel
theorem dX7_findToken_144 : decode cX7_findToken 144 = .ok (.aload_n 0, 1) := by decide +kernel
theorem dX7_findToken_145 : decode cX7_findToken 145 = .ok (.getfield 15, 3) := by decide +kernel
theorem dX7_findToken_148 : decode cX7_findToken 148 = .ok (.if_icmp .ge 62, 3) := by decide +kernel
theorem dX7_findToken_151 : decode cX7_findToken 151 = .ok (.aload_n 0, 1) := by decide +kernel
theorem dX7_findToken_152 : decode cX7_findToken 152 = .ok (.getfield 9, 3) := by decide +kernel
theorem dX7_findToken_155 : decode cX7_findToken 155 = .ok (.aload_n 0, 1) := by decide +kernel
theorem dX7_findToken_156 : decode cX7_findToken 156 = .ok (.getfield 22, 3) := by decide +kernel
theorem dX7_findToken_159 : decode cX7_findToken 159 = .ok (.baload, 1) := by decide +kernel
theorem dX7_findToken_160 : decode cX7_findToken 160 = .ok (.bipush 48, 2) := by decide +kernel
theorem dX7_findToken_162 : decode cX7_findToken 162 = .ok (.if_icmp .lt 48, 3) := by decide +kernel
theorem dX7_findToken_165 : decode cX7_findToken 165 = .ok (.aload_n 0, 1) := by decide +kernel
theorem dX7_findToken_166 : decode cX7_findToken 166 = .ok (.getfield 9, 3) := by decide +kernel
theorem dX7_findToken_169 : decode cX7_findToken 169 = .ok (.aload_n 0, 1) := by decide +kernel
theorem dX7_findToken_170 : decode cX7_findToken 170 = .ok (.getfield 22, 3) := by decide +kernel
theorem dX7_findToken_173 : decode cX7_findToken 173 = .ok (.baload, 1) := by decide +kernel
theorem dX7_findToken_174 : decode cX7_findToken 174 = .ok (.bipush 57, 2) := by decide +kernel
theorem dX7_findToken_176 : decode cX7_findToken 176 = .ok (.if_icmp .gt 34, 3) := by decide +kernel
theorem dX7_findToken_179 : decode cX7_findToken 179 = .ok (.iload_n 3, 1) := by decide +kernel
theorem dX7_findToken_180 : decode cX7_findToken 180 = .ok (.bipush 10, 2) := by decide +kernel
theorem dX7_findToken_182 : decode cX7_findToken 182 = .ok (.imul, 1) := by decide +kernel
theorem dX7_findToken_183 : decode cX7_findToken 183 = .ok (.aload_n 0, 1) := by decide +kernel
theorem dX7_findToken_184 : decode cX7_findToken 184 = .ok (.getfield 9, 3) := by decide +kernel
theorem dX7_findToken_187 : decode cX7_findToken 187 = .ok (.aload_n 0, 1) := by decide +kernel
theorem dX7_findToken_188 : decode cX7_findToken 188 = .ok (.getfield 22, 3) := by decide +kernel
theorem dX7_findToken_191 : decode cX7_findToken 191 = .ok (.baload, 1) := by decide +kernel
theorem dX7_findToken_192 : decode cX7_findToken 192 = .ok (.bipush 48, 2) := by decide +kernel
theorem dX7_findToken_194 : decode cX7_findToken 194 = .ok (.isub, 1) := by decide +kernel
theorem dX7_findToken_195 : decode cX7_findToken 195 = .ok (.iadd, 1) := by decide +kernel
theorem dX7_findToken_196 : decode cX7_findToken 196 = .ok (.istore_n 3, 1) := by decide +kernel
theorem dX7_findToken_197 : decode cX7_findToken 197 = .ok (.aload_n 0, 1) := by decide +kernel
theorem dX7_findToken_198 : decode cX7_findToken 198 = .ok (.dup, 1) := by decide +kernel
theorem dX7_findToken_199 : decode cX7_findToken 199 = .ok (.getfield 22, 3) := by decide +kernel
theorem dX7_findToken_202 : decode cX7_findToken 202 = .ok (.iconst 1, 1) := by decide +kernel
theorem dX7_findToken_203 : decode cX7_findToken 203 = .ok (.iadd, 1) := by decide +kernel
theorem dX7_findToken_204 : decode cX7_findToken 204 = .ok (.putfield 22, 3) := by decide +kernel
theorem dX7_findToken_207 : decode cX7_findToken 207 = .ok (.goto (-71), 3) := by decide +kernel
theorem dX7_findToken_210 : decode cX7_findToken 210 = .ok (.iload_n 2, 1) := by decide +kernel
theorem dX7_findToken_211 : decode cX7_findToken 211 = .ok (.ifCond .ne 31, 3) := by decide +kernel
theorem dX7_findToken_214 : decode cX7_findToken 214 = .ok (.aload_n 0, 1) := by decide +kernel
theorem dX7_findToken_215 : decode cX7_findToken 215 = .ok (.getfield 22, 3) := by decide +kernel
theorem dX7_findToken_218 : decode cX7_findToken 218 = .ok (.aload_n 0, 1) := by decide +kernel
theorem dX7_findToken_219 : decode cX7_findToken 219 = .ok (.getfield 19, 3) := by decide +kernel
theorem dX7_findToken_222 : decode cX7_findToken 222 = .ok (.if_icmp .le 20, 3) := by decide +kernel
theorem dX7_findToken_225 : decode cX7_findToken 225 = .ok (.aload_n 0, 1) := by decide +kernel
theorem dX7_findToken_226 : decode cX7_findToken 226 = .ok (.getfield 22, 3) := by decide +kernel
theorem dX7_findToken_229 : decode cX7_findToken 229 = .ok (.aload_n 0, 1) := by decide +kernel
theorem dX7_findToken_230 : decode cX7_findToken 230 = .ok (.getfield 19, 3) := by decide +kernel
theorem dX7_findToken_233 : decode cX7_findToken 233 = .ok (.isub, 1) := by decide +kernel
theorem dX7_findToken_234 : decode cX7_findToken 234 = .ok (.iconst 5, 1) := by decide +kernel
theorem dX7_findToken_235 : decode cX7_findToken 235 = .ok (.if_icmp .gt 7, 3) := by decide +kernel
theorem dX7_findToken_238 : decode cX7_findToken 238 = .ok (.iconst 1, 1) := by decide +kernel
theorem dX7_findToken_239 : decode cX7_findToken 239 = .ok (.goto 4, 3) := by decide +kernel
theorem dX7_findToken_242 : decode cX7_findToken 242 = .ok (.iconst 0, 1) := by decide +kernel
theorem dX7_findToken_243 : decode cX7_findToken 243 = .ok (.istore 4, 2) := by decide +kernel
theorem dX7_findToken_245 : decode cX7_findToken 245 = .ok (.aload_n 0, 1) := by decide +kernel
theorem dX7_findToken_246 : decode cX7_findToken 246 = .ok (.iload 4, 2) := by decide +kernel
theorem dX7_findToken_248 : decode cX7_findToken 248 = .ok (.ifCond .eq 7, 3) := by decide +kernel
theorem dX7_findToken_251 : decode cX7_findToken 251 = .ok (.iload_n 3, 1) := by decide +kernel
theorem dX7_findToken_252 : decode cX7_findToken 252 = .ok (.goto 4, 3) := by decide +kernel
theorem dX7_findToken_255 : decode cX7_findToken 255 = .ok (.iconst (-1), 1) := by decide +kernel
theorem dX7_findToken_256 : decode cX7_findToken 256 = .ok (.putfield 25, 3) := by decide +kernel
theorem dX7_findToken_259 : decode cX7_findToken 259 = .ok (.aload_n 0, 1) := by decide +kernel
theorem dX7_findToken_260 : decode cX7_findToken 260 = .ok (.getfield 22, 3) := by decide +kernel
theorem dX7_findToken_263 : decode cX7_findToken 263 = .ok (.aload_n 0, 1) := by decide +kernel
theorem dX7_findToken_264 : decode cX7_findToken 264 = .ok (.getfield 19, 3) := by decide +kernel
theorem dX7_findToken_267 : decode cX7_findToken 267 = .ok (.if_icmp .ne 24, 3) := by decide +kernel
theorem dX7_findToken_270 : decode cX7_findToken 270 = .ok (.aload_n 0, 1) := by decide +kernel
theorem dX7_findToken_271 : decode cX7_findToken 271 = .ok (.getfield 22, 3) := by decide +kernel
theorem dX7_findToken_274 : decode cX7_findToken 274 = .ok (.aload_n 0, 1) := by decide +kernel
theorem dX7_findToken_275 : decode cX7_findToken 275 = .ok (.getfield 15, 3) := by decide +kernel
theorem dX7_findToken_278 : decode cX7_findToken 278 = .ok (.if_icmp .ge 13, 3) := by decide +kernel
theorem dX7_findToken_281 : decode cX7_findToken 281 = .ok (.aload_n 0, 1) := by decide +kernel
theorem dX7_findToken_282 : decode cX7_findToken 282 = .ok (.dup, 1) := by decide +kernel
theorem dX7_findToken_283 : decode cX7_findToken 283 = .ok (.getfield 22, 3) := by decide +kernel
theorem dX7_findToken_286 : decode cX7_findToken 286 = .ok (.iconst 1, 1) := by decide +kernel
theorem dX7_findToken_287 : decode cX7_findToken 287 = .ok (.iadd, 1) := by decide +kernel
theorem dX7_findToken_288 : decode cX7_findToken 288 = .ok (.putfield 22, 3) := by decide +kernel
theorem dX7_findToken_291 : decode cX7_findToken 291 = .ok (.return_, 1) := by decide +kernel
theorem dX7_isAtEnd_0 : decode cX7_isAtEnd 0 = .ok (.aload_n 0, 1) := by decide +kernel
theorem dX7_isAtEnd_1 : decode cX7_isAtEnd 1 = .ok (.getfield 19, 3) := by decide +kernel
theorem dX7_isAtEnd_4 : decode cX7_isAtEnd 4 = .ok (.aload_n 0, 1) := by decide +kernel
theorem dX7_isAtEnd_5 : decode cX7_isAtEnd 5 = .ok (.getfield 15, 3) := by decide +kernel
theorem dX7_isAtEnd_8 : decode cX7_isAtEnd 8 = .ok (.if_icmp .lt 7, 3) := by decide +kernel
theorem dX7_isAtEnd_11 : decode cX7_isAtEnd 11 = .ok (.iconst 1, 1) := by decide +kernel
theorem dX7_isAtEnd_12 : decode cX7_isAtEnd 12 = .ok (.goto 4, 3) := by decide +kernel
theorem dX7_isAtEnd_15 : decode cX7_isAtEnd 15 = .ok (.iconst 0, 1) := by decide +kernel
theorem dX7_isAtEnd_16 : decode cX7_isAtEnd 16 = .ok (.ireturn, 1) := by decide +kernel
theorem dX7_isAtWord_0 : decode cX7_isAtWord 0 = .ok (.aload_n 0, 1) := by decide +kernel
theorem dX7_isAtWord_1 : decode cX7_isAtWord 1 = .ok (.getfield 22, 3) := by decide +kernel
theorem dX7_isAtWord_4 : decode cX7_isAtWord 4 = .ok (.aload_n 0, 1) := by decide +kernel
theorem dX7_isAtWord_5 : decode cX7_isAtWord 5 = .ok (.getfield 19, 3) := by decide +kernel
theorem dX7_isAtWord_8 : decode cX7_isAtWord 8 = .ok (.isub, 1) := by decide +kernel
theorem dX7_isAtWord_9 : decode cX7_isAtWord 9 = .ok (.aload_n 1, 1) := by decide +kernel
theorem dX7_isAtWord_10 : decode cX7_isAtWord 10 = .ok (.invokevirtual 28, 3) := by decide +kernel
theorem dX7_isAtWord_13 : decode cX7_isAtWord 13 = .ok (.if_icmp .eq 5, 3) := by decide +kernel
theorem dX7_isAtWord_16 : decode cX7_isAtWord 16 = .ok (.iconst 0, 1) := by decide +kernel
theorem dX7_isAtWord_17 : decode cX7_isAtWord 17 = .ok (.ireturn, 1) := by decide +kernel
theorem dX7_isAtWord_18 : decode cX7_isAtWord 18 = .ok (.iconst 0, 1) := by decide +kernel
theorem dX7_isAtWord_19 : decode cX7_isAtWord 19 = .ok (.istore_n 2, 1) := by decide +kernel
theorem dX7_isAtWord_20 : decode cX7_isAtWord 20 = .ok (.iload_n 2, 1) := by decide +kernel
theorem dX7_isAtWord_21 : decode cX7_isAtWord 21 = .ok (.aload_n 1, 1) := by decide +kernel
theorem dX7_isAtWord_22 : decode cX7_isAtWord 22 = .ok (.invokevirtual 28, 3) := by decide +kernel
theorem dX7_isAtWord_25 : decode cX7_isAtWord 25 = .ok (.if_icmp .ge 43, 3) := by decide +kernel
theorem dX7_isAtWord_28 : decode cX7_isAtWord 28 = .ok (.aload_n 0, 1) := by decide +kernel
theorem dX7_isAtWord_29 : decode cX7_isAtWord 29 = .ok (.getfield 19, 3) := by decide +kernel
theorem dX7_isAtWord_32 : decode cX7_isAtWord 32 = .ok (.iload_n 2, 1) := by decide +kernel
theorem dX7_isAtWord_33 : decode cX7_isAtWord 33 = .ok (.iadd, 1) := by decide +kernel
theorem dX7_isAtWord_34 : decode cX7_isAtWord 34 = .ok (.aload_n 0, 1) := by decide +kernel
theorem dX7_isAtWord_35 : decode cX7_isAtWord 35 = .ok (.getfield 15, 3) := by decide +kernel
theorem dX7_isAtWord_38 : decode cX7_isAtWord 38 = .ok (.if_icmp .ge 22, 3) := by decide +kernel
theorem dX7_isAtWord_41 : decode cX7_isAtWord 41 = .ok (.aload_n 0, 1) := by decide +kernel
theorem dX7_isAtWord_42 : decode cX7_isAtWord 42 = .ok (.getfield 9, 3) := by decide +kernel
theorem dX7_isAtWord_45 : decode cX7_isAtWord 45 = .ok (.aload_n 0, 1) := by decide +kernel
theorem dX7_isAtWord_46 : decode cX7_isAtWord 46 = .ok (.getfield 19, 3) := by decide +kernel
theorem dX7_isAtWord_49 : decode cX7_isAtWord 49 = .ok (.iload_n 2, 1) := by decide +kernel
theorem dX7_isAtWord_50 : decode cX7_isAtWord 50 = .ok (.iadd, 1) := by decide +kernel
theorem dX7_isAtWord_51 : decode cX7_isAtWord 51 = .ok (.baload, 1) := by decide +kernel
theorem dX7_isAtWord_52 : decode cX7_isAtWord 52 = .ok (.aload_n 1, 1) := by decide +kernel
theorem dX7_isAtWord_53 : decode cX7_isAtWord 53 = .ok (.iload_n 2, 1) := by decide +kernel
theorem dX7_isAtWord_54 : decode cX7_isAtWord 54 = .ok (.invokevirtual 33, 3) := by decide +kernel
theorem dX7_isAtWord_57 : decode cX7_isAtWord 57 = .ok (.if_icmp .eq 5, 3) := by decide +kernel
theorem dX7_isAtWord_60 : decode cX7_isAtWord 60 = .ok (.iconst 0, 1) := by decide +kernel
theorem dX7_isAtWord_61 : decode cX7_isAtWord 61 = .ok (.ireturn, 1) := by decide +kernel
theorem dX7_isAtWord_62 : decode cX7_isAtWord 62 = .ok (.iinc 2 1, 3) := by decide +kernel
theorem dX7_isAtWord_65 : decode cX7_isAtWord 65 = .ok (.goto (-45), 3) := by decide +kernel
theorem dX7_isAtWord_68 : decode cX7_isAtWord 68 = .ok (.iconst 1, 1) := by decide +kernel
theorem dX7_isAtWord_69 : decode cX7_isAtWord 69 = .ok (.ireturn, 1) := by decide +kernel
theorem dX7_takeWord_0 : decode cX7_takeWord 0 = .ok (.aload_n 0, 1) := by decide +kernel
theorem dX7_takeWord_1 : decode cX7_takeWord 1 = .ok (.aload_n 1, 1) := by decide +kernel
theorem dX7_takeWord_2 : decode cX7_takeWord 2 = .ok (.invokevirtual 37, 3) := by decide +kernel
theorem dX7_takeWord_5 : decode cX7_takeWord 5 = .ok (.istore_n 2, 1) := by decide +kernel
theorem dX7_takeWord_6 : decode cX7_takeWord 6 = .ok (.iload_n 2, 1) := by decide +kernel
theorem dX7_takeWord_7 : decode cX7_takeWord 7 = .ok (.ifCond .eq 11, 3) := by decide +kernel
theorem dX7_takeWord_10 : decode cX7_takeWord 10 = .ok (.aload_n 0, 1) := by decide +kernel
theorem dX7_takeWord_11 : decode cX7_takeWord 11 = .ok (.aload_n 0, 1) := by decide +kernel
theorem dX7_takeWord_12 : decode cX7_takeWord 12 = .ok (.getfield 22, 3) := by decide +kernel
theorem dX7_takeWord_15 : decode cX7_takeWord 15 = .ok (.invokevirtual 41, 3) := by decide +kernel
theorem dX7_takeWord_18 : decode cX7_takeWord 18 = .ok (.iload_n 2, 1) := by decide +kernel
theorem dX7_takeWord_19 : decode cX7_takeWord 19 = .ok (.ireturn, 1) := by decide +kernel
theorem dX7_takeValue_0 : decode cX7_takeValue 0 = .ok (.aload_n 0, 1) := by decide +kernel
theorem dX7_takeValue_1 : decode cX7_takeValue 1 = .ok (.getfield 25, 3) := by decide +kernel
theorem dX7_takeValue_4 : decode cX7_takeValue 4 = .ok (.istore_n 3, 1) := by decide +kernel
theorem dX7_takeValue_5 : decode cX7_takeValue 5 = .ok (.iload_n 3, 1) := by decide +kernel
theorem dX7_takeValue_6 : decode cX7_takeValue 6 = .ok (.iload_n 1, 1) := by decide +kernel
theorem dX7_takeValue_7 : decode cX7_takeValue 7 = .ok (.if_icmp .lt 8, 3) := by decide +kernel
theorem dX7_takeValue_10 : decode cX7_takeValue 10 = .ok (.iload_n 3, 1) := by decide +kernel
theorem dX7_takeValue_11 : decode cX7_takeValue 11 = .ok (.iload_n 2, 1) := by decide +kernel
theorem dX7_takeValue_12 : decode cX7_takeValue 12 = .ok (.if_icmp .le 5, 3) := by decide +kernel
theorem dX7_takeValue_15 : decode cX7_takeValue 15 = .ok (.iconst (-1), 1) := by decide +kernel
theorem dX7_takeValue_16 : decode cX7_takeValue 16 = .ok (.ireturn, 1) := by decide +kernel
theorem dX7_takeValue_17 : decode cX7_takeValue 17 = .ok (.aload_n 0, 1) := by decide +kernel
theorem dX7_takeValue_18 : decode cX7_takeValue 18 = .ok (.aload_n 0, 1) := by decide +kernel
theorem dX7_takeValue_19 : decode cX7_takeValue 19 = .ok (.getfield 22, 3) := by decide +kernel
theorem dX7_takeValue_22 : decode cX7_takeValue 22 = .ok (.invokevirtual 41, 3) := by decide +kernel
theorem dX7_takeValue_25 : decode cX7_takeValue 25 = .ok (.iload_n 3, 1) := by decide +kernel
theorem dX7_takeValue_26 : decode cX7_takeValue 26 = .ok (.ireturn, 1) := by decide +kernel
theorem dX7_takeNamed_0 : decode cX7_takeNamed 0 = .ok (.aload_n 0, 1) := by decide +kernel
theorem dX7_takeNamed_1 : decode cX7_takeNamed 1 = .ok (.aload_n 1, 1) := by decide +kernel
theorem dX7_takeNamed_2 : decode cX7_takeNamed 2 = .ok (.invokevirtual 37, 3) := by decide +kernel
theorem dX7_takeNamed_5 : decode cX7_takeNamed 5 = .ok (.ifCond .ne 5, 3) := by decide +kernel
theorem dX7_takeNamed_8 : decode cX7_takeNamed 8 = .ok (.iconst (-1), 1) := by decide +kernel
theorem dX7_takeNamed_9 : decode cX7_takeNamed 9 = .ok (.ireturn, 1) := by decide +kernel
theorem dX7_takeNamed_10 : decode cX7_takeNamed 10 = .ok (.aload_n 0, 1) := by decide +kernel
theorem dX7_takeNamed_11 : decode cX7_takeNamed 11 = .ok (.aload_n 0, 1) := by decide +kernel
theorem dX7_takeNamed_12 : decode cX7_takeNamed 12 = .ok (.getfield 22, 3) := by decide +kernel
theorem dX7_takeNamed_15 : decode cX7_takeNamed 15 = .ok (.invokevirtual 41, 3) := by decide +kernel
theorem dX7_takeNamed_18 : decode cX7_takeNamed 18 = .ok (.aload_n 0, 1) := by decide +kernel
theorem dX7_takeNamed_19 : decode cX7_takeNamed 19 = .ok (.iload_n 2, 1) := by decide +kernel
theorem dX7_takeNamed_20 : decode cX7_takeNamed 20 = .ok (.iload_n 3, 1) := by decide +kernel
theorem dX7_takeNamed_21 : decode cX7_takeNamed 21 = .ok (.invokevirtual 45, 3) := by decide +kernel
theorem dX7_takeNamed_24 : decode cX7_takeNamed 24 = .ok (.ireturn, 1) := by decide +kernel
theorem dX8_init_0 : decode cX8_init 0 = .ok (.aload_n 0, 1) := by decide +kernel
theorem dX8_init_1 : decode cX8_init 1 = .ok (.invokespecial 3, 3) := by decide +kernel
theorem dX8_init_4 : decode cX8_init 4 = .ok (.aload_n 0, 1) := by decide +kernel
theorem dX8_init_5 : decode cX8_init 5 = .ok (.sipush 1024, 3) := by decide +kernel
theorem dX8_init_8 : decode cX8_init 8 = .ok (.newarray .byte, 2) := by decide +kernel
theorem dX8_init_10 : decode cX8_init 10 = .ok (.putfield 9, 3) := by decide +kernel
theorem dX8_init_13 : decode cX8_init 13 = .ok (.return_, 1) := by decide +kernel
theorem dX8_addSign_0 : decode cX8_addSign 0 = .ok (.aload_n 0, 1) := by decide +kernel
theorem dX8_addSign_1 : decode cX8_addSign 1 = .ok (.getfield 15, 3) := by decide +kernel
theorem dX8_addSign_4 : decode cX8_addSign 4 = .ok (.sipush 1024, 3) := by decide +kernel
theorem dX8_addSign_7 : decode cX8_addSign 7 = .ok (.if_icmp .ge 24, 3) := by decide +kernel
theorem dX8_addSign_10 : decode cX8_addSign 10 = .ok (.aload_n 0, 1) := by decide +kernel
theorem dX8_addSign_11 : decode cX8_addSign 11 = .ok (.getfield 9, 3) := by decide +kernel
theorem dX8_addSign_14 : decode cX8_addSign 14 = .ok (.aload_n 0, 1) := by decide +kernel
theorem dX8_addSign_15 : decode cX8_addSign 15 = .ok (.getfield 15, 3) := by decide +kernel
theorem dX8_addSign_18 : decode cX8_addSign 18 = .ok (.iload_n 1, 1) := by decide +kernel
theorem dX8_addSign_19 : decode cX8_addSign 19 = .ok (.i2b, 1) := by decide +kernel
theorem dX8_addSign_20 : decode cX8_addSign 20 = .ok (.bastore, 1) := by decide +kernel
theorem dX8_addSign_21 : decode cX8_addSign 21 = .ok (.aload_n 0, 1) := by decide +kernel
theorem dX8_addSign_22 : decode cX8_addSign 22 = .ok (.dup, 1) := by decide +kernel
theorem dX8_addSign_23 : decode cX8_addSign 23 = .ok (.getfield 15, 3) := by decide +kernel
theorem dX8_addSign_26 : decode cX8_addSign 26 = .ok (.iconst 1, 1) := by decide +kernel
theorem dX8_addSign_27 : decode cX8_addSign 27 = .ok (.iadd, 1) := by decide +kernel
theorem dX8_addSign_28 : decode cX8_addSign 28 = .ok (.putfield 15, 3) := by decide +kernel
theorem dX8_addSign_31 : decode cX8_addSign 31 = .ok (.return_, 1) := by decide +kernel
theorem dX8_separate_0 : decode cX8_separate 0 = .ok (.aload_n 0, 1) := by decide +kernel
theorem dX8_separate_1 : decode cX8_separate 1 = .ok (.getfield 15, 3) := by decide +kernel
theorem dX8_separate_4 : decode cX8_separate 4 = .ok (.ifCond .le 35, 3) := by decide +kernel
theorem dX8_separate_7 : decode cX8_separate 7 = .ok (.aload_n 0, 1) := by decide +kernel
theorem dX8_separate_8 : decode cX8_separate 8 = .ok (.getfield 15, 3) := by decide +kernel
theorem dX8_separate_11 : decode cX8_separate 11 = .ok (.sipush 1024, 3) := by decide +kernel
theorem dX8_separate_14 : decode cX8_separate 14 = .ok (.if_icmp .gt 25, 3) := by decide +kernel
theorem dX8_separate_17 : decode cX8_separate 17 = .ok (.aload_n 0, 1) := by decide +kernel
theorem dX8_separate_18 : decode cX8_separate 18 = .ok (.getfield 9, 3) := by decide +kernel
theorem dX8_separate_21 : decode cX8_separate 21 = .ok (.aload_n 0, 1) := by decide +kernel
theorem dX8_separate_22 : decode cX8_separate 22 = .ok (.getfield 15, 3) := by decide +kernel
theorem dX8_separate_25 : decode cX8_separate 25 = .ok (.iconst 1, 1) := by decide +kernel
theorem dX8_separate_26 : decode cX8_separate 26 = .ok (.isub, 1) := by decide +kernel
theorem dX8_separate_27 : decode cX8_separate 27 = .ok (.baload, 1) := by decide +kernel
theorem dX8_separate_28 : decode cX8_separate 28 = .ok (.bipush 59, 2) := by decide +kernel
theorem dX8_separate_30 : decode cX8_separate 30 = .ok (.if_icmp .eq 9, 3) := by decide +kernel
theorem dX8_separate_33 : decode cX8_separate 33 = .ok (.aload_n 0, 1) := by decide +kernel
theorem dX8_separate_34 : decode cX8_separate 34 = .ok (.bipush 32, 2) := by decide +kernel
theorem dX8_separate_36 : decode cX8_separate 36 = .ok (.invokevirtual 19, 3) := by decide +kernel
theorem dX8_separate_39 : decode cX8_separate 39 = .ok (.return_, 1) := by decide +kernel
theorem dX8_addName_0 : decode cX8_addName 0 = .ok (.aload_n 0, 1) := by decide +kernel
theorem dX8_addName_1 : decode cX8_addName 1 = .ok (.invokevirtual 23, 3) := by decide +kernel
theorem dX8_addName_4 : decode cX8_addName 4 = .ok (.iconst 0, 1) := by decide +kernel
theorem dX8_addName_5 : decode cX8_addName 5 = .ok (.istore_n 2, 1) := by decide +kernel
theorem dX8_addName_6 : decode cX8_addName 6 = .ok (.iload_n 2, 1) := by decide +kernel
theorem dX8_addName_7 : decode cX8_addName 7 = .ok (.aload_n 1, 1) := by decide +kernel
theorem dX8_addName_8 : decode cX8_addName 8 = .ok (.invokevirtual 26, 3) := by decide +kernel
theorem dX8_addName_11 : decode cX8_addName 11 = .ok (.if_icmp .ge 18, 3) := by decide +kernel
theorem dX8_addName_14 : decode cX8_addName 14 = .ok (.aload_n 0, 1) := by decide +kernel
theorem dX8_addName_15 : decode cX8_addName 15 = .ok (.aload_n 1, 1) := by decide +kernel
theorem dX8_addName_16 : decode cX8_addName 16 = .ok (.iload_n 2, 1) := by decide +kernel
theorem dX8_addName_17 : decode cX8_addName 17 = .ok (.invokevirtual 31, 3) := by decide +kernel
theorem dX8_addName_20 : decode cX8_addName 20 = .ok (.invokevirtual 19, 3) := by decide +kernel
theorem dX8_addName_23 : decode cX8_addName 23 = .ok (.iinc 2 1, 3) := by decide +kernel
theorem dX8_addName_26 : decode cX8_addName 26 = .ok (.goto (-20), 3) := by decide +kernel
theorem dX8_addName_29 : decode cX8_addName 29 = .ok (.return_, 1) := by decide +kernel
theorem dX8_addValue_0 : decode cX8_addValue 0 = .ok (.aload_n 0, 1) := by decide +kernel
theorem dX8_addValue_1 : decode cX8_addValue 1 = .ok (.invokevirtual 23, 3) := by decide +kernel
theorem dX8_addValue_4 : decode cX8_addValue 4 = .ok (.sipush 10000, 3) := by decide +kernel
theorem dX8_addValue_7 : decode cX8_addValue 7 = .ok (.istore_n 2, 1) := by decide +kernel
theorem dX8_addValue_8 : decode cX8_addValue 8 = .ok (.iload_n 2, 1) := by decide +kernel
theorem dX8_addValue_9 : decode cX8_addValue 9 = .ok (.iconst 1, 1) := by decide +kernel
theorem dX8_addValue_10 : decode cX8_addValue 10 = .ok (.if_icmp .lt 34, 3) := by decide +kernel
theorem dX8_addValue_13 : decode cX8_addValue 13 = .ok (.iload_n 1, 1) := by decide +kernel
theorem dX8_addValue_14 : decode cX8_addValue 14 = .ok (.iload_n 2, 1) := by decide +kernel
theorem dX8_addValue_15 : decode cX8_addValue 15 = .ok (.if_icmp .ge 8, 3) := by decide +kernel
theorem dX8_addValue_18 : decode cX8_addValue 18 = .ok (.iload_n 2, 1) := by decide +kernel
theorem dX8_addValue_19 : decode cX8_addValue 19 = .ok (.iconst 1, 1) := by decide +kernel
theorem dX8_addValue_20 : decode cX8_addValue 20 = .ok (.if_icmp .ne 16, 3) := by decide +kernel
theorem dX8_addValue_23 : decode cX8_addValue 23 = .ok (.aload_n 0, 1) := by decide +kernel
theorem dX8_addValue_24 : decode cX8_addValue 24 = .ok (.bipush 48, 2) := by decide +kernel
theorem dX8_addValue_26 : decode cX8_addValue 26 = .ok (.iload_n 1, 1) := by decide +kernel
theorem dX8_addValue_27 : decode cX8_addValue 27 = .ok (.iload_n 2, 1) := by decide +kernel
theorem dX8_addValue_28 : decode cX8_addValue 28 = .ok (.idiv, 1) := by decide +kernel
theorem dX8_addValue_29 : decode cX8_addValue 29 = .ok (.bipush 10, 2) := by decide +kernel
theorem dX8_addValue_31 : decode cX8_addValue 31 = .ok (.irem, 1) := by decide +kernel
theorem dX8_addValue_32 : decode cX8_addValue 32 = .ok (.iadd, 1) := by decide +kernel
theorem dX8_addValue_33 : decode cX8_addValue 33 = .ok (.invokevirtual 19, 3) := by decide +kernel
theorem dX8_addValue_36 : decode cX8_addValue 36 = .ok (.iload_n 2, 1) := by decide +kernel
theorem dX8_addValue_37 : decode cX8_addValue 37 = .ok (.bipush 10, 2) := by decide +kernel
theorem dX8_addValue_39 : decode cX8_addValue 39 = .ok (.idiv, 1) := by decide +kernel
theorem dX8_addValue_40 : decode cX8_addValue 40 = .ok (.istore_n 2, 1) := by decide +kernel
theorem dX8_addValue_41 : decode cX8_addValue 41 = .ok (.goto (-33), 3) := by decide +kernel
theorem dX8_addValue_44 : decode cX8_addValue 44 = .ok (.return_, 1) := by decide +kernel
theorem dX8_addNamed_0 : decode cX8_addNamed 0 = .ok (.aload_n 0, 1) := by decide +kernel
theorem dX8_addNamed_1 : decode cX8_addNamed 1 = .ok (.aload_n 1, 1) := by decide +kernel
theorem dX8_addNamed_2 : decode cX8_addNamed 2 = .ok (.invokevirtual 35, 3) := by decide +kernel
theorem dX8_addNamed_5 : decode cX8_addNamed 5 = .ok (.aload_n 0, 1) := by decide +kernel
theorem dX8_addNamed_6 : decode cX8_addNamed 6 = .ok (.iload_n 2, 1) := by decide +kernel
theorem dX8_addNamed_7 : decode cX8_addNamed 7 = .ok (.invokevirtual 39, 3) := by decide +kernel
theorem dX8_addNamed_10 : decode cX8_addNamed 10 = .ok (.return_, 1) := by decide +kernel
theorem dX8_endClause_0 : decode cX8_endClause 0 = .ok (.aload_n 0, 1) := by decide +kernel
theorem dX8_endClause_1 : decode cX8_endClause 1 = .ok (.bipush 59, 2) := by decide +kernel
theorem dX8_endClause_3 : decode cX8_endClause 3 = .ok (.invokevirtual 19, 3) := by decide +kernel
theorem dX8_endClause_6 : decode cX8_endClause 6 = .ok (.return_, 1) := by decide +kernel
theorem dX9_init_0 : decode cX9_init 0 = .ok (.aload_n 0, 1) := by decide +kernel
theorem dX9_init_1 : decode cX9_init 1 = .ok (.invokespecial 3, 3) := by decide +kernel
theorem dX9_init_4 : decode cX9_init 4 = .ok (.aload_n 0, 1) := by decide +kernel
theorem dX9_init_5 : decode cX9_init 5 = .ok (.bipush 8, 2) := by decide +kernel
theorem dX9_init_7 : decode cX9_init 7 = .ok (.newarray .int, 2) := by decide +kernel
theorem dX9_init_9 : decode cX9_init 9 = .ok (.putfield 9, 3) := by decide +kernel
theorem dX9_init_12 : decode cX9_init 12 = .ok (.aload_n 0, 1) := by decide +kernel
theorem dX9_init_13 : decode cX9_init 13 = .ok (.bipush 60, 2) := by decide +kernel
theorem dX9_init_15 : decode cX9_init 15 = .ok (.newarray .int, 2) := by decide +kernel
theorem dX9_init_17 : decode cX9_init 17 = .ok (.putfield 15, 3) := by decide +kernel
theorem dX9_init_20 : decode cX9_init 20 = .ok (.aload_n 0, 1) := by decide +kernel
theorem dX9_init_21 : decode cX9_init 21 = .ok (.new 18, 3) := by decide +kernel
theorem dX9_init_24 : decode cX9_init 24 = .ok (.dup, 1) := by decide +kernel
theorem dX9_init_25 : decode cX9_init 25 = .ok (.bipush 60, 2) := by decide +kernel
theorem dX9_init_27 : decode cX9_init 27 = .ok (.invokespecial 20, 3) := by decide +kernel
theorem dX9_init_30 : decode cX9_init 30 = .ok (.putfield 23, 3) := by decide +kernel
theorem dX9_init_33 : decode cX9_init 33 = .ok (.aload_n 0, 1) := by decide +kernel
theorem dX9_init_34 : decode cX9_init 34 = .ok (.new 18, 3) := by decide +kernel
theorem dX9_init_37 : decode cX9_init 37 = .ok (.dup, 1) := by decide +kernel
theorem dX9_init_38 : decode cX9_init 38 = .ok (.bipush 100, 2) := by decide +kernel
theorem dX9_init_40 : decode cX9_init 40 = .ok (.invokespecial 20, 3) := by decide +kernel
theorem dX9_init_43 : decode cX9_init 43 = .ok (.putfield 27, 3) := by decide +kernel
theorem dX9_init_46 : decode cX9_init 46 = .ok (.aload_n 0, 1) := by decide +kernel
theorem dX9_init_47 : decode cX9_init 47 = .ok (.new 30, 3) := by decide +kernel
theorem dX9_init_50 : decode cX9_init 50 = .ok (.dup, 1) := by decide +kernel
theorem dX9_init_51 : decode cX9_init 51 = .ok (.invokespecial 32, 3) := by decide +kernel
theorem dX9_init_54 : decode cX9_init 54 = .ok (.putfield 33, 3) := by decide +kernel
theorem dX9_init_57 : decode cX9_init 57 = .ok (.aload_n 0, 1) := by decide +kernel
theorem dX9_init_58 : decode cX9_init 58 = .ok (.new 37, 3) := by decide +kernel
theorem dX9_init_61 : decode cX9_init 61 = .ok (.dup, 1) := by decide +kernel
theorem dX9_init_62 : decode cX9_init 62 = .ok (.invokespecial 39, 3) := by decide +kernel
theorem dX9_init_65 : decode cX9_init 65 = .ok (.putfield 40, 3) := by decide +kernel
theorem dX9_init_68 : decode cX9_init 68 = .ok (.aload_n 0, 1) := by decide +kernel
theorem dX9_init_69 : decode cX9_init 69 = .ok (.bipush 60, 2) := by decide +kernel
theorem dX9_init_71 : decode cX9_init 71 = .ok (.newarray .int, 2) := by decide +kernel
theorem dX9_init_73 : decode cX9_init 73 = .ok (.putfield 44, 3) := by decide +kernel
theorem dX9_init_76 : decode cX9_init 76 = .ok (.aload_n 0, 1) := by decide +kernel
theorem dX9_init_77 : decode cX9_init 77 = .ok (.bipush 60, 2) := by decide +kernel
theorem dX9_init_79 : decode cX9_init 79 = .ok (.newarray .int, 2) := by decide +kernel
theorem dX9_init_81 : decode cX9_init 81 = .ok (.putfield 47, 3) := by decide +kernel
theorem dX9_init_84 : decode cX9_init 84 = .ok (.aload_n 0, 1) := by decide +kernel
theorem dX9_init_85 : decode cX9_init 85 = .ok (.bipush 60, 2) := by decide +kernel
theorem dX9_init_87 : decode cX9_init 87 = .ok (.newarray .int, 2) := by decide +kernel
theorem dX9_init_89 : decode cX9_init 89 = .ok (.putfield 50, 3) := by decide +kernel
theorem dX9_init_92 : decode cX9_init 92 = .ok (.aload_n 0, 1) := by decide +kernel
theorem dX9_init_93 : decode cX9_init 93 = .ok (.aload_n 1, 1) := by decide +kernel
theorem dX9_init_94 : decode cX9_init 94 = .ok (.invokevirtual 53, 3) := by decide +kernel
theorem dX9_init_97 : decode cX9_init 97 = .ok (.return_, 1) := by decide +kernel
theorem dX9_begin_0 : decode cX9_begin 0 = .ok (.aload_n 0, 1) := by decide +kernel
theorem dX9_begin_1 : decode cX9_begin 1 = .ok (.aload_n 1, 1) := by decide +kernel
theorem dX9_begin_2 : decode cX9_begin 2 = .ok (.putfield 57, 3) := by decide +kernel
theorem dX9_begin_5 : decode cX9_begin 5 = .ok (.aload_n 0, 1) := by decide +kernel
theorem dX9_begin_6 : decode cX9_begin 6 = .ok (.iconst 0, 1) := by decide +kernel
theorem dX9_begin_7 : decode cX9_begin 7 = .ok (.putfield 61, 3) := by decide +kernel
theorem dX9_begin_10 : decode cX9_begin 10 = .ok (.aload_n 0, 1) := by decide +kernel
theorem dX9_begin_11 : decode cX9_begin 11 = .ok (.iconst 0, 1) := by decide +kernel
theorem dX9_begin_12 : decode cX9_begin 12 = .ok (.putfield 65, 3) := by decide +kernel
theorem dX9_begin_15 : decode cX9_begin 15 = .ok (.aload_n 0, 1) := by decide +kernel
theorem dX9_begin_16 : decode cX9_begin 16 = .ok (.bipush 15, 2) := by decide +kernel
theorem dX9_begin_18 : decode cX9_begin 18 = .ok (.putfield 68, 3) := by decide +kernel
theorem dX9_begin_21 : decode cX9_begin 21 = .ok (.aload_n 0, 1) := by decide +kernel
theorem dX9_begin_22 : decode cX9_begin 22 = .ok (.getfield 40, 3) := by decide +kernel
theorem dX9_begin_25 : decode cX9_begin 25 = .ok (.iconst 0, 1) := by decide +kernel
theorem dX9_begin_26 : decode cX9_begin 26 = .ok (.putfield 71, 3) := by decide +kernel
theorem dX9_begin_29 : decode cX9_begin 29 = .ok (.aload_n 0, 1) := by decide +kernel
theorem dX9_begin_30 : decode cX9_begin 30 = .ok (.getfield 23, 3) := by decide +kernel
theorem dX9_begin_33 : decode cX9_begin 33 = .ok (.invokevirtual 74, 3) := by decide +kernel
theorem dX9_begin_36 : decode cX9_begin 36 = .ok (.aload_n 0, 1) := by decide +kernel
theorem dX9_begin_37 : decode cX9_begin 37 = .ok (.getfield 27, 3) := by decide +kernel
theorem dX9_begin_40 : decode cX9_begin 40 = .ok (.invokevirtual 74, 3) := by decide +kernel
theorem dX9_begin_43 : decode cX9_begin 43 = .ok (.aload_n 0, 1) := by decide +kernel
theorem dX9_begin_44 : decode cX9_begin 44 = .ok (.getfield 33, 3) := by decide +kernel
theorem dX9_begin_47 : decode cX9_begin 47 = .ok (.invokevirtual 77, 3) := by decide +kernel
theorem dX9_begin_50 : decode cX9_begin 50 = .ok (.aload_n 0, 1) := by decide +kernel
theorem dX9_begin_51 : decode cX9_begin 51 = .ok (.getfield 9, 3) := by decide +kernel
theorem dX9_begin_54 : decode cX9_begin 54 = .ok (.iconst 0, 1) := by decide +kernel
theorem dX9_begin_55 : decode cX9_begin 55 = .ok (.invokestatic 78, 3) := by decide +kernel
theorem dX9_begin_58 : decode cX9_begin 58 = .ok (.aload_n 0, 1) := by decide +kernel
theorem dX9_begin_59 : decode cX9_begin 59 = .ok (.getfield 15, 3) := by decide +kernel
theorem dX9_begin_62 : decode cX9_begin 62 = .ok (.iconst (-1), 1) := by decide +kernel
theorem dX9_begin_63 : decode cX9_begin 63 = .ok (.invokestatic 78, 3) := by decide +kernel
theorem dX9_begin_66 : decode cX9_begin 66 = .ok (.aload_n 0, 1) := by decide +kernel
theorem dX9_begin_67 : decode cX9_begin 67 = .ok (.getfield 44, 3) := by decide +kernel
theorem dX9_begin_70 : decode cX9_begin 70 = .ok (.iconst 0, 1) := by decide +kernel
theorem dX9_begin_71 : decode cX9_begin 71 = .ok (.invokestatic 78, 3) := by decide +kernel
theorem dX9_begin_74 : decode cX9_begin 74 = .ok (.aload_n 0, 1) := by decide +kernel
theorem dX9_begin_75 : decode cX9_begin 75 = .ok (.getfield 47, 3) := by decide +kernel
theorem dX9_begin_78 : decode cX9_begin 78 = .ok (.iconst 0, 1) := by decide +kernel
theorem dX9_begin_79 : decode cX9_begin 79 = .ok (.invokestatic 78, 3) := by decide +kernel
theorem dX9_begin_82 : decode cX9_begin 82 = .ok (.aload_n 0, 1) := by decide +kernel
theorem dX9_begin_83 : decode cX9_begin 83 = .ok (.getfield 50, 3) := by decide +kernel
theorem dX9_begin_86 : decode cX9_begin 86 = .ok (.iconst 1, 1) := by decide +kernel
theorem dX9_begin_87 : decode cX9_begin 87 = .ok (.invokestatic 78, 3) := by decide +kernel
theorem dX9_begin_90 : decode cX9_begin 90 = .ok (.return_, 1) := by decide +kernel
theorem dX9_copyFrom_0 : decode cX9_copyFrom 0 = .ok (.aload_n 0, 1) := by decide +kernel
theorem dX9_copyFrom_1 : decode cX9_copyFrom 1 = .ok (.aload_n 1, 1) := by decide +kernel
theorem dX9_copyFrom_2 : decode cX9_copyFrom 2 = .ok (.getfield 57, 3) := by decide +kernel
theorem dX9_copyFrom_5 : decode cX9_copyFrom 5 = .ok (.putfield 57, 3) := by decide +kernel
theorem dX9_copyFrom_8 : decode cX9_copyFrom 8 = .ok (.aload_n 0, 1) := by decide +kernel
theorem dX9_copyFrom_9 : decode cX9_copyFrom 9 = .ok (.aload_n 1, 1) := by decide +kernel
theorem dX9_copyFrom_10 : decode cX9_copyFrom 10 = .ok (.getfield 61, 3) := by decide +kernel
theorem dX9_copyFrom_13 : decode cX9_copyFrom 13 = .ok (.putfield 61, 3) := by decide +kernel
theorem dX9_copyFrom_16 : decode cX9_copyFrom 16 = .ok (.aload_n 0, 1) := by decide +kernel
theorem dX9_copyFrom_17 : decode cX9_copyFrom 17 = .ok (.aload_n 1, 1) := by decide +kernel
theorem dX9_copyFrom_18 : decode cX9_copyFrom 18 = .ok (.getfield 65, 3) := by decide +kernel
theorem dX9_copyFrom_21 : decode cX9_copyFrom 21 = .ok (.putfield 65, 3) := by decide +kernel
theorem dX9_copyFrom_24 : decode cX9_copyFrom 24 = .ok (.aload_n 0, 1) := by decide +kernel
theorem dX9_copyFrom_25 : decode cX9_copyFrom 25 = .ok (.aload_n 1, 1) := by decide +kernel
theorem dX9_copyFrom_26 : decode cX9_copyFrom 26 = .ok (.getfield 68, 3) := by decide +kernel
theorem dX9_copyFrom_29 : decode cX9_copyFrom 29 = .ok (.putfield 68, 3) := by decide +kernel
theorem dX9_copyFrom_32 : decode cX9_copyFrom 32 = .ok (.aload_n 1, 1) := by decide +kernel
theorem dX9_copyFrom_33 : decode cX9_copyFrom 33 = .ok (.getfield 9, 3) := by decide +kernel
theorem dX9_copyFrom_36 : decode cX9_copyFrom 36 = .ok (.iconst 0, 1) := by decide +kernel
theorem dX9_copyFrom_37 : decode cX9_copyFrom 37 = .ok (.aload_n 0, 1) := by decide +kernel
theorem dX9_copyFrom_38 : decode cX9_copyFrom 38 = .ok (.getfield 9, 3) := by decide +kernel
theorem dX9_copyFrom_41 : decode cX9_copyFrom 41 = .ok (.iconst 0, 1) := by decide +kernel
theorem dX9_copyFrom_42 : decode cX9_copyFrom 42 = .ok (.bipush 8, 2) := by decide +kernel
theorem dX9_copyFrom_44 : decode cX9_copyFrom 44 = .ok (.invokestatic 84, 3) := by decide +kernel
theorem dX9_copyFrom_47 : decode cX9_copyFrom 47 = .ok (.aload_n 1, 1) := by decide +kernel
theorem dX9_copyFrom_48 : decode cX9_copyFrom 48 = .ok (.getfield 15, 3) := by decide +kernel
theorem dX9_copyFrom_51 : decode cX9_copyFrom 51 = .ok (.iconst 0, 1) := by decide +kernel
theorem dX9_copyFrom_52 : decode cX9_copyFrom 52 = .ok (.aload_n 0, 1) := by decide +kernel
theorem dX9_copyFrom_53 : decode cX9_copyFrom 53 = .ok (.getfield 15, 3) := by decide +kernel
theorem dX9_copyFrom_56 : decode cX9_copyFrom 56 = .ok (.iconst 0, 1) := by decide +kernel
theorem dX9_copyFrom_57 : decode cX9_copyFrom 57 = .ok (.bipush 60, 2) := by decide +kernel
theorem dX9_copyFrom_59 : decode cX9_copyFrom 59 = .ok (.invokestatic 84, 3) := by decide +kernel
theorem dX9_copyFrom_62 : decode cX9_copyFrom 62 = .ok (.aload_n 0, 1) := by decide +kernel
theorem dX9_copyFrom_63 : decode cX9_copyFrom 63 = .ok (.getfield 23, 3) := by decide +kernel
theorem dX9_copyFrom_66 : decode cX9_copyFrom 66 = .ok (.aload_n 1, 1) := by decide +kernel
theorem dX9_copyFrom_67 : decode cX9_copyFrom 67 = .ok (.getfield 23, 3) := by decide +kernel
theorem dX9_copyFrom_70 : decode cX9_copyFrom 70 = .ok (.invokevirtual 90, 3) := by decide +kernel
theorem dX9_copyFrom_73 : decode cX9_copyFrom 73 = .ok (.aload_n 0, 1) := by decide +kernel
theorem dX9_copyFrom_74 : decode cX9_copyFrom 74 = .ok (.getfield 27, 3) := by decide +kernel
theorem dX9_copyFrom_77 : decode cX9_copyFrom 77 = .ok (.aload_n 1, 1) := by decide +kernel
theorem dX9_copyFrom_78 : decode cX9_copyFrom 78 = .ok (.getfield 27, 3) := by decide +kernel
theorem dX9_copyFrom_81 : decode cX9_copyFrom 81 = .ok (.invokevirtual 90, 3) := by decide +kernel
theorem dX9_copyFrom_84 : decode cX9_copyFrom 84 = .ok (.aload_n 0, 1) := by decide +kernel
theorem dX9_copyFrom_85 : decode cX9_copyFrom 85 = .ok (.getfield 33, 3) := by decide +kernel
theorem dX9_copyFrom_88 : decode cX9_copyFrom 88 = .ok (.aload_n 1, 1) := by decide +kernel
theorem dX9_copyFrom_89 : decode cX9_copyFrom 89 = .ok (.getfield 33, 3) := by decide +kernel
theorem dX9_copyFrom_92 : decode cX9_copyFrom 92 = .ok (.invokevirtual 94, 3) := by decide +kernel
theorem dX9_copyFrom_95 : decode cX9_copyFrom 95 = .ok (.aload_n 0, 1) := by decide +kernel
theorem dX9_copyFrom_96 : decode cX9_copyFrom 96 = .ok (.getfield 40, 3) := by decide +kernel
theorem dX9_copyFrom_99 : decode cX9_copyFrom 99 = .ok (.aload_n 1, 1) := by decide +kernel
theorem dX9_copyFrom_100 : decode cX9_copyFrom 100 = .ok (.getfield 40, 3) := by decide +kernel
theorem dX9_copyFrom_103 : decode cX9_copyFrom 103 = .ok (.invokevirtual 97, 3) := by decide +kernel
theorem dX9_copyFrom_106 : decode cX9_copyFrom 106 = .ok (.aload_n 1, 1) := by decide +kernel
theorem dX9_copyFrom_107 : decode cX9_copyFrom 107 = .ok (.getfield 44, 3) := by decide +kernel
theorem dX9_copyFrom_110 : decode cX9_copyFrom 110 = .ok (.iconst 0, 1) := by decide +kernel
theorem dX9_copyFrom_111 : decode cX9_copyFrom 111 = .ok (.aload_n 0, 1) := by decide +kernel
theorem dX9_copyFrom_112 : decode cX9_copyFrom 112 = .ok (.getfield 44, 3) := by decide +kernel
theorem dX9_copyFrom_115 : decode cX9_copyFrom 115 = .ok (.iconst 0, 1) := by decide +kernel
theorem dX9_copyFrom_116 : decode cX9_copyFrom 116 = .ok (.bipush 60, 2) := by decide +kernel
theorem dX9_copyFrom_118 : decode cX9_copyFrom 118 = .ok (.invokestatic 84, 3) := by decide +kernel
theorem dX9_copyFrom_121 : decode cX9_copyFrom 121 = .ok (.aload_n 1, 1) := by decide +kernel
theorem dX9_copyFrom_122 : decode cX9_copyFrom 122 = .ok (.getfield 47, 3) := by decide +kernel
theorem dX9_copyFrom_125 : decode cX9_copyFrom 125 = .ok (.iconst 0, 1) := by decide +kernel
theorem dX9_copyFrom_126 : decode cX9_copyFrom 126 = .ok (.aload_n 0, 1) := by decide +kernel
theorem dX9_copyFrom_127 : decode cX9_copyFrom 127 = .ok (.getfield 47, 3) := by decide +kernel
theorem dX9_copyFrom_130 : decode cX9_copyFrom 130 = .ok (.iconst 0, 1) := by decide +kernel
theorem dX9_copyFrom_131 : decode cX9_copyFrom 131 = .ok (.bipush 60, 2) := by decide +kernel
theorem dX9_copyFrom_133 : decode cX9_copyFrom 133 = .ok (.invokestatic 84, 3) := by decide +kernel
theorem dX9_copyFrom_136 : decode cX9_copyFrom 136 = .ok (.aload_n 1, 1) := by decide +kernel
theorem dX9_copyFrom_137 : decode cX9_copyFrom 137 = .ok (.getfield 50, 3) := by decide +kernel
theorem dX9_copyFrom_140 : decode cX9_copyFrom 140 = .ok (.iconst 0, 1) := by decide +kernel
theorem dX9_copyFrom_141 : decode cX9_copyFrom 141 = .ok (.aload_n 0, 1) := by decide +kernel
theorem dX9_copyFrom_142 : decode cX9_copyFrom 142 = .ok (.getfield 50, 3) := by decide +kernel
theorem dX9_copyFrom_145 : decode cX9_copyFrom 145 = .ok (.iconst 0, 1) := by decide +kernel
theorem dX9_copyFrom_146 : decode cX9_copyFrom 146 = .ok (.bipush 60, 2) := by decide +kernel
theorem dX9_copyFrom_148 : decode cX9_copyFrom 148 = .ok (.invokestatic 84, 3) := by decide +kernel
theorem dX9_copyFrom_151 : decode cX9_copyFrom 151 = .ok (.return_, 1) := by decide +kernel
theorem dX9_wrapped_0 : decode cX9_wrapped 0 = .ok (.iload_n 1, 1) := by decide +kernel
theorem dX9_wrapped_1 : decode cX9_wrapped 1 = .ok (.ifCond .ge 13, 3) := by decide +kernel
theorem dX9_wrapped_4 : decode cX9_wrapped 4 = .ok (.iload_n 1, 1) := by decide +kernel
theorem dX9_wrapped_5 : decode cX9_wrapped 5 = .ok (.aload_n 0, 1) := by decide +kernel
theorem dX9_wrapped_6 : decode cX9_wrapped 6 = .ok (.getfield 57, 3) := by decide +kernel
theorem dX9_wrapped_9 : decode cX9_wrapped 9 = .ok (.getfield 100, 3) := by decide +kernel
theorem dX9_wrapped_12 : decode cX9_wrapped 12 = .ok (.iadd, 1) := by decide +kernel
theorem dX9_wrapped_13 : decode cX9_wrapped 13 = .ok (.ireturn, 1) := by decide +kernel
theorem dX9_wrapped_14 : decode cX9_wrapped 14 = .ok (.iload_n 1, 1) := by decide +kernel
theorem dX9_wrapped_15 : decode cX9_wrapped 15 = .ok (.aload_n 0, 1) := by decide +kernel
theorem dX9_wrapped_16 : decode cX9_wrapped 16 = .ok (.getfield 57, 3) := by decide +kernel
theorem dX9_wrapped_19 : decode cX9_wrapped 19 = .ok (.getfield 100, 3) := by decide +kernel
theorem dX9_wrapped_22 : decode cX9_wrapped 22 = .ok (.if_icmp .ge 7, 3) := by decide +kernel
theorem dX9_wrapped_25 : decode cX9_wrapped 25 = .ok (.iload_n 1, 1) := by decide +kernel
theorem dX9_wrapped_26 : decode cX9_wrapped 26 = .ok (.goto 12, 3) := by decide +kernel
theorem dX9_wrapped_29 : decode cX9_wrapped 29 = .ok (.iload_n 1, 1) := by decide +kernel
theorem dX9_wrapped_30 : decode cX9_wrapped 30 = .ok (.aload_n 0, 1) := by decide +kernel
theorem dX9_wrapped_31 : decode cX9_wrapped 31 = .ok (.getfield 57, 3) := by decide +kernel
theorem dX9_wrapped_34 : decode cX9_wrapped 34 = .ok (.getfield 100, 3) := by decide +kernel
theorem dX9_wrapped_37 : decode cX9_wrapped 37 = .ok (.isub, 1) := by decide +kernel
theorem dX9_wrapped_38 : decode cX9_wrapped 38 = .ok (.ireturn, 1) := by decide +kernel
theorem dX9_slotAt_0 : decode cX9_slotAt 0 = .ok (.aload_n 0, 1) := by decide +kernel
theorem dX9_slotAt_1 : decode cX9_slotAt 1 = .ok (.iload_n 1, 1) := by decide +kernel
theorem dX9_slotAt_2 : decode cX9_slotAt 2 = .ok (.aload_n 0, 1) := by decide +kernel
theorem dX9_slotAt_3 : decode cX9_slotAt 3 = .ok (.getfield 65, 3) := by decide +kernel
theorem dX9_slotAt_6 : decode cX9_slotAt 6 = .ok (.isub, 1) := by decide +kernel
theorem dX9_slotAt_7 : decode cX9_slotAt 7 = .ok (.invokevirtual 105, 3) := by decide +kernel
theorem dX9_slotAt_10 : decode cX9_slotAt 10 = .ok (.ireturn, 1) := by decide +kernel
theorem dX9_positionOf_0 : decode cX9_positionOf 0 = .ok (.aload_n 0, 1) := by decide +kernel
theorem dX9_positionOf_1 : decode cX9_positionOf 1 = .ok (.iload_n 1, 1) := by decide +kernel
theorem dX9_positionOf_2 : decode cX9_positionOf 2 = .ok (.aload_n 0, 1) := by decide +kernel
theorem dX9_positionOf_3 : decode cX9_positionOf 3 = .ok (.getfield 65, 3) := by decide +kernel
theorem dX9_positionOf_6 : decode cX9_positionOf 6 = .ok (.iadd, 1) := by decide +kernel
theorem dX9_positionOf_7 : decode cX9_positionOf 7 = .ok (.invokevirtual 105, 3) := by decide +kernel
theorem dX9_positionOf_10 : decode cX9_positionOf 10 = .ok (.ireturn, 1) := by decide +kernel
theorem dX9_addBag_0 : decode cX9_addBag 0 = .ok (.aload_n 0, 1) := by decide +kernel
theorem dX9_addBag_1 : decode cX9_addBag 1 = .ok (.getfield 40, 3) := by decide +kernel
theorem dX9_addBag_4 : decode cX9_addBag 4 = .ok (.getfield 71, 3) := by decide +kernel
theorem dX9_addBag_7 : decode cX9_addBag 7 = .ok (.istore_n 2, 1) := by decide +kernel
theorem dX9_addBag_8 : decode cX9_addBag 8 = .ok (.iload_n 2, 1) := by decide +kernel
theorem dX9_addBag_9 : decode cX9_addBag 9 = .ok (.bipush 100, 2) := by decide +kernel
theorem dX9_addBag_11 : decode cX9_addBag 11 = .ok (.if_icmp .ge 14, 3) := by decide +kernel
theorem dX9_addBag_14 : decode cX9_addBag 14 = .ok (.aload_n 0, 1) := by decide +kernel
theorem dX9_addBag_15 : decode cX9_addBag 15 = .ok (.getfield 57, 3) := by decide +kernel
theorem dX9_addBag_18 : decode cX9_addBag 18 = .ok (.iload_n 1, 1) := by decide +kernel
theorem dX9_addBag_19 : decode cX9_addBag 19 = .ok (.invokevirtual 109, 3) := by decide +kernel
theorem dX9_addBag_22 : decode cX9_addBag 22 = .ok (.ifCond .ne 5, 3) := by decide +kernel
theorem dX9_addBag_25 : decode cX9_addBag 25 = .ok (.iconst (-1), 1) := by decide +kernel
theorem dX9_addBag_26 : decode cX9_addBag 26 = .ok (.ireturn, 1) := by decide +kernel
theorem dX9_addBag_27 : decode cX9_addBag 27 = .ok (.aload_n 0, 1) := by decide +kernel
theorem dX9_addBag_28 : decode cX9_addBag 28 = .ok (.getfield 40, 3) := by decide +kernel
theorem dX9_addBag_31 : decode cX9_addBag 31 = .ok (.iload_n 2, 1) := by decide +kernel
theorem dX9_addBag_32 : decode cX9_addBag 32 = .ok (.iconst 1, 1) := by decide +kernel
theorem dX9_addBag_33 : decode cX9_addBag 33 = .ok (.iadd, 1) := by decide +kernel
theorem dX9_addBag_34 : decode cX9_addBag 34 = .ok (.putfield 71, 3) := by decide +kernel
theorem dX9_addBag_37 : decode cX9_addBag 37 = .ok (.aload_n 0, 1) := by decide +kernel
theorem dX9_addBag_38 : decode cX9_addBag 38 = .ok (.getfield 40, 3) := by decide +kernel
theorem dX9_addBag_41 : decode cX9_addBag 41 = .ok (.iload_n 2, 1) := by decide +kernel
theorem dX9_addBag_42 : decode cX9_addBag 42 = .ok (.iconst 0, 1) := by decide +kernel
theorem dX9_addBag_43 : decode cX9_addBag 43 = .ok (.aload_n 0, 1) := by decide +kernel
theorem dX9_addBag_44 : decode cX9_addBag 44 = .ok (.getfield 57, 3) := by decide +kernel
theorem dX9_addBag_47 : decode cX9_addBag 47 = .ok (.getfield 113, 3) := by decide +kernel
theorem dX9_addBag_50 : decode cX9_addBag 50 = .ok (.iload_n 1, 1) := by decide +kernel
theorem dX9_addBag_51 : decode cX9_addBag 51 = .ok (.iaload, 1) := by decide +kernel
theorem dX9_addBag_52 : decode cX9_addBag 52 = .ok (.invokevirtual 116, 3) := by decide +kernel
theorem dX9_addBag_55 : decode cX9_addBag 55 = .ok (.aload_n 0, 1) := by decide +kernel
theorem dX9_addBag_56 : decode cX9_addBag 56 = .ok (.getfield 27, 3) := by decide +kernel
theorem dX9_addBag_59 : decode cX9_addBag 59 = .ok (.iload_n 2, 1) := by decide +kernel
theorem dX9_addBag_60 : decode cX9_addBag 60 = .ok (.invokevirtual 120, 3) := by decide +kernel
theorem dX9_addBag_63 : decode cX9_addBag 63 = .ok (.aload_n 0, 1) := by decide +kernel
theorem dX9_addBag_64 : decode cX9_addBag 64 = .ok (.getfield 33, 3) := by decide +kernel
theorem dX9_addBag_67 : decode cX9_addBag 67 = .ok (.iload_n 1, 1) := by decide +kernel
theorem dX9_addBag_68 : decode cX9_addBag 68 = .ok (.iload_n 2, 1) := by decide +kernel
theorem dX9_addBag_69 : decode cX9_addBag 69 = .ok (.invokevirtual 123, 3) := by decide +kernel
theorem dX9_addBag_72 : decode cX9_addBag 72 = .ok (.iload_n 2, 1) := by decide +kernel
theorem dX9_addBag_73 : decode cX9_addBag 73 = .ok (.ireturn, 1) := by decide +kernel
theorem dX9_setAside_0 : decode cX9_setAside 0 = .ok (.aload_n 0, 1) := by decide +kernel
theorem dX9_setAside_1 : decode cX9_setAside 1 = .ok (.getfield 40, 3) := by decide +kernel
theorem dX9_setAside_4 : decode cX9_setAside 4 = .ok (.iload_n 1, 1) := by decide +kernel
theorem dX9_setAside_5 : decode cX9_setAside 5 = .ok (.bipush 8, 2) := by decide +kernel
theorem dX9_setAside_7 : decode cX9_setAside 7 = .ok (.iconst (-1), 1) := by decide +kernel
theorem dX9_setAside_8 : decode cX9_setAside 8 = .ok (.invokevirtual 116, 3) := by decide +kernel
theorem dX9_setAside_11 : decode cX9_setAside 11 = .ok (.aload_n 0, 1) := by decide +kernel
theorem dX9_setAside_12 : decode cX9_setAside 12 = .ok (.getfield 27, 3) := by decide +kernel
theorem dX9_setAside_15 : decode cX9_setAside 15 = .ok (.iload_n 1, 1) := by decide +kernel
theorem dX9_setAside_16 : decode cX9_setAside 16 = .ok (.invokevirtual 127, 3) := by decide +kernel
theorem dX9_setAside_19 : decode cX9_setAside 19 = .ok (.aload_n 0, 1) := by decide +kernel
theorem dX9_setAside_20 : decode cX9_setAside 20 = .ok (.getfield 9, 3) := by decide +kernel
theorem dX9_setAside_23 : decode cX9_setAside 23 = .ok (.iconst 5, 1) := by decide +kernel
theorem dX9_setAside_24 : decode cX9_setAside 24 = .ok (.dup2, 1) := by decide +kernel
theorem dX9_setAside_25 : decode cX9_setAside 25 = .ok (.iaload, 1) := by decide +kernel
theorem dX9_setAside_26 : decode cX9_setAside 26 = .ok (.iconst 1, 1) := by decide +kernel
theorem dX9_setAside_27 : decode cX9_setAside 27 = .ok (.iadd, 1) := by decide +kernel
theorem dX9_setAside_28 : decode cX9_setAside 28 = .ok (.iastore, 1) := by decide +kernel
theorem dX9_setAside_29 : decode cX9_setAside 29 = .ok (.return_, 1) := by decide +kernel
theorem dX9_deliveriesWithin_0 : decode cX9_deliveriesWithin 0 = .ok (.aload_n 0, 1) := by decide +kernel
theorem dX9_deliveriesWithin_1 : decode cX9_deliveriesWithin 1 = .ok (.getfield 9, 3) := by decide +kernel
theorem dX9_deliveriesWithin_4 : decode cX9_deliveriesWithin 4 = .ok (.bipush 7, 2) := by decide +kernel
theorem dX9_deliveriesWithin_6 : decode cX9_deliveriesWithin 6 = .ok (.iaload, 1) := by decide +kernel
theorem dX9_deliveriesWithin_7 : decode cX9_deliveriesWithin 7 = .ok (.istore_n 2, 1) := by decide +kernel
theorem dX9_deliveriesWithin_8 : decode cX9_deliveriesWithin 8 = .ok (.iconst 0, 1) := by decide +kernel
theorem dX9_deliveriesWithin_9 : decode cX9_deliveriesWithin 9 = .ok (.istore_n 3, 1) := by decide +kernel
theorem dX9_deliveriesWithin_10 : decode cX9_deliveriesWithin 10 = .ok (.iload_n 3, 1) := by decide +kernel
theorem dX9_deliveriesWithin_11 : decode cX9_deliveriesWithin 11 = .ok (.iload_n 1, 1) := by decide +kernel
theorem dX9_deliveriesWithin_12 : decode cX9_deliveriesWithin 12 = .ok (.if_icmp .ge 13, 3) := by decide +kernel
theorem dX9_deliveriesWithin_15 : decode cX9_deliveriesWithin 15 = .ok (.aload_n 0, 1) := by decide +kernel
theorem dX9_deliveriesWithin_16 : decode cX9_deliveriesWithin 16 = .ok (.invokevirtual 130, 3) := by decide +kernel
theorem dX9_deliveriesWithin_19 : decode cX9_deliveriesWithin 19 = .ok (.iinc 3 1, 3) := by decide +kernel
theorem dX9_deliveriesWithin_22 : decode cX9_deliveriesWithin 22 = .ok (.goto (-12), 3) := by decide +kernel
theorem dX9_deliveriesWithin_25 : decode cX9_deliveriesWithin 25 = .ok (.aload_n 0, 1) := by decide +kernel
theorem dX9_deliveriesWithin_26 : decode cX9_deliveriesWithin 26 = .ok (.getfield 9, 3) := by decide +kernel
theorem dX9_deliveriesWithin_29 : decode cX9_deliveriesWithin 29 = .ok (.bipush 7, 2) := by decide +kernel
theorem dX9_deliveriesWithin_31 : decode cX9_deliveriesWithin 31 = .ok (.iaload, 1) := by decide +kernel
theorem dX9_deliveriesWithin_32 : decode cX9_deliveriesWithin 32 = .ok (.iload_n 2, 1) := by decide +kernel
theorem dX9_deliveriesWithin_33 : decode cX9_deliveriesWithin 33 = .ok (.isub, 1) := by decide +kernel
theorem dX9_deliveriesWithin_34 : decode cX9_deliveriesWithin 34 = .ok (.ireturn, 1) := by decide +kernel
theorem dX9_ticksUntilDelivered_0 : decode cX9_ticksUntilDelivered 0 = .ok (.aload_n 0, 1) := by decide +kernel
theorem dX9_ticksUntilDelivered_1 : decode cX9_ticksUntilDelivered 1 = .ok (.getfield 40, 3) := by decide +kernel
theorem dX9_ticksUntilDelivered_4 : decode cX9_ticksUntilDelivered 4 = .ok (.iload_n 1, 1) := by decide +kernel
theorem dX9_ticksUntilDelivered_5 : decode cX9_ticksUntilDelivered 5 = .ok (.invokevirtual 133, 3) := by decide +kernel
theorem dX9_ticksUntilDelivered_8 : decode cX9_ticksUntilDelivered 8 = .ok (.ifCond .ne 6, 3) := by decide +kernel
theorem dX9_ticksUntilDelivered_11 : decode cX9_ticksUntilDelivered 11 = .ok (.bipush (-2), 2) := by decide +kernel
theorem dX9_ticksUntilDelivered_13 : decode cX9_ticksUntilDelivered 13 = .ok (.ireturn, 1) := by decide +kernel
theorem dX9_ticksUntilDelivered_14 : decode cX9_ticksUntilDelivered 14 = .ok (.iconst 0, 1) := by decide +kernel
theorem dX9_ticksUntilDelivered_15 : decode cX9_ticksUntilDelivered 15 = .ok (.istore_n 3, 1) := by decide +kernel
theorem dX9_ticksUntilDelivered_16 : decode cX9_ticksUntilDelivered 16 = .ok (.iload_n 3, 1) := by decide +kernel
theorem dX9_ticksUntilDelivered_17 : decode cX9_ticksUntilDelivered 17 = .ok (.iload_n 2, 1) := by decide +kernel
theorem dX9_ticksUntilDelivered_18 : decode cX9_ticksUntilDelivered 18 = .ok (.if_icmp .ge 35, 3) := by decide +kernel
theorem dX9_ticksUntilDelivered_21 : decode cX9_ticksUntilDelivered 21 = .ok (.aload_n 0, 1) := by decide +kernel
theorem dX9_ticksUntilDelivered_22 : decode cX9_ticksUntilDelivered 22 = .ok (.getfield 40, 3) := by decide +kernel
theorem dX9_ticksUntilDelivered_25 : decode cX9_ticksUntilDelivered 25 = .ok (.iload_n 1, 1) := by decide +kernel
theorem dX9_ticksUntilDelivered_26 : decode cX9_ticksUntilDelivered 26 = .ok (.invokevirtual 136, 3) := by decide +kernel
theorem dX9_ticksUntilDelivered_29 : decode cX9_ticksUntilDelivered 29 = .ok (.ifCond .ne 24, 3) := by decide +kernel
theorem dX9_ticksUntilDelivered_32 : decode cX9_ticksUntilDelivered 32 = .ok (.aload_n 0, 1) := by decide +kernel
theorem dX9_ticksUntilDelivered_33 : decode cX9_ticksUntilDelivered 33 = .ok (.getfield 40, 3) := by decide +kernel
theorem dX9_ticksUntilDelivered_36 : decode cX9_ticksUntilDelivered 36 = .ok (.iload_n 1, 1) := by decide +kernel
theorem dX9_ticksUntilDelivered_37 : decode cX9_ticksUntilDelivered 37 = .ok (.invokevirtual 139, 3) := by decide +kernel
theorem dX9_ticksUntilDelivered_40 : decode cX9_ticksUntilDelivered 40 = .ok (.ifCond .ne 13, 3) := by decide +kernel
theorem dX9_ticksUntilDelivered_43 : decode cX9_ticksUntilDelivered 43 = .ok (.aload_n 0, 1) := by decide +kernel
theorem dX9_ticksUntilDelivered_44 : decode cX9_ticksUntilDelivered 44 = .ok (.invokevirtual 130, 3) := by decide +kernel
theorem dX9_ticksUntilDelivered_47 : decode cX9_ticksUntilDelivered 47 = .ok (.iinc 3 1, 3) := by decide +kernel
theorem dX9_ticksUntilDelivered_50 : decode cX9_ticksUntilDelivered 50 = .ok (.goto (-34), 3) := by decide +kernel
theorem dX9_ticksUntilDelivered_53 : decode cX9_ticksUntilDelivered 53 = .ok (.aload_n 0, 1) := by decide +kernel
theorem dX9_ticksUntilDelivered_54 : decode cX9_ticksUntilDelivered 54 = .ok (.getfield 40, 3) := by decide +kernel
theorem dX9_ticksUntilDelivered_57 : decode cX9_ticksUntilDelivered 57 = .ok (.iload_n 1, 1) := by decide +kernel
theorem dX9_ticksUntilDelivered_58 : decode cX9_ticksUntilDelivered 58 = .ok (.invokevirtual 136, 3) := by decide +kernel
theorem dX9_ticksUntilDelivered_61 : decode cX9_ticksUntilDelivered 61 = .ok (.ifCond .eq 7, 3) := by decide +kernel
theorem dX9_ticksUntilDelivered_64 : decode cX9_ticksUntilDelivered 64 = .ok (.iload_n 3, 1) := by decide +kernel
theorem dX9_ticksUntilDelivered_65 : decode cX9_ticksUntilDelivered 65 = .ok (.goto 5, 3) := by decide +kernel
theorem dX9_ticksUntilDelivered_68 : decode cX9_ticksUntilDelivered 68 = .ok (.bipush (-2), 2) := by decide +kernel
theorem dX9_ticksUntilDelivered_70 : decode cX9_ticksUntilDelivered 70 = .ok (.ireturn, 1) := by decide +kernel
theorem dX9_step_0 : decode cX9_step 0 = .ok (.aload_n 0, 1) := by decide +kernel
theorem dX9_step_1 : decode cX9_step 1 = .ok (.dup, 1) := by decide +kernel
theorem dX9_step_2 : decode cX9_step 2 = .ok (.getfield 61, 3) := by decide +kernel
theorem dX9_step_5 : decode cX9_step 5 = .ok (.iconst 1, 1) := by decide +kernel
theorem dX9_step_6 : decode cX9_step 6 = .ok (.iadd, 1) := by decide +kernel
theorem dX9_step_7 : decode cX9_step 7 = .ok (.putfield 61, 3) := by decide +kernel
theorem dX9_step_10 : decode cX9_step 10 = .ok (.aload_n 0, 1) := by decide +kernel
theorem dX9_step_11 : decode cX9_step 11 = .ok (.aload_n 0, 1) := by decide +kernel
theorem dX9_step_12 : decode cX9_step 12 = .ok (.aload_n 0, 1) := by decide +kernel
theorem dX9_step_13 : decode cX9_step 13 = .ok (.getfield 65, 3) := by decide +kernel
theorem dX9_step_16 : decode cX9_step 16 = .ok (.iconst 1, 1) := by decide +kernel
theorem dX9_step_17 : decode cX9_step 17 = .ok (.iadd, 1) := by decide +kernel
theorem dX9_step_18 : decode cX9_step 18 = .ok (.invokevirtual 105, 3) := by decide +kernel
theorem dX9_step_21 : decode cX9_step 21 = .ok (.putfield 65, 3) := by decide +kernel
theorem dX9_step_24 : decode cX9_step 24 = .ok (.iconst 0, 1) := by decide +kernel
theorem dX9_step_25 : decode cX9_step 25 = .ok (.istore_n 1, 1) := by decide +kernel
theorem dX9_step_26 : decode cX9_step 26 = .ok (.iload_n 1, 1) := by decide +kernel
theorem dX9_step_27 : decode cX9_step 27 = .ok (.aload_n 0, 1) := by decide +kernel
theorem dX9_step_28 : decode cX9_step 28 = .ok (.getfield 57, 3) := by decide +kernel
theorem dX9_step_31 : decode cX9_step 31 = .ok (.getfield 142, 3) := by decide +kernel
theorem dX9_step_34 : decode cX9_step 34 = .ok (.bipush 6, 2) := by decide +kernel
theorem dX9_step_36 : decode cX9_step 36 = .ok (.iaload, 1) := by decide +kernel
theorem dX9_step_37 : decode cX9_step 37 = .ok (.if_icmp .ge 25, 3) := by decide +kernel
theorem dX9_step_40 : decode cX9_step 40 = .ok (.aload_n 0, 1) := by decide +kernel
theorem dX9_step_41 : decode cX9_step 41 = .ok (.aload_n 0, 1) := by decide +kernel
theorem dX9_step_42 : decode cX9_step 42 = .ok (.getfield 57, 3) := by decide +kernel
theorem dX9_step_45 : decode cX9_step 45 = .ok (.getfield 143, 3) := by decide +kernel
theorem dX9_step_48 : decode cX9_step 48 = .ok (.bipush 6, 2) := by decide +kernel
theorem dX9_step_50 : decode cX9_step 50 = .ok (.aaload, 1) := by decide +kernel
theorem dX9_step_51 : decode cX9_step 51 = .ok (.iload_n 1, 1) := by decide +kernel
theorem dX9_step_52 : decode cX9_step 52 = .ok (.iaload, 1) := by decide +kernel
theorem dX9_step_53 : decode cX9_step 53 = .ok (.invokevirtual 147, 3) := by decide +kernel
theorem dX9_step_56 : decode cX9_step 56 = .ok (.iinc 1 1, 3) := by decide +kernel
theorem dX9_step_59 : decode cX9_step 59 = .ok (.goto (-33), 3) := by decide +kernel
theorem dX9_step_62 : decode cX9_step 62 = .ok (.iconst 0, 1) := by decide +kernel
theorem dX9_step_63 : decode cX9_step 63 = .ok (.istore_n 1, 1) := by decide +kernel
theorem dX9_step_64 : decode cX9_step 64 = .ok (.iload_n 1, 1) := by decide +kernel
theorem dX9_step_65 : decode cX9_step 65 = .ok (.aload_n 0, 1) := by decide +kernel
theorem dX9_step_66 : decode cX9_step 66 = .ok (.getfield 57, 3) := by decide +kernel
theorem dX9_step_69 : decode cX9_step 69 = .ok (.getfield 142, 3) := by decide +kernel
theorem dX9_step_72 : decode cX9_step 72 = .ok (.iconst 4, 1) := by decide +kernel
theorem dX9_step_73 : decode cX9_step 73 = .ok (.iaload, 1) := by decide +kernel
theorem dX9_step_74 : decode cX9_step 74 = .ok (.if_icmp .ge 24, 3) := by decide +kernel
theorem dX9_step_77 : decode cX9_step 77 = .ok (.aload_n 0, 1) := by decide +kernel
theorem dX9_step_78 : decode cX9_step 78 = .ok (.aload_n 0, 1) := by decide +kernel
theorem dX9_step_79 : decode cX9_step 79 = .ok (.getfield 57, 3) := by decide +kernel
theorem dX9_step_82 : decode cX9_step 82 = .ok (.getfield 143, 3) := by decide +kernel
theorem dX9_step_85 : decode cX9_step 85 = .ok (.iconst 4, 1) := by decide +kernel
theorem dX9_step_86 : decode cX9_step 86 = .ok (.aaload, 1) := by decide +kernel
theorem dX9_step_87 : decode cX9_step 87 = .ok (.iload_n 1, 1) := by decide +kernel
theorem dX9_step_88 : decode cX9_step 88 = .ok (.iaload, 1) := by decide +kernel
theorem dX9_step_89 : decode cX9_step 89 = .ok (.invokevirtual 150, 3) := by decide +kernel
theorem dX9_step_92 : decode cX9_step 92 = .ok (.iinc 1 1, 3) := by decide +kernel
theorem dX9_step_95 : decode cX9_step 95 = .ok (.goto (-31), 3) := by decide +kernel
theorem dX9_step_98 : decode cX9_step 98 = .ok (.iconst 0, 1) := by decide +kernel
theorem dX9_step_99 : decode cX9_step 99 = .ok (.istore_n 1, 1) := by decide +kernel
theorem dX9_step_100 : decode cX9_step 100 = .ok (.iload_n 1, 1) := by decide +kernel
theorem dX9_step_101 : decode cX9_step 101 = .ok (.aload_n 0, 1) := by decide +kernel
theorem dX9_step_102 : decode cX9_step 102 = .ok (.getfield 57, 3) := by decide +kernel
theorem dX9_step_105 : decode cX9_step 105 = .ok (.getfield 142, 3) := by decide +kernel
theorem dX9_step_108 : decode cX9_step 108 = .ok (.iconst 5, 1) := by decide +kernel
theorem dX9_step_109 : decode cX9_step 109 = .ok (.iaload, 1) := by decide +kernel
theorem dX9_step_110 : decode cX9_step 110 = .ok (.if_icmp .ge 24, 3) := by decide +kernel
theorem dX9_step_113 : decode cX9_step 113 = .ok (.aload_n 0, 1) := by decide +kernel
theorem dX9_step_114 : decode cX9_step 114 = .ok (.aload_n 0, 1) := by decide +kernel
theorem dX9_step_115 : decode cX9_step 115 = .ok (.getfield 57, 3) := by decide +kernel
theorem dX9_step_118 : decode cX9_step 118 = .ok (.getfield 143, 3) := by decide +kernel
theorem dX9_step_121 : decode cX9_step 121 = .ok (.iconst 5, 1) := by decide +kernel
theorem dX9_step_122 : decode cX9_step 122 = .ok (.aaload, 1) := by decide +kernel
theorem dX9_step_123 : decode cX9_step 123 = .ok (.iload_n 1, 1) := by decide +kernel
theorem dX9_step_124 : decode cX9_step 124 = .ok (.iaload, 1) := by decide +kernel
theorem dX9_step_125 : decode cX9_step 125 = .ok (.invokevirtual 153, 3) := by decide +kernel
theorem dX9_step_128 : decode cX9_step 128 = .ok (.iinc 1 1, 3) := by decide +kernel
theorem dX9_step_131 : decode cX9_step 131 = .ok (.goto (-31), 3) := by decide +kernel
theorem dX9_step_134 : decode cX9_step 134 = .ok (.iconst 0, 1) := by decide +kernel
theorem dX9_step_135 : decode cX9_step 135 = .ok (.istore_n 1, 1) := by decide +kernel
theorem dX9_step_136 : decode cX9_step 136 = .ok (.iload_n 1, 1) := by decide +kernel
theorem dX9_step_137 : decode cX9_step 137 = .ok (.aload_n 0, 1) := by decide +kernel
theorem dX9_step_138 : decode cX9_step 138 = .ok (.getfield 57, 3) := by decide +kernel
theorem dX9_step_141 : decode cX9_step 141 = .ok (.getfield 156, 3) := by decide +kernel
theorem dX9_step_144 : decode cX9_step 144 = .ok (.if_icmp .ge 73, 3) := by decide +kernel
theorem dX9_step_147 : decode cX9_step 147 = .ok (.aload_n 0, 1) := by decide +kernel
theorem dX9_step_148 : decode cX9_step 148 = .ok (.getfield 57, 3) := by decide +kernel
theorem dX9_step_151 : decode cX9_step 151 = .ok (.getfield 159, 3) := by decide +kernel
theorem dX9_step_154 : decode cX9_step 154 = .ok (.iload_n 1, 1) := by decide +kernel
theorem dX9_step_155 : decode cX9_step 155 = .ok (.iaload, 1) := by decide +kernel
theorem dX9_step_156 : decode cX9_step 156 = .ok (.istore_n 2, 1) := by decide +kernel
theorem dX9_step_157 : decode cX9_step 157 = .ok (.aload_n 0, 1) := by decide +kernel
theorem dX9_step_158 : decode cX9_step 158 = .ok (.iload_n 2, 1) := by decide +kernel
theorem dX9_step_159 : decode cX9_step 159 = .ok (.invokevirtual 162, 3) := by decide +kernel
theorem dX9_step_162 : decode cX9_step 162 = .ok (.istore_n 3, 1) := by decide +kernel
theorem dX9_step_163 : decode cX9_step 163 = .ok (.aload_n 0, 1) := by decide +kernel
theorem dX9_step_164 : decode cX9_step 164 = .ok (.getfield 57, 3) := by decide +kernel
theorem dX9_step_167 : decode cX9_step 167 = .ok (.getfield 165, 3) := by decide +kernel
theorem dX9_step_170 : decode cX9_step 170 = .ok (.iload_n 2, 1) := by decide +kernel
theorem dX9_step_171 : decode cX9_step 171 = .ok (.iaload, 1) := by decide +kernel
theorem dX9_step_172 : decode cX9_step 172 = .ok (.istore 4, 2) := by decide +kernel
theorem dX9_step_174 : decode cX9_step 174 = .ok (.iload 4, 2) := by decide +kernel
theorem dX9_step_176 : decode cX9_step 176 = .ok (.iconst 2, 1) := by decide +kernel
theorem dX9_step_177 : decode cX9_step 177 = .ok (.if_icmp .ne 11, 3) := by decide +kernel
theorem dX9_step_180 : decode cX9_step 180 = .ok (.aload_n 0, 1) := by decide +kernel
theorem dX9_step_181 : decode cX9_step 181 = .ok (.iload_n 3, 1) := by decide +kernel
theorem dX9_step_182 : decode cX9_step 182 = .ok (.invokevirtual 168, 3) := by decide +kernel
theorem dX9_step_185 : decode cX9_step 185 = .ok (.goto 26, 3) := by decide +kernel
theorem dX9_step_188 : decode cX9_step 188 = .ok (.iload 4, 2) := by decide +kernel
theorem dX9_step_190 : decode cX9_step 190 = .ok (.invokestatic 171, 3) := by decide +kernel
theorem dX9_step_193 : decode cX9_step 193 = .ok (.ifCond .eq 12, 3) := by decide +kernel
theorem dX9_step_196 : decode cX9_step 196 = .ok (.aload_n 0, 1) := by decide +kernel
theorem dX9_step_197 : decode cX9_step 197 = .ok (.iload_n 2, 1) := by decide +kernel
theorem dX9_step_198 : decode cX9_step 198 = .ok (.iload_n 3, 1) := by decide +kernel
theorem dX9_step_199 : decode cX9_step 199 = .ok (.invokevirtual 174, 3) := by decide +kernel
theorem dX9_step_202 : decode cX9_step 202 = .ok (.goto 9, 3) := by decide +kernel
theorem dX9_step_205 : decode cX9_step 205 = .ok (.aload_n 0, 1) := by decide +kernel
theorem dX9_step_206 : decode cX9_step 206 = .ok (.iload_n 2, 1) := by decide +kernel
theorem dX9_step_207 : decode cX9_step 207 = .ok (.iload_n 3, 1) := by decide +kernel
theorem dX9_step_208 : decode cX9_step 208 = .ok (.invokevirtual 177, 3) := by decide +kernel
theorem dX9_step_211 : decode cX9_step 211 = .ok (.iinc 1 1, 3) := by decide +kernel
theorem dX9_step_214 : decode cX9_step 214 = .ok (.goto (-78), 3) := by decide +kernel
theorem dX9_step_217 : decode cX9_step 217 = .ok (.return_, 1) := by decide +kernel
theorem dX9_workStation_0 : decode cX9_workStation 0 = .ok (.aload_n 0, 1) := by decide +kernel
theorem dX9_workStation_1 : decode cX9_workStation 1 = .ok (.getfield 33, 3) := by decide +kernel
theorem dX9_workStation_4 : decode cX9_workStation 4 = .ok (.getfield 180, 3) := by decide +kernel
theorem dX9_workStation_7 : decode cX9_workStation 7 = .ok (.iload_n 1, 1) := by decide +kernel
theorem dX9_workStation_8 : decode cX9_workStation 8 = .ok (.iaload, 1) := by decide +kernel
theorem dX9_workStation_9 : decode cX9_workStation 9 = .ok (.istore_n 2, 1) := by decide +kernel
theorem dX9_workStation_10 : decode cX9_workStation 10 = .ok (.iload_n 2, 1) := by decide +kernel
theorem dX9_workStation_11 : decode cX9_workStation 11 = .ok (.ifCond .ge 4, 3) := by decide +kernel
theorem dX9_workStation_14 : decode cX9_workStation 14 = .ok (.return_, 1) := by decide +kernel
theorem dX9_workStation_15 : decode cX9_workStation 15 = .ok (.aload_n 0, 1) := by decide +kernel
theorem dX9_workStation_16 : decode cX9_workStation 16 = .ok (.getfield 47, 3) := by decide +kernel
theorem dX9_workStation_19 : decode cX9_workStation 19 = .ok (.iload_n 1, 1) := by decide +kernel
theorem dX9_workStation_20 : decode cX9_workStation 20 = .ok (.dup2, 1) := by decide +kernel
theorem dX9_workStation_21 : decode cX9_workStation 21 = .ok (.iaload, 1) := by decide +kernel
theorem dX9_workStation_22 : decode cX9_workStation 22 = .ok (.iconst 1, 1) := by decide +kernel
theorem dX9_workStation_23 : decode cX9_workStation 23 = .ok (.iadd, 1) := by decide +kernel
theorem dX9_workStation_24 : decode cX9_workStation 24 = .ok (.iastore, 1) := by decide +kernel
theorem dX9_workStation_25 : decode cX9_workStation 25 = .ok (.aload_n 0, 1) := by decide +kernel
theorem dX9_workStation_26 : decode cX9_workStation 26 = .ok (.getfield 47, 3) := by decide +kernel
theorem dX9_workStation_29 : decode cX9_workStation 29 = .ok (.iload_n 1, 1) := by decide +kernel
theorem dX9_workStation_30 : decode cX9_workStation 30 = .ok (.iaload, 1) := by decide +kernel
theorem dX9_workStation_31 : decode cX9_workStation 31 = .ok (.aload_n 0, 1) := by decide +kernel
theorem dX9_workStation_32 : decode cX9_workStation 32 = .ok (.getfield 57, 3) := by decide +kernel
theorem dX9_workStation_35 : decode cX9_workStation 35 = .ok (.getfield 183, 3) := by decide +kernel
theorem dX9_workStation_38 : decode cX9_workStation 38 = .ok (.iconst 1, 1) := by decide +kernel
theorem dX9_workStation_39 : decode cX9_workStation 39 = .ok (.aaload, 1) := by decide +kernel
theorem dX9_workStation_40 : decode cX9_workStation 40 = .ok (.iload_n 1, 1) := by decide +kernel
theorem dX9_workStation_41 : decode cX9_workStation 41 = .ok (.iaload, 1) := by decide +kernel
theorem dX9_workStation_42 : decode cX9_workStation 42 = .ok (.if_icmp .ge 4, 3) := by decide +kernel
theorem dX9_workStation_45 : decode cX9_workStation 45 = .ok (.return_, 1) := by decide +kernel
theorem dX9_workStation_46 : decode cX9_workStation 46 = .ok (.aload_n 0, 1) := by decide +kernel
theorem dX9_workStation_47 : decode cX9_workStation 47 = .ok (.getfield 47, 3) := by decide +kernel
theorem dX9_workStation_50 : decode cX9_workStation 50 = .ok (.iload_n 1, 1) := by decide +kernel
theorem dX9_workStation_51 : decode cX9_workStation 51 = .ok (.iconst 0, 1) := by decide +kernel
theorem dX9_workStation_52 : decode cX9_workStation 52 = .ok (.iastore, 1) := by decide +kernel
theorem dX9_workStation_53 : decode cX9_workStation 53 = .ok (.aload_n 0, 1) := by decide +kernel
theorem dX9_workStation_54 : decode cX9_workStation 54 = .ok (.getfield 33, 3) := by decide +kernel
theorem dX9_workStation_57 : decode cX9_workStation 57 = .ok (.iload_n 1, 1) := by decide +kernel
theorem dX9_workStation_58 : decode cX9_workStation 58 = .ok (.invokevirtual 186, 3) := by decide +kernel
theorem dX9_workStation_61 : decode cX9_workStation 61 = .ok (.pop, 1) := by decide +kernel
theorem dX9_workStation_62 : decode cX9_workStation 62 = .ok (.aload_n 0, 1) := by decide +kernel
theorem dX9_workStation_63 : decode cX9_workStation 63 = .ok (.iload_n 2, 1) := by decide +kernel
theorem dX9_workStation_64 : decode cX9_workStation 64 = .ok (.invokevirtual 189, 3) := by decide +kernel
theorem dX9_workStation_67 : decode cX9_workStation 67 = .ok (.istore_n 3, 1) := by decide +kernel
theorem dX9_workStation_68 : decode cX9_workStation 68 = .ok (.iload_n 3, 1) := by decide +kernel
theorem dX9_workStation_69 : decode cX9_workStation 69 = .ok (.ifCond .ne 9, 3) := by decide +kernel
theorem dX9_workStation_72 : decode cX9_workStation 72 = .ok (.aload_n 0, 1) := by decide +kernel
theorem dX9_workStation_73 : decode cX9_workStation 73 = .ok (.iload_n 2, 1) := by decide +kernel
theorem dX9_workStation_74 : decode cX9_workStation 74 = .ok (.invokevirtual 192, 3) := by decide +kernel
theorem dX9_workStation_77 : decode cX9_workStation 77 = .ok (.return_, 1) := by decide +kernel
theorem dX9_workStation_78 : decode cX9_workStation 78 = .ok (.aload_n 0, 1) := by decide +kernel
theorem dX9_workStation_79 : decode cX9_workStation 79 = .ok (.getfield 27, 3) := by decide +kernel
theorem dX9_workStation_82 : decode cX9_workStation 82 = .ok (.getfield 195, 3) := by decide +kernel
theorem dX9_workStation_85 : decode cX9_workStation 85 = .ok (.iload_n 2, 1) := by decide +kernel
theorem dX9_workStation_86 : decode cX9_workStation 86 = .ok (.iload_n 3, 1) := by decide +kernel
theorem dX9_workStation_87 : decode cX9_workStation 87 = .ok (.iastore, 1) := by decide +kernel
theorem dX9_workStation_88 : decode cX9_workStation 88 = .ok (.aload_n 0, 1) := by decide +kernel
theorem dX9_workStation_89 : decode cX9_workStation 89 = .ok (.getfield 27, 3) := by decide +kernel
theorem dX9_workStation_92 : decode cX9_workStation 92 = .ok (.getfield 198, 3) := by decide +kernel
theorem dX9_workStation_95 : decode cX9_workStation 95 = .ok (.iload_n 2, 1) := by decide +kernel
theorem dX9_workStation_96 : decode cX9_workStation 96 = .ok (.iconst 0, 1) := by decide +kernel
theorem dX9_workStation_97 : decode cX9_workStation 97 = .ok (.iastore, 1) := by decide +kernel
theorem dX9_workStation_98 : decode cX9_workStation 98 = .ok (.aload_n 0, 1) := by decide +kernel
theorem dX9_workStation_99 : decode cX9_workStation 99 = .ok (.iload_n 1, 1) := by decide +kernel
theorem dX9_workStation_100 : decode cX9_workStation 100 = .ok (.iload_n 2, 1) := by decide +kernel
theorem dX9_workStation_101 : decode cX9_workStation 101 = .ok (.invokevirtual 201, 3) := by decide +kernel
theorem dX9_workStation_104 : decode cX9_workStation 104 = .ok (.return_, 1) := by decide +kernel
theorem dX9_workScreen_0 : decode cX9_workScreen 0 = .ok (.aload_n 0, 1) := by decide +kernel
theorem dX9_workScreen_1 : decode cX9_workScreen 1 = .ok (.getfield 33, 3) := by decide +kernel
theorem dX9_workScreen_4 : decode cX9_workScreen 4 = .ok (.getfield 180, 3) := by decide +kernel
theorem dX9_workScreen_7 : decode cX9_workScreen 7 = .ok (.iload_n 1, 1) := by decide +kernel
theorem dX9_workScreen_8 : decode cX9_workScreen 8 = .ok (.iaload, 1) := by decide +kernel
theorem dX9_workScreen_9 : decode cX9_workScreen 9 = .ok (.istore_n 2, 1) := by decide +kernel
theorem dX9_workScreen_10 : decode cX9_workScreen 10 = .ok (.aload_n 0, 1) := by decide +kernel
theorem dX9_workScreen_11 : decode cX9_workScreen 11 = .ok (.getfield 50, 3) := by decide +kernel
theorem dX9_workScreen_14 : decode cX9_workScreen 14 = .ok (.iload_n 1, 1) := by decide +kernel
theorem dX9_workScreen_15 : decode cX9_workScreen 15 = .ok (.iaload, 1) := by decide +kernel
theorem dX9_workScreen_16 : decode cX9_workScreen 16 = .ok (.istore_n 3, 1) := by decide +kernel
theorem dX9_workScreen_17 : decode cX9_workScreen 17 = .ok (.iload_n 2, 1) := by decide +kernel
theorem dX9_workScreen_18 : decode cX9_workScreen 18 = .ok (.ifCond .lt 13, 3) := by decide +kernel
theorem dX9_workScreen_21 : decode cX9_workScreen 21 = .ok (.iload_n 3, 1) := by decide +kernel
theorem dX9_workScreen_22 : decode cX9_workScreen 22 = .ok (.iconst 1, 1) := by decide +kernel
theorem dX9_workScreen_23 : decode cX9_workScreen 23 = .ok (.if_icmp .lt 8, 3) := by decide +kernel
theorem dX9_workScreen_26 : decode cX9_workScreen 26 = .ok (.iload_n 3, 1) := by decide +kernel
theorem dX9_workScreen_27 : decode cX9_workScreen 27 = .ok (.iconst 3, 1) := by decide +kernel
theorem dX9_workScreen_28 : decode cX9_workScreen 28 = .ok (.if_icmp .le 4, 3) := by decide +kernel
theorem dX9_workScreen_31 : decode cX9_workScreen 31 = .ok (.return_, 1) := by decide +kernel
theorem dX9_workScreen_32 : decode cX9_workScreen 32 = .ok (.aload_n 0, 1) := by decide +kernel
