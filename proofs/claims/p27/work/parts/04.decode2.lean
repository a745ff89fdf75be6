theorem dX3_passHour_132 : decode cX3_passHour 132 = .ok (.checkcast 67, 3) := by decide +kernel
theorem dX3_passHour_135 : decode cX3_passHour 135 = .ok (.invokevirtual 112, 3) := by decide +kernel
theorem dX3_passHour_138 : decode cX3_passHour 138 = .ok (.iinc 4 1, 3) := by decide +kernel
theorem dX3_passHour_141 : decode cX3_passHour 141 = .ok (.goto (-31), 3) := by decide +kernel
theorem dX3_passHour_144 : decode cX3_passHour 144 = .ok (.return_, 1) := by decide +kernel
theorem dX3_passTruckHour_0 : decode cX3_passTruckHour 0 = .ok (.aload_n 0, 1) := by decide +kernel
theorem dX3_passTruckHour_1 : decode cX3_passTruckHour 1 = .ok (.aload_n 1, 1) := by decide +kernel
theorem dX3_passTruckHour_2 : decode cX3_passTruckHour 2 = .ok (.getfield 115, 3) := by decide +kernel
theorem dX3_passTruckHour_5 : decode cX3_passTruckHour 5 = .ok (.invokevirtual 118, 3) := by decide +kernel
theorem dX3_passTruckHour_8 : decode cX3_passTruckHour 8 = .ok (.astore_n 2, 1) := by decide +kernel
theorem dX3_passTruckHour_9 : decode cX3_passTruckHour 9 = .ok (.aload_n 0, 1) := by decide +kernel
theorem dX3_passTruckHour_10 : decode cX3_passTruckHour 10 = .ok (.aload_n 1, 1) := by decide +kernel
theorem dX3_passTruckHour_11 : decode cX3_passTruckHour 11 = .ok (.getfield 122, 3) := by decide +kernel
theorem dX3_passTruckHour_14 : decode cX3_passTruckHour 14 = .ok (.invokevirtual 125, 3) := by decide +kernel
theorem dX3_passTruckHour_17 : decode cX3_passTruckHour 17 = .ok (.astore_n 3, 1) := by decide +kernel
theorem dX3_passTruckHour_18 : decode cX3_passTruckHour 18 = .ok (.aload_n 1, 1) := by decide +kernel
theorem dX3_passTruckHour_19 : decode cX3_passTruckHour 19 = .ok (.invokevirtual 129, 3) := by decide +kernel
theorem dX3_passTruckHour_22 : decode cX3_passTruckHour 22 = .ok (.ifCond .eq 10, 3) := by decide +kernel
theorem dX3_passTruckHour_25 : decode cX3_passTruckHour 25 = .ok (.aload_n 1, 1) := by decide +kernel
theorem dX3_passTruckHour_26 : decode cX3_passTruckHour 26 = .ok (.invokevirtual 133, 3) := by decide +kernel
theorem dX3_passTruckHour_29 : decode cX3_passTruckHour 29 = .ok (.goto 76, 3) := by decide +kernel
theorem dX3_passTruckHour_32 : decode cX3_passTruckHour 32 = .ok (.aload_n 2, 1) := by decide +kernel
theorem dX3_passTruckHour_33 : decode cX3_passTruckHour 33 = .ok (.ifnull 33, 3) := by decide +kernel
theorem dX3_passTruckHour_36 : decode cX3_passTruckHour 36 = .ok (.aload_n 1, 1) := by decide +kernel
theorem dX3_passTruckHour_37 : decode cX3_passTruckHour 37 = .ok (.getfield 136, 3) := by decide +kernel
theorem dX3_passTruckHour_40 : decode cX3_passTruckHour 40 = .ok (.aload_n 2, 1) := by decide +kernel
theorem dX3_passTruckHour_41 : decode cX3_passTruckHour 41 = .ok (.getfield 139, 3) := by decide +kernel
theorem dX3_passTruckHour_44 : decode cX3_passTruckHour 44 = .ok (.if_icmp .eq 14, 3) := by decide +kernel
theorem dX3_passTruckHour_47 : decode cX3_passTruckHour 47 = .ok (.aload_n 1, 1) := by decide +kernel
theorem dX3_passTruckHour_48 : decode cX3_passTruckHour 48 = .ok (.aload_n 2, 1) := by decide +kernel
theorem dX3_passTruckHour_49 : decode cX3_passTruckHour 49 = .ok (.getfield 139, 3) := by decide +kernel
theorem dX3_passTruckHour_52 : decode cX3_passTruckHour 52 = .ok (.invokevirtual 140, 3) := by decide +kernel
theorem dX3_passTruckHour_55 : decode cX3_passTruckHour 55 = .ok (.goto 50, 3) := by decide +kernel
theorem dX3_passTruckHour_58 : decode cX3_passTruckHour 58 = .ok (.aload_n 1, 1) := by decide +kernel
theorem dX3_passTruckHour_59 : decode cX3_passTruckHour 59 = .ok (.aload_n 2, 1) := by decide +kernel
theorem dX3_passTruckHour_60 : decode cX3_passTruckHour 60 = .ok (.invokevirtual 143, 3) := by decide +kernel
theorem dX3_passTruckHour_63 : decode cX3_passTruckHour 63 = .ok (.goto 42, 3) := by decide +kernel
theorem dX3_passTruckHour_66 : decode cX3_passTruckHour 66 = .ok (.aload_n 3, 1) := by decide +kernel
theorem dX3_passTruckHour_67 : decode cX3_passTruckHour 67 = .ok (.ifnull 38, 3) := by decide +kernel
theorem dX3_passTruckHour_70 : decode cX3_passTruckHour 70 = .ok (.aload_n 1, 1) := by decide +kernel
theorem dX3_passTruckHour_71 : decode cX3_passTruckHour 71 = .ok (.getfield 136, 3) := by decide +kernel
theorem dX3_passTruckHour_74 : decode cX3_passTruckHour 74 = .ok (.aload_n 3, 1) := by decide +kernel
theorem dX3_passTruckHour_75 : decode cX3_passTruckHour 75 = .ok (.getfield 146, 3) := by decide +kernel
theorem dX3_passTruckHour_78 : decode cX3_passTruckHour 78 = .ok (.if_icmp .eq 14, 3) := by decide +kernel
theorem dX3_passTruckHour_81 : decode cX3_passTruckHour 81 = .ok (.aload_n 1, 1) := by decide +kernel
theorem dX3_passTruckHour_82 : decode cX3_passTruckHour 82 = .ok (.aload_n 3, 1) := by decide +kernel
theorem dX3_passTruckHour_83 : decode cX3_passTruckHour 83 = .ok (.getfield 146, 3) := by decide +kernel
theorem dX3_passTruckHour_86 : decode cX3_passTruckHour 86 = .ok (.invokevirtual 140, 3) := by decide +kernel
theorem dX3_passTruckHour_89 : decode cX3_passTruckHour 89 = .ok (.goto 16, 3) := by decide +kernel
theorem dX3_passTruckHour_92 : decode cX3_passTruckHour 92 = .ok (.aload_n 1, 1) := by decide +kernel
theorem dX3_passTruckHour_93 : decode cX3_passTruckHour 93 = .ok (.getfield 147, 3) := by decide +kernel
theorem dX3_passTruckHour_96 : decode cX3_passTruckHour 96 = .ok (.ifCond .le 9, 3) := by decide +kernel
theorem dX3_passTruckHour_99 : decode cX3_passTruckHour 99 = .ok (.aload_n 0, 1) := by decide +kernel
theorem dX3_passTruckHour_100 : decode cX3_passTruckHour 100 = .ok (.aload_n 1, 1) := by decide +kernel
theorem dX3_passTruckHour_101 : decode cX3_passTruckHour 101 = .ok (.aload_n 3, 1) := by decide +kernel
theorem dX3_passTruckHour_102 : decode cX3_passTruckHour 102 = .ok (.invokevirtual 150, 3) := by decide +kernel
theorem dX3_passTruckHour_105 : decode cX3_passTruckHour 105 = .ok (.return_, 1) := by decide +kernel
theorem dX3_unload_0 : decode cX3_unload 0 = .ok (.aload_n 2, 1) := by decide +kernel
theorem dX3_unload_1 : decode cX3_unload 1 = .ok (.aload_n 1, 1) := by decide +kernel
theorem dX3_unload_2 : decode cX3_unload 2 = .ok (.aload_n 0, 1) := by decide +kernel
theorem dX3_unload_3 : decode cX3_unload 3 = .ok (.invokevirtual 95, 3) := by decide +kernel
theorem dX3_unload_6 : decode cX3_unload 6 = .ok (.invokevirtual 154, 3) := by decide +kernel
theorem dX3_unload_9 : decode cX3_unload 9 = .ok (.ifCond .ne 14, 3) := by decide +kernel
theorem dX3_unload_12 : decode cX3_unload 12 = .ok (.aload_n 1, 1) := by decide +kernel
theorem dX3_unload_13 : decode cX3_unload 13 = .ok (.dup, 1) := by decide +kernel
theorem dX3_unload_14 : decode cX3_unload 14 = .ok (.getfield 158, 3) := by decide +kernel
theorem dX3_unload_17 : decode cX3_unload 17 = .ok (.iconst 1, 1) := by decide +kernel
theorem dX3_unload_18 : decode cX3_unload 18 = .ok (.iadd, 1) := by decide +kernel
theorem dX3_unload_19 : decode cX3_unload 19 = .ok (.putfield 158, 3) := by decide +kernel
theorem dX3_unload_22 : decode cX3_unload 22 = .ok (.return_, 1) := by decide +kernel
theorem dX3_unload_23 : decode cX3_unload 23 = .ok (.aload_n 2, 1) := by decide +kernel
theorem dX3_unload_24 : decode cX3_unload 24 = .ok (.dup, 1) := by decide +kernel
theorem dX3_unload_25 : decode cX3_unload 25 = .ok (.getfield 161, 3) := by decide +kernel
theorem dX3_unload_28 : decode cX3_unload 28 = .ok (.aload_n 1, 1) := by decide +kernel
theorem dX3_unload_29 : decode cX3_unload 29 = .ok (.getfield 147, 3) := by decide +kernel
theorem dX3_unload_32 : decode cX3_unload 32 = .ok (.isub, 1) := by decide +kernel
theorem dX3_unload_33 : decode cX3_unload 33 = .ok (.putfield 161, 3) := by decide +kernel
theorem dX3_unload_36 : decode cX3_unload 36 = .ok (.aload_n 0, 1) := by decide +kernel
theorem dX3_unload_37 : decode cX3_unload 37 = .ok (.getfield 37, 3) := by decide +kernel
theorem dX3_unload_40 : decode cX3_unload 40 = .ok (.ifCond .ne 9, 3) := by decide +kernel
theorem dX3_unload_43 : decode cX3_unload 43 = .ok (.aload_n 0, 1) := by decide +kernel
theorem dX3_unload_44 : decode cX3_unload 44 = .ok (.aload_n 1, 1) := by decide +kernel
theorem dX3_unload_45 : decode cX3_unload 45 = .ok (.aload_n 2, 1) := by decide +kernel
theorem dX3_unload_46 : decode cX3_unload 46 = .ok (.invokevirtual 164, 3) := by decide +kernel
theorem dX3_unload_49 : decode cX3_unload 49 = .ok (.aload_n 1, 1) := by decide +kernel
theorem dX3_unload_50 : decode cX3_unload 50 = .ok (.iconst 0, 1) := by decide +kernel
theorem dX3_unload_51 : decode cX3_unload 51 = .ok (.putfield 147, 3) := by decide +kernel
theorem dX3_unload_54 : decode cX3_unload 54 = .ok (.return_, 1) := by decide +kernel
theorem dX3_writeTicket_0 : decode cX3_writeTicket 0 = .ok (.new 93, 3) := by decide +kernel
theorem dX3_writeTicket_3 : decode cX3_writeTicket 3 = .ok (.dup, 1) := by decide +kernel
theorem dX3_writeTicket_4 : decode cX3_writeTicket 4 = .ok (.aload_n 1, 1) := by decide +kernel
theorem dX3_writeTicket_5 : decode cX3_writeTicket 5 = .ok (.aload_n 2, 1) := by decide +kernel
theorem dX3_writeTicket_6 : decode cX3_writeTicket 6 = .ok (.aload_n 1, 1) := by decide +kernel
theorem dX3_writeTicket_7 : decode cX3_writeTicket 7 = .ok (.getfield 167, 3) := by decide +kernel
theorem dX3_writeTicket_10 : decode cX3_writeTicket 10 = .ok (.invokevirtual 170, 3) := by decide +kernel
theorem dX3_writeTicket_13 : decode cX3_writeTicket 13 = .ok (.aload_n 0, 1) := by decide +kernel
theorem dX3_writeTicket_14 : decode cX3_writeTicket 14 = .ok (.getfield 41, 3) := by decide +kernel
theorem dX3_writeTicket_17 : decode cX3_writeTicket 17 = .ok (.aload_n 0, 1) := by decide +kernel
theorem dX3_writeTicket_18 : decode cX3_writeTicket 18 = .ok (.getfield 30, 3) := by decide +kernel
theorem dX3_writeTicket_21 : decode cX3_writeTicket 21 = .ok (.invokespecial 174, 3) := by decide +kernel
theorem dX3_writeTicket_24 : decode cX3_writeTicket 24 = .ok (.astore_n 3, 1) := by decide +kernel
theorem dX3_writeTicket_25 : decode cX3_writeTicket 25 = .ok (.aload_n 0, 1) := by decide +kernel
theorem dX3_writeTicket_26 : decode cX3_writeTicket 26 = .ok (.getfield 27, 3) := by decide +kernel
theorem dX3_writeTicket_29 : decode cX3_writeTicket 29 = .ok (.aload_n 3, 1) := by decide +kernel
theorem dX3_writeTicket_30 : decode cX3_writeTicket 30 = .ok (.invokevirtual 80, 3) := by decide +kernel
theorem dX3_writeTicket_33 : decode cX3_writeTicket 33 = .ok (.pop, 1) := by decide +kernel
theorem dX3_writeTicket_34 : decode cX3_writeTicket 34 = .ok (.aload_n 0, 1) := by decide +kernel
theorem dX3_writeTicket_35 : decode cX3_writeTicket 35 = .ok (.dup, 1) := by decide +kernel
theorem dX3_writeTicket_36 : decode cX3_writeTicket 36 = .ok (.getfield 34, 3) := by decide +kernel
theorem dX3_writeTicket_39 : decode cX3_writeTicket 39 = .ok (.iconst 2, 1) := by decide +kernel
theorem dX3_writeTicket_40 : decode cX3_writeTicket 40 = .ok (.aload_n 3, 1) := by decide +kernel
theorem dX3_writeTicket_41 : decode cX3_writeTicket 41 = .ok (.getfield 177, 3) := by decide +kernel
theorem dX3_writeTicket_44 : decode cX3_writeTicket 44 = .ok (.bipush 10, 2) := by decide +kernel
theorem dX3_writeTicket_46 : decode cX3_writeTicket 46 = .ok (.idiv, 1) := by decide +kernel
theorem dX3_writeTicket_47 : decode cX3_writeTicket 47 = .ok (.imul, 1) := by decide +kernel
theorem dX3_writeTicket_48 : decode cX3_writeTicket 48 = .ok (.iadd, 1) := by decide +kernel
theorem dX3_writeTicket_49 : decode cX3_writeTicket 49 = .ok (.putfield 34, 3) := by decide +kernel
theorem dX3_writeTicket_52 : decode cX3_writeTicket 52 = .ok (.aload_n 0, 1) := by decide +kernel
theorem dX3_writeTicket_53 : decode cX3_writeTicket 53 = .ok (.aload_n 3, 1) := by decide +kernel
theorem dX3_writeTicket_54 : decode cX3_writeTicket 54 = .ok (.getfield 180, 3) := by decide +kernel
theorem dX3_writeTicket_57 : decode cX3_writeTicket 57 = .ok (.invokevirtual 105, 3) := by decide +kernel
theorem dX3_writeTicket_60 : decode cX3_writeTicket 60 = .ok (.astore 4, 2) := by decide +kernel
theorem dX3_writeTicket_62 : decode cX3_writeTicket 62 = .ok (.aload 4, 2) := by decide +kernel
theorem dX3_writeTicket_64 : decode cX3_writeTicket 64 = .ok (.ifnull 16, 3) := by decide +kernel
theorem dX3_writeTicket_67 : decode cX3_writeTicket 67 = .ok (.aload 4, 2) := by decide +kernel
theorem dX3_writeTicket_69 : decode cX3_writeTicket 69 = .ok (.aload_n 3, 1) := by decide +kernel
theorem dX3_writeTicket_70 : decode cX3_writeTicket 70 = .ok (.getfield 177, 3) := by decide +kernel
theorem dX3_writeTicket_73 : decode cX3_writeTicket 73 = .ok (.aload_n 3, 1) := by decide +kernel
theorem dX3_writeTicket_74 : decode cX3_writeTicket 74 = .ok (.getfield 183, 3) := by decide +kernel
theorem dX3_writeTicket_77 : decode cX3_writeTicket 77 = .ok (.invokevirtual 186, 3) := by decide +kernel
theorem dX3_writeTicket_80 : decode cX3_writeTicket 80 = .ok (.return_, 1) := by decide +kernel
theorem dX3_combinesSentTo_0 : decode cX3_combinesSentTo 0 = .ok (.iconst 0, 1) := by decide +kernel
theorem dX3_combinesSentTo_1 : decode cX3_combinesSentTo 1 = .ok (.istore_n 2, 1) := by decide +kernel
theorem dX3_combinesSentTo_2 : decode cX3_combinesSentTo 2 = .ok (.iconst 0, 1) := by decide +kernel
theorem dX3_combinesSentTo_3 : decode cX3_combinesSentTo 3 = .ok (.istore_n 3, 1) := by decide +kernel
theorem dX3_combinesSentTo_4 : decode cX3_combinesSentTo 4 = .ok (.iload_n 3, 1) := by decide +kernel
theorem dX3_combinesSentTo_5 : decode cX3_combinesSentTo 5 = .ok (.aload_n 0, 1) := by decide +kernel
theorem dX3_combinesSentTo_6 : decode cX3_combinesSentTo 6 = .ok (.getfield 18, 3) := by decide +kernel
theorem dX3_combinesSentTo_9 : decode cX3_combinesSentTo 9 = .ok (.invokevirtual 48, 3) := by decide +kernel
theorem dX3_combinesSentTo_12 : decode cX3_combinesSentTo 12 = .ok (.if_icmp .ge 30, 3) := by decide +kernel
theorem dX3_combinesSentTo_15 : decode cX3_combinesSentTo 15 = .ok (.aload_n 0, 1) := by decide +kernel
theorem dX3_combinesSentTo_16 : decode cX3_combinesSentTo 16 = .ok (.getfield 18, 3) := by decide +kernel
theorem dX3_combinesSentTo_19 : decode cX3_combinesSentTo 19 = .ok (.iload_n 3, 1) := by decide +kernel
theorem dX3_combinesSentTo_20 : decode cX3_combinesSentTo 20 = .ok (.invokevirtual 52, 3) := by decide +kernel
theorem dX3_combinesSentTo_23 : decode cX3_combinesSentTo 23 = .ok (.checkcast 62, 3) := by decide +kernel
theorem dX3_combinesSentTo_26 : decode cX3_combinesSentTo 26 = .ok (.getfield 102, 3) := by decide +kernel
theorem dX3_combinesSentTo_29 : decode cX3_combinesSentTo 29 = .ok (.iload_n 1, 1) := by decide +kernel
theorem dX3_combinesSentTo_30 : decode cX3_combinesSentTo 30 = .ok (.if_icmp .ne 6, 3) := by decide +kernel
theorem dX3_combinesSentTo_33 : decode cX3_combinesSentTo 33 = .ok (.iinc 2 1, 3) := by decide +kernel
theorem dX3_combinesSentTo_36 : decode cX3_combinesSentTo 36 = .ok (.iinc 3 1, 3) := by decide +kernel
theorem dX3_combinesSentTo_39 : decode cX3_combinesSentTo 39 = .ok (.goto (-35), 3) := by decide +kernel
theorem dX3_combinesSentTo_42 : decode cX3_combinesSentTo 42 = .ok (.iload_n 2, 1) := by decide +kernel
theorem dX3_combinesSentTo_43 : decode cX3_combinesSentTo 43 = .ok (.ireturn, 1) := by decide +kernel
theorem dX3_onTheWay_0 : decode cX3_onTheWay 0 = .ok (.iconst 0, 1) := by decide +kernel
theorem dX3_onTheWay_1 : decode cX3_onTheWay 1 = .ok (.istore_n 2, 1) := by decide +kernel
theorem dX3_onTheWay_2 : decode cX3_onTheWay 2 = .ok (.iconst 0, 1) := by decide +kernel
theorem dX3_onTheWay_3 : decode cX3_onTheWay 3 = .ok (.istore_n 3, 1) := by decide +kernel
theorem dX3_onTheWay_4 : decode cX3_onTheWay 4 = .ok (.iload_n 3, 1) := by decide +kernel
theorem dX3_onTheWay_5 : decode cX3_onTheWay 5 = .ok (.aload_n 0, 1) := by decide +kernel
theorem dX3_onTheWay_6 : decode cX3_onTheWay 6 = .ok (.getfield 18, 3) := by decide +kernel
theorem dX3_onTheWay_9 : decode cX3_onTheWay 9 = .ok (.invokevirtual 48, 3) := by decide +kernel
theorem dX3_onTheWay_12 : decode cX3_onTheWay 12 = .ok (.if_icmp .ge 43, 3) := by decide +kernel
theorem dX3_onTheWay_15 : decode cX3_onTheWay 15 = .ok (.aload_n 0, 1) := by decide +kernel
theorem dX3_onTheWay_16 : decode cX3_onTheWay 16 = .ok (.getfield 18, 3) := by decide +kernel
theorem dX3_onTheWay_19 : decode cX3_onTheWay 19 = .ok (.iload_n 3, 1) := by decide +kernel
theorem dX3_onTheWay_20 : decode cX3_onTheWay 20 = .ok (.invokevirtual 52, 3) := by decide +kernel
theorem dX3_onTheWay_23 : decode cX3_onTheWay 23 = .ok (.checkcast 62, 3) := by decide +kernel
theorem dX3_onTheWay_26 : decode cX3_onTheWay 26 = .ok (.astore 4, 2) := by decide +kernel
theorem dX3_onTheWay_28 : decode cX3_onTheWay 28 = .ok (.iload_n 2, 1) := by decide +kernel
theorem dX3_onTheWay_29 : decode cX3_onTheWay 29 = .ok (.aload 4, 2) := by decide +kernel
theorem dX3_onTheWay_31 : decode cX3_onTheWay 31 = .ok (.getfield 190, 3) := by decide +kernel
theorem dX3_onTheWay_34 : decode cX3_onTheWay 34 = .ok (.iload_n 1, 1) := by decide +kernel
theorem dX3_onTheWay_35 : decode cX3_onTheWay 35 = .ok (.if_icmp .ne 11, 3) := by decide +kernel
theorem dX3_onTheWay_38 : decode cX3_onTheWay 38 = .ok (.aload 4, 2) := by decide +kernel
theorem dX3_onTheWay_40 : decode cX3_onTheWay 40 = .ok (.getfield 193, 3) := by decide +kernel
theorem dX3_onTheWay_43 : decode cX3_onTheWay 43 = .ok (.goto 4, 3) := by decide +kernel
theorem dX3_onTheWay_46 : decode cX3_onTheWay 46 = .ok (.iconst 0, 1) := by decide +kernel
theorem dX3_onTheWay_47 : decode cX3_onTheWay 47 = .ok (.iadd, 1) := by decide +kernel
theorem dX3_onTheWay_48 : decode cX3_onTheWay 48 = .ok (.istore_n 2, 1) := by decide +kernel
theorem dX3_onTheWay_49 : decode cX3_onTheWay 49 = .ok (.iinc 3 1, 3) := by decide +kernel
theorem dX3_onTheWay_52 : decode cX3_onTheWay 52 = .ok (.goto (-48), 3) := by decide +kernel
theorem dX3_onTheWay_55 : decode cX3_onTheWay 55 = .ok (.iconst 0, 1) := by decide +kernel
theorem dX3_onTheWay_56 : decode cX3_onTheWay 56 = .ok (.istore_n 3, 1) := by decide +kernel
theorem dX3_onTheWay_57 : decode cX3_onTheWay 57 = .ok (.iload_n 3, 1) := by decide +kernel
theorem dX3_onTheWay_58 : decode cX3_onTheWay 58 = .ok (.aload_n 0, 1) := by decide +kernel
theorem dX3_onTheWay_59 : decode cX3_onTheWay 59 = .ok (.getfield 21, 3) := by decide +kernel
theorem dX3_onTheWay_62 : decode cX3_onTheWay 62 = .ok (.invokevirtual 48, 3) := by decide +kernel
theorem dX3_onTheWay_65 : decode cX3_onTheWay 65 = .ok (.if_icmp .ge 43, 3) := by decide +kernel
theorem dX3_onTheWay_68 : decode cX3_onTheWay 68 = .ok (.aload_n 0, 1) := by decide +kernel
theorem dX3_onTheWay_69 : decode cX3_onTheWay 69 = .ok (.getfield 21, 3) := by decide +kernel
theorem dX3_onTheWay_72 : decode cX3_onTheWay 72 = .ok (.iload_n 3, 1) := by decide +kernel
theorem dX3_onTheWay_73 : decode cX3_onTheWay 73 = .ok (.invokevirtual 52, 3) := by decide +kernel
theorem dX3_onTheWay_76 : decode cX3_onTheWay 76 = .ok (.checkcast 67, 3) := by decide +kernel
theorem dX3_onTheWay_79 : decode cX3_onTheWay 79 = .ok (.astore 4, 2) := by decide +kernel
theorem dX3_onTheWay_81 : decode cX3_onTheWay 81 = .ok (.iload_n 2, 1) := by decide +kernel
theorem dX3_onTheWay_82 : decode cX3_onTheWay 82 = .ok (.aload 4, 2) := by decide +kernel
theorem dX3_onTheWay_84 : decode cX3_onTheWay 84 = .ok (.getfield 196, 3) := by decide +kernel
theorem dX3_onTheWay_87 : decode cX3_onTheWay 87 = .ok (.iload_n 1, 1) := by decide +kernel
theorem dX3_onTheWay_88 : decode cX3_onTheWay 88 = .ok (.if_icmp .ne 11, 3) := by decide +kernel
theorem dX3_onTheWay_91 : decode cX3_onTheWay 91 = .ok (.aload 4, 2) := by decide +kernel
theorem dX3_onTheWay_93 : decode cX3_onTheWay 93 = .ok (.getfield 147, 3) := by decide +kernel
theorem dX3_onTheWay_96 : decode cX3_onTheWay 96 = .ok (.goto 4, 3) := by decide +kernel
theorem dX3_onTheWay_99 : decode cX3_onTheWay 99 = .ok (.iconst 0, 1) := by decide +kernel
theorem dX3_onTheWay_100 : decode cX3_onTheWay 100 = .ok (.iadd, 1) := by decide +kernel
theorem dX3_onTheWay_101 : decode cX3_onTheWay 101 = .ok (.istore_n 2, 1) := by decide +kernel
theorem dX3_onTheWay_102 : decode cX3_onTheWay 102 = .ok (.iinc 3 1, 3) := by decide +kernel
theorem dX3_onTheWay_105 : decode cX3_onTheWay 105 = .ok (.goto (-48), 3) := by decide +kernel
theorem dX3_onTheWay_108 : decode cX3_onTheWay 108 = .ok (.iload_n 2, 1) := by decide +kernel
theorem dX3_onTheWay_109 : decode cX3_onTheWay 109 = .ok (.ireturn, 1) := by decide +kernel
theorem dX3_allOnTheWay_0 : decode cX3_allOnTheWay 0 = .ok (.iconst 0, 1) := by decide +kernel
theorem dX3_allOnTheWay_1 : decode cX3_allOnTheWay 1 = .ok (.istore_n 1, 1) := by decide +kernel
theorem dX3_allOnTheWay_2 : decode cX3_allOnTheWay 2 = .ok (.iconst 0, 1) := by decide +kernel
theorem dX3_allOnTheWay_3 : decode cX3_allOnTheWay 3 = .ok (.istore_n 2, 1) := by decide +kernel
theorem dX3_allOnTheWay_4 : decode cX3_allOnTheWay 4 = .ok (.iload_n 2, 1) := by decide +kernel
theorem dX3_allOnTheWay_5 : decode cX3_allOnTheWay 5 = .ok (.aload_n 0, 1) := by decide +kernel
theorem dX3_allOnTheWay_6 : decode cX3_allOnTheWay 6 = .ok (.getfield 18, 3) := by decide +kernel
theorem dX3_allOnTheWay_9 : decode cX3_allOnTheWay 9 = .ok (.invokevirtual 48, 3) := by decide +kernel
theorem dX3_allOnTheWay_12 : decode cX3_allOnTheWay 12 = .ok (.if_icmp .ge 26, 3) := by decide +kernel
theorem dX3_allOnTheWay_15 : decode cX3_allOnTheWay 15 = .ok (.iload_n 1, 1) := by decide +kernel
theorem dX3_allOnTheWay_16 : decode cX3_allOnTheWay 16 = .ok (.aload_n 0, 1) := by decide +kernel
theorem dX3_allOnTheWay_17 : decode cX3_allOnTheWay 17 = .ok (.getfield 18, 3) := by decide +kernel
theorem dX3_allOnTheWay_20 : decode cX3_allOnTheWay 20 = .ok (.iload_n 2, 1) := by decide +kernel
theorem dX3_allOnTheWay_21 : decode cX3_allOnTheWay 21 = .ok (.invokevirtual 52, 3) := by decide +kernel
theorem dX3_allOnTheWay_24 : decode cX3_allOnTheWay 24 = .ok (.checkcast 62, 3) := by decide +kernel
theorem dX3_allOnTheWay_27 : decode cX3_allOnTheWay 27 = .ok (.getfield 193, 3) := by decide +kernel
theorem dX3_allOnTheWay_30 : decode cX3_allOnTheWay 30 = .ok (.iadd, 1) := by decide +kernel
theorem dX3_allOnTheWay_31 : decode cX3_allOnTheWay 31 = .ok (.istore_n 1, 1) := by decide +kernel
theorem dX3_allOnTheWay_32 : decode cX3_allOnTheWay 32 = .ok (.iinc 2 1, 3) := by decide +kernel
theorem dX3_allOnTheWay_35 : decode cX3_allOnTheWay 35 = .ok (.goto (-31), 3) := by decide +kernel
theorem dX3_allOnTheWay_38 : decode cX3_allOnTheWay 38 = .ok (.iconst 0, 1) := by decide +kernel
theorem dX3_allOnTheWay_39 : decode cX3_allOnTheWay 39 = .ok (.istore_n 2, 1) := by decide +kernel
theorem dX3_allOnTheWay_40 : decode cX3_allOnTheWay 40 = .ok (.iload_n 2, 1) := by decide +kernel
theorem dX3_allOnTheWay_41 : decode cX3_allOnTheWay 41 = .ok (.aload_n 0, 1) := by decide +kernel
theorem dX3_allOnTheWay_42 : decode cX3_allOnTheWay 42 = .ok (.getfield 21, 3) := by decide +kernel
theorem dX3_allOnTheWay_45 : decode cX3_allOnTheWay 45 = .ok (.invokevirtual 48, 3) := by decide +kernel
theorem dX3_allOnTheWay_48 : decode cX3_allOnTheWay 48 = .ok (.if_icmp .ge 26, 3) := by decide +kernel
theorem dX3_allOnTheWay_51 : decode cX3_allOnTheWay 51 = .ok (.iload_n 1, 1) := by decide +kernel
theorem dX3_allOnTheWay_52 : decode cX3_allOnTheWay 52 = .ok (.aload_n 0, 1) := by decide +kernel
theorem dX3_allOnTheWay_53 : decode cX3_allOnTheWay 53 = .ok (.getfield 21, 3) := by decide +kernel
theorem dX3_allOnTheWay_56 : decode cX3_allOnTheWay 56 = .ok (.iload_n 2, 1) := by decide +kernel
theorem dX3_allOnTheWay_57 : decode cX3_allOnTheWay 57 = .ok (.invokevirtual 52, 3) := by decide +kernel
theorem dX3_allOnTheWay_60 : decode cX3_allOnTheWay 60 = .ok (.checkcast 67, 3) := by decide +kernel
theorem dX3_allOnTheWay_63 : decode cX3_allOnTheWay 63 = .ok (.getfield 147, 3) := by decide +kernel
theorem dX3_allOnTheWay_66 : decode cX3_allOnTheWay 66 = .ok (.iadd, 1) := by decide +kernel
theorem dX3_allOnTheWay_67 : decode cX3_allOnTheWay 67 = .ok (.istore_n 1, 1) := by decide +kernel
theorem dX3_allOnTheWay_68 : decode cX3_allOnTheWay 68 = .ok (.iinc 2 1, 3) := by decide +kernel
theorem dX3_allOnTheWay_71 : decode cX3_allOnTheWay 71 = .ok (.goto (-31), 3) := by decide +kernel
theorem dX3_allOnTheWay_74 : decode cX3_allOnTheWay 74 = .ok (.iload_n 1, 1) := by decide +kernel
theorem dX3_allOnTheWay_75 : decode cX3_allOnTheWay 75 = .ok (.ireturn, 1) := by decide +kernel
theorem dX3_uncutAcres_0 : decode cX3_uncutAcres 0 = .ok (.iconst 0, 1) := by decide +kernel
theorem dX3_uncutAcres_1 : decode cX3_uncutAcres 1 = .ok (.istore_n 1, 1) := by decide +kernel
theorem dX3_uncutAcres_2 : decode cX3_uncutAcres 2 = .ok (.iconst 0, 1) := by decide +kernel
theorem dX3_uncutAcres_3 : decode cX3_uncutAcres 3 = .ok (.istore_n 2, 1) := by decide +kernel
theorem dX3_uncutAcres_4 : decode cX3_uncutAcres 4 = .ok (.iload_n 2, 1) := by decide +kernel
theorem dX3_uncutAcres_5 : decode cX3_uncutAcres 5 = .ok (.aload_n 0, 1) := by decide +kernel
theorem dX3_uncutAcres_6 : decode cX3_uncutAcres 6 = .ok (.getfield 12, 3) := by decide +kernel
theorem dX3_uncutAcres_9 : decode cX3_uncutAcres 9 = .ok (.invokevirtual 48, 3) := by decide +kernel
theorem dX3_uncutAcres_12 : decode cX3_uncutAcres 12 = .ok (.if_icmp .ge 26, 3) := by decide +kernel
theorem dX3_uncutAcres_15 : decode cX3_uncutAcres 15 = .ok (.iload_n 1, 1) := by decide +kernel
theorem dX3_uncutAcres_16 : decode cX3_uncutAcres 16 = .ok (.aload_n 0, 1) := by decide +kernel
theorem dX3_uncutAcres_17 : decode cX3_uncutAcres 17 = .ok (.getfield 12, 3) := by decide +kernel
theorem dX3_uncutAcres_20 : decode cX3_uncutAcres 20 = .ok (.iload_n 2, 1) := by decide +kernel
theorem dX3_uncutAcres_21 : decode cX3_uncutAcres 21 = .ok (.invokevirtual 52, 3) := by decide +kernel
theorem dX3_uncutAcres_24 : decode cX3_uncutAcres 24 = .ok (.checkcast 56, 3) := by decide +kernel
theorem dX3_uncutAcres_27 : decode cX3_uncutAcres 27 = .ok (.invokevirtual 199, 3) := by decide +kernel
theorem dX3_uncutAcres_30 : decode cX3_uncutAcres 30 = .ok (.iadd, 1) := by decide +kernel
theorem dX3_uncutAcres_31 : decode cX3_uncutAcres 31 = .ok (.istore_n 1, 1) := by decide +kernel
theorem dX3_uncutAcres_32 : decode cX3_uncutAcres 32 = .ok (.iinc 2 1, 3) := by decide +kernel
theorem dX3_uncutAcres_35 : decode cX3_uncutAcres 35 = .ok (.goto (-31), 3) := by decide +kernel
theorem dX3_uncutAcres_38 : decode cX3_uncutAcres 38 = .ok (.iload_n 1, 1) := by decide +kernel
theorem dX3_uncutAcres_39 : decode cX3_uncutAcres 39 = .ok (.ireturn, 1) := by decide +kernel
theorem dX3_brokenCombines_0 : decode cX3_brokenCombines 0 = .ok (.iconst 0, 1) := by decide +kernel
theorem dX3_brokenCombines_1 : decode cX3_brokenCombines 1 = .ok (.istore_n 1, 1) := by decide +kernel
theorem dX3_brokenCombines_2 : decode cX3_brokenCombines 2 = .ok (.iconst 0, 1) := by decide +kernel
theorem dX3_brokenCombines_3 : decode cX3_brokenCombines 3 = .ok (.istore_n 2, 1) := by decide +kernel
theorem dX3_brokenCombines_4 : decode cX3_brokenCombines 4 = .ok (.iload_n 2, 1) := by decide +kernel
theorem dX3_brokenCombines_5 : decode cX3_brokenCombines 5 = .ok (.aload_n 0, 1) := by decide +kernel
theorem dX3_brokenCombines_6 : decode cX3_brokenCombines 6 = .ok (.getfield 18, 3) := by decide +kernel
theorem dX3_brokenCombines_9 : decode cX3_brokenCombines 9 = .ok (.invokevirtual 48, 3) := by decide +kernel
theorem dX3_brokenCombines_12 : decode cX3_brokenCombines 12 = .ok (.if_icmp .ge 34, 3) := by decide +kernel
theorem dX3_brokenCombines_15 : decode cX3_brokenCombines 15 = .ok (.iload_n 1, 1) := by decide +kernel
theorem dX3_brokenCombines_16 : decode cX3_brokenCombines 16 = .ok (.aload_n 0, 1) := by decide +kernel
theorem dX3_brokenCombines_17 : decode cX3_brokenCombines 17 = .ok (.getfield 18, 3) := by decide +kernel
theorem dX3_brokenCombines_20 : decode cX3_brokenCombines 20 = .ok (.iload_n 2, 1) := by decide +kernel
theorem dX3_brokenCombines_21 : decode cX3_brokenCombines 21 = .ok (.invokevirtual 52, 3) := by decide +kernel
theorem dX3_brokenCombines_24 : decode cX3_brokenCombines 24 = .ok (.checkcast 62, 3) := by decide +kernel
theorem dX3_brokenCombines_27 : decode cX3_brokenCombines 27 = .ok (.getfield 202, 3) := by decide +kernel
theorem dX3_brokenCombines_30 : decode cX3_brokenCombines 30 = .ok (.ifCond .eq 7, 3) := by decide +kernel
theorem dX3_brokenCombines_33 : decode cX3_brokenCombines 33 = .ok (.iconst 1, 1) := by decide +kernel
theorem dX3_brokenCombines_34 : decode cX3_brokenCombines 34 = .ok (.goto 4, 3) := by decide +kernel
theorem dX3_brokenCombines_37 : decode cX3_brokenCombines 37 = .ok (.iconst 0, 1) := by decide +kernel
theorem dX3_brokenCombines_38 : decode cX3_brokenCombines 38 = .ok (.iadd, 1) := by decide +kernel
theorem dX3_brokenCombines_39 : decode cX3_brokenCombines 39 = .ok (.istore_n 1, 1) := by decide +kernel
theorem dX3_brokenCombines_40 : decode cX3_brokenCombines 40 = .ok (.iinc 2 1, 3) := by decide +kernel
theorem dX3_brokenCombines_43 : decode cX3_brokenCombines 43 = .ok (.goto (-39), 3) := by decide +kernel
theorem dX3_brokenCombines_46 : decode cX3_brokenCombines 46 = .ok (.iload_n 1, 1) := by decide +kernel
theorem dX3_brokenCombines_47 : decode cX3_brokenCombines 47 = .ok (.ireturn, 1) := by decide +kernel
theorem dX3_allRoom_0 : decode cX3_allRoom 0 = .ok (.iconst 0, 1) := by decide +kernel
theorem dX3_allRoom_1 : decode cX3_allRoom 1 = .ok (.istore_n 1, 1) := by decide +kernel
theorem dX3_allRoom_2 : decode cX3_allRoom 2 = .ok (.iconst 0, 1) := by decide +kernel
theorem dX3_allRoom_3 : decode cX3_allRoom 3 = .ok (.istore_n 2, 1) := by decide +kernel
theorem dX3_allRoom_4 : decode cX3_allRoom 4 = .ok (.iload_n 2, 1) := by decide +kernel
theorem dX3_allRoom_5 : decode cX3_allRoom 5 = .ok (.aload_n 0, 1) := by decide +kernel
theorem dX3_allRoom_6 : decode cX3_allRoom 6 = .ok (.getfield 24, 3) := by decide +kernel
theorem dX3_allRoom_9 : decode cX3_allRoom 9 = .ok (.invokevirtual 48, 3) := by decide +kernel
theorem dX3_allRoom_12 : decode cX3_allRoom 12 = .ok (.if_icmp .ge 26, 3) := by decide +kernel
theorem dX3_allRoom_15 : decode cX3_allRoom 15 = .ok (.iload_n 1, 1) := by decide +kernel
theorem dX3_allRoom_16 : decode cX3_allRoom 16 = .ok (.aload_n 0, 1) := by decide +kernel
theorem dX3_allRoom_17 : decode cX3_allRoom 17 = .ok (.getfield 24, 3) := by decide +kernel
theorem dX3_allRoom_20 : decode cX3_allRoom 20 = .ok (.iload_n 2, 1) := by decide +kernel
theorem dX3_allRoom_21 : decode cX3_allRoom 21 = .ok (.invokevirtual 52, 3) := by decide +kernel
theorem dX3_allRoom_24 : decode cX3_allRoom 24 = .ok (.checkcast 72, 3) := by decide +kernel
theorem dX3_allRoom_27 : decode cX3_allRoom 27 = .ok (.getfield 161, 3) := by decide +kernel
theorem dX3_allRoom_30 : decode cX3_allRoom 30 = .ok (.iadd, 1) := by decide +kernel
theorem dX3_allRoom_31 : decode cX3_allRoom 31 = .ok (.istore_n 1, 1) := by decide +kernel
theorem dX3_allRoom_32 : decode cX3_allRoom 32 = .ok (.iinc 2 1, 3) := by decide +kernel
theorem dX3_allRoom_35 : decode cX3_allRoom 35 = .ok (.goto (-31), 3) := by decide +kernel
theorem dX3_allRoom_38 : decode cX3_allRoom 38 = .ok (.iload_n 1, 1) := by decide +kernel
theorem dX3_allRoom_39 : decode cX3_allRoom 39 = .ok (.ireturn, 1) := by decide +kernel
theorem dX3_allIdle_0 : decode cX3_allIdle 0 = .ok (.iconst 0, 1) := by decide +kernel
theorem dX3_allIdle_1 : decode cX3_allIdle 1 = .ok (.istore_n 1, 1) := by decide +kernel
theorem dX3_allIdle_2 : decode cX3_allIdle 2 = .ok (.iconst 0, 1) := by decide +kernel
theorem dX3_allIdle_3 : decode cX3_allIdle 3 = .ok (.istore_n 2, 1) := by decide +kernel
theorem dX3_allIdle_4 : decode cX3_allIdle 4 = .ok (.iload_n 2, 1) := by decide +kernel
theorem dX3_allIdle_5 : decode cX3_allIdle 5 = .ok (.aload_n 0, 1) := by decide +kernel
theorem dX3_allIdle_6 : decode cX3_allIdle 6 = .ok (.getfield 18, 3) := by decide +kernel
theorem dX3_allIdle_9 : decode cX3_allIdle 9 = .ok (.invokevirtual 48, 3) := by decide +kernel
theorem dX3_allIdle_12 : decode cX3_allIdle 12 = .ok (.if_icmp .ge 26, 3) := by decide +kernel
theorem dX3_allIdle_15 : decode cX3_allIdle 15 = .ok (.iload_n 1, 1) := by decide +kernel
theorem dX3_allIdle_16 : decode cX3_allIdle 16 = .ok (.aload_n 0, 1) := by decide +kernel
theorem dX3_allIdle_17 : decode cX3_allIdle 17 = .ok (.getfield 18, 3) := by decide +kernel
theorem dX3_allIdle_20 : decode cX3_allIdle 20 = .ok (.iload_n 2, 1) := by decide +kernel
theorem dX3_allIdle_21 : decode cX3_allIdle 21 = .ok (.invokevirtual 52, 3) := by decide +kernel
theorem dX3_allIdle_24 : decode cX3_allIdle 24 = .ok (.checkcast 62, 3) := by decide +kernel
theorem dX3_allIdle_27 : decode cX3_allIdle 27 = .ok (.getfield 205, 3) := by decide +kernel
theorem dX3_allIdle_30 : decode cX3_allIdle 30 = .ok (.iadd, 1) := by decide +kernel
theorem dX3_allIdle_31 : decode cX3_allIdle 31 = .ok (.istore_n 1, 1) := by decide +kernel
theorem dX3_allIdle_32 : decode cX3_allIdle 32 = .ok (.iinc 2 1, 3) := by decide +kernel
theorem dX3_allIdle_35 : decode cX3_allIdle 35 = .ok (.goto (-31), 3) := by decide +kernel
theorem dX3_allIdle_38 : decode cX3_allIdle 38 = .ok (.iload_n 1, 1) := by decide +kernel
theorem dX3_allIdle_39 : decode cX3_allIdle 39 = .ok (.ireturn, 1) := by decide +kernel
theorem dX3_allQueued_0 : decode cX3_allQueued 0 = .ok (.iconst 0, 1) := by decide +kernel
theorem dX3_allQueued_1 : decode cX3_allQueued 1 = .ok (.istore_n 1, 1) := by decide +kernel
theorem dX3_allQueued_2 : decode cX3_allQueued 2 = .ok (.iconst 0, 1) := by decide +kernel
theorem dX3_allQueued_3 : decode cX3_allQueued 3 = .ok (.istore_n 2, 1) := by decide +kernel
theorem dX3_allQueued_4 : decode cX3_allQueued 4 = .ok (.iload_n 2, 1) := by decide +kernel
theorem dX3_allQueued_5 : decode cX3_allQueued 5 = .ok (.aload_n 0, 1) := by decide +kernel
theorem dX3_allQueued_6 : decode cX3_allQueued 6 = .ok (.getfield 21, 3) := by decide +kernel
theorem dX3_allQueued_9 : decode cX3_allQueued 9 = .ok (.invokevirtual 48, 3) := by decide +kernel
theorem dX3_allQueued_12 : decode cX3_allQueued 12 = .ok (.if_icmp .ge 26, 3) := by decide +kernel
theorem dX3_allQueued_15 : decode cX3_allQueued 15 = .ok (.iload_n 1, 1) := by decide +kernel
theorem dX3_allQueued_16 : decode cX3_allQueued 16 = .ok (.aload_n 0, 1) := by decide +kernel
theorem dX3_allQueued_17 : decode cX3_allQueued 17 = .ok (.getfield 21, 3) := by decide +kernel
theorem dX3_allQueued_20 : decode cX3_allQueued 20 = .ok (.iload_n 2, 1) := by decide +kernel
theorem dX3_allQueued_21 : decode cX3_allQueued 21 = .ok (.invokevirtual 52, 3) := by decide +kernel
theorem dX3_allQueued_24 : decode cX3_allQueued 24 = .ok (.checkcast 67, 3) := by decide +kernel
theorem dX3_allQueued_27 : decode cX3_allQueued 27 = .ok (.getfield 158, 3) := by decide +kernel
theorem dX3_allQueued_30 : decode cX3_allQueued 30 = .ok (.iadd, 1) := by decide +kernel
theorem dX3_allQueued_31 : decode cX3_allQueued 31 = .ok (.istore_n 1, 1) := by decide +kernel
theorem dX3_allQueued_32 : decode cX3_allQueued 32 = .ok (.iinc 2 1, 3) := by decide +kernel
theorem dX3_allQueued_35 : decode cX3_allQueued 35 = .ok (.goto (-31), 3) := by decide +kernel
theorem dX3_allQueued_38 : decode cX3_allQueued 38 = .ok (.iload_n 1, 1) := by decide +kernel
theorem dX3_allQueued_39 : decode cX3_allQueued 39 = .ok (.ireturn, 1) := by decide +kernel
theorem dX4_init_0 : decode cX4_init 0 = .ok (.aload_n 0, 1) := by decide +kernel
theorem dX4_init_1 : decode cX4_init 1 = .ok (.invokespecial 1, 3) := by decide +kernel
theorem dX4_init_4 : decode cX4_init 4 = .ok (.aload_n 0, 1) := by decide +kernel
theorem dX4_init_5 : decode cX4_init 5 = .ok (.aload_n 1, 1) := by decide +kernel
theorem dX4_init_6 : decode cX4_init 6 = .ok (.getfield 7, 3) := by decide +kernel
theorem dX4_init_9 : decode cX4_init 9 = .ok (.putfield 13, 3) := by decide +kernel
theorem dX4_init_12 : decode cX4_init 12 = .ok (.aload_n 0, 1) := by decide +kernel
theorem dX4_init_13 : decode cX4_init 13 = .ok (.aload_n 1, 1) := by decide +kernel
theorem dX4_init_14 : decode cX4_init 14 = .ok (.getfield 18, 3) := by decide +kernel
theorem dX4_init_17 : decode cX4_init 17 = .ok (.putfield 21, 3) := by decide +kernel
theorem dX4_init_20 : decode cX4_init 20 = .ok (.aload_n 0, 1) := by decide +kernel
theorem dX4_init_21 : decode cX4_init 21 = .ok (.aload_n 1, 1) := by decide +kernel
theorem dX4_init_22 : decode cX4_init 22 = .ok (.getfield 24, 3) := by decide +kernel
theorem dX4_init_25 : decode cX4_init 25 = .ok (.putfield 27, 3) := by decide +kernel
theorem dX4_init_28 : decode cX4_init 28 = .ok (.aload_n 0, 1) := by decide +kernel
theorem dX4_init_29 : decode cX4_init 29 = .ok (.iload_n 2, 1) := by decide +kernel
theorem dX4_init_30 : decode cX4_init 30 = .ok (.putfield 28, 3) := by decide +kernel
theorem dX4_init_33 : decode cX4_init 33 = .ok (.aload_n 0, 1) := by decide +kernel
theorem dX4_init_34 : decode cX4_init 34 = .ok (.aload_n 1, 1) := by decide +kernel
theorem dX4_init_35 : decode cX4_init 35 = .ok (.getfield 31, 3) := by decide +kernel
theorem dX4_init_38 : decode cX4_init 38 = .ok (.putfield 34, 3) := by decide +kernel
theorem dX4_init_41 : decode cX4_init 41 = .ok (.aload_n 0, 1) := by decide +kernel
theorem dX4_init_42 : decode cX4_init 42 = .ok (.iload_n 3, 1) := by decide +kernel
theorem dX4_init_43 : decode cX4_init 43 = .ok (.putfield 37, 3) := by decide +kernel
theorem dX4_init_46 : decode cX4_init 46 = .ok (.aload_n 0, 1) := by decide +kernel
theorem dX4_init_47 : decode cX4_init 47 = .ok (.aload_n 1, 1) := by decide +kernel
theorem dX4_init_48 : decode cX4_init 48 = .ok (.getfield 18, 3) := by decide +kernel
theorem dX4_init_51 : decode cX4_init 51 = .ok (.iload 4, 2) := by decide +kernel
theorem dX4_init_53 : decode cX4_init 53 = .ok (.imul, 1) := by decide +kernel
theorem dX4_init_54 : decode cX4_init 54 = .ok (.bipush 100, 2) := by decide +kernel
theorem dX4_init_56 : decode cX4_init 56 = .ok (.iload_n 2, 1) := by decide +kernel
theorem dX4_init_57 : decode cX4_init 57 = .ok (.isub, 1) := by decide +kernel
theorem dX4_init_58 : decode cX4_init 58 = .ok (.imul, 1) := by decide +kernel
theorem dX4_init_59 : decode cX4_init 59 = .ok (.sipush 10000, 3) := by decide +kernel
theorem dX4_init_62 : decode cX4_init 62 = .ok (.idiv, 1) := by decide +kernel
theorem dX4_init_63 : decode cX4_init 63 = .ok (.putfield 40, 3) := by decide +kernel
theorem dX4_init_66 : decode cX4_init 66 = .ok (.return_, 1) := by decide +kernel
theorem dX5_init_0 : decode cX5_init 0 = .ok (.aload_n 0, 1) := by decide +kernel
theorem dX5_init_1 : decode cX5_init 1 = .ok (.invokespecial 3, 3) := by decide +kernel
theorem dX5_init_4 : decode cX5_init 4 = .ok (.aload_n 0, 1) := by decide +kernel
theorem dX5_init_5 : decode cX5_init 5 = .ok (.iconst (-1), 1) := by decide +kernel
theorem dX5_init_6 : decode cX5_init 6 = .ok (.putfield 9, 3) := by decide +kernel
theorem dX5_init_9 : decode cX5_init 9 = .ok (.aload_n 0, 1) := by decide +kernel
theorem dX5_init_10 : decode cX5_init 10 = .ok (.iconst (-1), 1) := by decide +kernel
theorem dX5_init_11 : decode cX5_init 11 = .ok (.putfield 15, 3) := by decide +kernel
theorem dX5_init_14 : decode cX5_init 14 = .ok (.aload_n 0, 1) := by decide +kernel
theorem dX5_init_15 : decode cX5_init 15 = .ok (.iconst (-1), 1) := by decide +kernel
theorem dX5_init_16 : decode cX5_init 16 = .ok (.putfield 18, 3) := by decide +kernel
theorem dX5_init_19 : decode cX5_init 19 = .ok (.aload_n 0, 1) := by decide +kernel
theorem dX5_init_20 : decode cX5_init 20 = .ok (.iload_n 1, 1) := by decide +kernel
theorem dX5_init_21 : decode cX5_init 21 = .ok (.putfield 21, 3) := by decide +kernel
theorem dX5_init_24 : decode cX5_init 24 = .ok (.return_, 1) := by decide +kernel
theorem dX5_copyFrom_0 : decode cX5_copyFrom 0 = .ok (.aload_n 0, 1) := by decide +kernel
theorem dX5_copyFrom_1 : decode cX5_copyFrom 1 = .ok (.aload_n 1, 1) := by decide +kernel
theorem dX5_copyFrom_2 : decode cX5_copyFrom 2 = .ok (.getfield 21, 3) := by decide +kernel
theorem dX5_copyFrom_5 : decode cX5_copyFrom 5 = .ok (.putfield 21, 3) := by decide +kernel
theorem dX5_copyFrom_8 : decode cX5_copyFrom 8 = .ok (.aload_n 0, 1) := by decide +kernel
theorem dX5_copyFrom_9 : decode cX5_copyFrom 9 = .ok (.aload_n 1, 1) := by decide +kernel
theorem dX5_copyFrom_10 : decode cX5_copyFrom 10 = .ok (.getfield 24, 3) := by decide +kernel
theorem dX5_copyFrom_13 : decode cX5_copyFrom 13 = .ok (.putfield 24, 3) := by decide +kernel
theorem dX5_copyFrom_16 : decode cX5_copyFrom 16 = .ok (.aload_n 0, 1) := by decide +kernel
theorem dX5_copyFrom_17 : decode cX5_copyFrom 17 = .ok (.aload_n 1, 1) := by decide +kernel
theorem dX5_copyFrom_18 : decode cX5_copyFrom 18 = .ok (.getfield 27, 3) := by decide +kernel
theorem dX5_copyFrom_21 : decode cX5_copyFrom 21 = .ok (.putfield 27, 3) := by decide +kernel
theorem dX5_copyFrom_24 : decode cX5_copyFrom 24 = .ok (.aload_n 0, 1) := by decide +kernel
theorem dX5_copyFrom_25 : decode cX5_copyFrom 25 = .ok (.aload_n 1, 1) := by decide +kernel
theorem dX5_copyFrom_26 : decode cX5_copyFrom 26 = .ok (.getfield 9, 3) := by decide +kernel
theorem dX5_copyFrom_29 : decode cX5_copyFrom 29 = .ok (.putfield 9, 3) := by decide +kernel
theorem dX5_copyFrom_32 : decode cX5_copyFrom 32 = .ok (.aload_n 0, 1) := by decide +kernel
theorem dX5_copyFrom_33 : decode cX5_copyFrom 33 = .ok (.aload_n 1, 1) := by decide +kernel
theorem dX5_copyFrom_34 : decode cX5_copyFrom 34 = .ok (.getfield 30, 3) := by decide +kernel
theorem dX5_copyFrom_37 : decode cX5_copyFrom 37 = .ok (.putfield 30, 3) := by decide +kernel
theorem dX5_copyFrom_40 : decode cX5_copyFrom 40 = .ok (.aload_n 0, 1) := by decide +kernel
theorem dX5_copyFrom_41 : decode cX5_copyFrom 41 = .ok (.aload_n 1, 1) := by decide +kernel
theorem dX5_copyFrom_42 : decode cX5_copyFrom 42 = .ok (.getfield 33, 3) := by decide +kernel
theorem dX5_copyFrom_45 : decode cX5_copyFrom 45 = .ok (.putfield 33, 3) := by decide +kernel
theorem dX5_copyFrom_48 : decode cX5_copyFrom 48 = .ok (.aload_n 0, 1) := by decide +kernel
theorem dX5_copyFrom_49 : decode cX5_copyFrom 49 = .ok (.aload_n 1, 1) := by decide +kernel
theorem dX5_copyFrom_50 : decode cX5_copyFrom 50 = .ok (.getfield 36, 3) := by decide +kernel
theorem dX5_copyFrom_53 : decode cX5_copyFrom 53 = .ok (.putfield 36, 3) := by decide +kernel
theorem dX5_copyFrom_56 : decode cX5_copyFrom 56 = .ok (.aload_n 0, 1) := by decide +kernel
theorem dX5_copyFrom_57 : decode cX5_copyFrom 57 = .ok (.aload_n 1, 1) := by decide +kernel
theorem dX5_copyFrom_58 : decode cX5_copyFrom 58 = .ok (.getfield 15, 3) := by decide +kernel
theorem dX5_copyFrom_61 : decode cX5_copyFrom 61 = .ok (.putfield 15, 3) := by decide +kernel
theorem dX5_copyFrom_64 : decode cX5_copyFrom 64 = .ok (.aload_n 0, 1) := by decide +kernel
theorem dX5_copyFrom_65 : decode cX5_copyFrom 65 = .ok (.aload_n 1, 1) := by decide +kernel
theorem dX5_copyFrom_66 : decode cX5_copyFrom 66 = .ok (.getfield 18, 3) := by decide +kernel
theorem dX5_copyFrom_69 : decode cX5_copyFrom 69 = .ok (.putfield 18, 3) := by decide +kernel
theorem dX5_copyFrom_72 : decode cX5_copyFrom 72 = .ok (.aload_n 0, 1) := by decide +kernel
theorem dX5_copyFrom_73 : decode cX5_copyFrom 73 = .ok (.aload_n 1, 1) := by decide +kernel
theorem dX5_copyFrom_74 : decode cX5_copyFrom 74 = .ok (.getfield 39, 3) := by decide +kernel
theorem dX5_copyFrom_77 : decode cX5_copyFrom 77 = .ok (.putfield 39, 3) := by decide +kernel
theorem dX5_copyFrom_80 : decode cX5_copyFrom 80 = .ok (.return_, 1) := by decide +kernel
theorem dX5_mustRest_0 : decode cX5_mustRest 0 = .ok (.aload_n 0, 1) := by decide +kernel
theorem dX5_mustRest_1 : decode cX5_mustRest 1 = .ok (.getfield 15, 3) := by decide +kernel
theorem dX5_mustRest_4 : decode cX5_mustRest 4 = .ok (.iconst (-1), 1) := by decide +kernel
theorem dX5_mustRest_5 : decode cX5_mustRest 5 = .ok (.if_icmp .ne 11, 3) := by decide +kernel
theorem dX5_mustRest_8 : decode cX5_mustRest 8 = .ok (.aload_n 0, 1) := by decide +kernel
theorem dX5_mustRest_9 : decode cX5_mustRest 9 = .ok (.getfield 18, 3) := by decide +kernel
theorem dX5_mustRest_12 : decode cX5_mustRest 12 = .ok (.iconst (-1), 1) := by decide +kernel
theorem dX5_mustRest_13 : decode cX5_mustRest 13 = .ok (.if_icmp .eq 7, 3) := by decide +kernel
theorem dX5_mustRest_16 : decode cX5_mustRest 16 = .ok (.iconst 1, 1) := by decide +kernel
theorem dX5_mustRest_17 : decode cX5_mustRest 17 = .ok (.goto 4, 3) := by decide +kernel
theorem dX5_mustRest_20 : decode cX5_mustRest 20 = .ok (.iconst 0, 1) := by decide +kernel
theorem dX5_mustRest_21 : decode cX5_mustRest 21 = .ok (.istore_n 1, 1) := by decide +kernel
theorem dX5_mustRest_22 : decode cX5_mustRest 22 = .ok (.aload_n 0, 1) := by decide +kernel
theorem dX5_mustRest_23 : decode cX5_mustRest 23 = .ok (.getfield 24, 3) := by decide +kernel
theorem dX5_mustRest_26 : decode cX5_mustRest 26 = .ok (.bipush 10, 2) := by decide +kernel
theorem dX5_mustRest_28 : decode cX5_mustRest 28 = .ok (.if_icmp .ge 14, 3) := by decide +kernel
theorem dX5_mustRest_31 : decode cX5_mustRest 31 = .ok (.iload_n 1, 1) := by decide +kernel
theorem dX5_mustRest_32 : decode cX5_mustRest 32 = .ok (.ifCond .ne 14, 3) := by decide +kernel
theorem dX5_mustRest_35 : decode cX5_mustRest 35 = .ok (.aload_n 0, 1) := by decide +kernel
theorem dX5_mustRest_36 : decode cX5_mustRest 36 = .ok (.getfield 24, 3) := by decide +kernel
theorem dX5_mustRest_39 : decode cX5_mustRest 39 = .ok (.ifCond .le 7, 3) := by decide +kernel
theorem dX5_mustRest_42 : decode cX5_mustRest 42 = .ok (.iconst 1, 1) := by decide +kernel
theorem dX5_mustRest_43 : decode cX5_mustRest 43 = .ok (.goto 4, 3) := by decide +kernel
theorem dX5_mustRest_46 : decode cX5_mustRest 46 = .ok (.iconst 0, 1) := by decide +kernel
theorem dX5_mustRest_47 : decode cX5_mustRest 47 = .ok (.ireturn, 1) := by decide +kernel
theorem dX5_sleepHour_0 : decode cX5_sleepHour 0 = .ok (.aload_n 0, 1) := by decide +kernel
theorem dX5_sleepHour_1 : decode cX5_sleepHour 1 = .ok (.dup, 1) := by decide +kernel
theorem dX5_sleepHour_2 : decode cX5_sleepHour 2 = .ok (.getfield 33, 3) := by decide +kernel
theorem dX5_sleepHour_5 : decode cX5_sleepHour 5 = .ok (.iconst 1, 1) := by decide +kernel
theorem dX5_sleepHour_6 : decode cX5_sleepHour 6 = .ok (.iadd, 1) := by decide +kernel
theorem dX5_sleepHour_7 : decode cX5_sleepHour 7 = .ok (.putfield 33, 3) := by decide +kernel
theorem dX5_sleepHour_10 : decode cX5_sleepHour 10 = .ok (.aload_n 0, 1) := by decide +kernel
theorem dX5_sleepHour_11 : decode cX5_sleepHour 11 = .ok (.getfield 33, 3) := by decide +kernel
theorem dX5_sleepHour_14 : decode cX5_sleepHour 14 = .ok (.bipush 8, 2) := by decide +kernel
theorem dX5_sleepHour_16 : decode cX5_sleepHour 16 = .ok (.if_icmp .lt 13, 3) := by decide +kernel
theorem dX5_sleepHour_19 : decode cX5_sleepHour 19 = .ok (.aload_n 0, 1) := by decide +kernel
theorem dX5_sleepHour_20 : decode cX5_sleepHour 20 = .ok (.iconst 0, 1) := by decide +kernel
theorem dX5_sleepHour_21 : decode cX5_sleepHour 21 = .ok (.putfield 33, 3) := by decide +kernel
theorem dX5_sleepHour_24 : decode cX5_sleepHour 24 = .ok (.aload_n 0, 1) := by decide +kernel
theorem dX5_sleepHour_25 : decode cX5_sleepHour 25 = .ok (.iconst 0, 1) := by decide +kernel
theorem dX5_sleepHour_26 : decode cX5_sleepHour 26 = .ok (.putfield 24, 3) := by decide +kernel
theorem dX5_sleepHour_29 : decode cX5_sleepHour 29 = .ok (.return_, 1) := by decide +kernel
theorem dX5_drive_0 : decode cX5_drive 0 = .ok (.aload_n 0, 1) := by decide +kernel
theorem dX5_drive_1 : decode cX5_drive 1 = .ok (.getfield 21, 3) := by decide +kernel
theorem dX5_drive_4 : decode cX5_drive 4 = .ok (.iload_n 1, 1) := by decide +kernel
theorem dX5_drive_5 : decode cX5_drive 5 = .ok (.bipush 50, 2) := by decide +kernel
theorem dX5_drive_7 : decode cX5_drive 7 = .ok (.invokestatic 42, 3) := by decide +kernel
theorem dX5_drive_10 : decode cX5_drive 10 = .ok (.istore_n 2, 1) := by decide +kernel
theorem dX5_drive_11 : decode cX5_drive 11 = .ok (.aload_n 0, 1) := by decide +kernel
theorem dX5_drive_12 : decode cX5_drive 12 = .ok (.dup, 1) := by decide +kernel
theorem dX5_drive_13 : decode cX5_drive 13 = .ok (.getfield 39, 3) := by decide +kernel
theorem dX5_drive_16 : decode cX5_drive 16 = .ok (.iload_n 2, 1) := by decide +kernel
theorem dX5_drive_17 : decode cX5_drive 17 = .ok (.aload_n 0, 1) := by decide +kernel
theorem dX5_drive_18 : decode cX5_drive 18 = .ok (.getfield 21, 3) := by decide +kernel
theorem dX5_drive_21 : decode cX5_drive 21 = .ok (.isub, 1) := by decide +kernel
theorem dX5_drive_22 : decode cX5_drive 22 = .ok (.invokestatic 46, 3) := by decide +kernel
theorem dX5_drive_25 : decode cX5_drive 25 = .ok (.iadd, 1) := by decide +kernel
theorem dX5_drive_26 : decode cX5_drive 26 = .ok (.putfield 39, 3) := by decide +kernel
theorem dX5_drive_29 : decode cX5_drive 29 = .ok (.aload_n 0, 1) := by decide +kernel
theorem dX5_drive_30 : decode cX5_drive 30 = .ok (.iload_n 2, 1) := by decide +kernel
theorem dX5_drive_31 : decode cX5_drive 31 = .ok (.putfield 21, 3) := by decide +kernel
theorem dX5_drive_34 : decode cX5_drive 34 = .ok (.aload_n 0, 1) := by decide +kernel
theorem dX5_drive_35 : decode cX5_drive 35 = .ok (.dup, 1) := by decide +kernel
theorem dX5_drive_36 : decode cX5_drive 36 = .ok (.getfield 24, 3) := by decide +kernel
theorem dX5_drive_39 : decode cX5_drive 39 = .ok (.iconst 1, 1) := by decide +kernel
theorem dX5_drive_40 : decode cX5_drive 40 = .ok (.iadd, 1) := by decide +kernel
theorem dX5_drive_41 : decode cX5_drive 41 = .ok (.putfield 24, 3) := by decide +kernel
theorem dX5_drive_44 : decode cX5_drive 44 = .ok (.aload_n 0, 1) := by decide +kernel
theorem dX5_drive_45 : decode cX5_drive 45 = .ok (.iconst 0, 1) := by decide +kernel
theorem dX5_drive_46 : decode cX5_drive 46 = .ok (.putfield 33, 3) := by decide +kernel
theorem dX5_drive_49 : decode cX5_drive 49 = .ok (.return_, 1) := by decide +kernel
theorem dX5_takeFrom_0 : decode cX5_takeFrom 0 = .ok (.aload_n 0, 1) := by decide +kernel
theorem dX5_takeFrom_1 : decode cX5_takeFrom 1 = .ok (.getfield 27, 3) := by decide +kernel
theorem dX5_takeFrom_4 : decode cX5_takeFrom 4 = .ok (.ifCond .le 15, 3) := by decide +kernel
theorem dX5_takeFrom_7 : decode cX5_takeFrom 7 = .ok (.aload_n 0, 1) := by decide +kernel
theorem dX5_takeFrom_8 : decode cX5_takeFrom 8 = .ok (.getfield 9, 3) := by decide +kernel
theorem dX5_takeFrom_11 : decode cX5_takeFrom 11 = .ok (.aload_n 1, 1) := by decide +kernel
theorem dX5_takeFrom_12 : decode cX5_takeFrom 12 = .ok (.getfield 52, 3) := by decide +kernel
theorem dX5_takeFrom_15 : decode cX5_takeFrom 15 = .ok (.if_icmp .eq 4, 3) := by decide +kernel
theorem dX5_takeFrom_18 : decode cX5_takeFrom 18 = .ok (.return_, 1) := by decide +kernel
theorem dX5_takeFrom_19 : decode cX5_takeFrom 19 = .ok (.aload_n 1, 1) := by decide +kernel
theorem dX5_takeFrom_20 : decode cX5_takeFrom 20 = .ok (.getfield 57, 3) := by decide +kernel
theorem dX5_takeFrom_23 : decode cX5_takeFrom 23 = .ok (.sipush 800, 3) := by decide +kernel
theorem dX5_takeFrom_26 : decode cX5_takeFrom 26 = .ok (.aload_n 0, 1) := by decide +kernel
theorem dX5_takeFrom_27 : decode cX5_takeFrom 27 = .ok (.getfield 27, 3) := by decide +kernel
theorem dX5_takeFrom_30 : decode cX5_takeFrom 30 = .ok (.isub, 1) := by decide +kernel
theorem dX5_takeFrom_31 : decode cX5_takeFrom 31 = .ok (.invokestatic 60, 3) := by decide +kernel
theorem dX5_takeFrom_34 : decode cX5_takeFrom 34 = .ok (.istore_n 2, 1) := by decide +kernel
theorem dX5_takeFrom_35 : decode cX5_takeFrom 35 = .ok (.iload_n 2, 1) := by decide +kernel
theorem dX5_takeFrom_36 : decode cX5_takeFrom 36 = .ok (.ifCond .le 60, 3) := by decide +kernel
theorem dX5_takeFrom_39 : decode cX5_takeFrom 39 = .ok (.aload_n 0, 1) := by decide +kernel
theorem dX5_takeFrom_40 : decode cX5_takeFrom 40 = .ok (.aload_n 0, 1) := by decide +kernel
theorem dX5_takeFrom_41 : decode cX5_takeFrom 41 = .ok (.getfield 27, 3) := by decide +kernel
theorem dX5_takeFrom_44 : decode cX5_takeFrom 44 = .ok (.ifCond .le 17, 3) := by decide +kernel
theorem dX5_takeFrom_47 : decode cX5_takeFrom 47 = .ok (.aload_n 0, 1) := by decide +kernel
theorem dX5_takeFrom_48 : decode cX5_takeFrom 48 = .ok (.getfield 30, 3) := by decide +kernel
theorem dX5_takeFrom_51 : decode cX5_takeFrom 51 = .ok (.aload_n 1, 1) := by decide +kernel
theorem dX5_takeFrom_52 : decode cX5_takeFrom 52 = .ok (.getfield 64, 3) := by decide +kernel
theorem dX5_takeFrom_55 : decode cX5_takeFrom 55 = .ok (.invokestatic 67, 3) := by decide +kernel
theorem dX5_takeFrom_58 : decode cX5_takeFrom 58 = .ok (.goto 7, 3) := by decide +kernel
theorem dX5_takeFrom_61 : decode cX5_takeFrom 61 = .ok (.aload_n 1, 1) := by decide +kernel
theorem dX5_takeFrom_62 : decode cX5_takeFrom 62 = .ok (.getfield 64, 3) := by decide +kernel
theorem dX5_takeFrom_65 : decode cX5_takeFrom 65 = .ok (.putfield 30, 3) := by decide +kernel
theorem dX5_takeFrom_68 : decode cX5_takeFrom 68 = .ok (.aload_n 0, 1) := by decide +kernel
theorem dX5_takeFrom_69 : decode cX5_takeFrom 69 = .ok (.aload_n 1, 1) := by decide +kernel
theorem dX5_takeFrom_70 : decode cX5_takeFrom 70 = .ok (.getfield 52, 3) := by decide +kernel
theorem dX5_takeFrom_73 : decode cX5_takeFrom 73 = .ok (.putfield 9, 3) := by decide +kernel
theorem dX5_takeFrom_76 : decode cX5_takeFrom 76 = .ok (.aload_n 0, 1) := by decide +kernel
theorem dX5_takeFrom_77 : decode cX5_takeFrom 77 = .ok (.dup, 1) := by decide +kernel
theorem dX5_takeFrom_78 : decode cX5_takeFrom 78 = .ok (.getfield 27, 3) := by decide +kernel
theorem dX5_takeFrom_81 : decode cX5_takeFrom 81 = .ok (.iload_n 2, 1) := by decide +kernel
theorem dX5_takeFrom_82 : decode cX5_takeFrom 82 = .ok (.iadd, 1) := by decide +kernel
theorem dX5_takeFrom_83 : decode cX5_takeFrom 83 = .ok (.putfield 27, 3) := by decide +kernel
theorem dX5_takeFrom_86 : decode cX5_takeFrom 86 = .ok (.aload_n 1, 1) := by decide +kernel
theorem dX5_takeFrom_87 : decode cX5_takeFrom 87 = .ok (.dup, 1) := by decide +kernel
theorem dX5_takeFrom_88 : decode cX5_takeFrom 88 = .ok (.getfield 57, 3) := by decide +kernel
theorem dX5_takeFrom_91 : decode cX5_takeFrom 91 = .ok (.iload_n 2, 1) := by decide +kernel
theorem dX5_takeFrom_92 : decode cX5_takeFrom 92 = .ok (.isub, 1) := by decide +kernel
theorem dX5_takeFrom_93 : decode cX5_takeFrom 93 = .ok (.putfield 57, 3) := by decide +kernel
theorem dX5_takeFrom_96 : decode cX5_takeFrom 96 = .ok (.return_, 1) := by decide +kernel
theorem dX6_init_0 : decode cX6_init 0 = .ok (.aload_n 0, 1) := by decide +kernel
theorem dX6_init_1 : decode cX6_init 1 = .ok (.invokespecial 1, 3) := by decide +kernel
theorem dX6_init_4 : decode cX6_init 4 = .ok (.aload_n 0, 1) := by decide +kernel
theorem dX6_init_5 : decode cX6_init 5 = .ok (.new 7, 3) := by decide +kernel
theorem dX6_init_8 : decode cX6_init 8 = .ok (.dup, 1) := by decide +kernel
theorem dX6_init_9 : decode cX6_init 9 = .ok (.iconst 0, 1) := by decide +kernel
theorem dX6_init_10 : decode cX6_init 10 = .ok (.invokespecial 9, 3) := by decide +kernel
theorem dX6_init_13 : decode cX6_init 13 = .ok (.putfield 12, 3) := by decide +kernel
theorem dX6_init_16 : decode cX6_init 16 = .ok (.aload_n 0, 1) := by decide +kernel
theorem dX6_init_17 : decode cX6_init 17 = .ok (.new 7, 3) := by decide +kernel
theorem dX6_init_20 : decode cX6_init 20 = .ok (.dup, 1) := by decide +kernel
theorem dX6_init_21 : decode cX6_init 21 = .ok (.iconst 1, 1) := by decide +kernel
theorem dX6_init_22 : decode cX6_init 22 = .ok (.invokespecial 9, 3) := by decide +kernel
theorem dX6_init_25 : decode cX6_init 25 = .ok (.putfield 18, 3) := by decide +kernel
theorem dX6_init_28 : decode cX6_init 28 = .ok (.aload_n 0, 1) := by decide +kernel
theorem dX6_init_29 : decode cX6_init 29 = .ok (.new 21, 3) := by decide +kernel
theorem dX6_init_32 : decode cX6_init 32 = .ok (.dup, 1) := by decide +kernel
theorem dX6_init_33 : decode cX6_init 33 = .ok (.iconst 0, 1) := by decide +kernel
theorem dX6_init_34 : decode cX6_init 34 = .ok (.iconst 0, 1) := by decide +kernel
theorem dX6_init_35 : decode cX6_init 35 = .ok (.iconst 0, 1) := by decide +kernel
theorem dX6_init_36 : decode cX6_init 36 = .ok (.iconst 0, 1) := by decide +kernel
theorem dX6_init_37 : decode cX6_init 37 = .ok (.iconst 0, 1) := by decide +kernel
theorem dX6_init_38 : decode cX6_init 38 = .ok (.invokespecial 23, 3) := by decide +kernel
theorem dX6_init_41 : decode cX6_init 41 = .ok (.putfield 26, 3) := by decide +kernel
theorem dX6_init_44 : decode cX6_init 44 = .ok (.return_, 1) := by decide +kernel
theorem dX6_field_0 : decode cX6_field 0 = .ok (.iload_n 1, 1) := by decide +kernel
theorem dX6_field_1 : decode cX6_field 1 = .ok (.iconst 0, 1) := by decide +kernel
theorem dX6_field_2 : decode cX6_field 2 = .ok (.iconst 3, 1) := by decide +kernel
theorem dX6_field_3 : decode cX6_field 3 = .ok (.invokestatic 30, 3) := by decide +kernel
theorem dX6_field_6 : decode cX6_field 6 = .ok (.ifCond .eq 13, 3) := by decide +kernel
theorem dX6_field_9 : decode cX6_field 9 = .ok (.new 34, 3) := by decide +kernel
theorem dX6_field_12 : decode cX6_field 12 = .ok (.dup, 1) := by decide +kernel
theorem dX6_field_13 : decode cX6_field 13 = .ok (.ldc 36, 2) := by decide +kernel
theorem dX6_field_15 : decode cX6_field 15 = .ok (.invokespecial 38, 3) := by decide +kernel
theorem dX6_field_18 : decode cX6_field 18 = .ok (.athrow, 1) := by decide +kernel
theorem dX6_field_19 : decode cX6_field 19 = .ok (.iload_n 2, 1) := by decide +kernel
theorem dX6_field_20 : decode cX6_field 20 = .ok (.iconst 0, 1) := by decide +kernel
theorem dX6_field_21 : decode cX6_field 21 = .ok (.sipush 300, 3) := by decide +kernel
theorem dX6_field_24 : decode cX6_field 24 = .ok (.invokestatic 30, 3) := by decide +kernel
theorem dX6_field_27 : decode cX6_field 27 = .ok (.ifCond .ne 37, 3) := by decide +kernel
theorem dX6_field_30 : decode cX6_field 30 = .ok (.iload_n 3, 1) := by decide +kernel
theorem dX6_field_31 : decode cX6_field 31 = .ok (.iconst 1, 1) := by decide +kernel
theorem dX6_field_32 : decode cX6_field 32 = .ok (.sipush 200, 3) := by decide +kernel
theorem dX6_field_35 : decode cX6_field 35 = .ok (.invokestatic 30, 3) := by decide +kernel
theorem dX6_field_38 : decode cX6_field 38 = .ok (.ifCond .ne 26, 3) := by decide +kernel
theorem dX6_field_41 : decode cX6_field 41 = .ok (.iload 4, 2) := by decide +kernel
theorem dX6_field_43 : decode cX6_field 43 = .ok (.bipush 10, 2) := by decide +kernel
theorem dX6_field_45 : decode cX6_field 45 = .ok (.bipush 90, 2) := by decide +kernel
theorem dX6_field_47 : decode cX6_field 47 = .ok (.invokestatic 30, 3) := by decide +kernel
theorem dX6_field_50 : decode cX6_field 50 = .ok (.ifCond .ne 14, 3) := by decide +kernel
theorem dX6_field_53 : decode cX6_field 53 = .ok (.iload 5, 2) := by decide +kernel
theorem dX6_field_55 : decode cX6_field 55 = .ok (.iconst 0, 1) := by decide +kernel
theorem dX6_field_56 : decode cX6_field 56 = .ok (.bipush 50, 2) := by decide +kernel
theorem dX6_field_58 : decode cX6_field 58 = .ok (.invokestatic 30, 3) := by decide +kernel
theorem dX6_field_61 : decode cX6_field 61 = .ok (.ifCond .eq 13, 3) := by decide +kernel
theorem dX6_field_64 : decode cX6_field 64 = .ok (.new 41, 3) := by decide +kernel
theorem dX6_field_67 : decode cX6_field 67 = .ok (.dup, 1) := by decide +kernel
theorem dX6_field_68 : decode cX6_field 68 = .ok (.ldc 43, 2) := by decide +kernel
theorem dX6_field_70 : decode cX6_field 70 = .ok (.invokespecial 45, 3) := by decide +kernel
theorem dX6_field_73 : decode cX6_field 73 = .ok (.athrow, 1) := by decide +kernel
theorem dX6_field_74 : decode cX6_field 74 = .ok (.aload_n 0, 1) := by decide +kernel
theorem dX6_field_75 : decode cX6_field 75 = .ok (.getfield 12, 3) := by decide +kernel
theorem dX6_field_78 : decode cX6_field 78 = .ok (.getfield 46, 3) := by decide +kernel
theorem dX6_field_81 : decode cX6_field 81 = .ok (.invokevirtual 50, 3) := by decide +kernel
theorem dX6_field_84 : decode cX6_field 84 = .ok (.bipush 8, 2) := by decide +kernel
theorem dX6_field_86 : decode cX6_field 86 = .ok (.if_icmp .lt 13, 3) := by decide +kernel
theorem dX6_field_89 : decode cX6_field 89 = .ok (.new 56, 3) := by decide +kernel
theorem dX6_field_92 : decode cX6_field 92 = .ok (.dup, 1) := by decide +kernel
theorem dX6_field_93 : decode cX6_field 93 = .ok (.ldc 58, 2) := by decide +kernel
theorem dX6_field_95 : decode cX6_field 95 = .ok (.invokespecial 60, 3) := by decide +kernel
theorem dX6_field_98 : decode cX6_field 98 = .ok (.athrow, 1) := by decide +kernel
theorem dX6_field_99 : decode cX6_field 99 = .ok (.aload_n 0, 1) := by decide +kernel
theorem dX6_field_100 : decode cX6_field 100 = .ok (.getfield 12, 3) := by decide +kernel
theorem dX6_field_103 : decode cX6_field 103 = .ok (.getfield 46, 3) := by decide +kernel
theorem dX6_field_106 : decode cX6_field 106 = .ok (.new 21, 3) := by decide +kernel
theorem dX6_field_109 : decode cX6_field 109 = .ok (.dup, 1) := by decide +kernel
theorem dX6_field_110 : decode cX6_field 110 = .ok (.iload_n 1, 1) := by decide +kernel
theorem dX6_field_111 : decode cX6_field 111 = .ok (.iload_n 2, 1) := by decide +kernel
theorem dX6_field_112 : decode cX6_field 112 = .ok (.iload_n 3, 1) := by decide +kernel
theorem dX6_field_113 : decode cX6_field 113 = .ok (.iload 4, 2) := by decide +kernel
theorem dX6_field_115 : decode cX6_field 115 = .ok (.iload 5, 2) := by decide +kernel
theorem dX6_field_117 : decode cX6_field 117 = .ok (.invokespecial 23, 3) := by decide +kernel
theorem dX6_field_120 : decode cX6_field 120 = .ok (.invokevirtual 61, 3) := by decide +kernel
theorem dX6_field_123 : decode cX6_field 123 = .ok (.pop, 1) := by decide +kernel
theorem dX6_field_124 : decode cX6_field 124 = .ok (.aload_n 0, 1) := by decide +kernel
theorem dX6_field_125 : decode cX6_field 125 = .ok (.getfield 12, 3) := by decide +kernel
theorem dX6_field_128 : decode cX6_field 128 = .ok (.getfield 46, 3) := by decide +kernel
theorem dX6_field_131 : decode cX6_field 131 = .ok (.invokevirtual 50, 3) := by decide +kernel
theorem dX6_field_134 : decode cX6_field 134 = .ok (.iconst 1, 1) := by decide +kernel
theorem dX6_field_135 : decode cX6_field 135 = .ok (.isub, 1) := by decide +kernel
theorem dX6_field_136 : decode cX6_field 136 = .ok (.ireturn, 1) := by decide +kernel
theorem dX6_crop_0 : decode cX6_crop 0 = .ok (.aload_n 0, 1) := by decide +kernel
theorem dX6_crop_1 : decode cX6_crop 1 = .ok (.getfield 12, 3) := by decide +kernel
theorem dX6_crop_4 : decode cX6_crop 4 = .ok (.iload_n 1, 1) := by decide +kernel
theorem dX6_crop_5 : decode cX6_crop 5 = .ok (.invokevirtual 65, 3) := by decide +kernel
theorem dX6_crop_8 : decode cX6_crop 8 = .ok (.astore 4, 2) := by decide +kernel
theorem dX6_crop_10 : decode cX6_crop 10 = .ok (.aload 4, 2) := by decide +kernel
theorem dX6_crop_12 : decode cX6_crop 12 = .ok (.ifnonnull 13, 3) := by decide +kernel
theorem dX6_crop_15 : decode cX6_crop 15 = .ok (.new 34, 3) := by decide +kernel
theorem dX6_crop_18 : decode cX6_crop 18 = .ok (.dup, 1) := by decide +kernel
theorem dX6_crop_19 : decode cX6_crop 19 = .ok (.ldc 69, 2) := by decide +kernel
theorem dX6_crop_21 : decode cX6_crop 21 = .ok (.invokespecial 38, 3) := by decide +kernel
theorem dX6_crop_24 : decode cX6_crop 24 = .ok (.athrow, 1) := by decide +kernel
theorem dX6_crop_25 : decode cX6_crop 25 = .ok (.iload_n 2, 1) := by decide +kernel
theorem dX6_crop_26 : decode cX6_crop 26 = .ok (.iconst 0, 1) := by decide +kernel
theorem dX6_crop_27 : decode cX6_crop 27 = .ok (.bipush 100, 2) := by decide +kernel
theorem dX6_crop_29 : decode cX6_crop 29 = .ok (.invokestatic 30, 3) := by decide +kernel
theorem dX6_crop_32 : decode cX6_crop 32 = .ok (.ifCond .ne 13, 3) := by decide +kernel
theorem dX6_crop_35 : decode cX6_crop 35 = .ok (.iload_n 3, 1) := by decide +kernel
theorem dX6_crop_36 : decode cX6_crop 36 = .ok (.iconst 5, 1) := by decide +kernel
theorem dX6_crop_37 : decode cX6_crop 37 = .ok (.bipush 40, 2) := by decide +kernel
theorem dX6_crop_39 : decode cX6_crop 39 = .ok (.invokestatic 30, 3) := by decide +kernel
theorem dX6_crop_42 : decode cX6_crop 42 = .ok (.ifCond .eq 13, 3) := by decide +kernel
theorem dX6_crop_45 : decode cX6_crop 45 = .ok (.new 41, 3) := by decide +kernel
theorem dX6_crop_48 : decode cX6_crop 48 = .ok (.dup, 1) := by decide +kernel
theorem dX6_crop_49 : decode cX6_crop 49 = .ok (.ldc 71, 2) := by decide +kernel
theorem dX6_crop_51 : decode cX6_crop 51 = .ok (.invokespecial 45, 3) := by decide +kernel
theorem dX6_crop_54 : decode cX6_crop 54 = .ok (.athrow, 1) := by decide +kernel
theorem dX6_crop_55 : decode cX6_crop 55 = .ok (.aload 4, 2) := by decide +kernel
theorem dX6_crop_57 : decode cX6_crop 57 = .ok (.getfield 73, 3) := by decide +kernel
theorem dX6_crop_60 : decode cX6_crop 60 = .ok (.istore 5, 2) := by decide +kernel
theorem dX6_crop_62 : decode cX6_crop 62 = .ok (.aload 4, 2) := by decide +kernel
theorem dX6_crop_64 : decode cX6_crop 64 = .ok (.iload_n 2, 1) := by decide +kernel
theorem dX6_crop_65 : decode cX6_crop 65 = .ok (.putfield 73, 3) := by decide +kernel
theorem dX6_crop_68 : decode cX6_crop 68 = .ok (.aload 4, 2) := by decide +kernel
theorem dX6_crop_70 : decode cX6_crop 70 = .ok (.iload_n 3, 1) := by decide +kernel
theorem dX6_crop_71 : decode cX6_crop 71 = .ok (.putfield 77, 3) := by decide +kernel
theorem dX6_crop_74 : decode cX6_crop 74 = .ok (.iload 5, 2) := by decide +kernel
theorem dX6_crop_76 : decode cX6_crop 76 = .ok (.ireturn, 1) := by decide +kernel
theorem dX6_combine_0 : decode cX6_combine 0 = .ok (.iload_n 1, 1) := by decide +kernel
theorem dX6_combine_1 : decode cX6_combine 1 = .ok (.iconst 0, 1) := by decide +kernel
theorem dX6_combine_2 : decode cX6_combine 2 = .ok (.sipush 300, 3) := by decide +kernel
theorem dX6_combine_5 : decode cX6_combine 5 = .ok (.invokestatic 30, 3) := by decide +kernel
theorem dX6_combine_8 : decode cX6_combine 8 = .ok (.ifCond .ne 13, 3) := by decide +kernel
theorem dX6_combine_11 : decode cX6_combine 11 = .ok (.iload_n 2, 1) := by decide +kernel
theorem dX6_combine_12 : decode cX6_combine 12 = .ok (.iconst 1, 1) := by decide +kernel
theorem dX6_combine_13 : decode cX6_combine 13 = .ok (.bipush 20, 2) := by decide +kernel
theorem dX6_combine_15 : decode cX6_combine 15 = .ok (.invokestatic 30, 3) := by decide +kernel
theorem dX6_combine_18 : decode cX6_combine 18 = .ok (.ifCond .eq 13, 3) := by decide +kernel
theorem dX6_combine_21 : decode cX6_combine 21 = .ok (.new 41, 3) := by decide +kernel
theorem dX6_combine_24 : decode cX6_combine 24 = .ok (.dup, 1) := by decide +kernel
theorem dX6_combine_25 : decode cX6_combine 25 = .ok (.ldc 80, 2) := by decide +kernel
theorem dX6_combine_27 : decode cX6_combine 27 = .ok (.invokespecial 45, 3) := by decide +kernel
theorem dX6_combine_30 : decode cX6_combine 30 = .ok (.athrow, 1) := by decide +kernel
theorem dX6_combine_31 : decode cX6_combine 31 = .ok (.aload_n 0, 1) := by decide +kernel
theorem dX6_combine_32 : decode cX6_combine 32 = .ok (.getfield 12, 3) := by decide +kernel
theorem dX6_combine_35 : decode cX6_combine 35 = .ok (.getfield 82, 3) := by decide +kernel
theorem dX6_combine_38 : decode cX6_combine 38 = .ok (.invokevirtual 50, 3) := by decide +kernel
theorem dX6_combine_41 : decode cX6_combine 41 = .ok (.iconst 4, 1) := by decide +kernel
theorem dX6_combine_42 : decode cX6_combine 42 = .ok (.if_icmp .lt 13, 3) := by decide +kernel
theorem dX6_combine_45 : decode cX6_combine 45 = .ok (.new 56, 3) := by decide +kernel
theorem dX6_combine_48 : decode cX6_combine 48 = .ok (.dup, 1) := by decide +kernel
theorem dX6_combine_49 : decode cX6_combine 49 = .ok (.ldc 85, 2) := by decide +kernel
theorem dX6_combine_51 : decode cX6_combine 51 = .ok (.invokespecial 60, 3) := by decide +kernel
theorem dX6_combine_54 : decode cX6_combine 54 = .ok (.athrow, 1) := by decide +kernel
theorem dX6_combine_55 : decode cX6_combine 55 = .ok (.aload_n 0, 1) := by decide +kernel
theorem dX6_combine_56 : decode cX6_combine 56 = .ok (.getfield 12, 3) := by decide +kernel
theorem dX6_combine_59 : decode cX6_combine 59 = .ok (.getfield 82, 3) := by decide +kernel
theorem dX6_combine_62 : decode cX6_combine 62 = .ok (.new 87, 3) := by decide +kernel
theorem dX6_combine_65 : decode cX6_combine 65 = .ok (.dup, 1) := by decide +kernel
theorem dX6_combine_66 : decode cX6_combine 66 = .ok (.aload_n 0, 1) := by decide +kernel
theorem dX6_combine_67 : decode cX6_combine 67 = .ok (.getfield 12, 3) := by decide +kernel
theorem dX6_combine_70 : decode cX6_combine 70 = .ok (.getfield 82, 3) := by decide +kernel
theorem dX6_combine_73 : decode cX6_combine 73 = .ok (.invokevirtual 50, 3) := by decide +kernel
theorem dX6_combine_76 : decode cX6_combine 76 = .ok (.iload_n 1, 1) := by decide +kernel
theorem dX6_combine_77 : decode cX6_combine 77 = .ok (.iload_n 2, 1) := by decide +kernel
theorem dX6_combine_78 : decode cX6_combine 78 = .ok (.invokespecial 89, 3) := by decide +kernel
theorem dX6_combine_81 : decode cX6_combine 81 = .ok (.invokevirtual 61, 3) := by decide +kernel
theorem dX6_combine_84 : decode cX6_combine 84 = .ok (.pop, 1) := by decide +kernel
theorem dX6_combine_85 : decode cX6_combine 85 = .ok (.aload_n 0, 1) := by decide +kernel
theorem dX6_combine_86 : decode cX6_combine 86 = .ok (.getfield 12, 3) := by decide +kernel
theorem dX6_combine_89 : decode cX6_combine 89 = .ok (.getfield 82, 3) := by decide +kernel
theorem dX6_combine_92 : decode cX6_combine 92 = .ok (.invokevirtual 50, 3) := by decide +kernel
theorem dX6_combine_95 : decode cX6_combine 95 = .ok (.iconst 1, 1) := by decide +kernel
theorem dX6_combine_96 : decode cX6_combine 96 = .ok (.isub, 1) := by decide +kernel
theorem dX6_combine_97 : decode cX6_combine 97 = .ok (.ireturn, 1) := by decide +kernel
theorem dX6_truck_0 : decode cX6_truck 0 = .ok (.iload_n 1, 1) := by decide +kernel
theorem dX6_truck_1 : decode cX6_truck 1 = .ok (.iconst 0, 1) := by decide +kernel
theorem dX6_truck_2 : decode cX6_truck 2 = .ok (.sipush 300, 3) := by decide +kernel
theorem dX6_truck_5 : decode cX6_truck 5 = .ok (.invokestatic 30, 3) := by decide +kernel
theorem dX6_truck_8 : decode cX6_truck 8 = .ok (.ifCond .eq 13, 3) := by decide +kernel
theorem dX6_truck_11 : decode cX6_truck 11 = .ok (.new 41, 3) := by decide +kernel
theorem dX6_truck_14 : decode cX6_truck 14 = .ok (.dup, 1) := by decide +kernel
theorem dX6_truck_15 : decode cX6_truck 15 = .ok (.ldc 92, 2) := by decide +kernel
theorem dX6_truck_17 : decode cX6_truck 17 = .ok (.invokespecial 45, 3) := by decide +kernel
theorem dX6_truck_20 : decode cX6_truck 20 = .ok (.athrow, 1) := by decide +kernel
theorem dX6_truck_21 : decode cX6_truck 21 = .ok (.aload_n 0, 1) := by decide +kernel
theorem dX6_truck_22 : decode cX6_truck 22 = .ok (.getfield 12, 3) := by decide +kernel
theorem dX6_truck_25 : decode cX6_truck 25 = .ok (.getfield 94, 3) := by decide +kernel
theorem dX6_truck_28 : decode cX6_truck 28 = .ok (.invokevirtual 50, 3) := by decide +kernel
theorem dX6_truck_31 : decode cX6_truck 31 = .ok (.iconst 4, 1) := by decide +kernel
theorem dX6_truck_32 : decode cX6_truck 32 = .ok (.if_icmp .lt 13, 3) := by decide +kernel
theorem dX6_truck_35 : decode cX6_truck 35 = .ok (.new 56, 3) := by decide +kernel
theorem dX6_truck_38 : decode cX6_truck 38 = .ok (.dup, 1) := by decide +kernel
theorem dX6_truck_39 : decode cX6_truck 39 = .ok (.ldc 97, 2) := by decide +kernel
theorem dX6_truck_41 : decode cX6_truck 41 = .ok (.invokespecial 60, 3) := by decide +kernel
theorem dX6_truck_44 : decode cX6_truck 44 = .ok (.athrow, 1) := by decide +kernel
theorem dX6_truck_45 : decode cX6_truck 45 = .ok (.aload_n 0, 1) := by decide +kernel
theorem dX6_truck_46 : decode cX6_truck 46 = .ok (.getfield 12, 3) := by decide +kernel
theorem dX6_truck_49 : decode cX6_truck 49 = .ok (.getfield 94, 3) := by decide +kernel
theorem dX6_truck_52 : decode cX6_truck 52 = .ok (.new 99, 3) := by decide +kernel
theorem dX6_truck_55 : decode cX6_truck 55 = .ok (.dup, 1) := by decide +kernel
theorem dX6_truck_56 : decode cX6_truck 56 = .ok (.iload_n 1, 1) := by decide +kernel
theorem dX6_truck_57 : decode cX6_truck 57 = .ok (.invokespecial 101, 3) := by decide +kernel
theorem dX6_truck_60 : decode cX6_truck 60 = .ok (.invokevirtual 61, 3) := by decide +kernel
theorem dX6_truck_63 : decode cX6_truck 63 = .ok (.pop, 1) := by decide +kernel
theorem dX6_truck_64 : decode cX6_truck 64 = .ok (.aload_n 0, 1) := by decide +kernel
theorem dX6_truck_65 : decode cX6_truck 65 = .ok (.getfield 12, 3) := by decide +kernel
theorem dX6_truck_68 : decode cX6_truck 68 = .ok (.getfield 94, 3) := by decide +kernel
theorem dX6_truck_71 : decode cX6_truck 71 = .ok (.invokevirtual 50, 3) := by decide +kernel
theorem dX6_truck_74 : decode cX6_truck 74 = .ok (.iconst 1, 1) := by decide +kernel
theorem dX6_truck_75 : decode cX6_truck 75 = .ok (.isub, 1) := by decide +kernel
theorem dX6_truck_76 : decode cX6_truck 76 = .ok (.ireturn, 1) := by decide +kernel
theorem dX6_elevator_0 : decode cX6_elevator 0 = .ok (.iload_n 1, 1) := by decide +kernel
theorem dX6_elevator_1 : decode cX6_elevator 1 = .ok (.iconst 0, 1) := by decide +kernel
theorem dX6_elevator_2 : decode cX6_elevator 2 = .ok (.sipush 300, 3) := by decide +kernel
theorem dX6_elevator_5 : decode cX6_elevator 5 = .ok (.invokestatic 30, 3) := by decide +kernel
theorem dX6_elevator_8 : decode cX6_elevator 8 = .ok (.ifCond .ne 14, 3) := by decide +kernel
theorem dX6_elevator_11 : decode cX6_elevator 11 = .ok (.iload_n 2, 1) := by decide +kernel
theorem dX6_elevator_12 : decode cX6_elevator 12 = .ok (.iconst 0, 1) := by decide +kernel
theorem dX6_elevator_13 : decode cX6_elevator 13 = .ok (.sipush 9999, 3) := by decide +kernel
theorem dX6_elevator_16 : decode cX6_elevator 16 = .ok (.invokestatic 30, 3) := by decide +kernel
theorem dX6_elevator_19 : decode cX6_elevator 19 = .ok (.ifCond .eq 13, 3) := by decide +kernel
theorem dX6_elevator_22 : decode cX6_elevator 22 = .ok (.new 41, 3) := by decide +kernel
theorem dX6_elevator_25 : decode cX6_elevator 25 = .ok (.dup, 1) := by decide +kernel
theorem dX6_elevator_26 : decode cX6_elevator 26 = .ok (.ldc 104, 2) := by decide +kernel
theorem dX6_elevator_28 : decode cX6_elevator 28 = .ok (.invokespecial 45, 3) := by decide +kernel
theorem dX6_elevator_31 : decode cX6_elevator 31 = .ok (.athrow, 1) := by decide +kernel
theorem dX6_elevator_32 : decode cX6_elevator 32 = .ok (.iload_n 3, 1) := by decide +kernel
theorem dX6_elevator_33 : decode cX6_elevator 33 = .ok (.iconst 0, 1) := by decide +kernel
theorem dX6_elevator_34 : decode cX6_elevator 34 = .ok (.bipush 23, 2) := by decide +kernel
theorem dX6_elevator_36 : decode cX6_elevator 36 = .ok (.invokestatic 30, 3) := by decide +kernel
theorem dX6_elevator_39 : decode cX6_elevator 39 = .ok (.ifCond .ne 20, 3) := by decide +kernel
theorem dX6_elevator_42 : decode cX6_elevator 42 = .ok (.iload 4, 2) := by decide +kernel
theorem dX6_elevator_44 : decode cX6_elevator 44 = .ok (.iconst 0, 1) := by decide +kernel
theorem dX6_elevator_45 : decode cX6_elevator 45 = .ok (.bipush 23, 2) := by decide +kernel
theorem dX6_elevator_47 : decode cX6_elevator 47 = .ok (.invokestatic 30, 3) := by decide +kernel
theorem dX6_elevator_50 : decode cX6_elevator 50 = .ok (.ifCond .ne 9, 3) := by decide +kernel
theorem dX6_elevator_53 : decode cX6_elevator 53 = .ok (.iload_n 3, 1) := by decide +kernel
theorem dX6_elevator_54 : decode cX6_elevator 54 = .ok (.iload 4, 2) := by decide +kernel
theorem dX6_elevator_56 : decode cX6_elevator 56 = .ok (.if_icmp .ne 13, 3) := by decide +kernel
theorem dX6_elevator_59 : decode cX6_elevator 59 = .ok (.new 41, 3) := by decide +kernel
theorem dX6_elevator_62 : decode cX6_elevator 62 = .ok (.dup, 1) := by decide +kernel
theorem dX6_elevator_63 : decode cX6_elevator 63 = .ok (.ldc 106, 2) := by decide +kernel
theorem dX6_elevator_65 : decode cX6_elevator 65 = .ok (.invokespecial 45, 3) := by decide +kernel
theorem dX6_elevator_68 : decode cX6_elevator 68 = .ok (.athrow, 1) := by decide +kernel
theorem dX6_elevator_69 : decode cX6_elevator 69 = .ok (.iload 5, 2) := by decide +kernel
theorem dX6_elevator_71 : decode cX6_elevator 71 = .ok (.iconst 5, 1) := by decide +kernel
theorem dX6_elevator_72 : decode cX6_elevator 72 = .ok (.bipush 40, 2) := by decide +kernel
theorem dX6_elevator_74 : decode cX6_elevator 74 = .ok (.invokestatic 30, 3) := by decide +kernel
theorem dX6_elevator_77 : decode cX6_elevator 77 = .ok (.ifCond .ne 15, 3) := by decide +kernel
theorem dX6_elevator_80 : decode cX6_elevator 80 = .ok (.iload 6, 2) := by decide +kernel
theorem dX6_elevator_82 : decode cX6_elevator 82 = .ok (.iload 5, 2) := by decide +kernel
theorem dX6_elevator_84 : decode cX6_elevator 84 = .ok (.bipush 40, 2) := by decide +kernel
theorem dX6_elevator_86 : decode cX6_elevator 86 = .ok (.invokestatic 30, 3) := by decide +kernel
theorem dX6_elevator_89 : decode cX6_elevator 89 = .ok (.ifCond .eq 13, 3) := by decide +kernel
theorem dX6_elevator_92 : decode cX6_elevator 92 = .ok (.new 41, 3) := by decide +kernel
theorem dX6_elevator_95 : decode cX6_elevator 95 = .ok (.dup, 1) := by decide +kernel
theorem dX6_elevator_96 : decode cX6_elevator 96 = .ok (.ldc 108, 2) := by decide +kernel
theorem dX6_elevator_98 : decode cX6_elevator 98 = .ok (.invokespecial 45, 3) := by decide +kernel
theorem dX6_elevator_101 : decode cX6_elevator 101 = .ok (.athrow, 1) := by decide +kernel
theorem dX6_elevator_102 : decode cX6_elevator 102 = .ok (.aload_n 0, 1) := by decide +kernel
theorem dX6_elevator_103 : decode cX6_elevator 103 = .ok (.getfield 12, 3) := by decide +kernel
theorem dX6_elevator_106 : decode cX6_elevator 106 = .ok (.getfield 110, 3) := by decide +kernel
theorem dX6_elevator_109 : decode cX6_elevator 109 = .ok (.invokevirtual 50, 3) := by decide +kernel
theorem dX6_elevator_112 : decode cX6_elevator 112 = .ok (.iconst 3, 1) := by decide +kernel
theorem dX6_elevator_113 : decode cX6_elevator 113 = .ok (.if_icmp .lt 13, 3) := by decide +kernel
theorem dX6_elevator_116 : decode cX6_elevator 116 = .ok (.new 56, 3) := by decide +kernel
theorem dX6_elevator_119 : decode cX6_elevator 119 = .ok (.dup, 1) := by decide +kernel
theorem dX6_elevator_120 : decode cX6_elevator 120 = .ok (.ldc 113, 2) := by decide +kernel
theorem dX6_elevator_122 : decode cX6_elevator 122 = .ok (.invokespecial 60, 3) := by decide +kernel
theorem dX6_elevator_125 : decode cX6_elevator 125 = .ok (.athrow, 1) := by decide +kernel
theorem dX6_elevator_126 : decode cX6_elevator 126 = .ok (.aload_n 0, 1) := by decide +kernel
theorem dX6_elevator_127 : decode cX6_elevator 127 = .ok (.getfield 12, 3) := by decide +kernel
theorem dX6_elevator_130 : decode cX6_elevator 130 = .ok (.getfield 110, 3) := by decide +kernel
theorem dX6_elevator_133 : decode cX6_elevator 133 = .ok (.new 115, 3) := by decide +kernel
theorem dX6_elevator_136 : decode cX6_elevator 136 = .ok (.dup, 1) := by decide +kernel
theorem dX6_elevator_137 : decode cX6_elevator 137 = .ok (.iload_n 1, 1) := by decide +kernel
theorem dX6_elevator_138 : decode cX6_elevator 138 = .ok (.iload_n 2, 1) := by decide +kernel
theorem dX6_elevator_139 : decode cX6_elevator 139 = .ok (.iload_n 3, 1) := by decide +kernel
theorem dX6_elevator_140 : decode cX6_elevator 140 = .ok (.iload 4, 2) := by decide +kernel
theorem dX6_elevator_142 : decode cX6_elevator 142 = .ok (.iload 5, 2) := by decide +kernel
theorem dX6_elevator_144 : decode cX6_elevator 144 = .ok (.iload 6, 2) := by decide +kernel
theorem dX6_elevator_146 : decode cX6_elevator 146 = .ok (.invokespecial 117, 3) := by decide +kernel
theorem dX6_elevator_149 : decode cX6_elevator 149 = .ok (.invokevirtual 61, 3) := by decide +kernel
theorem dX6_elevator_152 : decode cX6_elevator 152 = .ok (.pop, 1) := by decide +kernel
theorem dX6_elevator_153 : decode cX6_elevator 153 = .ok (.aload_n 0, 1) := by decide +kernel
theorem dX6_elevator_154 : decode cX6_elevator 154 = .ok (.getfield 12, 3) := by decide +kernel
theorem dX6_elevator_157 : decode cX6_elevator 157 = .ok (.getfield 110, 3) := by decide +kernel
theorem dX6_elevator_160 : decode cX6_elevator 160 = .ok (.invokevirtual 50, 3) := by decide +kernel
theorem dX6_elevator_163 : decode cX6_elevator 163 = .ok (.iconst 1, 1) := by decide +kernel
theorem dX6_elevator_164 : decode cX6_elevator 164 = .ok (.isub, 1) := by decide +kernel
theorem dX6_elevator_165 : decode cX6_elevator 165 = .ok (.ireturn, 1) := by decide +kernel
theorem dX6_cut_0 : decode cX6_cut 0 = .ok (.aload_n 0, 1) := by decide +kernel
theorem dX6_cut_1 : decode cX6_cut 1 = .ok (.getfield 12, 3) := by decide +kernel
theorem dX6_cut_4 : decode cX6_cut 4 = .ok (.iload_n 1, 1) := by decide +kernel
theorem dX6_cut_5 : decode cX6_cut 5 = .ok (.invokevirtual 125, 3) := by decide +kernel
theorem dX6_cut_8 : decode cX6_cut 8 = .ok (.astore_n 3, 1) := by decide +kernel
theorem dX6_cut_9 : decode cX6_cut 9 = .ok (.aload_n 3, 1) := by decide +kernel
theorem dX6_cut_10 : decode cX6_cut 10 = .ok (.ifnonnull 13, 3) := by decide +kernel
theorem dX6_cut_13 : decode cX6_cut 13 = .ok (.new 34, 3) := by decide +kernel
theorem dX6_cut_16 : decode cX6_cut 16 = .ok (.dup, 1) := by decide +kernel
theorem dX6_cut_17 : decode cX6_cut 17 = .ok (.ldc 129, 2) := by decide +kernel
theorem dX6_cut_19 : decode cX6_cut 19 = .ok (.invokespecial 38, 3) := by decide +kernel
theorem dX6_cut_22 : decode cX6_cut 22 = .ok (.athrow, 1) := by decide +kernel
theorem dX6_cut_23 : decode cX6_cut 23 = .ok (.iload_n 2, 1) := by decide +kernel
theorem dX6_cut_24 : decode cX6_cut 24 = .ok (.iconst (-1), 1) := by decide +kernel
theorem dX6_cut_25 : decode cX6_cut 25 = .ok (.if_icmp .eq 24, 3) := by decide +kernel
theorem dX6_cut_28 : decode cX6_cut 28 = .ok (.aload_n 0, 1) := by decide +kernel
theorem dX6_cut_29 : decode cX6_cut 29 = .ok (.getfield 12, 3) := by decide +kernel
theorem dX6_cut_32 : decode cX6_cut 32 = .ok (.iload_n 2, 1) := by decide +kernel
theorem dX6_cut_33 : decode cX6_cut 33 = .ok (.invokevirtual 65, 3) := by decide +kernel
theorem dX6_cut_36 : decode cX6_cut 36 = .ok (.ifnonnull 13, 3) := by decide +kernel
theorem dX6_cut_39 : decode cX6_cut 39 = .ok (.new 34, 3) := by decide +kernel
theorem dX6_cut_42 : decode cX6_cut 42 = .ok (.dup, 1) := by decide +kernel
theorem dX6_cut_43 : decode cX6_cut 43 = .ok (.ldc 69, 2) := by decide +kernel
theorem dX6_cut_45 : decode cX6_cut 45 = .ok (.invokespecial 38, 3) := by decide +kernel
theorem dX6_cut_48 : decode cX6_cut 48 = .ok (.athrow, 1) := by decide +kernel
theorem dX6_cut_49 : decode cX6_cut 49 = .ok (.aload_n 3, 1) := by decide +kernel
theorem dX6_cut_50 : decode cX6_cut 50 = .ok (.iload_n 2, 1) := by decide +kernel
theorem dX6_cut_51 : decode cX6_cut 51 = .ok (.putfield 131, 3) := by decide +kernel
theorem dX6_cut_54 : decode cX6_cut 54 = .ok (.iload_n 2, 1) := by decide +kernel
theorem dX6_cut_55 : decode cX6_cut 55 = .ok (.iconst (-1), 1) := by decide +kernel
theorem dX6_cut_56 : decode cX6_cut 56 = .ok (.if_icmp .ne 7, 3) := by decide +kernel
theorem dX6_cut_59 : decode cX6_cut 59 = .ok (.iconst 0, 1) := by decide +kernel
theorem dX6_cut_60 : decode cX6_cut 60 = .ok (.goto 11, 3) := by decide +kernel
theorem dX6_cut_63 : decode cX6_cut 63 = .ok (.aload_n 0, 1) := by decide +kernel
theorem dX6_cut_64 : decode cX6_cut 64 = .ok (.getfield 12, 3) := by decide +kernel
theorem dX6_cut_67 : decode cX6_cut 67 = .ok (.iload_n 2, 1) := by decide +kernel
theorem dX6_cut_68 : decode cX6_cut 68 = .ok (.invokevirtual 134, 3) := by decide +kernel
theorem dX6_cut_71 : decode cX6_cut 71 = .ok (.ireturn, 1) := by decide +kernel
theorem dX6_fetch_0 : decode cX6_fetch 0 = .ok (.aload_n 0, 1) := by decide +kernel
theorem dX6_fetch_1 : decode cX6_fetch 1 = .ok (.getfield 12, 3) := by decide +kernel
theorem dX6_fetch_4 : decode cX6_fetch 4 = .ok (.iload_n 1, 1) := by decide +kernel
theorem dX6_fetch_5 : decode cX6_fetch 5 = .ok (.invokevirtual 138, 3) := by decide +kernel
theorem dX6_fetch_8 : decode cX6_fetch 8 = .ok (.astore_n 3, 1) := by decide +kernel
theorem dX6_fetch_9 : decode cX6_fetch 9 = .ok (.aload_n 3, 1) := by decide +kernel
theorem dX6_fetch_10 : decode cX6_fetch 10 = .ok (.ifnonnull 13, 3) := by decide +kernel
theorem dX6_fetch_13 : decode cX6_fetch 13 = .ok (.new 34, 3) := by decide +kernel
theorem dX6_fetch_16 : decode cX6_fetch 16 = .ok (.dup, 1) := by decide +kernel
theorem dX6_fetch_17 : decode cX6_fetch 17 = .ok (.ldc 142, 2) := by decide +kernel
theorem dX6_fetch_19 : decode cX6_fetch 19 = .ok (.invokespecial 38, 3) := by decide +kernel
theorem dX6_fetch_22 : decode cX6_fetch 22 = .ok (.athrow, 1) := by decide +kernel
theorem dX6_fetch_23 : decode cX6_fetch 23 = .ok (.aload_n 0, 1) := by decide +kernel
theorem dX6_fetch_24 : decode cX6_fetch 24 = .ok (.getfield 12, 3) := by decide +kernel
theorem dX6_fetch_27 : decode cX6_fetch 27 = .ok (.iload_n 2, 1) := by decide +kernel
theorem dX6_fetch_28 : decode cX6_fetch 28 = .ok (.invokevirtual 125, 3) := by decide +kernel
theorem dX6_fetch_31 : decode cX6_fetch 31 = .ok (.astore 4, 2) := by decide +kernel
theorem dX6_fetch_33 : decode cX6_fetch 33 = .ok (.aload 4, 2) := by decide +kernel
theorem dX6_fetch_35 : decode cX6_fetch 35 = .ok (.ifnonnull 13, 3) := by decide +kernel
theorem dX6_fetch_38 : decode cX6_fetch 38 = .ok (.new 34, 3) := by decide +kernel
theorem dX6_fetch_41 : decode cX6_fetch 41 = .ok (.dup, 1) := by decide +kernel
theorem dX6_fetch_42 : decode cX6_fetch 42 = .ok (.ldc 129, 2) := by decide +kernel
theorem dX6_fetch_44 : decode cX6_fetch 44 = .ok (.invokespecial 38, 3) := by decide +kernel
theorem dX6_fetch_47 : decode cX6_fetch 47 = .ok (.athrow, 1) := by decide +kernel
theorem dX6_fetch_48 : decode cX6_fetch 48 = .ok (.aload_n 3, 1) := by decide +kernel
theorem dX6_fetch_49 : decode cX6_fetch 49 = .ok (.iload_n 2, 1) := by decide +kernel
theorem dX6_fetch_50 : decode cX6_fetch 50 = .ok (.putfield 144, 3) := by decide +kernel
theorem dX6_fetch_53 : decode cX6_fetch 53 = .ok (.aload_n 3, 1) := by decide +kernel
theorem dX6_fetch_54 : decode cX6_fetch 54 = .ok (.iconst (-1), 1) := by decide +kernel
theorem dX6_fetch_55 : decode cX6_fetch 55 = .ok (.putfield 147, 3) := by decide +kernel
theorem dX6_fetch_58 : decode cX6_fetch 58 = .ok (.aload 4, 2) := by decide +kernel
theorem dX6_fetch_60 : decode cX6_fetch 60 = .ok (.getfield 150, 3) := by decide +kernel
theorem dX6_fetch_63 : decode cX6_fetch 63 = .ok (.aload_n 3, 1) := by decide +kernel
theorem dX6_fetch_64 : decode cX6_fetch 64 = .ok (.getfield 153, 3) := by decide +kernel
theorem dX6_fetch_67 : decode cX6_fetch 67 = .ok (.isub, 1) := by decide +kernel
theorem dX6_fetch_68 : decode cX6_fetch 68 = .ok (.invokestatic 154, 3) := by decide +kernel
theorem dX6_fetch_71 : decode cX6_fetch 71 = .ok (.ireturn, 1) := by decide +kernel
theorem dX6_haul_0 : decode cX6_haul 0 = .ok (.aload_n 0, 1) := by decide +kernel
theorem dX6_haul_1 : decode cX6_haul 1 = .ok (.getfield 12, 3) := by decide +kernel
theorem dX6_haul_4 : decode cX6_haul 4 = .ok (.iload_n 1, 1) := by decide +kernel
theorem dX6_haul_5 : decode cX6_haul 5 = .ok (.invokevirtual 138, 3) := by decide +kernel
theorem dX6_haul_8 : decode cX6_haul 8 = .ok (.astore_n 3, 1) := by decide +kernel
theorem dX6_haul_9 : decode cX6_haul 9 = .ok (.aload_n 3, 1) := by decide +kernel
theorem dX6_haul_10 : decode cX6_haul 10 = .ok (.ifnonnull 13, 3) := by decide +kernel
theorem dX6_haul_13 : decode cX6_haul 13 = .ok (.new 34, 3) := by decide +kernel
theorem dX6_haul_16 : decode cX6_haul 16 = .ok (.dup, 1) := by decide +kernel
theorem dX6_haul_17 : decode cX6_haul 17 = .ok (.ldc 142, 2) := by decide +kernel
theorem dX6_haul_19 : decode cX6_haul 19 = .ok (.invokespecial 38, 3) := by decide +kernel
theorem dX6_haul_22 : decode cX6_haul 22 = .ok (.athrow, 1) := by decide +kernel
theorem dX6_haul_23 : decode cX6_haul 23 = .ok (.aload_n 0, 1) := by decide +kernel
theorem dX6_haul_24 : decode cX6_haul 24 = .ok (.getfield 12, 3) := by decide +kernel
theorem dX6_haul_27 : decode cX6_haul 27 = .ok (.iload_n 2, 1) := by decide +kernel
theorem dX6_haul_28 : decode cX6_haul 28 = .ok (.invokevirtual 159, 3) := by decide +kernel
theorem dX6_haul_31 : decode cX6_haul 31 = .ok (.astore 4, 2) := by decide +kernel
theorem dX6_haul_33 : decode cX6_haul 33 = .ok (.aload 4, 2) := by decide +kernel
theorem dX6_haul_35 : decode cX6_haul 35 = .ok (.ifnonnull 13, 3) := by decide +kernel
theorem dX6_haul_38 : decode cX6_haul 38 = .ok (.new 34, 3) := by decide +kernel
theorem dX6_haul_41 : decode cX6_haul 41 = .ok (.dup, 1) := by decide +kernel
theorem dX6_haul_42 : decode cX6_haul 42 = .ok (.ldc 163, 2) := by decide +kernel
theorem dX6_haul_44 : decode cX6_haul 44 = .ok (.invokespecial 38, 3) := by decide +kernel
theorem dX6_haul_47 : decode cX6_haul 47 = .ok (.athrow, 1) := by decide +kernel
theorem dX6_haul_48 : decode cX6_haul 48 = .ok (.aload_n 3, 1) := by decide +kernel
theorem dX6_haul_49 : decode cX6_haul 49 = .ok (.iconst (-1), 1) := by decide +kernel
theorem dX6_haul_50 : decode cX6_haul 50 = .ok (.putfield 144, 3) := by decide +kernel
theorem dX6_haul_53 : decode cX6_haul 53 = .ok (.aload_n 3, 1) := by decide +kernel
theorem dX6_haul_54 : decode cX6_haul 54 = .ok (.iload_n 2, 1) := by decide +kernel
theorem dX6_haul_55 : decode cX6_haul 55 = .ok (.putfield 147, 3) := by decide +kernel
theorem dX6_haul_58 : decode cX6_haul 58 = .ok (.aload 4, 2) := by decide +kernel
theorem dX6_haul_60 : decode cX6_haul 60 = .ok (.getfield 165, 3) := by decide +kernel
theorem dX6_haul_63 : decode cX6_haul 63 = .ok (.aload_n 3, 1) := by decide +kernel
theorem dX6_haul_64 : decode cX6_haul 64 = .ok (.getfield 153, 3) := by decide +kernel
theorem dX6_haul_67 : decode cX6_haul 67 = .ok (.isub, 1) := by decide +kernel
theorem dX6_haul_68 : decode cX6_haul 68 = .ok (.invokestatic 154, 3) := by decide +kernel
theorem dX6_haul_71 : decode cX6_haul 71 = .ok (.ireturn, 1) := by decide +kernel
theorem dX6_pass_0 : decode cX6_pass 0 = .ok (.iload_n 1, 1) := by decide +kernel
theorem dX6_pass_1 : decode cX6_pass 1 = .ok (.iload_n 2, 1) := by decide +kernel
theorem dX6_pass_2 : decode cX6_pass 2 = .ok (.iload_n 3, 1) := by decide +kernel
theorem dX6_pass_3 : decode cX6_pass 3 = .ok (.iload 4, 2) := by decide +kernel
theorem dX6_pass_5 : decode cX6_pass 5 = .ok (.invokestatic 190, 3) := by decide +kernel
