theorem dX7_sell_92 : decode cX7_sell 92 = .ok (.astore_n 3, 1) := by decide +kernel
theorem dX7_sell_93 : decode cX7_sell 93 = .ok (.aload_n 0, 1) := by decide +kernel
theorem dX7_sell_94 : decode cX7_sell 94 = .ok (.getfield 28, 3) := by decide +kernel
theorem dX7_sell_97 : decode cX7_sell 97 = .ok (.aload_n 3, 1) := by decide +kernel
theorem dX7_sell_98 : decode cX7_sell 98 = .ok (.invokeinterface 108 2, 5) := by decide +kernel
theorem dX7_sell_103 : decode cX7_sell 103 = .ok (.pop, 1) := by decide +kernel
theorem dX7_sell_104 : decode cX7_sell 104 = .ok (.aload_n 0, 1) := by decide +kernel
theorem dX7_sell_105 : decode cX7_sell 105 = .ok (.getfield 11, 3) := by decide +kernel
theorem dX7_sell_108 : decode cX7_sell 108 = .ok (.aload_n 1, 1) := by decide +kernel
theorem dX7_sell_109 : decode cX7_sell 109 = .ok (.iconst 3, 1) := by decide +kernel
theorem dX7_sell_110 : decode cX7_sell 110 = .ok (.iaload, 1) := by decide +kernel
theorem dX7_sell_111 : decode cX7_sell 111 = .ok (.aaload, 1) := by decide +kernel
theorem dX7_sell_112 : decode cX7_sell 112 = .ok (.bipush 8, 2) := by decide +kernel
theorem dX7_sell_114 : decode cX7_sell 114 = .ok (.dup2, 1) := by decide +kernel
theorem dX7_sell_115 : decode cX7_sell 115 = .ok (.iaload, 1) := by decide +kernel
theorem dX7_sell_116 : decode cX7_sell 116 = .ok (.aload_n 1, 1) := by decide +kernel
theorem dX7_sell_117 : decode cX7_sell 117 = .ok (.iconst 2, 1) := by decide +kernel
theorem dX7_sell_118 : decode cX7_sell 118 = .ok (.iaload, 1) := by decide +kernel
theorem dX7_sell_119 : decode cX7_sell 119 = .ok (.iadd, 1) := by decide +kernel
theorem dX7_sell_120 : decode cX7_sell 120 = .ok (.iastore, 1) := by decide +kernel
theorem dX7_sell_121 : decode cX7_sell 121 = .ok (.aload_n 2, 1) := by decide +kernel
theorem dX7_sell_122 : decode cX7_sell 122 = .ok (.iconst 3, 1) := by decide +kernel
theorem dX7_sell_123 : decode cX7_sell 123 = .ok (.dup2, 1) := by decide +kernel
theorem dX7_sell_124 : decode cX7_sell 124 = .ok (.iaload, 1) := by decide +kernel
theorem dX7_sell_125 : decode cX7_sell 125 = .ok (.aload_n 1, 1) := by decide +kernel
theorem dX7_sell_126 : decode cX7_sell 126 = .ok (.iconst 2, 1) := by decide +kernel
theorem dX7_sell_127 : decode cX7_sell 127 = .ok (.iaload, 1) := by decide +kernel
theorem dX7_sell_128 : decode cX7_sell 128 = .ok (.isub, 1) := by decide +kernel
theorem dX7_sell_129 : decode cX7_sell 129 = .ok (.iastore, 1) := by decide +kernel
theorem dX7_sell_130 : decode cX7_sell 130 = .ok (.aload_n 1, 1) := by decide +kernel
theorem dX7_sell_131 : decode cX7_sell 131 = .ok (.iconst 2, 1) := by decide +kernel
theorem dX7_sell_132 : decode cX7_sell 132 = .ok (.iconst 0, 1) := by decide +kernel
theorem dX7_sell_133 : decode cX7_sell 133 = .ok (.iastore, 1) := by decide +kernel
theorem dX7_sell_134 : decode cX7_sell 134 = .ok (.return_, 1) := by decide +kernel
theorem dX7_between_0 : decode cX7_between 0 = .ok (.iconst 0, 1) := by decide +kernel
theorem dX7_between_1 : decode cX7_between 1 = .ok (.istore_n 2, 1) := by decide +kernel
theorem dX7_between_2 : decode cX7_between 2 = .ok (.iconst 0, 1) := by decide +kernel
theorem dX7_between_3 : decode cX7_between 3 = .ok (.istore_n 3, 1) := by decide +kernel
theorem dX7_between_4 : decode cX7_between 4 = .ok (.iload_n 3, 1) := by decide +kernel
theorem dX7_between_5 : decode cX7_between 5 = .ok (.aload_n 0, 1) := by decide +kernel
theorem dX7_between_6 : decode cX7_between 6 = .ok (.getfield 43, 3) := by decide +kernel
theorem dX7_between_9 : decode cX7_between 9 = .ok (.if_icmp .ge 41, 3) := by decide +kernel
theorem dX7_between_12 : decode cX7_between 12 = .ok (.iload_n 2, 1) := by decide +kernel
theorem dX7_between_13 : decode cX7_between 13 = .ok (.iload_n 1, 1) := by decide +kernel
theorem dX7_between_14 : decode cX7_between 14 = .ok (.iconst (-1), 1) := by decide +kernel
theorem dX7_between_15 : decode cX7_between 15 = .ok (.if_icmp .eq 15, 3) := by decide +kernel
theorem dX7_between_18 : decode cX7_between 18 = .ok (.aload_n 0, 1) := by decide +kernel
theorem dX7_between_19 : decode cX7_between 19 = .ok (.getfield 16, 3) := by decide +kernel
theorem dX7_between_22 : decode cX7_between 22 = .ok (.iload_n 3, 1) := by decide +kernel
theorem dX7_between_23 : decode cX7_between 23 = .ok (.aaload, 1) := by decide +kernel
theorem dX7_between_24 : decode cX7_between 24 = .ok (.iconst 3, 1) := by decide +kernel
theorem dX7_between_25 : decode cX7_between 25 = .ok (.iaload, 1) := by decide +kernel
theorem dX7_between_26 : decode cX7_between 26 = .ok (.iload_n 1, 1) := by decide +kernel
theorem dX7_between_27 : decode cX7_between 27 = .ok (.if_icmp .ne 14, 3) := by decide +kernel
theorem dX7_between_30 : decode cX7_between 30 = .ok (.aload_n 0, 1) := by decide +kernel
theorem dX7_between_31 : decode cX7_between 31 = .ok (.getfield 16, 3) := by decide +kernel
theorem dX7_between_34 : decode cX7_between 34 = .ok (.iload_n 3, 1) := by decide +kernel
theorem dX7_between_35 : decode cX7_between 35 = .ok (.aaload, 1) := by decide +kernel
theorem dX7_between_36 : decode cX7_between 36 = .ok (.iconst 2, 1) := by decide +kernel
theorem dX7_between_37 : decode cX7_between 37 = .ok (.iaload, 1) := by decide +kernel
theorem dX7_between_38 : decode cX7_between 38 = .ok (.goto 4, 3) := by decide +kernel
theorem dX7_between_41 : decode cX7_between 41 = .ok (.iconst 0, 1) := by decide +kernel
theorem dX7_between_42 : decode cX7_between 42 = .ok (.iadd, 1) := by decide +kernel
theorem dX7_between_43 : decode cX7_between 43 = .ok (.istore_n 2, 1) := by decide +kernel
theorem dX7_between_44 : decode cX7_between 44 = .ok (.iinc 3 1, 3) := by decide +kernel
theorem dX7_between_47 : decode cX7_between 47 = .ok (.goto (-43), 3) := by decide +kernel
theorem dX7_between_50 : decode cX7_between 50 = .ok (.iconst 0, 1) := by decide +kernel
theorem dX7_between_51 : decode cX7_between 51 = .ok (.istore_n 3, 1) := by decide +kernel
theorem dX7_between_52 : decode cX7_between 52 = .ok (.iload_n 3, 1) := by decide +kernel
theorem dX7_between_53 : decode cX7_between 53 = .ok (.aload_n 0, 1) := by decide +kernel
theorem dX7_between_54 : decode cX7_between 54 = .ok (.getfield 46, 3) := by decide +kernel
theorem dX7_between_57 : decode cX7_between 57 = .ok (.if_icmp .ge 41, 3) := by decide +kernel
theorem dX7_between_60 : decode cX7_between 60 = .ok (.iload_n 2, 1) := by decide +kernel
theorem dX7_between_61 : decode cX7_between 61 = .ok (.iload_n 1, 1) := by decide +kernel
theorem dX7_between_62 : decode cX7_between 62 = .ok (.iconst (-1), 1) := by decide +kernel
theorem dX7_between_63 : decode cX7_between 63 = .ok (.if_icmp .eq 15, 3) := by decide +kernel
theorem dX7_between_66 : decode cX7_between 66 = .ok (.aload_n 0, 1) := by decide +kernel
theorem dX7_between_67 : decode cX7_between 67 = .ok (.getfield 19, 3) := by decide +kernel
theorem dX7_between_70 : decode cX7_between 70 = .ok (.iload_n 3, 1) := by decide +kernel
theorem dX7_between_71 : decode cX7_between 71 = .ok (.aaload, 1) := by decide +kernel
theorem dX7_between_72 : decode cX7_between 72 = .ok (.iconst 3, 1) := by decide +kernel
theorem dX7_between_73 : decode cX7_between 73 = .ok (.iaload, 1) := by decide +kernel
theorem dX7_between_74 : decode cX7_between 74 = .ok (.iload_n 1, 1) := by decide +kernel
theorem dX7_between_75 : decode cX7_between 75 = .ok (.if_icmp .ne 14, 3) := by decide +kernel
theorem dX7_between_78 : decode cX7_between 78 = .ok (.aload_n 0, 1) := by decide +kernel
theorem dX7_between_79 : decode cX7_between 79 = .ok (.getfield 19, 3) := by decide +kernel
theorem dX7_between_82 : decode cX7_between 82 = .ok (.iload_n 3, 1) := by decide +kernel
theorem dX7_between_83 : decode cX7_between 83 = .ok (.aaload, 1) := by decide +kernel
theorem dX7_between_84 : decode cX7_between 84 = .ok (.iconst 2, 1) := by decide +kernel
theorem dX7_between_85 : decode cX7_between 85 = .ok (.iaload, 1) := by decide +kernel
theorem dX7_between_86 : decode cX7_between 86 = .ok (.goto 4, 3) := by decide +kernel
theorem dX7_between_89 : decode cX7_between 89 = .ok (.iconst 0, 1) := by decide +kernel
theorem dX7_between_90 : decode cX7_between 90 = .ok (.iadd, 1) := by decide +kernel
theorem dX7_between_91 : decode cX7_between 91 = .ok (.istore_n 2, 1) := by decide +kernel
theorem dX7_between_92 : decode cX7_between 92 = .ok (.iinc 3 1, 3) := by decide +kernel
theorem dX7_between_95 : decode cX7_between 95 = .ok (.goto (-43), 3) := by decide +kernel
theorem dX7_between_98 : decode cX7_between 98 = .ok (.iload_n 2, 1) := by decide +kernel
theorem dX7_between_99 : decode cX7_between 99 = .ok (.ireturn, 1) := by decide +kernel
theorem dX7_sentTo_0 : decode cX7_sentTo 0 = .ok (.iconst 0, 1) := by decide +kernel
theorem dX7_sentTo_1 : decode cX7_sentTo 1 = .ok (.istore_n 2, 1) := by decide +kernel
theorem dX7_sentTo_2 : decode cX7_sentTo 2 = .ok (.iconst 0, 1) := by decide +kernel
theorem dX7_sentTo_3 : decode cX7_sentTo 3 = .ok (.istore_n 3, 1) := by decide +kernel
theorem dX7_sentTo_4 : decode cX7_sentTo 4 = .ok (.iload_n 3, 1) := by decide +kernel
theorem dX7_sentTo_5 : decode cX7_sentTo 5 = .ok (.aload_n 0, 1) := by decide +kernel
theorem dX7_sentTo_6 : decode cX7_sentTo 6 = .ok (.getfield 43, 3) := by decide +kernel
theorem dX7_sentTo_9 : decode cX7_sentTo 9 = .ok (.if_icmp .ge 30, 3) := by decide +kernel
theorem dX7_sentTo_12 : decode cX7_sentTo 12 = .ok (.iload_n 2, 1) := by decide +kernel
theorem dX7_sentTo_13 : decode cX7_sentTo 13 = .ok (.aload_n 0, 1) := by decide +kernel
theorem dX7_sentTo_14 : decode cX7_sentTo 14 = .ok (.getfield 16, 3) := by decide +kernel
theorem dX7_sentTo_17 : decode cX7_sentTo 17 = .ok (.iload_n 3, 1) := by decide +kernel
theorem dX7_sentTo_18 : decode cX7_sentTo 18 = .ok (.aaload, 1) := by decide +kernel
theorem dX7_sentTo_19 : decode cX7_sentTo 19 = .ok (.bipush 7, 2) := by decide +kernel
theorem dX7_sentTo_21 : decode cX7_sentTo 21 = .ok (.iaload, 1) := by decide +kernel
theorem dX7_sentTo_22 : decode cX7_sentTo 22 = .ok (.iload_n 1, 1) := by decide +kernel
theorem dX7_sentTo_23 : decode cX7_sentTo 23 = .ok (.if_icmp .ne 7, 3) := by decide +kernel
theorem dX7_sentTo_26 : decode cX7_sentTo 26 = .ok (.iconst 1, 1) := by decide +kernel
theorem dX7_sentTo_27 : decode cX7_sentTo 27 = .ok (.goto 4, 3) := by decide +kernel
theorem dX7_sentTo_30 : decode cX7_sentTo 30 = .ok (.iconst 0, 1) := by decide +kernel
theorem dX7_sentTo_31 : decode cX7_sentTo 31 = .ok (.iadd, 1) := by decide +kernel
theorem dX7_sentTo_32 : decode cX7_sentTo 32 = .ok (.istore_n 2, 1) := by decide +kernel
theorem dX7_sentTo_33 : decode cX7_sentTo 33 = .ok (.iinc 3 1, 3) := by decide +kernel
theorem dX7_sentTo_36 : decode cX7_sentTo 36 = .ok (.goto (-32), 3) := by decide +kernel
theorem dX7_sentTo_39 : decode cX7_sentTo 39 = .ok (.iload_n 2, 1) := by decide +kernel
theorem dX7_sentTo_40 : decode cX7_sentTo 40 = .ok (.ireturn, 1) := by decide +kernel
theorem dX8_init_0 : decode cX8_init 0 = .ok (.aload_n 0, 1) := by decide +kernel
theorem dX8_init_1 : decode cX8_init 1 = .ok (.invokespecial 1, 3) := by decide +kernel
theorem dX8_init_4 : decode cX8_init 4 = .ok (.aload_n 0, 1) := by decide +kernel
theorem dX8_init_5 : decode cX8_init 5 = .ok (.new 7, 3) := by decide +kernel
theorem dX8_init_8 : decode cX8_init 8 = .ok (.dup, 1) := by decide +kernel
theorem dX8_init_9 : decode cX8_init 9 = .ok (.invokespecial 9, 3) := by decide +kernel
theorem dX8_init_12 : decode cX8_init 12 = .ok (.putfield 10, 3) := by decide +kernel
theorem dX8_init_15 : decode cX8_init 15 = .ok (.aload_n 0, 1) := by decide +kernel
theorem dX8_init_16 : decode cX8_init 16 = .ok (.iconst 4, 1) := by decide +kernel
theorem dX8_init_17 : decode cX8_init 17 = .ok (.newarray .int, 2) := by decide +kernel
theorem dX8_init_19 : decode cX8_init 19 = .ok (.putfield 16, 3) := by decide +kernel
theorem dX8_init_22 : decode cX8_init 22 = .ok (.aload_n 0, 1) := by decide +kernel
theorem dX8_init_23 : decode cX8_init 23 = .ok (.iconst 4, 1) := by decide +kernel
theorem dX8_init_24 : decode cX8_init 24 = .ok (.newarray .int, 2) := by decide +kernel
theorem dX8_init_26 : decode cX8_init 26 = .ok (.putfield 20, 3) := by decide +kernel
theorem dX8_init_29 : decode cX8_init 29 = .ok (.aload_n 0, 1) := by decide +kernel
theorem dX8_init_30 : decode cX8_init 30 = .ok (.sipush 400, 3) := by decide +kernel
theorem dX8_init_33 : decode cX8_init 33 = .ok (.putfield 23, 3) := by decide +kernel
theorem dX8_init_36 : decode cX8_init 36 = .ok (.aload_n 0, 1) := by decide +kernel
theorem dX8_init_37 : decode cX8_init 37 = .ok (.sipush 1000, 3) := by decide +kernel
theorem dX8_init_40 : decode cX8_init 40 = .ok (.putfield 27, 3) := by decide +kernel
theorem dX8_init_43 : decode cX8_init 43 = .ok (.return_, 1) := by decide +kernel
theorem dX8_thrown_0 : decode cX8_thrown 0 = .ok (.aload_n 0, 1) := by decide +kernel
theorem dX8_thrown_1 : decode cX8_thrown 1 = .ok (.getfield 30, 3) := by decide +kernel
theorem dX8_thrown_4 : decode cX8_thrown 4 = .ok (.ireturn, 1) := by decide +kernel
theorem dX8_no_0 : decode cX8_no 0 = .ok (.aload_n 0, 1) := by decide +kernel
theorem dX8_no_1 : decode cX8_no 1 = .ok (.iload_n 1, 1) := by decide +kernel
theorem dX8_no_2 : decode cX8_no 2 = .ok (.putfield 30, 3) := by decide +kernel
theorem dX8_no_5 : decode cX8_no 5 = .ok (.iconst 0, 1) := by decide +kernel
theorem dX8_no_6 : decode cX8_no 6 = .ok (.ireturn, 1) := by decide +kernel
theorem dX8_in_0 : decode cX8_in 0 = .ok (.iload_n 0, 1) := by decide +kernel
theorem dX8_in_1 : decode cX8_in 1 = .ok (.iload_n 1, 1) := by decide +kernel
theorem dX8_in_2 : decode cX8_in 2 = .ok (.if_icmp .lt 12, 3) := by decide +kernel
theorem dX8_in_5 : decode cX8_in 5 = .ok (.iload_n 0, 1) := by decide +kernel
theorem dX8_in_6 : decode cX8_in 6 = .ok (.iload_n 2, 1) := by decide +kernel
theorem dX8_in_7 : decode cX8_in 7 = .ok (.if_icmp .gt 7, 3) := by decide +kernel
theorem dX8_in_10 : decode cX8_in 10 = .ok (.iconst 1, 1) := by decide +kernel
theorem dX8_in_11 : decode cX8_in 11 = .ok (.goto 4, 3) := by decide +kernel
theorem dX8_in_14 : decode cX8_in 14 = .ok (.iconst 0, 1) := by decide +kernel
theorem dX8_in_15 : decode cX8_in 15 = .ok (.ireturn, 1) := by decide +kernel
theorem dX8_isField_0 : decode cX8_isField 0 = .ok (.iload_n 1, 1) := by decide +kernel
theorem dX8_isField_1 : decode cX8_isField 1 = .ok (.iconst 0, 1) := by decide +kernel
theorem dX8_isField_2 : decode cX8_isField 2 = .ok (.aload_n 0, 1) := by decide +kernel
theorem dX8_isField_3 : decode cX8_isField 3 = .ok (.getfield 10, 3) := by decide +kernel
theorem dX8_isField_6 : decode cX8_isField 6 = .ok (.getfield 33, 3) := by decide +kernel
theorem dX8_isField_9 : decode cX8_isField 9 = .ok (.iconst 1, 1) := by decide +kernel
theorem dX8_isField_10 : decode cX8_isField 10 = .ok (.isub, 1) := by decide +kernel
theorem dX8_isField_11 : decode cX8_isField 11 = .ok (.invokestatic 36, 3) := by decide +kernel
theorem dX8_isField_14 : decode cX8_isField 14 = .ok (.ireturn, 1) := by decide +kernel
theorem dX8_isCombine_0 : decode cX8_isCombine 0 = .ok (.iload_n 1, 1) := by decide +kernel
theorem dX8_isCombine_1 : decode cX8_isCombine 1 = .ok (.iconst 0, 1) := by decide +kernel
theorem dX8_isCombine_2 : decode cX8_isCombine 2 = .ok (.aload_n 0, 1) := by decide +kernel
theorem dX8_isCombine_3 : decode cX8_isCombine 3 = .ok (.getfield 10, 3) := by decide +kernel
theorem dX8_isCombine_6 : decode cX8_isCombine 6 = .ok (.getfield 40, 3) := by decide +kernel
theorem dX8_isCombine_9 : decode cX8_isCombine 9 = .ok (.iconst 1, 1) := by decide +kernel
theorem dX8_isCombine_10 : decode cX8_isCombine 10 = .ok (.isub, 1) := by decide +kernel
theorem dX8_isCombine_11 : decode cX8_isCombine 11 = .ok (.invokestatic 36, 3) := by decide +kernel
theorem dX8_isCombine_14 : decode cX8_isCombine 14 = .ok (.ireturn, 1) := by decide +kernel
theorem dX8_isTruck_0 : decode cX8_isTruck 0 = .ok (.iload_n 1, 1) := by decide +kernel
theorem dX8_isTruck_1 : decode cX8_isTruck 1 = .ok (.iconst 0, 1) := by decide +kernel
theorem dX8_isTruck_2 : decode cX8_isTruck 2 = .ok (.aload_n 0, 1) := by decide +kernel
theorem dX8_isTruck_3 : decode cX8_isTruck 3 = .ok (.getfield 10, 3) := by decide +kernel
theorem dX8_isTruck_6 : decode cX8_isTruck 6 = .ok (.getfield 43, 3) := by decide +kernel
theorem dX8_isTruck_9 : decode cX8_isTruck 9 = .ok (.iconst 1, 1) := by decide +kernel
theorem dX8_isTruck_10 : decode cX8_isTruck 10 = .ok (.isub, 1) := by decide +kernel
theorem dX8_isTruck_11 : decode cX8_isTruck 11 = .ok (.invokestatic 36, 3) := by decide +kernel
theorem dX8_isTruck_14 : decode cX8_isTruck 14 = .ok (.ireturn, 1) := by decide +kernel
theorem dX8_isElevator_0 : decode cX8_isElevator 0 = .ok (.iload_n 1, 1) := by decide +kernel
theorem dX8_isElevator_1 : decode cX8_isElevator 1 = .ok (.iconst 0, 1) := by decide +kernel
theorem dX8_isElevator_2 : decode cX8_isElevator 2 = .ok (.aload_n 0, 1) := by decide +kernel
theorem dX8_isElevator_3 : decode cX8_isElevator 3 = .ok (.getfield 10, 3) := by decide +kernel
theorem dX8_isElevator_6 : decode cX8_isElevator 6 = .ok (.getfield 46, 3) := by decide +kernel
theorem dX8_isElevator_9 : decode cX8_isElevator 9 = .ok (.iconst 1, 1) := by decide +kernel
theorem dX8_isElevator_10 : decode cX8_isElevator 10 = .ok (.isub, 1) := by decide +kernel
theorem dX8_isElevator_11 : decode cX8_isElevator 11 = .ok (.invokestatic 36, 3) := by decide +kernel
theorem dX8_isElevator_14 : decode cX8_isElevator 14 = .ok (.ireturn, 1) := by decide +kernel
theorem dX8_isMile_0 : decode cX8_isMile 0 = .ok (.iload_n 0, 1) := by decide +kernel
theorem dX8_isMile_1 : decode cX8_isMile 1 = .ok (.iconst 0, 1) := by decide +kernel
theorem dX8_isMile_2 : decode cX8_isMile 2 = .ok (.sipush 300, 3) := by decide +kernel
theorem dX8_isMile_5 : decode cX8_isMile 5 = .ok (.invokestatic 36, 3) := by decide +kernel
theorem dX8_isMile_8 : decode cX8_isMile 8 = .ok (.ireturn, 1) := by decide +kernel
theorem dX8_field_0 : decode cX8_field 0 = .ok (.aload_n 0, 1) := by decide +kernel
theorem dX8_field_1 : decode cX8_field 1 = .ok (.iconst 0, 1) := by decide +kernel
theorem dX8_field_2 : decode cX8_field 2 = .ok (.putfield 30, 3) := by decide +kernel
theorem dX8_field_5 : decode cX8_field 5 = .ok (.iload_n 1, 1) := by decide +kernel
theorem dX8_field_6 : decode cX8_field 6 = .ok (.iconst 0, 1) := by decide +kernel
theorem dX8_field_7 : decode cX8_field 7 = .ok (.iconst 3, 1) := by decide +kernel
theorem dX8_field_8 : decode cX8_field 8 = .ok (.invokestatic 36, 3) := by decide +kernel
theorem dX8_field_11 : decode cX8_field 11 = .ok (.ifCond .ne 9, 3) := by decide +kernel
theorem dX8_field_14 : decode cX8_field 14 = .ok (.aload_n 0, 1) := by decide +kernel
theorem dX8_field_15 : decode cX8_field 15 = .ok (.iconst 1, 1) := by decide +kernel
theorem dX8_field_16 : decode cX8_field 16 = .ok (.invokevirtual 49, 3) := by decide +kernel
theorem dX8_field_19 : decode cX8_field 19 = .ok (.ireturn, 1) := by decide +kernel
theorem dX8_field_20 : decode cX8_field 20 = .ok (.iload_n 2, 1) := by decide +kernel
theorem dX8_field_21 : decode cX8_field 21 = .ok (.invokestatic 53, 3) := by decide +kernel
theorem dX8_field_24 : decode cX8_field 24 = .ok (.ifCond .eq 37, 3) := by decide +kernel
theorem dX8_field_27 : decode cX8_field 27 = .ok (.iload_n 3, 1) := by decide +kernel
theorem dX8_field_28 : decode cX8_field 28 = .ok (.iconst 1, 1) := by decide +kernel
theorem dX8_field_29 : decode cX8_field 29 = .ok (.sipush 200, 3) := by decide +kernel
theorem dX8_field_32 : decode cX8_field 32 = .ok (.invokestatic 36, 3) := by decide +kernel
theorem dX8_field_35 : decode cX8_field 35 = .ok (.ifCond .eq 26, 3) := by decide +kernel
theorem dX8_field_38 : decode cX8_field 38 = .ok (.iload 4, 2) := by decide +kernel
theorem dX8_field_40 : decode cX8_field 40 = .ok (.bipush 10, 2) := by decide +kernel
theorem dX8_field_42 : decode cX8_field 42 = .ok (.bipush 90, 2) := by decide +kernel
theorem dX8_field_44 : decode cX8_field 44 = .ok (.invokestatic 36, 3) := by decide +kernel
theorem dX8_field_47 : decode cX8_field 47 = .ok (.ifCond .eq 14, 3) := by decide +kernel
theorem dX8_field_50 : decode cX8_field 50 = .ok (.iload 5, 2) := by decide +kernel
theorem dX8_field_52 : decode cX8_field 52 = .ok (.iconst 0, 1) := by decide +kernel
theorem dX8_field_53 : decode cX8_field 53 = .ok (.bipush 50, 2) := by decide +kernel
theorem dX8_field_55 : decode cX8_field 55 = .ok (.invokestatic 36, 3) := by decide +kernel
theorem dX8_field_58 : decode cX8_field 58 = .ok (.ifCond .ne 9, 3) := by decide +kernel
theorem dX8_field_61 : decode cX8_field 61 = .ok (.aload_n 0, 1) := by decide +kernel
theorem dX8_field_62 : decode cX8_field 62 = .ok (.iconst 2, 1) := by decide +kernel
theorem dX8_field_63 : decode cX8_field 63 = .ok (.invokevirtual 49, 3) := by decide +kernel
theorem dX8_field_66 : decode cX8_field 66 = .ok (.ireturn, 1) := by decide +kernel
theorem dX8_field_67 : decode cX8_field 67 = .ok (.aload_n 0, 1) := by decide +kernel
theorem dX8_field_68 : decode cX8_field 68 = .ok (.getfield 10, 3) := by decide +kernel
theorem dX8_field_71 : decode cX8_field 71 = .ok (.getfield 33, 3) := by decide +kernel
theorem dX8_field_74 : decode cX8_field 74 = .ok (.bipush 8, 2) := by decide +kernel
theorem dX8_field_76 : decode cX8_field 76 = .ok (.if_icmp .ne 9, 3) := by decide +kernel
theorem dX8_field_79 : decode cX8_field 79 = .ok (.aload_n 0, 1) := by decide +kernel
theorem dX8_field_80 : decode cX8_field 80 = .ok (.iconst 3, 1) := by decide +kernel
theorem dX8_field_81 : decode cX8_field 81 = .ok (.invokevirtual 49, 3) := by decide +kernel
theorem dX8_field_84 : decode cX8_field 84 = .ok (.ireturn, 1) := by decide +kernel
theorem dX8_field_85 : decode cX8_field 85 = .ok (.bipush 11, 2) := by decide +kernel
theorem dX8_field_87 : decode cX8_field 87 = .ok (.newarray .int, 2) := by decide +kernel
theorem dX8_field_89 : decode cX8_field 89 = .ok (.dup, 1) := by decide +kernel
theorem dX8_field_90 : decode cX8_field 90 = .ok (.iconst 0, 1) := by decide +kernel
theorem dX8_field_91 : decode cX8_field 91 = .ok (.iload_n 1, 1) := by decide +kernel
theorem dX8_field_92 : decode cX8_field 92 = .ok (.iastore, 1) := by decide +kernel
theorem dX8_field_93 : decode cX8_field 93 = .ok (.dup, 1) := by decide +kernel
theorem dX8_field_94 : decode cX8_field 94 = .ok (.iconst 1, 1) := by decide +kernel
theorem dX8_field_95 : decode cX8_field 95 = .ok (.iload_n 2, 1) := by decide +kernel
theorem dX8_field_96 : decode cX8_field 96 = .ok (.iastore, 1) := by decide +kernel
theorem dX8_field_97 : decode cX8_field 97 = .ok (.dup, 1) := by decide +kernel
theorem dX8_field_98 : decode cX8_field 98 = .ok (.iconst 2, 1) := by decide +kernel
theorem dX8_field_99 : decode cX8_field 99 = .ok (.iload_n 3, 1) := by decide +kernel
theorem dX8_field_100 : decode cX8_field 100 = .ok (.iastore, 1) := by decide +kernel
theorem dX8_field_101 : decode cX8_field 101 = .ok (.dup, 1) := by decide +kernel
theorem dX8_field_102 : decode cX8_field 102 = .ok (.iconst 3, 1) := by decide +kernel
theorem dX8_field_103 : decode cX8_field 103 = .ok (.iconst 0, 1) := by decide +kernel
theorem dX8_field_104 : decode cX8_field 104 = .ok (.iastore, 1) := by decide +kernel
theorem dX8_field_105 : decode cX8_field 105 = .ok (.dup, 1) := by decide +kernel
theorem dX8_field_106 : decode cX8_field 106 = .ok (.iconst 4, 1) := by decide +kernel
theorem dX8_field_107 : decode cX8_field 107 = .ok (.iconst 0, 1) := by decide +kernel
theorem dX8_field_108 : decode cX8_field 108 = .ok (.iastore, 1) := by decide +kernel
theorem dX8_field_109 : decode cX8_field 109 = .ok (.dup, 1) := by decide +kernel
theorem dX8_field_110 : decode cX8_field 110 = .ok (.iconst 5, 1) := by decide +kernel
theorem dX8_field_111 : decode cX8_field 111 = .ok (.bipush 30, 2) := by decide +kernel
theorem dX8_field_113 : decode cX8_field 113 = .ok (.iastore, 1) := by decide +kernel
theorem dX8_field_114 : decode cX8_field 114 = .ok (.dup, 1) := by decide +kernel
theorem dX8_field_115 : decode cX8_field 115 = .ok (.bipush 6, 2) := by decide +kernel
theorem dX8_field_117 : decode cX8_field 117 = .ok (.iconst 0, 1) := by decide +kernel
theorem dX8_field_118 : decode cX8_field 118 = .ok (.iastore, 1) := by decide +kernel
theorem dX8_field_119 : decode cX8_field 119 = .ok (.dup, 1) := by decide +kernel
theorem dX8_field_120 : decode cX8_field 120 = .ok (.bipush 7, 2) := by decide +kernel
theorem dX8_field_122 : decode cX8_field 122 = .ok (.iconst 0, 1) := by decide +kernel
theorem dX8_field_123 : decode cX8_field 123 = .ok (.iastore, 1) := by decide +kernel
theorem dX8_field_124 : decode cX8_field 124 = .ok (.dup, 1) := by decide +kernel
theorem dX8_field_125 : decode cX8_field 125 = .ok (.bipush 8, 2) := by decide +kernel
theorem dX8_field_127 : decode cX8_field 127 = .ok (.iconst 0, 1) := by decide +kernel
theorem dX8_field_128 : decode cX8_field 128 = .ok (.iastore, 1) := by decide +kernel
theorem dX8_field_129 : decode cX8_field 129 = .ok (.dup, 1) := by decide +kernel
theorem dX8_field_130 : decode cX8_field 130 = .ok (.bipush 9, 2) := by decide +kernel
theorem dX8_field_132 : decode cX8_field 132 = .ok (.iload 4, 2) := by decide +kernel
theorem dX8_field_134 : decode cX8_field 134 = .ok (.iastore, 1) := by decide +kernel
theorem dX8_field_135 : decode cX8_field 135 = .ok (.dup, 1) := by decide +kernel
theorem dX8_field_136 : decode cX8_field 136 = .ok (.bipush 10, 2) := by decide +kernel
theorem dX8_field_138 : decode cX8_field 138 = .ok (.iload 5, 2) := by decide +kernel
theorem dX8_field_140 : decode cX8_field 140 = .ok (.iastore, 1) := by decide +kernel
theorem dX8_field_141 : decode cX8_field 141 = .ok (.astore 6, 2) := by decide +kernel
theorem dX8_field_143 : decode cX8_field 143 = .ok (.aload 6, 2) := by decide +kernel
theorem dX8_field_145 : decode cX8_field 145 = .ok (.iconst 0, 1) := by decide +kernel
theorem dX8_field_146 : decode cX8_field 146 = .ok (.aload_n 0, 1) := by decide +kernel
theorem dX8_field_147 : decode cX8_field 147 = .ok (.getfield 10, 3) := by decide +kernel
theorem dX8_field_150 : decode cX8_field 150 = .ok (.getfield 57, 3) := by decide +kernel
theorem dX8_field_153 : decode cX8_field 153 = .ok (.aload_n 0, 1) := by decide +kernel
theorem dX8_field_154 : decode cX8_field 154 = .ok (.getfield 10, 3) := by decide +kernel
theorem dX8_field_157 : decode cX8_field 157 = .ok (.getfield 33, 3) := by decide +kernel
theorem dX8_field_160 : decode cX8_field 160 = .ok (.aaload, 1) := by decide +kernel
theorem dX8_field_161 : decode cX8_field 161 = .ok (.iconst 0, 1) := by decide +kernel
theorem dX8_field_162 : decode cX8_field 162 = .ok (.bipush 11, 2) := by decide +kernel
theorem dX8_field_164 : decode cX8_field 164 = .ok (.invokestatic 61, 3) := by decide +kernel
theorem dX8_field_167 : decode cX8_field 167 = .ok (.aload_n 0, 1) := by decide +kernel
theorem dX8_field_168 : decode cX8_field 168 = .ok (.getfield 10, 3) := by decide +kernel
theorem dX8_field_171 : decode cX8_field 171 = .ok (.dup, 1) := by decide +kernel
theorem dX8_field_172 : decode cX8_field 172 = .ok (.getfield 33, 3) := by decide +kernel
theorem dX8_field_175 : decode cX8_field 175 = .ok (.dup_x1, 1) := by decide +kernel
theorem dX8_field_176 : decode cX8_field 176 = .ok (.iconst 1, 1) := by decide +kernel
theorem dX8_field_177 : decode cX8_field 177 = .ok (.iadd, 1) := by decide +kernel
theorem dX8_field_178 : decode cX8_field 178 = .ok (.putfield 33, 3) := by decide +kernel
theorem dX8_field_181 : decode cX8_field 181 = .ok (.ireturn, 1) := by decide +kernel
theorem dX8_crop_0 : decode cX8_crop 0 = .ok (.aload_n 0, 1) := by decide +kernel
theorem dX8_crop_1 : decode cX8_crop 1 = .ok (.iconst 0, 1) := by decide +kernel
theorem dX8_crop_2 : decode cX8_crop 2 = .ok (.putfield 30, 3) := by decide +kernel
theorem dX8_crop_5 : decode cX8_crop 5 = .ok (.aload_n 0, 1) := by decide +kernel
theorem dX8_crop_6 : decode cX8_crop 6 = .ok (.iload_n 1, 1) := by decide +kernel
theorem dX8_crop_7 : decode cX8_crop 7 = .ok (.invokevirtual 67, 3) := by decide +kernel
theorem dX8_crop_10 : decode cX8_crop 10 = .ok (.ifCond .ne 9, 3) := by decide +kernel
theorem dX8_crop_13 : decode cX8_crop 13 = .ok (.aload_n 0, 1) := by decide +kernel
theorem dX8_crop_14 : decode cX8_crop 14 = .ok (.iconst 1, 1) := by decide +kernel
theorem dX8_crop_15 : decode cX8_crop 15 = .ok (.invokevirtual 49, 3) := by decide +kernel
theorem dX8_crop_18 : decode cX8_crop 18 = .ok (.ireturn, 1) := by decide +kernel
theorem dX8_crop_19 : decode cX8_crop 19 = .ok (.iload_n 2, 1) := by decide +kernel
theorem dX8_crop_20 : decode cX8_crop 20 = .ok (.iconst 0, 1) := by decide +kernel
theorem dX8_crop_21 : decode cX8_crop 21 = .ok (.bipush 100, 2) := by decide +kernel
theorem dX8_crop_23 : decode cX8_crop 23 = .ok (.invokestatic 36, 3) := by decide +kernel
theorem dX8_crop_26 : decode cX8_crop 26 = .ok (.ifCond .eq 13, 3) := by decide +kernel
theorem dX8_crop_29 : decode cX8_crop 29 = .ok (.iload_n 3, 1) := by decide +kernel
theorem dX8_crop_30 : decode cX8_crop 30 = .ok (.iconst 5, 1) := by decide +kernel
theorem dX8_crop_31 : decode cX8_crop 31 = .ok (.bipush 40, 2) := by decide +kernel
theorem dX8_crop_33 : decode cX8_crop 33 = .ok (.invokestatic 36, 3) := by decide +kernel
theorem dX8_crop_36 : decode cX8_crop 36 = .ok (.ifCond .ne 9, 3) := by decide +kernel
theorem dX8_crop_39 : decode cX8_crop 39 = .ok (.aload_n 0, 1) := by decide +kernel
theorem dX8_crop_40 : decode cX8_crop 40 = .ok (.iconst 2, 1) := by decide +kernel
theorem dX8_crop_41 : decode cX8_crop 41 = .ok (.invokevirtual 49, 3) := by decide +kernel
theorem dX8_crop_44 : decode cX8_crop 44 = .ok (.ireturn, 1) := by decide +kernel
theorem dX8_crop_45 : decode cX8_crop 45 = .ok (.aload_n 0, 1) := by decide +kernel
theorem dX8_crop_46 : decode cX8_crop 46 = .ok (.getfield 10, 3) := by decide +kernel
theorem dX8_crop_49 : decode cX8_crop 49 = .ok (.getfield 57, 3) := by decide +kernel
theorem dX8_crop_52 : decode cX8_crop 52 = .ok (.iload_n 1, 1) := by decide +kernel
theorem dX8_crop_53 : decode cX8_crop 53 = .ok (.aaload, 1) := by decide +kernel
theorem dX8_crop_54 : decode cX8_crop 54 = .ok (.iconst 4, 1) := by decide +kernel
theorem dX8_crop_55 : decode cX8_crop 55 = .ok (.iaload, 1) := by decide +kernel
theorem dX8_crop_56 : decode cX8_crop 56 = .ok (.istore 4, 2) := by decide +kernel
theorem dX8_crop_58 : decode cX8_crop 58 = .ok (.aload_n 0, 1) := by decide +kernel
theorem dX8_crop_59 : decode cX8_crop 59 = .ok (.getfield 10, 3) := by decide +kernel
theorem dX8_crop_62 : decode cX8_crop 62 = .ok (.getfield 57, 3) := by decide +kernel
theorem dX8_crop_65 : decode cX8_crop 65 = .ok (.iload_n 1, 1) := by decide +kernel
theorem dX8_crop_66 : decode cX8_crop 66 = .ok (.aaload, 1) := by decide +kernel
theorem dX8_crop_67 : decode cX8_crop 67 = .ok (.iconst 4, 1) := by decide +kernel
theorem dX8_crop_68 : decode cX8_crop 68 = .ok (.iload_n 2, 1) := by decide +kernel
theorem dX8_crop_69 : decode cX8_crop 69 = .ok (.iastore, 1) := by decide +kernel
theorem dX8_crop_70 : decode cX8_crop 70 = .ok (.aload_n 0, 1) := by decide +kernel
theorem dX8_crop_71 : decode cX8_crop 71 = .ok (.getfield 10, 3) := by decide +kernel
theorem dX8_crop_74 : decode cX8_crop 74 = .ok (.getfield 57, 3) := by decide +kernel
theorem dX8_crop_77 : decode cX8_crop 77 = .ok (.iload_n 1, 1) := by decide +kernel
theorem dX8_crop_78 : decode cX8_crop 78 = .ok (.aaload, 1) := by decide +kernel
theorem dX8_crop_79 : decode cX8_crop 79 = .ok (.iconst 5, 1) := by decide +kernel
theorem dX8_crop_80 : decode cX8_crop 80 = .ok (.iload_n 3, 1) := by decide +kernel
theorem dX8_crop_81 : decode cX8_crop 81 = .ok (.iastore, 1) := by decide +kernel
theorem dX8_crop_82 : decode cX8_crop 82 = .ok (.iload 4, 2) := by decide +kernel
theorem dX8_crop_84 : decode cX8_crop 84 = .ok (.ireturn, 1) := by decide +kernel
theorem dX8_combine_0 : decode cX8_combine 0 = .ok (.aload_n 0, 1) := by decide +kernel
theorem dX8_combine_1 : decode cX8_combine 1 = .ok (.iconst 0, 1) := by decide +kernel
theorem dX8_combine_2 : decode cX8_combine 2 = .ok (.putfield 30, 3) := by decide +kernel
theorem dX8_combine_5 : decode cX8_combine 5 = .ok (.iload_n 1, 1) := by decide +kernel
theorem dX8_combine_6 : decode cX8_combine 6 = .ok (.invokestatic 53, 3) := by decide +kernel
theorem dX8_combine_9 : decode cX8_combine 9 = .ok (.ifCond .eq 13, 3) := by decide +kernel
theorem dX8_combine_12 : decode cX8_combine 12 = .ok (.iload_n 2, 1) := by decide +kernel
theorem dX8_combine_13 : decode cX8_combine 13 = .ok (.iconst 1, 1) := by decide +kernel
theorem dX8_combine_14 : decode cX8_combine 14 = .ok (.bipush 20, 2) := by decide +kernel
theorem dX8_combine_16 : decode cX8_combine 16 = .ok (.invokestatic 36, 3) := by decide +kernel
theorem dX8_combine_19 : decode cX8_combine 19 = .ok (.ifCond .ne 9, 3) := by decide +kernel
theorem dX8_combine_22 : decode cX8_combine 22 = .ok (.aload_n 0, 1) := by decide +kernel
theorem dX8_combine_23 : decode cX8_combine 23 = .ok (.iconst 1, 1) := by decide +kernel
theorem dX8_combine_24 : decode cX8_combine 24 = .ok (.invokevirtual 49, 3) := by decide +kernel
theorem dX8_combine_27 : decode cX8_combine 27 = .ok (.ireturn, 1) := by decide +kernel
theorem dX8_combine_28 : decode cX8_combine 28 = .ok (.aload_n 0, 1) := by decide +kernel
theorem dX8_combine_29 : decode cX8_combine 29 = .ok (.getfield 10, 3) := by decide +kernel
theorem dX8_combine_32 : decode cX8_combine 32 = .ok (.getfield 40, 3) := by decide +kernel
theorem dX8_combine_35 : decode cX8_combine 35 = .ok (.iconst 4, 1) := by decide +kernel
theorem dX8_combine_36 : decode cX8_combine 36 = .ok (.if_icmp .ne 9, 3) := by decide +kernel
theorem dX8_combine_39 : decode cX8_combine 39 = .ok (.aload_n 0, 1) := by decide +kernel
theorem dX8_combine_40 : decode cX8_combine 40 = .ok (.iconst 2, 1) := by decide +kernel
theorem dX8_combine_41 : decode cX8_combine 41 = .ok (.invokevirtual 49, 3) := by decide +kernel
theorem dX8_combine_44 : decode cX8_combine 44 = .ok (.ireturn, 1) := by decide +kernel
theorem dX8_combine_45 : decode cX8_combine 45 = .ok (.bipush 11, 2) := by decide +kernel
theorem dX8_combine_47 : decode cX8_combine 47 = .ok (.newarray .int, 2) := by decide +kernel
theorem dX8_combine_49 : decode cX8_combine 49 = .ok (.dup, 1) := by decide +kernel
theorem dX8_combine_50 : decode cX8_combine 50 = .ok (.iconst 0, 1) := by decide +kernel
theorem dX8_combine_51 : decode cX8_combine 51 = .ok (.iload_n 2, 1) := by decide +kernel
theorem dX8_combine_52 : decode cX8_combine 52 = .ok (.iastore, 1) := by decide +kernel
theorem dX8_combine_53 : decode cX8_combine 53 = .ok (.dup, 1) := by decide +kernel
theorem dX8_combine_54 : decode cX8_combine 54 = .ok (.iconst 1, 1) := by decide +kernel
theorem dX8_combine_55 : decode cX8_combine 55 = .ok (.iload_n 1, 1) := by decide +kernel
theorem dX8_combine_56 : decode cX8_combine 56 = .ok (.iastore, 1) := by decide +kernel
theorem dX8_combine_57 : decode cX8_combine 57 = .ok (.dup, 1) := by decide +kernel
theorem dX8_combine_58 : decode cX8_combine 58 = .ok (.iconst 2, 1) := by decide +kernel
theorem dX8_combine_59 : decode cX8_combine 59 = .ok (.iconst 0, 1) := by decide +kernel
theorem dX8_combine_60 : decode cX8_combine 60 = .ok (.iastore, 1) := by decide +kernel
theorem dX8_combine_61 : decode cX8_combine 61 = .ok (.dup, 1) := by decide +kernel
theorem dX8_combine_62 : decode cX8_combine 62 = .ok (.iconst 3, 1) := by decide +kernel
theorem dX8_combine_63 : decode cX8_combine 63 = .ok (.iconst (-1), 1) := by decide +kernel
theorem dX8_combine_64 : decode cX8_combine 64 = .ok (.iastore, 1) := by decide +kernel
theorem dX8_combine_65 : decode cX8_combine 65 = .ok (.dup, 1) := by decide +kernel
theorem dX8_combine_66 : decode cX8_combine 66 = .ok (.iconst 4, 1) := by decide +kernel
theorem dX8_combine_67 : decode cX8_combine 67 = .ok (.iconst 0, 1) := by decide +kernel
theorem dX8_combine_68 : decode cX8_combine 68 = .ok (.iastore, 1) := by decide +kernel
theorem dX8_combine_69 : decode cX8_combine 69 = .ok (.dup, 1) := by decide +kernel
theorem dX8_combine_70 : decode cX8_combine 70 = .ok (.iconst 5, 1) := by decide +kernel
theorem dX8_combine_71 : decode cX8_combine 71 = .ok (.iconst 0, 1) := by decide +kernel
theorem dX8_combine_72 : decode cX8_combine 72 = .ok (.iastore, 1) := by decide +kernel
theorem dX8_combine_73 : decode cX8_combine 73 = .ok (.dup, 1) := by decide +kernel
theorem dX8_combine_74 : decode cX8_combine 74 = .ok (.bipush 6, 2) := by decide +kernel
theorem dX8_combine_76 : decode cX8_combine 76 = .ok (.iconst 0, 1) := by decide +kernel
theorem dX8_combine_77 : decode cX8_combine 77 = .ok (.iastore, 1) := by decide +kernel
theorem dX8_combine_78 : decode cX8_combine 78 = .ok (.dup, 1) := by decide +kernel
theorem dX8_combine_79 : decode cX8_combine 79 = .ok (.bipush 7, 2) := by decide +kernel
theorem dX8_combine_81 : decode cX8_combine 81 = .ok (.iconst (-1), 1) := by decide +kernel
theorem dX8_combine_82 : decode cX8_combine 82 = .ok (.iastore, 1) := by decide +kernel
theorem dX8_combine_83 : decode cX8_combine 83 = .ok (.dup, 1) := by decide +kernel
theorem dX8_combine_84 : decode cX8_combine 84 = .ok (.bipush 8, 2) := by decide +kernel
theorem dX8_combine_86 : decode cX8_combine 86 = .ok (.iconst 0, 1) := by decide +kernel
theorem dX8_combine_87 : decode cX8_combine 87 = .ok (.iastore, 1) := by decide +kernel
theorem dX8_combine_88 : decode cX8_combine 88 = .ok (.dup, 1) := by decide +kernel
theorem dX8_combine_89 : decode cX8_combine 89 = .ok (.bipush 9, 2) := by decide +kernel
theorem dX8_combine_91 : decode cX8_combine 91 = .ok (.iconst 0, 1) := by decide +kernel
theorem dX8_combine_92 : decode cX8_combine 92 = .ok (.iastore, 1) := by decide +kernel
theorem dX8_combine_93 : decode cX8_combine 93 = .ok (.dup, 1) := by decide +kernel
theorem dX8_combine_94 : decode cX8_combine 94 = .ok (.bipush 10, 2) := by decide +kernel
theorem dX8_combine_96 : decode cX8_combine 96 = .ok (.iconst 0, 1) := by decide +kernel
theorem dX8_combine_97 : decode cX8_combine 97 = .ok (.iastore, 1) := by decide +kernel
theorem dX8_combine_98 : decode cX8_combine 98 = .ok (.astore_n 3, 1) := by decide +kernel
theorem dX8_combine_99 : decode cX8_combine 99 = .ok (.aload_n 3, 1) := by decide +kernel
theorem dX8_combine_100 : decode cX8_combine 100 = .ok (.iconst 0, 1) := by decide +kernel
theorem dX8_combine_101 : decode cX8_combine 101 = .ok (.aload_n 0, 1) := by decide +kernel
theorem dX8_combine_102 : decode cX8_combine 102 = .ok (.getfield 10, 3) := by decide +kernel
theorem dX8_combine_105 : decode cX8_combine 105 = .ok (.getfield 70, 3) := by decide +kernel
theorem dX8_combine_108 : decode cX8_combine 108 = .ok (.aload_n 0, 1) := by decide +kernel
theorem dX8_combine_109 : decode cX8_combine 109 = .ok (.getfield 10, 3) := by decide +kernel
theorem dX8_combine_112 : decode cX8_combine 112 = .ok (.getfield 40, 3) := by decide +kernel
theorem dX8_combine_115 : decode cX8_combine 115 = .ok (.aaload, 1) := by decide +kernel
theorem dX8_combine_116 : decode cX8_combine 116 = .ok (.iconst 0, 1) := by decide +kernel
theorem dX8_combine_117 : decode cX8_combine 117 = .ok (.bipush 11, 2) := by decide +kernel
theorem dX8_combine_119 : decode cX8_combine 119 = .ok (.invokestatic 61, 3) := by decide +kernel
theorem dX8_combine_122 : decode cX8_combine 122 = .ok (.aload_n 0, 1) := by decide +kernel
theorem dX8_combine_123 : decode cX8_combine 123 = .ok (.getfield 10, 3) := by decide +kernel
theorem dX8_combine_126 : decode cX8_combine 126 = .ok (.dup, 1) := by decide +kernel
theorem dX8_combine_127 : decode cX8_combine 127 = .ok (.getfield 40, 3) := by decide +kernel
theorem dX8_combine_130 : decode cX8_combine 130 = .ok (.dup_x1, 1) := by decide +kernel
theorem dX8_combine_131 : decode cX8_combine 131 = .ok (.iconst 1, 1) := by decide +kernel
theorem dX8_combine_132 : decode cX8_combine 132 = .ok (.iadd, 1) := by decide +kernel
theorem dX8_combine_133 : decode cX8_combine 133 = .ok (.putfield 40, 3) := by decide +kernel
theorem dX8_combine_136 : decode cX8_combine 136 = .ok (.ireturn, 1) := by decide +kernel
theorem dX8_truck_0 : decode cX8_truck 0 = .ok (.aload_n 0, 1) := by decide +kernel
theorem dX8_truck_1 : decode cX8_truck 1 = .ok (.iconst 0, 1) := by decide +kernel
theorem dX8_truck_2 : decode cX8_truck 2 = .ok (.putfield 30, 3) := by decide +kernel
theorem dX8_truck_5 : decode cX8_truck 5 = .ok (.iload_n 1, 1) := by decide +kernel
theorem dX8_truck_6 : decode cX8_truck 6 = .ok (.invokestatic 53, 3) := by decide +kernel
theorem dX8_truck_9 : decode cX8_truck 9 = .ok (.ifCond .ne 9, 3) := by decide +kernel
theorem dX8_truck_12 : decode cX8_truck 12 = .ok (.aload_n 0, 1) := by decide +kernel
theorem dX8_truck_13 : decode cX8_truck 13 = .ok (.iconst 1, 1) := by decide +kernel
theorem dX8_truck_14 : decode cX8_truck 14 = .ok (.invokevirtual 49, 3) := by decide +kernel
theorem dX8_truck_17 : decode cX8_truck 17 = .ok (.ireturn, 1) := by decide +kernel
theorem dX8_truck_18 : decode cX8_truck 18 = .ok (.aload_n 0, 1) := by decide +kernel
theorem dX8_truck_19 : decode cX8_truck 19 = .ok (.getfield 10, 3) := by decide +kernel
theorem dX8_truck_22 : decode cX8_truck 22 = .ok (.getfield 43, 3) := by decide +kernel
theorem dX8_truck_25 : decode cX8_truck 25 = .ok (.iconst 4, 1) := by decide +kernel
theorem dX8_truck_26 : decode cX8_truck 26 = .ok (.if_icmp .ne 9, 3) := by decide +kernel
theorem dX8_truck_29 : decode cX8_truck 29 = .ok (.aload_n 0, 1) := by decide +kernel
theorem dX8_truck_30 : decode cX8_truck 30 = .ok (.iconst 2, 1) := by decide +kernel
theorem dX8_truck_31 : decode cX8_truck 31 = .ok (.invokevirtual 49, 3) := by decide +kernel
theorem dX8_truck_34 : decode cX8_truck 34 = .ok (.ireturn, 1) := by decide +kernel
theorem dX8_truck_35 : decode cX8_truck 35 = .ok (.bipush 10, 2) := by decide +kernel
theorem dX8_truck_37 : decode cX8_truck 37 = .ok (.newarray .int, 2) := by decide +kernel
theorem dX8_truck_39 : decode cX8_truck 39 = .ok (.dup, 1) := by decide +kernel
theorem dX8_truck_40 : decode cX8_truck 40 = .ok (.iconst 0, 1) := by decide +kernel
theorem dX8_truck_41 : decode cX8_truck 41 = .ok (.iconst 0, 1) := by decide +kernel
theorem dX8_truck_42 : decode cX8_truck 42 = .ok (.iastore, 1) := by decide +kernel
theorem dX8_truck_43 : decode cX8_truck 43 = .ok (.dup, 1) := by decide +kernel
theorem dX8_truck_44 : decode cX8_truck 44 = .ok (.iconst 1, 1) := by decide +kernel
theorem dX8_truck_45 : decode cX8_truck 45 = .ok (.iload_n 1, 1) := by decide +kernel
theorem dX8_truck_46 : decode cX8_truck 46 = .ok (.iastore, 1) := by decide +kernel
theorem dX8_truck_47 : decode cX8_truck 47 = .ok (.dup, 1) := by decide +kernel
theorem dX8_truck_48 : decode cX8_truck 48 = .ok (.iconst 2, 1) := by decide +kernel
theorem dX8_truck_49 : decode cX8_truck 49 = .ok (.iconst 0, 1) := by decide +kernel
theorem dX8_truck_50 : decode cX8_truck 50 = .ok (.iastore, 1) := by decide +kernel
theorem dX8_truck_51 : decode cX8_truck 51 = .ok (.dup, 1) := by decide +kernel
theorem dX8_truck_52 : decode cX8_truck 52 = .ok (.iconst 3, 1) := by decide +kernel
theorem dX8_truck_53 : decode cX8_truck 53 = .ok (.iconst (-1), 1) := by decide +kernel
theorem dX8_truck_54 : decode cX8_truck 54 = .ok (.iastore, 1) := by decide +kernel
theorem dX8_truck_55 : decode cX8_truck 55 = .ok (.dup, 1) := by decide +kernel
theorem dX8_truck_56 : decode cX8_truck 56 = .ok (.iconst 4, 1) := by decide +kernel
theorem dX8_truck_57 : decode cX8_truck 57 = .ok (.iconst 0, 1) := by decide +kernel
theorem dX8_truck_58 : decode cX8_truck 58 = .ok (.iastore, 1) := by decide +kernel
theorem dX8_truck_59 : decode cX8_truck 59 = .ok (.dup, 1) := by decide +kernel
theorem dX8_truck_60 : decode cX8_truck 60 = .ok (.iconst 5, 1) := by decide +kernel
theorem dX8_truck_61 : decode cX8_truck 61 = .ok (.iconst 0, 1) := by decide +kernel
theorem dX8_truck_62 : decode cX8_truck 62 = .ok (.iastore, 1) := by decide +kernel
theorem dX8_truck_63 : decode cX8_truck 63 = .ok (.dup, 1) := by decide +kernel
theorem dX8_truck_64 : decode cX8_truck 64 = .ok (.bipush 6, 2) := by decide +kernel
theorem dX8_truck_66 : decode cX8_truck 66 = .ok (.iconst 0, 1) := by decide +kernel
theorem dX8_truck_67 : decode cX8_truck 67 = .ok (.iastore, 1) := by decide +kernel
theorem dX8_truck_68 : decode cX8_truck 68 = .ok (.dup, 1) := by decide +kernel
theorem dX8_truck_69 : decode cX8_truck 69 = .ok (.bipush 7, 2) := by decide +kernel
theorem dX8_truck_71 : decode cX8_truck 71 = .ok (.iconst (-1), 1) := by decide +kernel
theorem dX8_truck_72 : decode cX8_truck 72 = .ok (.iastore, 1) := by decide +kernel
theorem dX8_truck_73 : decode cX8_truck 73 = .ok (.dup, 1) := by decide +kernel
theorem dX8_truck_74 : decode cX8_truck 74 = .ok (.bipush 8, 2) := by decide +kernel
theorem dX8_truck_76 : decode cX8_truck 76 = .ok (.iconst 0, 1) := by decide +kernel
theorem dX8_truck_77 : decode cX8_truck 77 = .ok (.iastore, 1) := by decide +kernel
theorem dX8_truck_78 : decode cX8_truck 78 = .ok (.dup, 1) := by decide +kernel
theorem dX8_truck_79 : decode cX8_truck 79 = .ok (.bipush 9, 2) := by decide +kernel
theorem dX8_truck_81 : decode cX8_truck 81 = .ok (.iconst 0, 1) := by decide +kernel
theorem dX8_truck_82 : decode cX8_truck 82 = .ok (.iastore, 1) := by decide +kernel
theorem dX8_truck_83 : decode cX8_truck 83 = .ok (.astore_n 2, 1) := by decide +kernel
theorem dX8_truck_84 : decode cX8_truck 84 = .ok (.aload_n 2, 1) := by decide +kernel
theorem dX8_truck_85 : decode cX8_truck 85 = .ok (.iconst 0, 1) := by decide +kernel
theorem dX8_truck_86 : decode cX8_truck 86 = .ok (.aload_n 0, 1) := by decide +kernel
theorem dX8_truck_87 : decode cX8_truck 87 = .ok (.getfield 10, 3) := by decide +kernel
theorem dX8_truck_90 : decode cX8_truck 90 = .ok (.getfield 73, 3) := by decide +kernel
theorem dX8_truck_93 : decode cX8_truck 93 = .ok (.aload_n 0, 1) := by decide +kernel
theorem dX8_truck_94 : decode cX8_truck 94 = .ok (.getfield 10, 3) := by decide +kernel
theorem dX8_truck_97 : decode cX8_truck 97 = .ok (.getfield 43, 3) := by decide +kernel
theorem dX8_truck_100 : decode cX8_truck 100 = .ok (.aaload, 1) := by decide +kernel
theorem dX8_truck_101 : decode cX8_truck 101 = .ok (.iconst 0, 1) := by decide +kernel
theorem dX8_truck_102 : decode cX8_truck 102 = .ok (.bipush 10, 2) := by decide +kernel
theorem dX8_truck_104 : decode cX8_truck 104 = .ok (.invokestatic 61, 3) := by decide +kernel
theorem dX8_truck_107 : decode cX8_truck 107 = .ok (.aload_n 0, 1) := by decide +kernel
theorem dX8_truck_108 : decode cX8_truck 108 = .ok (.getfield 10, 3) := by decide +kernel
theorem dX8_truck_111 : decode cX8_truck 111 = .ok (.dup, 1) := by decide +kernel
theorem dX8_truck_112 : decode cX8_truck 112 = .ok (.getfield 43, 3) := by decide +kernel
theorem dX8_truck_115 : decode cX8_truck 115 = .ok (.dup_x1, 1) := by decide +kernel
theorem dX8_truck_116 : decode cX8_truck 116 = .ok (.iconst 1, 1) := by decide +kernel
theorem dX8_truck_117 : decode cX8_truck 117 = .ok (.iadd, 1) := by decide +kernel
theorem dX8_truck_118 : decode cX8_truck 118 = .ok (.putfield 43, 3) := by decide +kernel
theorem dX8_truck_121 : decode cX8_truck 121 = .ok (.ireturn, 1) := by decide +kernel
theorem dX8_elevator_0 : decode cX8_elevator 0 = .ok (.aload_n 0, 1) := by decide +kernel
theorem dX8_elevator_1 : decode cX8_elevator 1 = .ok (.iconst 0, 1) := by decide +kernel
theorem dX8_elevator_2 : decode cX8_elevator 2 = .ok (.putfield 30, 3) := by decide +kernel
theorem dX8_elevator_5 : decode cX8_elevator 5 = .ok (.iload_n 1, 1) := by decide +kernel
theorem dX8_elevator_6 : decode cX8_elevator 6 = .ok (.invokestatic 53, 3) := by decide +kernel
theorem dX8_elevator_9 : decode cX8_elevator 9 = .ok (.ifCond .eq 64, 3) := by decide +kernel
theorem dX8_elevator_12 : decode cX8_elevator 12 = .ok (.iload_n 2, 1) := by decide +kernel
theorem dX8_elevator_13 : decode cX8_elevator 13 = .ok (.iconst 0, 1) := by decide +kernel
theorem dX8_elevator_14 : decode cX8_elevator 14 = .ok (.sipush 9999, 3) := by decide +kernel
theorem dX8_elevator_17 : decode cX8_elevator 17 = .ok (.invokestatic 36, 3) := by decide +kernel
theorem dX8_elevator_20 : decode cX8_elevator 20 = .ok (.ifCond .eq 53, 3) := by decide +kernel
theorem dX8_elevator_23 : decode cX8_elevator 23 = .ok (.iload_n 3, 1) := by decide +kernel
theorem dX8_elevator_24 : decode cX8_elevator 24 = .ok (.iconst 0, 1) := by decide +kernel
theorem dX8_elevator_25 : decode cX8_elevator 25 = .ok (.bipush 23, 2) := by decide +kernel
theorem dX8_elevator_27 : decode cX8_elevator 27 = .ok (.invokestatic 36, 3) := by decide +kernel
theorem dX8_elevator_30 : decode cX8_elevator 30 = .ok (.ifCond .eq 43, 3) := by decide +kernel
theorem dX8_elevator_33 : decode cX8_elevator 33 = .ok (.iload 4, 2) := by decide +kernel
theorem dX8_elevator_35 : decode cX8_elevator 35 = .ok (.iconst 0, 1) := by decide +kernel
theorem dX8_elevator_36 : decode cX8_elevator 36 = .ok (.bipush 23, 2) := by decide +kernel
theorem dX8_elevator_38 : decode cX8_elevator 38 = .ok (.invokestatic 36, 3) := by decide +kernel
theorem dX8_elevator_41 : decode cX8_elevator 41 = .ok (.ifCond .eq 32, 3) := by decide +kernel
theorem dX8_elevator_44 : decode cX8_elevator 44 = .ok (.iload_n 3, 1) := by decide +kernel
theorem dX8_elevator_45 : decode cX8_elevator 45 = .ok (.iload 4, 2) := by decide +kernel
theorem dX8_elevator_47 : decode cX8_elevator 47 = .ok (.if_icmp .eq 26, 3) := by decide +kernel
theorem dX8_elevator_50 : decode cX8_elevator 50 = .ok (.iload 5, 2) := by decide +kernel
theorem dX8_elevator_52 : decode cX8_elevator 52 = .ok (.iconst 5, 1) := by decide +kernel
theorem dX8_elevator_53 : decode cX8_elevator 53 = .ok (.bipush 40, 2) := by decide +kernel
theorem dX8_elevator_55 : decode cX8_elevator 55 = .ok (.invokestatic 36, 3) := by decide +kernel
theorem dX8_elevator_58 : decode cX8_elevator 58 = .ok (.ifCond .eq 15, 3) := by decide +kernel
theorem dX8_elevator_61 : decode cX8_elevator 61 = .ok (.iload 6, 2) := by decide +kernel
theorem dX8_elevator_63 : decode cX8_elevator 63 = .ok (.iload 5, 2) := by decide +kernel
theorem dX8_elevator_65 : decode cX8_elevator 65 = .ok (.bipush 40, 2) := by decide +kernel
theorem dX8_elevator_67 : decode cX8_elevator 67 = .ok (.invokestatic 36, 3) := by decide +kernel
theorem dX8_elevator_70 : decode cX8_elevator 70 = .ok (.ifCond .ne 9, 3) := by decide +kernel
theorem dX8_elevator_73 : decode cX8_elevator 73 = .ok (.aload_n 0, 1) := by decide +kernel
theorem dX8_elevator_74 : decode cX8_elevator 74 = .ok (.iconst 1, 1) := by decide +kernel
theorem dX8_elevator_75 : decode cX8_elevator 75 = .ok (.invokevirtual 49, 3) := by decide +kernel
theorem dX8_elevator_78 : decode cX8_elevator 78 = .ok (.ireturn, 1) := by decide +kernel
theorem dX8_elevator_79 : decode cX8_elevator 79 = .ok (.aload_n 0, 1) := by decide +kernel
theorem dX8_elevator_80 : decode cX8_elevator 80 = .ok (.getfield 10, 3) := by decide +kernel
theorem dX8_elevator_83 : decode cX8_elevator 83 = .ok (.getfield 46, 3) := by decide +kernel
theorem dX8_elevator_86 : decode cX8_elevator 86 = .ok (.iconst 3, 1) := by decide +kernel
theorem dX8_elevator_87 : decode cX8_elevator 87 = .ok (.if_icmp .ne 9, 3) := by decide +kernel
theorem dX8_elevator_90 : decode cX8_elevator 90 = .ok (.aload_n 0, 1) := by decide +kernel
theorem dX8_elevator_91 : decode cX8_elevator 91 = .ok (.iconst 2, 1) := by decide +kernel
theorem dX8_elevator_92 : decode cX8_elevator 92 = .ok (.invokevirtual 49, 3) := by decide +kernel
theorem dX8_elevator_95 : decode cX8_elevator 95 = .ok (.ireturn, 1) := by decide +kernel
theorem dX8_elevator_96 : decode cX8_elevator 96 = .ok (.bipush 6, 2) := by decide +kernel
theorem dX8_elevator_98 : decode cX8_elevator 98 = .ok (.newarray .int, 2) := by decide +kernel
theorem dX8_elevator_100 : decode cX8_elevator 100 = .ok (.dup, 1) := by decide +kernel
theorem dX8_elevator_101 : decode cX8_elevator 101 = .ok (.iconst 0, 1) := by decide +kernel
theorem dX8_elevator_102 : decode cX8_elevator 102 = .ok (.iload_n 3, 1) := by decide +kernel
theorem dX8_elevator_103 : decode cX8_elevator 103 = .ok (.iastore, 1) := by decide +kernel
theorem dX8_elevator_104 : decode cX8_elevator 104 = .ok (.dup, 1) := by decide +kernel
theorem dX8_elevator_105 : decode cX8_elevator 105 = .ok (.iconst 1, 1) := by decide +kernel
theorem dX8_elevator_106 : decode cX8_elevator 106 = .ok (.iload_n 1, 1) := by decide +kernel
theorem dX8_elevator_107 : decode cX8_elevator 107 = .ok (.iastore, 1) := by decide +kernel
theorem dX8_elevator_108 : decode cX8_elevator 108 = .ok (.dup, 1) := by decide +kernel
theorem dX8_elevator_109 : decode cX8_elevator 109 = .ok (.iconst 2, 1) := by decide +kernel
theorem dX8_elevator_110 : decode cX8_elevator 110 = .ok (.iload 4, 2) := by decide +kernel
theorem dX8_elevator_112 : decode cX8_elevator 112 = .ok (.iastore, 1) := by decide +kernel
theorem dX8_elevator_113 : decode cX8_elevator 113 = .ok (.dup, 1) := by decide +kernel
theorem dX8_elevator_114 : decode cX8_elevator 114 = .ok (.iconst 3, 1) := by decide +kernel
theorem dX8_elevator_115 : decode cX8_elevator 115 = .ok (.iload_n 2, 1) := by decide +kernel
theorem dX8_elevator_116 : decode cX8_elevator 116 = .ok (.iastore, 1) := by decide +kernel
theorem dX8_elevator_117 : decode cX8_elevator 117 = .ok (.dup, 1) := by decide +kernel
theorem dX8_elevator_118 : decode cX8_elevator 118 = .ok (.iconst 4, 1) := by decide +kernel
theorem dX8_elevator_119 : decode cX8_elevator 119 = .ok (.iload 5, 2) := by decide +kernel
theorem dX8_elevator_121 : decode cX8_elevator 121 = .ok (.iastore, 1) := by decide +kernel
theorem dX8_elevator_122 : decode cX8_elevator 122 = .ok (.dup, 1) := by decide +kernel
theorem dX8_elevator_123 : decode cX8_elevator 123 = .ok (.iconst 5, 1) := by decide +kernel
theorem dX8_elevator_124 : decode cX8_elevator 124 = .ok (.iload 6, 2) := by decide +kernel
theorem dX8_elevator_126 : decode cX8_elevator 126 = .ok (.iastore, 1) := by decide +kernel
theorem dX8_elevator_127 : decode cX8_elevator 127 = .ok (.astore 7, 2) := by decide +kernel
theorem dX8_elevator_129 : decode cX8_elevator 129 = .ok (.aload 7, 2) := by decide +kernel
theorem dX8_elevator_131 : decode cX8_elevator 131 = .ok (.iconst 0, 1) := by decide +kernel
theorem dX8_elevator_132 : decode cX8_elevator 132 = .ok (.aload_n 0, 1) := by decide +kernel
theorem dX8_elevator_133 : decode cX8_elevator 133 = .ok (.getfield 10, 3) := by decide +kernel
theorem dX8_elevator_136 : decode cX8_elevator 136 = .ok (.getfield 76, 3) := by decide +kernel
theorem dX8_elevator_139 : decode cX8_elevator 139 = .ok (.aload_n 0, 1) := by decide +kernel
theorem dX8_elevator_140 : decode cX8_elevator 140 = .ok (.getfield 10, 3) := by decide +kernel
theorem dX8_elevator_143 : decode cX8_elevator 143 = .ok (.getfield 46, 3) := by decide +kernel
theorem dX8_elevator_146 : decode cX8_elevator 146 = .ok (.aaload, 1) := by decide +kernel
theorem dX8_elevator_147 : decode cX8_elevator 147 = .ok (.iconst 0, 1) := by decide +kernel
theorem dX8_elevator_148 : decode cX8_elevator 148 = .ok (.bipush 6, 2) := by decide +kernel
theorem dX8_elevator_150 : decode cX8_elevator 150 = .ok (.invokestatic 61, 3) := by decide +kernel
theorem dX8_elevator_153 : decode cX8_elevator 153 = .ok (.aload_n 0, 1) := by decide +kernel
theorem dX8_elevator_154 : decode cX8_elevator 154 = .ok (.getfield 10, 3) := by decide +kernel
theorem dX8_elevator_157 : decode cX8_elevator 157 = .ok (.dup, 1) := by decide +kernel
theorem dX8_elevator_158 : decode cX8_elevator 158 = .ok (.getfield 46, 3) := by decide +kernel
theorem dX8_elevator_161 : decode cX8_elevator 161 = .ok (.dup_x1, 1) := by decide +kernel
theorem dX8_elevator_162 : decode cX8_elevator 162 = .ok (.iconst 1, 1) := by decide +kernel
theorem dX8_elevator_163 : decode cX8_elevator 163 = .ok (.iadd, 1) := by decide +kernel
theorem dX8_elevator_164 : decode cX8_elevator 164 = .ok (.putfield 46, 3) := by decide +kernel
theorem dX8_elevator_167 : decode cX8_elevator 167 = .ok (.ireturn, 1) := by decide +kernel
theorem dX8_price_0 : decode cX8_price 0 = .ok (.aload_n 0, 1) := by decide +kernel
theorem dX8_price_1 : decode cX8_price 1 = .ok (.iconst 0, 1) := by decide +kernel
theorem dX8_price_2 : decode cX8_price 2 = .ok (.putfield 30, 3) := by decide +kernel
theorem dX8_price_5 : decode cX8_price 5 = .ok (.iload_n 1, 1) := by decide +kernel
theorem dX8_price_6 : decode cX8_price 6 = .ok (.iconst 1, 1) := by decide +kernel
theorem dX8_price_7 : decode cX8_price 7 = .ok (.sipush 999, 3) := by decide +kernel
theorem dX8_price_10 : decode cX8_price 10 = .ok (.invokestatic 36, 3) := by decide +kernel
theorem dX8_price_13 : decode cX8_price 13 = .ok (.ifCond .ne 9, 3) := by decide +kernel
theorem dX8_price_16 : decode cX8_price 16 = .ok (.aload_n 0, 1) := by decide +kernel
theorem dX8_price_17 : decode cX8_price 17 = .ok (.iconst 1, 1) := by decide +kernel
theorem dX8_price_18 : decode cX8_price 18 = .ok (.invokevirtual 49, 3) := by decide +kernel
theorem dX8_price_21 : decode cX8_price 21 = .ok (.ireturn, 1) := by decide +kernel
theorem dX8_price_22 : decode cX8_price 22 = .ok (.aload_n 0, 1) := by decide +kernel
theorem dX8_price_23 : decode cX8_price 23 = .ok (.getfield 23, 3) := by decide +kernel
theorem dX8_price_26 : decode cX8_price 26 = .ok (.istore_n 2, 1) := by decide +kernel
theorem dX8_price_27 : decode cX8_price 27 = .ok (.aload_n 0, 1) := by decide +kernel
theorem dX8_price_28 : decode cX8_price 28 = .ok (.iload_n 1, 1) := by decide +kernel
theorem dX8_price_29 : decode cX8_price 29 = .ok (.putfield 23, 3) := by decide +kernel
theorem dX8_price_32 : decode cX8_price 32 = .ok (.iload_n 2, 1) := by decide +kernel
theorem dX8_price_33 : decode cX8_price 33 = .ok (.ireturn, 1) := by decide +kernel
theorem dX8_cut_0 : decode cX8_cut 0 = .ok (.aload_n 0, 1) := by decide +kernel
theorem dX8_cut_1 : decode cX8_cut 1 = .ok (.iconst 0, 1) := by decide +kernel
theorem dX8_cut_2 : decode cX8_cut 2 = .ok (.putfield 30, 3) := by decide +kernel
theorem dX8_cut_5 : decode cX8_cut 5 = .ok (.aload_n 0, 1) := by decide +kernel
theorem dX8_cut_6 : decode cX8_cut 6 = .ok (.iload_n 1, 1) := by decide +kernel
theorem dX8_cut_7 : decode cX8_cut 7 = .ok (.invokevirtual 79, 3) := by decide +kernel
theorem dX8_cut_10 : decode cX8_cut 10 = .ok (.ifCond .eq 16, 3) := by decide +kernel
theorem dX8_cut_13 : decode cX8_cut 13 = .ok (.iload_n 2, 1) := by decide +kernel
theorem dX8_cut_14 : decode cX8_cut 14 = .ok (.iconst (-1), 1) := by decide +kernel
theorem dX8_cut_15 : decode cX8_cut 15 = .ok (.if_icmp .eq 17, 3) := by decide +kernel
theorem dX8_cut_18 : decode cX8_cut 18 = .ok (.aload_n 0, 1) := by decide +kernel
theorem dX8_cut_19 : decode cX8_cut 19 = .ok (.iload_n 2, 1) := by decide +kernel
theorem dX8_cut_20 : decode cX8_cut 20 = .ok (.invokevirtual 67, 3) := by decide +kernel
theorem dX8_cut_23 : decode cX8_cut 23 = .ok (.ifCond .ne 9, 3) := by decide +kernel
theorem dX8_cut_26 : decode cX8_cut 26 = .ok (.aload_n 0, 1) := by decide +kernel
theorem dX8_cut_27 : decode cX8_cut 27 = .ok (.iconst 1, 1) := by decide +kernel
theorem dX8_cut_28 : decode cX8_cut 28 = .ok (.invokevirtual 49, 3) := by decide +kernel
theorem dX8_cut_31 : decode cX8_cut 31 = .ok (.ireturn, 1) := by decide +kernel
theorem dX8_cut_32 : decode cX8_cut 32 = .ok (.aload_n 0, 1) := by decide +kernel
theorem dX8_cut_33 : decode cX8_cut 33 = .ok (.getfield 10, 3) := by decide +kernel
theorem dX8_cut_36 : decode cX8_cut 36 = .ok (.getfield 70, 3) := by decide +kernel
theorem dX8_cut_39 : decode cX8_cut 39 = .ok (.iload_n 1, 1) := by decide +kernel
theorem dX8_cut_40 : decode cX8_cut 40 = .ok (.aaload, 1) := by decide +kernel
theorem dX8_cut_41 : decode cX8_cut 41 = .ok (.bipush 7, 2) := by decide +kernel
theorem dX8_cut_43 : decode cX8_cut 43 = .ok (.iload_n 2, 1) := by decide +kernel
theorem dX8_cut_44 : decode cX8_cut 44 = .ok (.iastore, 1) := by decide +kernel
theorem dX8_cut_45 : decode cX8_cut 45 = .ok (.iload_n 2, 1) := by decide +kernel
theorem dX8_cut_46 : decode cX8_cut 46 = .ok (.iconst (-1), 1) := by decide +kernel
theorem dX8_cut_47 : decode cX8_cut 47 = .ok (.if_icmp .ne 7, 3) := by decide +kernel
theorem dX8_cut_50 : decode cX8_cut 50 = .ok (.iconst 0, 1) := by decide +kernel
theorem dX8_cut_51 : decode cX8_cut 51 = .ok (.goto 11, 3) := by decide +kernel
theorem dX8_cut_54 : decode cX8_cut 54 = .ok (.aload_n 0, 1) := by decide +kernel
theorem dX8_cut_55 : decode cX8_cut 55 = .ok (.getfield 10, 3) := by decide +kernel
theorem dX8_cut_58 : decode cX8_cut 58 = .ok (.iload_n 2, 1) := by decide +kernel
theorem dX8_cut_59 : decode cX8_cut 59 = .ok (.invokevirtual 82, 3) := by decide +kernel
theorem dX8_cut_62 : decode cX8_cut 62 = .ok (.ireturn, 1) := by decide +kernel
theorem dX8_send_0 : decode cX8_send 0 = .ok (.aload_n 0, 1) := by decide +kernel
theorem dX8_send_1 : decode cX8_send 1 = .ok (.getfield 10, 3) := by decide +kernel
theorem dX8_send_4 : decode cX8_send 4 = .ok (.getfield 73, 3) := by decide +kernel
theorem dX8_send_7 : decode cX8_send 7 = .ok (.iload_n 1, 1) := by decide +kernel
theorem dX8_send_8 : decode cX8_send 8 = .ok (.aaload, 1) := by decide +kernel
theorem dX8_send_9 : decode cX8_send 9 = .ok (.astore 5, 2) := by decide +kernel
theorem dX8_send_11 : decode cX8_send 11 = .ok (.aload 5, 2) := by decide +kernel
theorem dX8_send_13 : decode cX8_send 13 = .ok (.iconst 0, 1) := by decide +kernel
theorem dX8_send_14 : decode cX8_send 14 = .ok (.iload_n 2, 1) := by decide +kernel
theorem dX8_send_15 : decode cX8_send 15 = .ok (.iastore, 1) := by decide +kernel
theorem dX8_send_16 : decode cX8_send 16 = .ok (.aload 5, 2) := by decide +kernel
theorem dX8_send_18 : decode cX8_send 18 = .ok (.bipush 7, 2) := by decide +kernel
theorem dX8_send_20 : decode cX8_send 20 = .ok (.iload_n 3, 1) := by decide +kernel
theorem dX8_send_21 : decode cX8_send 21 = .ok (.iastore, 1) := by decide +kernel
theorem dX8_send_22 : decode cX8_send 22 = .ok (.aload 5, 2) := by decide +kernel
theorem dX8_send_24 : decode cX8_send 24 = .ok (.iconst 1, 1) := by decide +kernel
theorem dX8_send_25 : decode cX8_send 25 = .ok (.iaload, 1) := by decide +kernel
theorem dX8_send_26 : decode cX8_send 26 = .ok (.iload 4, 2) := by decide +kernel
theorem dX8_send_28 : decode cX8_send 28 = .ok (.isub, 1) := by decide +kernel
theorem dX8_send_29 : decode cX8_send 29 = .ok (.invokestatic 85, 3) := by decide +kernel
theorem dX8_send_32 : decode cX8_send 32 = .ok (.ireturn, 1) := by decide +kernel
theorem dX8_fetch_0 : decode cX8_fetch 0 = .ok (.aload_n 0, 1) := by decide +kernel
theorem dX8_fetch_1 : decode cX8_fetch 1 = .ok (.iconst 0, 1) := by decide +kernel
theorem dX8_fetch_2 : decode cX8_fetch 2 = .ok (.putfield 30, 3) := by decide +kernel
theorem dX8_fetch_5 : decode cX8_fetch 5 = .ok (.aload_n 0, 1) := by decide +kernel
theorem dX8_fetch_6 : decode cX8_fetch 6 = .ok (.iload_n 1, 1) := by decide +kernel
theorem dX8_fetch_7 : decode cX8_fetch 7 = .ok (.invokevirtual 90, 3) := by decide +kernel
theorem dX8_fetch_10 : decode cX8_fetch 10 = .ok (.ifCond .eq 11, 3) := by decide +kernel
theorem dX8_fetch_13 : decode cX8_fetch 13 = .ok (.aload_n 0, 1) := by decide +kernel
theorem dX8_fetch_14 : decode cX8_fetch 14 = .ok (.iload_n 2, 1) := by decide +kernel
theorem dX8_fetch_15 : decode cX8_fetch 15 = .ok (.invokevirtual 79, 3) := by decide +kernel
theorem dX8_fetch_18 : decode cX8_fetch 18 = .ok (.ifCond .ne 9, 3) := by decide +kernel
theorem dX8_fetch_21 : decode cX8_fetch 21 = .ok (.aload_n 0, 1) := by decide +kernel
theorem dX8_fetch_22 : decode cX8_fetch 22 = .ok (.iconst 1, 1) := by decide +kernel
theorem dX8_fetch_23 : decode cX8_fetch 23 = .ok (.invokevirtual 49, 3) := by decide +kernel
theorem dX8_fetch_26 : decode cX8_fetch 26 = .ok (.ireturn, 1) := by decide +kernel
theorem dX8_fetch_27 : decode cX8_fetch 27 = .ok (.aload_n 0, 1) := by decide +kernel
theorem dX8_fetch_28 : decode cX8_fetch 28 = .ok (.iload_n 1, 1) := by decide +kernel
theorem dX8_fetch_29 : decode cX8_fetch 29 = .ok (.iconst 1, 1) := by decide +kernel
theorem dX8_fetch_30 : decode cX8_fetch 30 = .ok (.iload_n 2, 1) := by decide +kernel
theorem dX8_fetch_31 : decode cX8_fetch 31 = .ok (.aload_n 0, 1) := by decide +kernel
theorem dX8_fetch_32 : decode cX8_fetch 32 = .ok (.getfield 10, 3) := by decide +kernel
theorem dX8_fetch_35 : decode cX8_fetch 35 = .ok (.getfield 70, 3) := by decide +kernel
theorem dX8_fetch_38 : decode cX8_fetch 38 = .ok (.iload_n 2, 1) := by decide +kernel
theorem dX8_fetch_39 : decode cX8_fetch 39 = .ok (.aaload, 1) := by decide +kernel
theorem dX8_fetch_40 : decode cX8_fetch 40 = .ok (.iconst 1, 1) := by decide +kernel
theorem dX8_fetch_41 : decode cX8_fetch 41 = .ok (.iaload, 1) := by decide +kernel
theorem dX8_fetch_42 : decode cX8_fetch 42 = .ok (.invokevirtual 93, 3) := by decide +kernel
theorem dX8_fetch_45 : decode cX8_fetch 45 = .ok (.ireturn, 1) := by decide +kernel
theorem dX8_haul_0 : decode cX8_haul 0 = .ok (.aload_n 0, 1) := by decide +kernel
theorem dX8_haul_1 : decode cX8_haul 1 = .ok (.iconst 0, 1) := by decide +kernel
theorem dX8_haul_2 : decode cX8_haul 2 = .ok (.putfield 30, 3) := by decide +kernel
theorem dX8_haul_5 : decode cX8_haul 5 = .ok (.aload_n 0, 1) := by decide +kernel
theorem dX8_haul_6 : decode cX8_haul 6 = .ok (.iload_n 1, 1) := by decide +kernel
theorem dX8_haul_7 : decode cX8_haul 7 = .ok (.invokevirtual 90, 3) := by decide +kernel
theorem dX8_haul_10 : decode cX8_haul 10 = .ok (.ifCond .eq 11, 3) := by decide +kernel
theorem dX8_haul_13 : decode cX8_haul 13 = .ok (.aload_n 0, 1) := by decide +kernel
theorem dX8_haul_14 : decode cX8_haul 14 = .ok (.iload_n 2, 1) := by decide +kernel
theorem dX8_haul_15 : decode cX8_haul 15 = .ok (.invokevirtual 97, 3) := by decide +kernel
theorem dX8_haul_18 : decode cX8_haul 18 = .ok (.ifCond .ne 9, 3) := by decide +kernel
theorem dX8_haul_21 : decode cX8_haul 21 = .ok (.aload_n 0, 1) := by decide +kernel
theorem dX8_haul_22 : decode cX8_haul 22 = .ok (.iconst 1, 1) := by decide +kernel
theorem dX8_haul_23 : decode cX8_haul 23 = .ok (.invokevirtual 49, 3) := by decide +kernel
theorem dX8_haul_26 : decode cX8_haul 26 = .ok (.ireturn, 1) := by decide +kernel
theorem dX8_haul_27 : decode cX8_haul 27 = .ok (.aload_n 0, 1) := by decide +kernel
theorem dX8_haul_28 : decode cX8_haul 28 = .ok (.iload_n 1, 1) := by decide +kernel
theorem dX8_haul_29 : decode cX8_haul 29 = .ok (.iconst 2, 1) := by decide +kernel
theorem dX8_haul_30 : decode cX8_haul 30 = .ok (.iload_n 2, 1) := by decide +kernel
theorem dX8_haul_31 : decode cX8_haul 31 = .ok (.aload_n 0, 1) := by decide +kernel
theorem dX8_haul_32 : decode cX8_haul 32 = .ok (.getfield 10, 3) := by decide +kernel
theorem dX8_haul_35 : decode cX8_haul 35 = .ok (.getfield 76, 3) := by decide +kernel
theorem dX8_haul_38 : decode cX8_haul 38 = .ok (.iload_n 2, 1) := by decide +kernel
theorem dX8_haul_39 : decode cX8_haul 39 = .ok (.aaload, 1) := by decide +kernel
theorem dX8_haul_40 : decode cX8_haul 40 = .ok (.iconst 1, 1) := by decide +kernel
theorem dX8_haul_41 : decode cX8_haul 41 = .ok (.iaload, 1) := by decide +kernel
theorem dX8_haul_42 : decode cX8_haul 42 = .ok (.invokevirtual 93, 3) := by decide +kernel
theorem dX8_haul_45 : decode cX8_haul 45 = .ok (.ireturn, 1) := by decide +kernel
theorem dX8_stop_0 : decode cX8_stop 0 = .ok (.aload_n 0, 1) := by decide +kernel
theorem dX8_stop_1 : decode cX8_stop 1 = .ok (.iconst 0, 1) := by decide +kernel
theorem dX8_stop_2 : decode cX8_stop 2 = .ok (.putfield 30, 3) := by decide +kernel
theorem dX8_stop_5 : decode cX8_stop 5 = .ok (.aload_n 0, 1) := by decide +kernel
theorem dX8_stop_6 : decode cX8_stop 6 = .ok (.iload_n 1, 1) := by decide +kernel
theorem dX8_stop_7 : decode cX8_stop 7 = .ok (.invokevirtual 90, 3) := by decide +kernel
theorem dX8_stop_10 : decode cX8_stop 10 = .ok (.ifCond .ne 9, 3) := by decide +kernel
theorem dX8_stop_13 : decode cX8_stop 13 = .ok (.aload_n 0, 1) := by decide +kernel
theorem dX8_stop_14 : decode cX8_stop 14 = .ok (.iconst 1, 1) := by decide +kernel
theorem dX8_stop_15 : decode cX8_stop 15 = .ok (.invokevirtual 49, 3) := by decide +kernel
theorem dX8_stop_18 : decode cX8_stop 18 = .ok (.ireturn, 1) := by decide +kernel
theorem dX8_stop_19 : decode cX8_stop 19 = .ok (.aload_n 0, 1) := by decide +kernel
theorem dX8_stop_20 : decode cX8_stop 20 = .ok (.getfield 10, 3) := by decide +kernel
theorem dX8_stop_23 : decode cX8_stop 23 = .ok (.getfield 73, 3) := by decide +kernel
theorem dX8_stop_26 : decode cX8_stop 26 = .ok (.iload_n 1, 1) := by decide +kernel
theorem dX8_stop_27 : decode cX8_stop 27 = .ok (.aaload, 1) := by decide +kernel
theorem dX8_stop_28 : decode cX8_stop 28 = .ok (.iconst 0, 1) := by decide +kernel
theorem dX8_stop_29 : decode cX8_stop 29 = .ok (.iconst 0, 1) := by decide +kernel
theorem dX8_stop_30 : decode cX8_stop 30 = .ok (.iastore, 1) := by decide +kernel
theorem dX8_stop_31 : decode cX8_stop 31 = .ok (.aload_n 0, 1) := by decide +kernel
theorem dX8_stop_32 : decode cX8_stop 32 = .ok (.getfield 10, 3) := by decide +kernel
theorem dX8_stop_35 : decode cX8_stop 35 = .ok (.getfield 73, 3) := by decide +kernel
theorem dX8_stop_38 : decode cX8_stop 38 = .ok (.iload_n 1, 1) := by decide +kernel
theorem dX8_stop_39 : decode cX8_stop 39 = .ok (.aaload, 1) := by decide +kernel
theorem dX8_stop_40 : decode cX8_stop 40 = .ok (.iconst 5, 1) := by decide +kernel
theorem dX8_stop_41 : decode cX8_stop 41 = .ok (.iaload, 1) := by decide +kernel
theorem dX8_stop_42 : decode cX8_stop 42 = .ok (.ireturn, 1) := by decide +kernel
theorem dX8_mend_0 : decode cX8_mend 0 = .ok (.aload_n 0, 1) := by decide +kernel
theorem dX8_mend_1 : decode cX8_mend 1 = .ok (.iconst 0, 1) := by decide +kernel
theorem dX8_mend_2 : decode cX8_mend 2 = .ok (.putfield 30, 3) := by decide +kernel
theorem dX8_mend_5 : decode cX8_mend 5 = .ok (.aload_n 0, 1) := by decide +kernel
theorem dX8_mend_6 : decode cX8_mend 6 = .ok (.iload_n 1, 1) := by decide +kernel
theorem dX8_mend_7 : decode cX8_mend 7 = .ok (.invokevirtual 79, 3) := by decide +kernel
theorem dX8_mend_10 : decode cX8_mend 10 = .ok (.ifCond .ne 9, 3) := by decide +kernel
theorem dX8_mend_13 : decode cX8_mend 13 = .ok (.aload_n 0, 1) := by decide +kernel
theorem dX8_mend_14 : decode cX8_mend 14 = .ok (.iconst 1, 1) := by decide +kernel
theorem dX8_mend_15 : decode cX8_mend 15 = .ok (.invokevirtual 49, 3) := by decide +kernel
theorem dX8_mend_18 : decode cX8_mend 18 = .ok (.ireturn, 1) := by decide +kernel
theorem dX8_mend_19 : decode cX8_mend 19 = .ok (.aload_n 0, 1) := by decide +kernel
theorem dX8_mend_20 : decode cX8_mend 20 = .ok (.getfield 10, 3) := by decide +kernel
theorem dX8_mend_23 : decode cX8_mend 23 = .ok (.getfield 70, 3) := by decide +kernel
theorem dX8_mend_26 : decode cX8_mend 26 = .ok (.iload_n 1, 1) := by decide +kernel
theorem dX8_mend_27 : decode cX8_mend 27 = .ok (.aaload, 1) := by decide +kernel
theorem dX8_mend_28 : decode cX8_mend 28 = .ok (.astore_n 2, 1) := by decide +kernel
theorem dX8_mend_29 : decode cX8_mend 29 = .ok (.iconst 3, 1) := by decide +kernel
theorem dX8_mend_30 : decode cX8_mend 30 = .ok (.aload_n 2, 1) := by decide +kernel
theorem dX8_mend_31 : decode cX8_mend 31 = .ok (.iconst 5, 1) := by decide +kernel
theorem dX8_mend_32 : decode cX8_mend 32 = .ok (.iaload, 1) := by decide +kernel
theorem dX8_mend_33 : decode cX8_mend 33 = .ok (.imul, 1) := by decide +kernel
theorem dX8_mend_34 : decode cX8_mend 34 = .ok (.istore_n 3, 1) := by decide +kernel
theorem dX8_mend_35 : decode cX8_mend 35 = .ok (.aload_n 0, 1) := by decide +kernel
theorem dX8_mend_36 : decode cX8_mend 36 = .ok (.getfield 27, 3) := by decide +kernel
theorem dX8_mend_39 : decode cX8_mend 39 = .ok (.iload_n 3, 1) := by decide +kernel
theorem dX8_mend_40 : decode cX8_mend 40 = .ok (.if_icmp .ge 9, 3) := by decide +kernel
theorem dX8_mend_43 : decode cX8_mend 43 = .ok (.aload_n 0, 1) := by decide +kernel
theorem dX8_mend_44 : decode cX8_mend 44 = .ok (.iconst 2, 1) := by decide +kernel
theorem dX8_mend_45 : decode cX8_mend 45 = .ok (.invokevirtual 49, 3) := by decide +kernel
theorem dX8_mend_48 : decode cX8_mend 48 = .ok (.ireturn, 1) := by decide +kernel
theorem dX8_mend_49 : decode cX8_mend 49 = .ok (.aload_n 0, 1) := by decide +kernel
theorem dX8_mend_50 : decode cX8_mend 50 = .ok (.dup, 1) := by decide +kernel
theorem dX8_mend_51 : decode cX8_mend 51 = .ok (.getfield 27, 3) := by decide +kernel
theorem dX8_mend_54 : decode cX8_mend 54 = .ok (.iload_n 3, 1) := by decide +kernel
theorem dX8_mend_55 : decode cX8_mend 55 = .ok (.isub, 1) := by decide +kernel
theorem dX8_mend_56 : decode cX8_mend 56 = .ok (.putfield 27, 3) := by decide +kernel
theorem dX8_mend_59 : decode cX8_mend 59 = .ok (.aload_n 2, 1) := by decide +kernel
theorem dX8_mend_60 : decode cX8_mend 60 = .ok (.iconst 5, 1) := by decide +kernel
theorem dX8_mend_61 : decode cX8_mend 61 = .ok (.iconst 0, 1) := by decide +kernel
theorem dX8_mend_62 : decode cX8_mend 62 = .ok (.iastore, 1) := by decide +kernel
theorem dX8_mend_63 : decode cX8_mend 63 = .ok (.aload_n 2, 1) := by decide +kernel
theorem dX8_mend_64 : decode cX8_mend 64 = .ok (.bipush 6, 2) := by decide +kernel
theorem dX8_mend_66 : decode cX8_mend 66 = .ok (.iconst 0, 1) := by decide +kernel
theorem dX8_mend_67 : decode cX8_mend 67 = .ok (.iastore, 1) := by decide +kernel
theorem dX8_mend_68 : decode cX8_mend 68 = .ok (.iload_n 3, 1) := by decide +kernel
theorem dX8_mend_69 : decode cX8_mend 69 = .ok (.ireturn, 1) := by decide +kernel
theorem dX8_train_0 : decode cX8_train 0 = .ok (.aload_n 0, 1) := by decide +kernel
theorem dX8_train_1 : decode cX8_train 1 = .ok (.iconst 0, 1) := by decide +kernel
theorem dX8_train_2 : decode cX8_train 2 = .ok (.putfield 30, 3) := by decide +kernel
theorem dX8_train_5 : decode cX8_train 5 = .ok (.aload_n 0, 1) := by decide +kernel
theorem dX8_train_6 : decode cX8_train 6 = .ok (.iload_n 1, 1) := by decide +kernel
theorem dX8_train_7 : decode cX8_train 7 = .ok (.invokevirtual 97, 3) := by decide +kernel
theorem dX8_train_10 : decode cX8_train 10 = .ok (.ifCond .ne 9, 3) := by decide +kernel
theorem dX8_train_13 : decode cX8_train 13 = .ok (.aload_n 0, 1) := by decide +kernel
theorem dX8_train_14 : decode cX8_train 14 = .ok (.iconst 1, 1) := by decide +kernel
theorem dX8_train_15 : decode cX8_train 15 = .ok (.invokevirtual 49, 3) := by decide +kernel
theorem dX8_train_18 : decode cX8_train 18 = .ok (.ireturn, 1) := by decide +kernel
theorem dX8_train_19 : decode cX8_train 19 = .ok (.iload_n 2, 1) := by decide +kernel
theorem dX8_train_20 : decode cX8_train 20 = .ok (.iconst 1, 1) := by decide +kernel
theorem dX8_train_21 : decode cX8_train 21 = .ok (.sipush 9999, 3) := by decide +kernel
theorem dX8_train_24 : decode cX8_train 24 = .ok (.invokestatic 36, 3) := by decide +kernel
theorem dX8_train_27 : decode cX8_train 27 = .ok (.ifCond .ne 9, 3) := by decide +kernel
theorem dX8_train_30 : decode cX8_train 30 = .ok (.aload_n 0, 1) := by decide +kernel
theorem dX8_train_31 : decode cX8_train 31 = .ok (.iconst 2, 1) := by decide +kernel
theorem dX8_train_32 : decode cX8_train 32 = .ok (.invokevirtual 49, 3) := by decide +kernel
theorem dX8_train_35 : decode cX8_train 35 = .ok (.ireturn, 1) := by decide +kernel
theorem dX8_train_36 : decode cX8_train 36 = .ok (.aload_n 0, 1) := by decide +kernel
theorem dX8_train_37 : decode cX8_train 37 = .ok (.getfield 10, 3) := by decide +kernel
theorem dX8_train_40 : decode cX8_train 40 = .ok (.getfield 76, 3) := by decide +kernel
theorem dX8_train_43 : decode cX8_train 43 = .ok (.iload_n 1, 1) := by decide +kernel
theorem dX8_train_44 : decode cX8_train 44 = .ok (.aaload, 1) := by decide +kernel
theorem dX8_train_45 : decode cX8_train 45 = .ok (.astore_n 3, 1) := by decide +kernel
theorem dX8_train_46 : decode cX8_train 46 = .ok (.aload_n 3, 1) := by decide +kernel
theorem dX8_train_47 : decode cX8_train 47 = .ok (.iconst 3, 1) := by decide +kernel
theorem dX8_train_48 : decode cX8_train 48 = .ok (.sipush 9999, 3) := by decide +kernel
theorem dX8_train_51 : decode cX8_train 51 = .ok (.aload_n 3, 1) := by decide +kernel
theorem dX8_train_52 : decode cX8_train 52 = .ok (.iconst 3, 1) := by decide +kernel
theorem dX8_train_53 : decode cX8_train 53 = .ok (.iaload, 1) := by decide +kernel
theorem dX8_train_54 : decode cX8_train 54 = .ok (.iload_n 2, 1) := by decide +kernel
theorem dX8_train_55 : decode cX8_train 55 = .ok (.iadd, 1) := by decide +kernel
theorem dX8_train_56 : decode cX8_train 56 = .ok (.invokestatic 100, 3) := by decide +kernel
theorem dX8_train_59 : decode cX8_train 59 = .ok (.iastore, 1) := by decide +kernel
theorem dX8_train_60 : decode cX8_train 60 = .ok (.aload_n 3, 1) := by decide +kernel
theorem dX8_train_61 : decode cX8_train 61 = .ok (.iconst 3, 1) := by decide +kernel
theorem dX8_train_62 : decode cX8_train 62 = .ok (.iaload, 1) := by decide +kernel
theorem dX8_train_63 : decode cX8_train 63 = .ok (.ireturn, 1) := by decide +kernel
theorem dX8_isWeather_0 : decode cX8_isWeather 0 = .ok (.iload_n 0, 1) := by decide +kernel
theorem dX8_isWeather_1 : decode cX8_isWeather 1 = .ok (.iconst 0, 1) := by decide +kernel
theorem dX8_isWeather_2 : decode cX8_isWeather 2 = .ok (.bipush 45, 2) := by decide +kernel
theorem dX8_isWeather_4 : decode cX8_isWeather 4 = .ok (.invokestatic 36, 3) := by decide +kernel
theorem dX8_isWeather_7 : decode cX8_isWeather 7 = .ok (.ifCond .eq 27, 3) := by decide +kernel
theorem dX8_isWeather_10 : decode cX8_isWeather 10 = .ok (.iload_n 1, 1) := by decide +kernel
theorem dX8_isWeather_11 : decode cX8_isWeather 11 = .ok (.iconst 0, 1) := by decide +kernel
theorem dX8_isWeather_12 : decode cX8_isWeather 12 = .ok (.bipush 100, 2) := by decide +kernel
theorem dX8_isWeather_14 : decode cX8_isWeather 14 = .ok (.invokestatic 36, 3) := by decide +kernel
theorem dX8_isWeather_17 : decode cX8_isWeather 17 = .ok (.ifCond .eq 17, 3) := by decide +kernel
theorem dX8_isWeather_20 : decode cX8_isWeather 20 = .ok (.iload_n 2, 1) := by decide +kernel
theorem dX8_isWeather_21 : decode cX8_isWeather 21 = .ok (.iconst 0, 1) := by decide +kernel
theorem dX8_isWeather_22 : decode cX8_isWeather 22 = .ok (.bipush 20, 2) := by decide +kernel
theorem dX8_isWeather_24 : decode cX8_isWeather 24 = .ok (.invokestatic 36, 3) := by decide +kernel
theorem dX8_isWeather_27 : decode cX8_isWeather 27 = .ok (.ifCond .eq 7, 3) := by decide +kernel
theorem dX8_isWeather_30 : decode cX8_isWeather 30 = .ok (.iconst 1, 1) := by decide +kernel
theorem dX8_isWeather_31 : decode cX8_isWeather 31 = .ok (.goto 4, 3) := by decide +kernel
theorem dX8_isWeather_34 : decode cX8_isWeather 34 = .ok (.iconst 0, 1) := by decide +kernel
theorem dX8_isWeather_35 : decode cX8_isWeather 35 = .ok (.ireturn, 1) := by decide +kernel
theorem dX8_pass_0 : decode cX8_pass 0 = .ok (.aload_n 0, 1) := by decide +kernel
theorem dX8_pass_1 : decode cX8_pass 1 = .ok (.iconst 0, 1) := by decide +kernel
theorem dX8_pass_2 : decode cX8_pass 2 = .ok (.putfield 30, 3) := by decide +kernel
theorem dX8_pass_5 : decode cX8_pass 5 = .ok (.iload_n 1, 1) := by decide +kernel
theorem dX8_pass_6 : decode cX8_pass 6 = .ok (.iconst 1, 1) := by decide +kernel
theorem dX8_pass_7 : decode cX8_pass 7 = .ok (.bipush 48, 2) := by decide +kernel
theorem dX8_pass_9 : decode cX8_pass 9 = .ok (.invokestatic 36, 3) := by decide +kernel
theorem dX8_pass_12 : decode cX8_pass 12 = .ok (.ifCond .eq 13, 3) := by decide +kernel
theorem dX8_pass_15 : decode cX8_pass 15 = .ok (.iload_n 2, 1) := by decide +kernel
theorem dX8_pass_16 : decode cX8_pass 16 = .ok (.iload_n 3, 1) := by decide +kernel
theorem dX8_pass_17 : decode cX8_pass 17 = .ok (.iload 4, 2) := by decide +kernel
theorem dX8_pass_19 : decode cX8_pass 19 = .ok (.invokestatic 104, 3) := by decide +kernel
theorem dX8_pass_22 : decode cX8_pass 22 = .ok (.ifCond .ne 9, 3) := by decide +kernel
theorem dX8_pass_25 : decode cX8_pass 25 = .ok (.aload_n 0, 1) := by decide +kernel
theorem dX8_pass_26 : decode cX8_pass 26 = .ok (.iconst 1, 1) := by decide +kernel
theorem dX8_pass_27 : decode cX8_pass 27 = .ok (.invokevirtual 49, 3) := by decide +kernel
theorem dX8_pass_30 : decode cX8_pass 30 = .ok (.ireturn, 1) := by decide +kernel
theorem dX8_pass_31 : decode cX8_pass 31 = .ok (.aload_n 0, 1) := by decide +kernel
theorem dX8_pass_32 : decode cX8_pass 32 = .ok (.getfield 10, 3) := by decide +kernel
theorem dX8_pass_35 : decode cX8_pass 35 = .ok (.getfield 107, 3) := by decide +kernel
theorem dX8_pass_38 : decode cX8_pass 38 = .ok (.iload_n 1, 1) := by decide +kernel
theorem dX8_pass_39 : decode cX8_pass 39 = .ok (.iadd, 1) := by decide +kernel
theorem dX8_pass_40 : decode cX8_pass 40 = .ok (.sipush 2400, 3) := by decide +kernel
theorem dX8_pass_43 : decode cX8_pass 43 = .ok (.if_icmp .le 9, 3) := by decide +kernel
theorem dX8_pass_46 : decode cX8_pass 46 = .ok (.aload_n 0, 1) := by decide +kernel
theorem dX8_pass_47 : decode cX8_pass 47 = .ok (.iconst 2, 1) := by decide +kernel
theorem dX8_pass_48 : decode cX8_pass 48 = .ok (.invokevirtual 49, 3) := by decide +kernel
theorem dX8_pass_51 : decode cX8_pass 51 = .ok (.ireturn, 1) := by decide +kernel
theorem dX8_pass_52 : decode cX8_pass 52 = .ok (.iconst 0, 1) := by decide +kernel
theorem dX8_pass_53 : decode cX8_pass 53 = .ok (.istore 5, 2) := by decide +kernel
theorem dX8_pass_55 : decode cX8_pass 55 = .ok (.iconst 0, 1) := by decide +kernel
theorem dX8_pass_56 : decode cX8_pass 56 = .ok (.istore 6, 2) := by decide +kernel
theorem dX8_pass_58 : decode cX8_pass 58 = .ok (.iload 6, 2) := by decide +kernel
theorem dX8_pass_60 : decode cX8_pass 60 = .ok (.iload_n 1, 1) := by decide +kernel
theorem dX8_pass_61 : decode cX8_pass 61 = .ok (.if_icmp .ge 87, 3) := by decide +kernel
theorem dX8_pass_64 : decode cX8_pass 64 = .ok (.aload_n 0, 1) := by decide +kernel
theorem dX8_pass_65 : decode cX8_pass 65 = .ok (.getfield 10, 3) := by decide +kernel
theorem dX8_pass_68 : decode cX8_pass 68 = .ok (.getfield 110, 3) := by decide +kernel
theorem dX8_pass_71 : decode cX8_pass 71 = .ok (.invokeinterface 114 1, 5) := by decide +kernel
theorem dX8_pass_76 : decode cX8_pass 76 = .ok (.istore 7, 2) := by decide +kernel
theorem dX8_pass_78 : decode cX8_pass 78 = .ok (.iload 5, 2) := by decide +kernel
theorem dX8_pass_80 : decode cX8_pass 80 = .ok (.aload_n 0, 1) := by decide +kernel
theorem dX8_pass_81 : decode cX8_pass 81 = .ok (.getfield 10, 3) := by decide +kernel
theorem dX8_pass_84 : decode cX8_pass 84 = .ok (.iload_n 2, 1) := by decide +kernel
theorem dX8_pass_85 : decode cX8_pass 85 = .ok (.iload_n 3, 1) := by decide +kernel
theorem dX8_pass_86 : decode cX8_pass 86 = .ok (.iload 4, 2) := by decide +kernel
theorem dX8_pass_88 : decode cX8_pass 88 = .ok (.invokevirtual 120, 3) := by decide +kernel
theorem dX8_pass_91 : decode cX8_pass 91 = .ok (.iadd, 1) := by decide +kernel
theorem dX8_pass_92 : decode cX8_pass 92 = .ok (.istore 5, 2) := by decide +kernel
theorem dX8_pass_94 : decode cX8_pass 94 = .ok (.iload 7, 2) := by decide +kernel
theorem dX8_pass_96 : decode cX8_pass 96 = .ok (.istore 8, 2) := by decide +kernel
theorem dX8_pass_98 : decode cX8_pass 98 = .ok (.iload 8, 2) := by decide +kernel
theorem dX8_pass_100 : decode cX8_pass 100 = .ok (.aload_n 0, 1) := by decide +kernel
theorem dX8_pass_101 : decode cX8_pass 101 = .ok (.getfield 10, 3) := by decide +kernel
theorem dX8_pass_104 : decode cX8_pass 104 = .ok (.getfield 110, 3) := by decide +kernel
theorem dX8_pass_107 : decode cX8_pass 107 = .ok (.invokeinterface 114 1, 5) := by decide +kernel
theorem dX8_pass_112 : decode cX8_pass 112 = .ok (.if_icmp .ge 30, 3) := by decide +kernel
theorem dX8_pass_115 : decode cX8_pass 115 = .ok (.aload_n 0, 1) := by decide +kernel
theorem dX8_pass_116 : decode cX8_pass 116 = .ok (.aload_n 0, 1) := by decide +kernel
theorem dX8_pass_117 : decode cX8_pass 117 = .ok (.getfield 10, 3) := by decide +kernel
theorem dX8_pass_120 : decode cX8_pass 120 = .ok (.getfield 110, 3) := by decide +kernel
theorem dX8_pass_123 : decode cX8_pass 123 = .ok (.iload 8, 2) := by decide +kernel
theorem dX8_pass_125 : decode cX8_pass 125 = .ok (.invokeinterface 124 2, 5) := by decide +kernel
theorem dX8_pass_130 : decode cX8_pass 130 = .ok (.checkcast 128, 3) := by decide +kernel
theorem dX8_pass_133 : decode cX8_pass 133 = .ok (.invokevirtual 129, 3) := by decide +kernel
theorem dX8_pass_136 : decode cX8_pass 136 = .ok (.iinc 8 1, 3) := by decide +kernel
theorem dX8_pass_139 : decode cX8_pass 139 = .ok (.goto (-41), 3) := by decide +kernel
theorem dX8_pass_142 : decode cX8_pass 142 = .ok (.iinc 6 1, 3) := by decide +kernel
theorem dX8_pass_145 : decode cX8_pass 145 = .ok (.goto (-87), 3) := by decide +kernel
theorem dX8_pass_148 : decode cX8_pass 148 = .ok (.iload 5, 2) := by decide +kernel
theorem dX8_pass_150 : decode cX8_pass 150 = .ok (.ireturn, 1) := by decide +kernel
theorem dX8_pay_0 : decode cX8_pay 0 = .ok (.aload_n 0, 1) := by decide +kernel
theorem dX8_pay_1 : decode cX8_pay 1 = .ok (.getfield 10, 3) := by decide +kernel
theorem dX8_pay_4 : decode cX8_pay 4 = .ok (.getfield 57, 3) := by decide +kernel
theorem dX8_pay_7 : decode cX8_pay 7 = .ok (.aload_n 1, 1) := by decide +kernel
theorem dX8_pay_8 : decode cX8_pay 8 = .ok (.iconst 0, 1) := by decide +kernel
theorem dX8_pay_9 : decode cX8_pay 9 = .ok (.iaload, 1) := by decide +kernel
theorem dX8_pay_10 : decode cX8_pay 10 = .ok (.aaload, 1) := by decide +kernel
theorem dX8_pay_11 : decode cX8_pay 11 = .ok (.astore_n 2, 1) := by decide +kernel
theorem dX8_pay_12 : decode cX8_pay 12 = .ok (.aload_n 1, 1) := by decide +kernel
theorem dX8_pay_13 : decode cX8_pay 13 = .ok (.bipush 6, 2) := by decide +kernel
theorem dX8_pay_15 : decode cX8_pay 15 = .ok (.aload_n 1, 1) := by decide +kernel
theorem dX8_pay_16 : decode cX8_pay 16 = .ok (.iconst 1, 1) := by decide +kernel
theorem dX8_pay_17 : decode cX8_pay 17 = .ok (.iaload, 1) := by decide +kernel
theorem dX8_pay_18 : decode cX8_pay 18 = .ok (.aload_n 0, 1) := by decide +kernel
theorem dX8_pay_19 : decode cX8_pay 19 = .ok (.getfield 23, 3) := by decide +kernel
theorem dX8_pay_22 : decode cX8_pay 22 = .ok (.imul, 1) := by decide +kernel
theorem dX8_pay_23 : decode cX8_pay 23 = .ok (.bipush 100, 2) := by decide +kernel
theorem dX8_pay_25 : decode cX8_pay 25 = .ok (.aload_n 1, 1) := by decide +kernel
theorem dX8_pay_26 : decode cX8_pay 26 = .ok (.iconst 3, 1) := by decide +kernel
theorem dX8_pay_27 : decode cX8_pay 27 = .ok (.iaload, 1) := by decide +kernel
theorem dX8_pay_28 : decode cX8_pay 28 = .ok (.isub, 1) := by decide +kernel
theorem dX8_pay_29 : decode cX8_pay 29 = .ok (.imul, 1) := by decide +kernel
theorem dX8_pay_30 : decode cX8_pay 30 = .ok (.sipush 10000, 3) := by decide +kernel
theorem dX8_pay_33 : decode cX8_pay 33 = .ok (.idiv, 1) := by decide +kernel
theorem dX8_pay_34 : decode cX8_pay 34 = .ok (.iastore, 1) := by decide +kernel
theorem dX8_pay_35 : decode cX8_pay 35 = .ok (.aload_n 1, 1) := by decide +kernel
theorem dX8_pay_36 : decode cX8_pay 36 = .ok (.bipush 6, 2) := by decide +kernel
theorem dX8_pay_38 : decode cX8_pay 38 = .ok (.iaload, 1) := by decide +kernel
theorem dX8_pay_39 : decode cX8_pay 39 = .ok (.aload_n 2, 1) := by decide +kernel
theorem dX8_pay_40 : decode cX8_pay 40 = .ok (.bipush 10, 2) := by decide +kernel
theorem dX8_pay_42 : decode cX8_pay 42 = .ok (.iaload, 1) := by decide +kernel
theorem dX8_pay_43 : decode cX8_pay 43 = .ok (.imul, 1) := by decide +kernel
theorem dX8_pay_44 : decode cX8_pay 44 = .ok (.bipush 100, 2) := by decide +kernel
theorem dX8_pay_46 : decode cX8_pay 46 = .ok (.idiv, 1) := by decide +kernel
theorem dX8_pay_47 : decode cX8_pay 47 = .ok (.istore_n 3, 1) := by decide +kernel
theorem dX8_pay_48 : decode cX8_pay 48 = .ok (.aload_n 0, 1) := by decide +kernel
theorem dX8_pay_49 : decode cX8_pay 49 = .ok (.getfield 20, 3) := by decide +kernel
theorem dX8_pay_52 : decode cX8_pay 52 = .ok (.aload_n 2, 1) := by decide +kernel
theorem dX8_pay_53 : decode cX8_pay 53 = .ok (.iconst 0, 1) := by decide +kernel
theorem dX8_pay_54 : decode cX8_pay 54 = .ok (.iaload, 1) := by decide +kernel
theorem dX8_pay_55 : decode cX8_pay 55 = .ok (.dup2, 1) := by decide +kernel
theorem dX8_pay_56 : decode cX8_pay 56 = .ok (.iaload, 1) := by decide +kernel
theorem dX8_pay_57 : decode cX8_pay 57 = .ok (.iload_n 3, 1) := by decide +kernel
theorem dX8_pay_58 : decode cX8_pay 58 = .ok (.iadd, 1) := by decide +kernel
theorem dX8_pay_59 : decode cX8_pay 59 = .ok (.iastore, 1) := by decide +kernel
theorem dX8_pay_60 : decode cX8_pay 60 = .ok (.aload_n 0, 1) := by decide +kernel
theorem dX8_pay_61 : decode cX8_pay 61 = .ok (.getfield 16, 3) := by decide +kernel
theorem dX8_pay_64 : decode cX8_pay 64 = .ok (.aload_n 2, 1) := by decide +kernel
theorem dX8_pay_65 : decode cX8_pay 65 = .ok (.iconst 0, 1) := by decide +kernel
theorem dX8_pay_66 : decode cX8_pay 66 = .ok (.iaload, 1) := by decide +kernel
theorem dX8_pay_67 : decode cX8_pay 67 = .ok (.dup2, 1) := by decide +kernel
theorem dX8_pay_68 : decode cX8_pay 68 = .ok (.iaload, 1) := by decide +kernel
theorem dX8_pay_69 : decode cX8_pay 69 = .ok (.aload_n 1, 1) := by decide +kernel
theorem dX8_pay_70 : decode cX8_pay 70 = .ok (.bipush 6, 2) := by decide +kernel
theorem dX8_pay_72 : decode cX8_pay 72 = .ok (.iaload, 1) := by decide +kernel
theorem dX8_pay_73 : decode cX8_pay 73 = .ok (.iload_n 3, 1) := by decide +kernel
theorem dX8_pay_74 : decode cX8_pay 74 = .ok (.isub, 1) := by decide +kernel
theorem dX8_pay_75 : decode cX8_pay 75 = .ok (.iadd, 1) := by decide +kernel
theorem dX8_pay_76 : decode cX8_pay 76 = .ok (.iastore, 1) := by decide +kernel
theorem dX8_pay_77 : decode cX8_pay 77 = .ok (.aload_n 0, 1) := by decide +kernel
theorem dX8_pay_78 : decode cX8_pay 78 = .ok (.dup, 1) := by decide +kernel
theorem dX8_pay_79 : decode cX8_pay 79 = .ok (.getfield 27, 3) := by decide +kernel
theorem dX8_pay_82 : decode cX8_pay 82 = .ok (.iconst 2, 1) := by decide +kernel
theorem dX8_pay_83 : decode cX8_pay 83 = .ok (.aload_n 1, 1) := by decide +kernel
theorem dX8_pay_84 : decode cX8_pay 84 = .ok (.iconst 1, 1) := by decide +kernel
theorem dX8_pay_85 : decode cX8_pay 85 = .ok (.iaload, 1) := by decide +kernel
theorem dX8_pay_86 : decode cX8_pay 86 = .ok (.bipush 10, 2) := by decide +kernel
theorem dX8_pay_88 : decode cX8_pay 88 = .ok (.idiv, 1) := by decide +kernel
theorem dX8_pay_89 : decode cX8_pay 89 = .ok (.imul, 1) := by decide +kernel
theorem dX8_pay_90 : decode cX8_pay 90 = .ok (.iadd, 1) := by decide +kernel
theorem dX8_pay_91 : decode cX8_pay 91 = .ok (.putfield 27, 3) := by decide +kernel
theorem dX8_pay_94 : decode cX8_pay 94 = .ok (.return_, 1) := by decide +kernel
theorem dX8_fieldNow_0 : decode cX8_fieldNow 0 = .ok (.aload_n 0, 1) := by decide +kernel
theorem dX8_fieldNow_1 : decode cX8_fieldNow 1 = .ok (.getfield 10, 3) := by decide +kernel
theorem dX8_fieldNow_4 : decode cX8_fieldNow 4 = .ok (.getfield 57, 3) := by decide +kernel
theorem dX8_fieldNow_7 : decode cX8_fieldNow 7 = .ok (.iload_n 1, 1) := by decide +kernel
theorem dX8_fieldNow_8 : decode cX8_fieldNow 8 = .ok (.aaload, 1) := by decide +kernel
theorem dX8_fieldNow_9 : decode cX8_fieldNow 9 = .ok (.astore_n 3, 1) := by decide +kernel
theorem dX8_fieldNow_10 : decode cX8_fieldNow 10 = .ok (.iload_n 2, 1) := by decide +kernel
theorem dX8_fieldNow_11 : decode cX8_fieldNow 11 = .ok (.tableswitch 79 9 11 #[25, 34, 70], 25) := by decide +kernel
theorem dX8_fieldNow_36 : decode cX8_fieldNow 36 = .ok (.aload_n 0, 1) := by decide +kernel
theorem dX8_fieldNow_37 : decode cX8_fieldNow 37 = .ok (.getfield 10, 3) := by decide +kernel
theorem dX8_fieldNow_40 : decode cX8_fieldNow 40 = .ok (.iload_n 1, 1) := by decide +kernel
theorem dX8_fieldNow_41 : decode cX8_fieldNow 41 = .ok (.invokevirtual 133, 3) := by decide +kernel
theorem dX8_fieldNow_44 : decode cX8_fieldNow 44 = .ok (.ireturn, 1) := by decide +kernel
theorem dX8_fieldNow_45 : decode cX8_fieldNow 45 = .ok (.aload_n 3, 1) := by decide +kernel
theorem dX8_fieldNow_46 : decode cX8_fieldNow 46 = .ok (.bipush 7, 2) := by decide +kernel
theorem dX8_fieldNow_48 : decode cX8_fieldNow 48 = .ok (.iaload, 1) := by decide +kernel
theorem dX8_fieldNow_49 : decode cX8_fieldNow 49 = .ok (.ifCond .eq 14, 3) := by decide +kernel
theorem dX8_fieldNow_52 : decode cX8_fieldNow 52 = .ok (.aload_n 0, 1) := by decide +kernel
theorem dX8_fieldNow_53 : decode cX8_fieldNow 53 = .ok (.getfield 10, 3) := by decide +kernel
theorem dX8_fieldNow_56 : decode cX8_fieldNow 56 = .ok (.iload_n 1, 1) := by decide +kernel
theorem dX8_fieldNow_57 : decode cX8_fieldNow 57 = .ok (.invokevirtual 133, 3) := by decide +kernel
theorem dX8_fieldNow_60 : decode cX8_fieldNow 60 = .ok (.ifCond .le 7, 3) := by decide +kernel
theorem dX8_fieldNow_63 : decode cX8_fieldNow 63 = .ok (.iconst (-1), 1) := by decide +kernel
theorem dX8_fieldNow_64 : decode cX8_fieldNow 64 = .ok (.goto 16, 3) := by decide +kernel
theorem dX8_fieldNow_67 : decode cX8_fieldNow 67 = .ok (.aload_n 3, 1) := by decide +kernel
theorem dX8_fieldNow_68 : decode cX8_fieldNow 68 = .ok (.bipush 8, 2) := by decide +kernel
theorem dX8_fieldNow_70 : decode cX8_fieldNow 70 = .ok (.iaload, 1) := by decide +kernel
theorem dX8_fieldNow_71 : decode cX8_fieldNow 71 = .ok (.sipush 1000, 3) := by decide +kernel
theorem dX8_fieldNow_74 : decode cX8_fieldNow 74 = .ok (.imul, 1) := by decide +kernel
theorem dX8_fieldNow_75 : decode cX8_fieldNow 75 = .ok (.aload_n 3, 1) := by decide +kernel
theorem dX8_fieldNow_76 : decode cX8_fieldNow 76 = .ok (.bipush 7, 2) := by decide +kernel
theorem dX8_fieldNow_78 : decode cX8_fieldNow 78 = .ok (.iaload, 1) := by decide +kernel
theorem dX8_fieldNow_79 : decode cX8_fieldNow 79 = .ok (.idiv, 1) := by decide +kernel
theorem dX8_fieldNow_80 : decode cX8_fieldNow 80 = .ok (.ireturn, 1) := by decide +kernel
theorem dX8_fieldNow_81 : decode cX8_fieldNow 81 = .ok (.aload_n 0, 1) := by decide +kernel
theorem dX8_fieldNow_82 : decode cX8_fieldNow 82 = .ok (.getfield 10, 3) := by decide +kernel
theorem dX8_fieldNow_85 : decode cX8_fieldNow 85 = .ok (.iload_n 1, 1) := by decide +kernel
theorem dX8_fieldNow_86 : decode cX8_fieldNow 86 = .ok (.invokevirtual 82, 3) := by decide +kernel
theorem dX8_fieldNow_89 : decode cX8_fieldNow 89 = .ok (.ireturn, 1) := by decide +kernel
theorem dX8_fieldNow_90 : decode cX8_fieldNow 90 = .ok (.aload_n 3, 1) := by decide +kernel
theorem dX8_fieldNow_91 : decode cX8_fieldNow 91 = .ok (.iload_n 2, 1) := by decide +kernel
theorem dX8_fieldNow_92 : decode cX8_fieldNow 92 = .ok (.iaload, 1) := by decide +kernel
theorem dX8_fieldNow_93 : decode cX8_fieldNow 93 = .ok (.ireturn, 1) := by decide +kernel
theorem dX8_ofField_0 : decode cX8_ofField 0 = .ok (.aload_n 0, 1) := by decide +kernel
theorem dX8_ofField_1 : decode cX8_ofField 1 = .ok (.iconst 0, 1) := by decide +kernel
theorem dX8_ofField_2 : decode cX8_ofField 2 = .ok (.putfield 30, 3) := by decide +kernel
theorem dX8_ofField_5 : decode cX8_ofField 5 = .ok (.aload_n 0, 1) := by decide +kernel
theorem dX8_ofField_6 : decode cX8_ofField 6 = .ok (.iload_n 1, 1) := by decide +kernel
theorem dX8_ofField_7 : decode cX8_ofField 7 = .ok (.invokevirtual 67, 3) := by decide +kernel
theorem dX8_ofField_10 : decode cX8_ofField 10 = .ok (.ifCond .ne 9, 3) := by decide +kernel
theorem dX8_ofField_13 : decode cX8_ofField 13 = .ok (.aload_n 0, 1) := by decide +kernel
theorem dX8_ofField_14 : decode cX8_ofField 14 = .ok (.iconst 1, 1) := by decide +kernel
theorem dX8_ofField_15 : decode cX8_ofField 15 = .ok (.invokevirtual 49, 3) := by decide +kernel
theorem dX8_ofField_18 : decode cX8_ofField 18 = .ok (.ireturn, 1) := by decide +kernel
theorem dX8_ofField_19 : decode cX8_ofField 19 = .ok (.iload_n 2, 1) := by decide +kernel
theorem dX8_ofField_20 : decode cX8_ofField 20 = .ok (.iconst 0, 1) := by decide +kernel
theorem dX8_ofField_21 : decode cX8_ofField 21 = .ok (.bipush 11, 2) := by decide +kernel
theorem dX8_ofField_23 : decode cX8_ofField 23 = .ok (.invokestatic 36, 3) := by decide +kernel
theorem dX8_ofField_26 : decode cX8_ofField 26 = .ok (.ifCond .ne 9, 3) := by decide +kernel
theorem dX8_ofField_29 : decode cX8_ofField 29 = .ok (.aload_n 0, 1) := by decide +kernel
theorem dX8_ofField_30 : decode cX8_ofField 30 = .ok (.iconst 2, 1) := by decide +kernel
theorem dX8_ofField_31 : decode cX8_ofField 31 = .ok (.invokevirtual 49, 3) := by decide +kernel
theorem dX8_ofField_34 : decode cX8_ofField 34 = .ok (.ireturn, 1) := by decide +kernel
theorem dX8_ofField_35 : decode cX8_ofField 35 = .ok (.aload_n 0, 1) := by decide +kernel
theorem dX8_ofField_36 : decode cX8_ofField 36 = .ok (.iload_n 1, 1) := by decide +kernel
theorem dX8_ofField_37 : decode cX8_ofField 37 = .ok (.iload_n 2, 1) := by decide +kernel
theorem dX8_ofField_38 : decode cX8_ofField 38 = .ok (.invokevirtual 136, 3) := by decide +kernel
theorem dX8_ofField_41 : decode cX8_ofField 41 = .ok (.ireturn, 1) := by decide +kernel
theorem dX8_combineNow_0 : decode cX8_combineNow 0 = .ok (.aload_n 0, 1) := by decide +kernel
theorem dX8_combineNow_1 : decode cX8_combineNow 1 = .ok (.getfield 10, 3) := by decide +kernel
theorem dX8_combineNow_4 : decode cX8_combineNow 4 = .ok (.getfield 70, 3) := by decide +kernel
theorem dX8_combineNow_7 : decode cX8_combineNow 7 = .ok (.iload_n 1, 1) := by decide +kernel
theorem dX8_combineNow_8 : decode cX8_combineNow 8 = .ok (.aaload, 1) := by decide +kernel
theorem dX8_combineNow_9 : decode cX8_combineNow 9 = .ok (.astore_n 3, 1) := by decide +kernel
theorem dX8_combineNow_10 : decode cX8_combineNow 10 = .ok (.bipush 8, 2) := by decide +kernel
theorem dX8_combineNow_12 : decode cX8_combineNow 12 = .ok (.newarray .int, 2) := by decide +kernel
theorem dX8_combineNow_14 : decode cX8_combineNow 14 = .ok (.dup, 1) := by decide +kernel
theorem dX8_combineNow_15 : decode cX8_combineNow 15 = .ok (.iconst 0, 1) := by decide +kernel
theorem dX8_combineNow_16 : decode cX8_combineNow 16 = .ok (.aload_n 3, 1) := by decide +kernel
theorem dX8_combineNow_17 : decode cX8_combineNow 17 = .ok (.iconst 1, 1) := by decide +kernel
theorem dX8_combineNow_18 : decode cX8_combineNow 18 = .ok (.iaload, 1) := by decide +kernel
theorem dX8_combineNow_19 : decode cX8_combineNow 19 = .ok (.iastore, 1) := by decide +kernel
theorem dX8_combineNow_20 : decode cX8_combineNow 20 = .ok (.dup, 1) := by decide +kernel
theorem dX8_combineNow_21 : decode cX8_combineNow 21 = .ok (.iconst 1, 1) := by decide +kernel
theorem dX8_combineNow_22 : decode cX8_combineNow 22 = .ok (.aload_n 3, 1) := by decide +kernel
theorem dX8_combineNow_23 : decode cX8_combineNow 23 = .ok (.iconst 2, 1) := by decide +kernel
theorem dX8_combineNow_24 : decode cX8_combineNow 24 = .ok (.iaload, 1) := by decide +kernel
theorem dX8_combineNow_25 : decode cX8_combineNow 25 = .ok (.iastore, 1) := by decide +kernel
theorem dX8_combineNow_26 : decode cX8_combineNow 26 = .ok (.dup, 1) := by decide +kernel
theorem dX8_combineNow_27 : decode cX8_combineNow 27 = .ok (.iconst 2, 1) := by decide +kernel
theorem dX8_combineNow_28 : decode cX8_combineNow 28 = .ok (.aload_n 3, 1) := by decide +kernel
theorem dX8_combineNow_29 : decode cX8_combineNow 29 = .ok (.iconst 2, 1) := by decide +kernel
theorem dX8_combineNow_30 : decode cX8_combineNow 30 = .ok (.iaload, 1) := by decide +kernel
theorem dX8_combineNow_31 : decode cX8_combineNow 31 = .ok (.ifCond .ne 7, 3) := by decide +kernel
theorem dX8_combineNow_34 : decode cX8_combineNow 34 = .ok (.iconst (-1), 1) := by decide +kernel
theorem dX8_combineNow_35 : decode cX8_combineNow 35 = .ok (.goto 6, 3) := by decide +kernel
theorem dX8_combineNow_38 : decode cX8_combineNow 38 = .ok (.aload_n 3, 1) := by decide +kernel
theorem dX8_combineNow_39 : decode cX8_combineNow 39 = .ok (.iconst 3, 1) := by decide +kernel
theorem dX8_combineNow_40 : decode cX8_combineNow 40 = .ok (.iaload, 1) := by decide +kernel
theorem dX8_combineNow_41 : decode cX8_combineNow 41 = .ok (.iastore, 1) := by decide +kernel
theorem dX8_combineNow_42 : decode cX8_combineNow 42 = .ok (.dup, 1) := by decide +kernel
theorem dX8_combineNow_43 : decode cX8_combineNow 43 = .ok (.iconst 3, 1) := by decide +kernel
theorem dX8_combineNow_44 : decode cX8_combineNow 44 = .ok (.aload_n 3, 1) := by decide +kernel
theorem dX8_combineNow_45 : decode cX8_combineNow 45 = .ok (.iconst 5, 1) := by decide +kernel
theorem dX8_combineNow_46 : decode cX8_combineNow 46 = .ok (.iaload, 1) := by decide +kernel
theorem dX8_combineNow_47 : decode cX8_combineNow 47 = .ok (.iastore, 1) := by decide +kernel
theorem dX8_combineNow_48 : decode cX8_combineNow 48 = .ok (.dup, 1) := by decide +kernel
theorem dX8_combineNow_49 : decode cX8_combineNow 49 = .ok (.iconst 4, 1) := by decide +kernel
theorem dX8_combineNow_50 : decode cX8_combineNow 50 = .ok (.aload_n 3, 1) := by decide +kernel
theorem dX8_combineNow_51 : decode cX8_combineNow 51 = .ok (.bipush 6, 2) := by decide +kernel
theorem dX8_combineNow_53 : decode cX8_combineNow 53 = .ok (.iaload, 1) := by decide +kernel
theorem dX8_combineNow_54 : decode cX8_combineNow 54 = .ok (.iastore, 1) := by decide +kernel
theorem dX8_combineNow_55 : decode cX8_combineNow 55 = .ok (.dup, 1) := by decide +kernel
theorem dX8_combineNow_56 : decode cX8_combineNow 56 = .ok (.iconst 5, 1) := by decide +kernel
theorem dX8_combineNow_57 : decode cX8_combineNow 57 = .ok (.aload_n 3, 1) := by decide +kernel
theorem dX8_combineNow_58 : decode cX8_combineNow 58 = .ok (.bipush 7, 2) := by decide +kernel
theorem dX8_combineNow_60 : decode cX8_combineNow 60 = .ok (.iaload, 1) := by decide +kernel
theorem dX8_combineNow_61 : decode cX8_combineNow 61 = .ok (.iastore, 1) := by decide +kernel
theorem dX8_combineNow_62 : decode cX8_combineNow 62 = .ok (.dup, 1) := by decide +kernel
theorem dX8_combineNow_63 : decode cX8_combineNow 63 = .ok (.bipush 6, 2) := by decide +kernel
theorem dX8_combineNow_65 : decode cX8_combineNow 65 = .ok (.aload_n 3, 1) := by decide +kernel
theorem dX8_combineNow_66 : decode cX8_combineNow 66 = .ok (.bipush 8, 2) := by decide +kernel
theorem dX8_combineNow_68 : decode cX8_combineNow 68 = .ok (.iaload, 1) := by decide +kernel
theorem dX8_combineNow_69 : decode cX8_combineNow 69 = .ok (.iastore, 1) := by decide +kernel
theorem dX8_combineNow_70 : decode cX8_combineNow 70 = .ok (.dup, 1) := by decide +kernel
theorem dX8_combineNow_71 : decode cX8_combineNow 71 = .ok (.bipush 7, 2) := by decide +kernel
theorem dX8_combineNow_73 : decode cX8_combineNow 73 = .ok (.aload_n 3, 1) := by decide +kernel
theorem dX8_combineNow_74 : decode cX8_combineNow 74 = .ok (.bipush 9, 2) := by decide +kernel
theorem dX8_combineNow_76 : decode cX8_combineNow 76 = .ok (.iaload, 1) := by decide +kernel
theorem dX8_combineNow_77 : decode cX8_combineNow 77 = .ok (.iastore, 1) := by decide +kernel
theorem dX8_combineNow_78 : decode cX8_combineNow 78 = .ok (.astore 4, 2) := by decide +kernel
theorem dX8_combineNow_80 : decode cX8_combineNow 80 = .ok (.aload 4, 2) := by decide +kernel
theorem dX8_combineNow_82 : decode cX8_combineNow 82 = .ok (.iload_n 2, 1) := by decide +kernel
theorem dX8_combineNow_83 : decode cX8_combineNow 83 = .ok (.iaload, 1) := by decide +kernel
theorem dX8_combineNow_84 : decode cX8_combineNow 84 = .ok (.ireturn, 1) := by decide +kernel
theorem dX8_ofCombine_0 : decode cX8_ofCombine 0 = .ok (.aload_n 0, 1) := by decide +kernel
theorem dX8_ofCombine_1 : decode cX8_ofCombine 1 = .ok (.iconst 0, 1) := by decide +kernel
theorem dX8_ofCombine_2 : decode cX8_ofCombine 2 = .ok (.putfield 30, 3) := by decide +kernel
theorem dX8_ofCombine_5 : decode cX8_ofCombine 5 = .ok (.aload_n 0, 1) := by decide +kernel
theorem dX8_ofCombine_6 : decode cX8_ofCombine 6 = .ok (.iload_n 1, 1) := by decide +kernel
theorem dX8_ofCombine_7 : decode cX8_ofCombine 7 = .ok (.invokevirtual 79, 3) := by decide +kernel
theorem dX8_ofCombine_10 : decode cX8_ofCombine 10 = .ok (.ifCond .ne 9, 3) := by decide +kernel
theorem dX8_ofCombine_13 : decode cX8_ofCombine 13 = .ok (.aload_n 0, 1) := by decide +kernel
theorem dX8_ofCombine_14 : decode cX8_ofCombine 14 = .ok (.iconst 1, 1) := by decide +kernel
theorem dX8_ofCombine_15 : decode cX8_ofCombine 15 = .ok (.invokevirtual 49, 3) := by decide +kernel
theorem dX8_ofCombine_18 : decode cX8_ofCombine 18 = .ok (.ireturn, 1) := by decide +kernel
theorem dX8_ofCombine_19 : decode cX8_ofCombine 19 = .ok (.iload_n 2, 1) := by decide +kernel
theorem dX8_ofCombine_20 : decode cX8_ofCombine 20 = .ok (.iconst 0, 1) := by decide +kernel
theorem dX8_ofCombine_21 : decode cX8_ofCombine 21 = .ok (.bipush 7, 2) := by decide +kernel
theorem dX8_ofCombine_23 : decode cX8_ofCombine 23 = .ok (.invokestatic 36, 3) := by decide +kernel
theorem dX8_ofCombine_26 : decode cX8_ofCombine 26 = .ok (.ifCond .ne 9, 3) := by decide +kernel
theorem dX8_ofCombine_29 : decode cX8_ofCombine 29 = .ok (.aload_n 0, 1) := by decide +kernel
theorem dX8_ofCombine_30 : decode cX8_ofCombine 30 = .ok (.iconst 2, 1) := by decide +kernel
theorem dX8_ofCombine_31 : decode cX8_ofCombine 31 = .ok (.invokevirtual 49, 3) := by decide +kernel
theorem dX8_ofCombine_34 : decode cX8_ofCombine 34 = .ok (.ireturn, 1) := by decide +kernel
theorem dX8_ofCombine_35 : decode cX8_ofCombine 35 = .ok (.aload_n 0, 1) := by decide +kernel
theorem dX8_ofCombine_36 : decode cX8_ofCombine 36 = .ok (.iload_n 1, 1) := by decide +kernel
theorem dX8_ofCombine_37 : decode cX8_ofCombine 37 = .ok (.iload_n 2, 1) := by decide +kernel
theorem dX8_ofCombine_38 : decode cX8_ofCombine 38 = .ok (.invokevirtual 139, 3) := by decide +kernel
theorem dX8_ofCombine_41 : decode cX8_ofCombine 41 = .ok (.ireturn, 1) := by decide +kernel
theorem dX8_truckNow_0 : decode cX8_truckNow 0 = .ok (.aload_n 0, 1) := by decide +kernel
theorem dX8_truckNow_1 : decode cX8_truckNow 1 = .ok (.getfield 10, 3) := by decide +kernel
theorem dX8_truckNow_4 : decode cX8_truckNow 4 = .ok (.getfield 73, 3) := by decide +kernel
theorem dX8_truckNow_7 : decode cX8_truckNow 7 = .ok (.iload_n 1, 1) := by decide +kernel
theorem dX8_truckNow_8 : decode cX8_truckNow 8 = .ok (.aaload, 1) := by decide +kernel
theorem dX8_truckNow_9 : decode cX8_truckNow 9 = .ok (.astore_n 3, 1) := by decide +kernel
theorem dX8_truckNow_10 : decode cX8_truckNow 10 = .ok (.bipush 8, 2) := by decide +kernel
theorem dX8_truckNow_12 : decode cX8_truckNow 12 = .ok (.newarray .int, 2) := by decide +kernel
theorem dX8_truckNow_14 : decode cX8_truckNow 14 = .ok (.dup, 1) := by decide +kernel
theorem dX8_truckNow_15 : decode cX8_truckNow 15 = .ok (.iconst 0, 1) := by decide +kernel
theorem dX8_truckNow_16 : decode cX8_truckNow 16 = .ok (.aload_n 3, 1) := by decide +kernel
theorem dX8_truckNow_17 : decode cX8_truckNow 17 = .ok (.iconst 1, 1) := by decide +kernel
theorem dX8_truckNow_18 : decode cX8_truckNow 18 = .ok (.iaload, 1) := by decide +kernel
theorem dX8_truckNow_19 : decode cX8_truckNow 19 = .ok (.iastore, 1) := by decide +kernel
theorem dX8_truckNow_20 : decode cX8_truckNow 20 = .ok (.dup, 1) := by decide +kernel
theorem dX8_truckNow_21 : decode cX8_truckNow 21 = .ok (.iconst 1, 1) := by decide +kernel
theorem dX8_truckNow_22 : decode cX8_truckNow 22 = .ok (.aload_n 3, 1) := by decide +kernel
theorem dX8_truckNow_23 : decode cX8_truckNow 23 = .ok (.iconst 2, 1) := by decide +kernel
theorem dX8_truckNow_24 : decode cX8_truckNow 24 = .ok (.iaload, 1) := by decide +kernel
theorem dX8_truckNow_25 : decode cX8_truckNow 25 = .ok (.iastore, 1) := by decide +kernel
theorem dX8_truckNow_26 : decode cX8_truckNow 26 = .ok (.dup, 1) := by decide +kernel
theorem dX8_truckNow_27 : decode cX8_truckNow 27 = .ok (.iconst 2, 1) := by decide +kernel
theorem dX8_truckNow_28 : decode cX8_truckNow 28 = .ok (.aload_n 3, 1) := by decide +kernel
theorem dX8_truckNow_29 : decode cX8_truckNow 29 = .ok (.iconst 2, 1) := by decide +kernel
theorem dX8_truckNow_30 : decode cX8_truckNow 30 = .ok (.iaload, 1) := by decide +kernel
theorem dX8_truckNow_31 : decode cX8_truckNow 31 = .ok (.ifCond .ne 7, 3) := by decide +kernel
theorem dX8_truckNow_34 : decode cX8_truckNow 34 = .ok (.iconst (-1), 1) := by decide +kernel
theorem dX8_truckNow_35 : decode cX8_truckNow 35 = .ok (.goto 6, 3) := by decide +kernel
theorem dX8_truckNow_38 : decode cX8_truckNow 38 = .ok (.aload_n 3, 1) := by decide +kernel
theorem dX8_truckNow_39 : decode cX8_truckNow 39 = .ok (.iconst 3, 1) := by decide +kernel
theorem dX8_truckNow_40 : decode cX8_truckNow 40 = .ok (.iaload, 1) := by decide +kernel
theorem dX8_truckNow_41 : decode cX8_truckNow 41 = .ok (.iastore, 1) := by decide +kernel
theorem dX8_truckNow_42 : decode cX8_truckNow 42 = .ok (.dup, 1) := by decide +kernel
theorem dX8_truckNow_43 : decode cX8_truckNow 43 = .ok (.iconst 3, 1) := by decide +kernel
theorem dX8_truckNow_44 : decode cX8_truckNow 44 = .ok (.aload_n 3, 1) := by decide +kernel
theorem dX8_truckNow_45 : decode cX8_truckNow 45 = .ok (.iconst 2, 1) := by decide +kernel
theorem dX8_truckNow_46 : decode cX8_truckNow 46 = .ok (.iaload, 1) := by decide +kernel
theorem dX8_truckNow_47 : decode cX8_truckNow 47 = .ok (.ifCond .ne 7, 3) := by decide +kernel
theorem dX8_truckNow_50 : decode cX8_truckNow 50 = .ok (.iconst 0, 1) := by decide +kernel
theorem dX8_truckNow_51 : decode cX8_truckNow 51 = .ok (.goto 6, 3) := by decide +kernel
theorem dX8_truckNow_54 : decode cX8_truckNow 54 = .ok (.aload_n 3, 1) := by decide +kernel
theorem dX8_truckNow_55 : decode cX8_truckNow 55 = .ok (.iconst 4, 1) := by decide +kernel
theorem dX8_truckNow_56 : decode cX8_truckNow 56 = .ok (.iaload, 1) := by decide +kernel
theorem dX8_truckNow_57 : decode cX8_truckNow 57 = .ok (.iastore, 1) := by decide +kernel
theorem dX8_truckNow_58 : decode cX8_truckNow 58 = .ok (.dup, 1) := by decide +kernel
theorem dX8_truckNow_59 : decode cX8_truckNow 59 = .ok (.iconst 4, 1) := by decide +kernel
theorem dX8_truckNow_60 : decode cX8_truckNow 60 = .ok (.aload_n 3, 1) := by decide +kernel
theorem dX8_truckNow_61 : decode cX8_truckNow 61 = .ok (.iconst 5, 1) := by decide +kernel
theorem dX8_truckNow_62 : decode cX8_truckNow 62 = .ok (.iaload, 1) := by decide +kernel
theorem dX8_truckNow_63 : decode cX8_truckNow 63 = .ok (.iastore, 1) := by decide +kernel
theorem dX8_truckNow_64 : decode cX8_truckNow 64 = .ok (.dup, 1) := by decide +kernel
theorem dX8_truckNow_65 : decode cX8_truckNow 65 = .ok (.iconst 5, 1) := by decide +kernel
theorem dX8_truckNow_66 : decode cX8_truckNow 66 = .ok (.aload_n 3, 1) := by decide +kernel
theorem dX8_truckNow_67 : decode cX8_truckNow 67 = .ok (.bipush 6, 2) := by decide +kernel
theorem dX8_truckNow_69 : decode cX8_truckNow 69 = .ok (.iaload, 1) := by decide +kernel
theorem dX8_truckNow_70 : decode cX8_truckNow 70 = .ok (.iastore, 1) := by decide +kernel
theorem dX8_truckNow_71 : decode cX8_truckNow 71 = .ok (.dup, 1) := by decide +kernel
theorem dX8_truckNow_72 : decode cX8_truckNow 72 = .ok (.bipush 6, 2) := by decide +kernel
theorem dX8_truckNow_74 : decode cX8_truckNow 74 = .ok (.aload_n 3, 1) := by decide +kernel
theorem dX8_truckNow_75 : decode cX8_truckNow 75 = .ok (.bipush 8, 2) := by decide +kernel
theorem dX8_truckNow_77 : decode cX8_truckNow 77 = .ok (.iaload, 1) := by decide +kernel
theorem dX8_truckNow_78 : decode cX8_truckNow 78 = .ok (.iastore, 1) := by decide +kernel
theorem dX8_truckNow_79 : decode cX8_truckNow 79 = .ok (.dup, 1) := by decide +kernel
theorem dX8_truckNow_80 : decode cX8_truckNow 80 = .ok (.bipush 7, 2) := by decide +kernel
theorem dX8_truckNow_82 : decode cX8_truckNow 82 = .ok (.aload_n 3, 1) := by decide +kernel
theorem dX8_truckNow_83 : decode cX8_truckNow 83 = .ok (.bipush 9, 2) := by decide +kernel
theorem dX8_truckNow_85 : decode cX8_truckNow 85 = .ok (.iaload, 1) := by decide +kernel
theorem dX8_truckNow_86 : decode cX8_truckNow 86 = .ok (.iastore, 1) := by decide +kernel
theorem dX8_truckNow_87 : decode cX8_truckNow 87 = .ok (.astore 4, 2) := by decide +kernel
theorem dX8_truckNow_89 : decode cX8_truckNow 89 = .ok (.aload 4, 2) := by decide +kernel
theorem dX8_truckNow_91 : decode cX8_truckNow 91 = .ok (.iload_n 2, 1) := by decide +kernel
theorem dX8_truckNow_92 : decode cX8_truckNow 92 = .ok (.iaload, 1) := by decide +kernel
theorem dX8_truckNow_93 : decode cX8_truckNow 93 = .ok (.ireturn, 1) := by decide +kernel
theorem dX8_ofTruck_0 : decode cX8_ofTruck 0 = .ok (.aload_n 0, 1) := by decide +kernel
theorem dX8_ofTruck_1 : decode cX8_ofTruck 1 = .ok (.iconst 0, 1) := by decide +kernel
theorem dX8_ofTruck_2 : decode cX8_ofTruck 2 = .ok (.putfield 30, 3) := by decide +kernel
theorem dX8_ofTruck_5 : decode cX8_ofTruck 5 = .ok (.aload_n 0, 1) := by decide +kernel
theorem dX8_ofTruck_6 : decode cX8_ofTruck 6 = .ok (.iload_n 1, 1) := by decide +kernel
theorem dX8_ofTruck_7 : decode cX8_ofTruck 7 = .ok (.invokevirtual 90, 3) := by decide +kernel
theorem dX8_ofTruck_10 : decode cX8_ofTruck 10 = .ok (.ifCond .ne 9, 3) := by decide +kernel
theorem dX8_ofTruck_13 : decode cX8_ofTruck 13 = .ok (.aload_n 0, 1) := by decide +kernel
theorem dX8_ofTruck_14 : decode cX8_ofTruck 14 = .ok (.iconst 1, 1) := by decide +kernel
theorem dX8_ofTruck_15 : decode cX8_ofTruck 15 = .ok (.invokevirtual 49, 3) := by decide +kernel
theorem dX8_ofTruck_18 : decode cX8_ofTruck 18 = .ok (.ireturn, 1) := by decide +kernel
theorem dX8_ofTruck_19 : decode cX8_ofTruck 19 = .ok (.iload_n 2, 1) := by decide +kernel
theorem dX8_ofTruck_20 : decode cX8_ofTruck 20 = .ok (.iconst 0, 1) := by decide +kernel
theorem dX8_ofTruck_21 : decode cX8_ofTruck 21 = .ok (.bipush 7, 2) := by decide +kernel
theorem dX8_ofTruck_23 : decode cX8_ofTruck 23 = .ok (.invokestatic 36, 3) := by decide +kernel
theorem dX8_ofTruck_26 : decode cX8_ofTruck 26 = .ok (.ifCond .ne 9, 3) := by decide +kernel
theorem dX8_ofTruck_29 : decode cX8_ofTruck 29 = .ok (.aload_n 0, 1) := by decide +kernel
theorem dX8_ofTruck_30 : decode cX8_ofTruck 30 = .ok (.iconst 2, 1) := by decide +kernel
theorem dX8_ofTruck_31 : decode cX8_ofTruck 31 = .ok (.invokevirtual 49, 3) := by decide +kernel
theorem dX8_ofTruck_34 : decode cX8_ofTruck 34 = .ok (.ireturn, 1) := by decide +kernel
theorem dX8_ofTruck_35 : decode cX8_ofTruck 35 = .ok (.aload_n 0, 1) := by decide +kernel
theorem dX8_ofTruck_36 : decode cX8_ofTruck 36 = .ok (.iload_n 1, 1) := by decide +kernel
theorem dX8_ofTruck_37 : decode cX8_ofTruck 37 = .ok (.iload_n 2, 1) := by decide +kernel
theorem dX8_ofTruck_38 : decode cX8_ofTruck 38 = .ok (.invokevirtual 142, 3) := by decide +kernel
theorem dX8_ofTruck_41 : decode cX8_ofTruck 41 = .ok (.ireturn, 1) := by decide +kernel
theorem dX8_ofTicket_0 : decode cX8_ofTicket 0 = .ok (.aload_n 0, 1) := by decide +kernel
theorem dX8_ofTicket_1 : decode cX8_ofTicket 1 = .ok (.iconst 0, 1) := by decide +kernel
theorem dX8_ofTicket_2 : decode cX8_ofTicket 2 = .ok (.putfield 30, 3) := by decide +kernel
theorem dX8_ofTicket_5 : decode cX8_ofTicket 5 = .ok (.iload_n 1, 1) := by decide +kernel
theorem dX8_ofTicket_6 : decode cX8_ofTicket 6 = .ok (.iconst 0, 1) := by decide +kernel
theorem dX8_ofTicket_7 : decode cX8_ofTicket 7 = .ok (.aload_n 0, 1) := by decide +kernel
theorem dX8_ofTicket_8 : decode cX8_ofTicket 8 = .ok (.getfield 10, 3) := by decide +kernel
theorem dX8_ofTicket_11 : decode cX8_ofTicket 11 = .ok (.getfield 110, 3) := by decide +kernel
theorem dX8_ofTicket_14 : decode cX8_ofTicket 14 = .ok (.invokeinterface 114 1, 5) := by decide +kernel
theorem dX8_ofTicket_19 : decode cX8_ofTicket 19 = .ok (.iconst 1, 1) := by decide +kernel
theorem dX8_ofTicket_20 : decode cX8_ofTicket 20 = .ok (.isub, 1) := by decide +kernel
theorem dX8_ofTicket_21 : decode cX8_ofTicket 21 = .ok (.invokestatic 36, 3) := by decide +kernel
theorem dX8_ofTicket_24 : decode cX8_ofTicket 24 = .ok (.ifCond .ne 9, 3) := by decide +kernel
theorem dX8_ofTicket_27 : decode cX8_ofTicket 27 = .ok (.aload_n 0, 1) := by decide +kernel
theorem dX8_ofTicket_28 : decode cX8_ofTicket 28 = .ok (.iconst 1, 1) := by decide +kernel
theorem dX8_ofTicket_29 : decode cX8_ofTicket 29 = .ok (.invokevirtual 49, 3) := by decide +kernel
theorem dX8_ofTicket_32 : decode cX8_ofTicket 32 = .ok (.ireturn, 1) := by decide +kernel
theorem dX8_ofTicket_33 : decode cX8_ofTicket 33 = .ok (.iload_n 2, 1) := by decide +kernel
theorem dX8_ofTicket_34 : decode cX8_ofTicket 34 = .ok (.iconst 0, 1) := by decide +kernel
theorem dX8_ofTicket_35 : decode cX8_ofTicket 35 = .ok (.bipush 6, 2) := by decide +kernel
theorem dX8_ofTicket_37 : decode cX8_ofTicket 37 = .ok (.invokestatic 36, 3) := by decide +kernel
theorem dX8_ofTicket_40 : decode cX8_ofTicket 40 = .ok (.ifCond .ne 9, 3) := by decide +kernel
theorem dX8_ofTicket_43 : decode cX8_ofTicket 43 = .ok (.aload_n 0, 1) := by decide +kernel
theorem dX8_ofTicket_44 : decode cX8_ofTicket 44 = .ok (.iconst 2, 1) := by decide +kernel
theorem dX8_ofTicket_45 : decode cX8_ofTicket 45 = .ok (.invokevirtual 49, 3) := by decide +kernel
theorem dX8_ofTicket_48 : decode cX8_ofTicket 48 = .ok (.ireturn, 1) := by decide +kernel
theorem dX8_ofTicket_49 : decode cX8_ofTicket 49 = .ok (.aload_n 0, 1) := by decide +kernel
theorem dX8_ofTicket_50 : decode cX8_ofTicket 50 = .ok (.getfield 10, 3) := by decide +kernel
theorem dX8_ofTicket_53 : decode cX8_ofTicket 53 = .ok (.getfield 110, 3) := by decide +kernel
theorem dX8_ofTicket_56 : decode cX8_ofTicket 56 = .ok (.iload_n 1, 1) := by decide +kernel
theorem dX8_ofTicket_57 : decode cX8_ofTicket 57 = .ok (.invokeinterface 124 2, 5) := by decide +kernel
theorem dX8_ofTicket_62 : decode cX8_ofTicket 62 = .ok (.checkcast 128, 3) := by decide +kernel
theorem dX8_ofTicket_65 : decode cX8_ofTicket 65 = .ok (.iload_n 2, 1) := by decide +kernel
theorem dX8_ofTicket_66 : decode cX8_ofTicket 66 = .ok (.iaload, 1) := by decide +kernel
theorem dX8_ofTicket_67 : decode cX8_ofTicket 67 = .ok (.ireturn, 1) := by decide +kernel
theorem dX8_owed_0 : decode cX8_owed 0 = .ok (.aload_n 0, 1) := by decide +kernel
theorem dX8_owed_1 : decode cX8_owed 1 = .ok (.iconst 0, 1) := by decide +kernel
theorem dX8_owed_2 : decode cX8_owed 2 = .ok (.putfield 30, 3) := by decide +kernel
theorem dX8_owed_5 : decode cX8_owed 5 = .ok (.iload_n 1, 1) := by decide +kernel
theorem dX8_owed_6 : decode cX8_owed 6 = .ok (.iconst 0, 1) := by decide +kernel
theorem dX8_owed_7 : decode cX8_owed 7 = .ok (.iconst 3, 1) := by decide +kernel
theorem dX8_owed_8 : decode cX8_owed 8 = .ok (.invokestatic 36, 3) := by decide +kernel
theorem dX8_owed_11 : decode cX8_owed 11 = .ok (.ifCond .ne 9, 3) := by decide +kernel
theorem dX8_owed_14 : decode cX8_owed 14 = .ok (.aload_n 0, 1) := by decide +kernel
theorem dX8_owed_15 : decode cX8_owed 15 = .ok (.iconst 1, 1) := by decide +kernel
theorem dX8_owed_16 : decode cX8_owed 16 = .ok (.invokevirtual 49, 3) := by decide +kernel
theorem dX8_owed_19 : decode cX8_owed 19 = .ok (.ireturn, 1) := by decide +kernel
theorem dX8_owed_20 : decode cX8_owed 20 = .ok (.iload_n 2, 1) := by decide +kernel
theorem dX8_owed_21 : decode cX8_owed 21 = .ok (.ifCond .eq 12, 3) := by decide +kernel
theorem dX8_owed_24 : decode cX8_owed 24 = .ok (.aload_n 0, 1) := by decide +kernel
theorem dX8_owed_25 : decode cX8_owed 25 = .ok (.getfield 20, 3) := by decide +kernel
theorem dX8_owed_28 : decode cX8_owed 28 = .ok (.iload_n 1, 1) := by decide +kernel
theorem dX8_owed_29 : decode cX8_owed 29 = .ok (.iaload, 1) := by decide +kernel
theorem dX8_owed_30 : decode cX8_owed 30 = .ok (.goto 9, 3) := by decide +kernel
theorem dX8_owed_33 : decode cX8_owed 33 = .ok (.aload_n 0, 1) := by decide +kernel
theorem dX8_owed_34 : decode cX8_owed 34 = .ok (.getfield 16, 3) := by decide +kernel
theorem dX8_owed_37 : decode cX8_owed 37 = .ok (.iload_n 1, 1) := by decide +kernel
theorem dX8_owed_38 : decode cX8_owed 38 = .ok (.iaload, 1) := by decide +kernel
theorem dX8_owed_39 : decode cX8_owed 39 = .ok (.ireturn, 1) := by decide +kernel
theorem dX8_manyNow_0 : decode cX8_manyNow 0 = .ok (.iconst 0, 1) := by decide +kernel
theorem dX8_manyNow_1 : decode cX8_manyNow 1 = .ok (.istore_n 2, 1) := by decide +kernel
theorem dX8_manyNow_2 : decode cX8_manyNow 2 = .ok (.iconst 0, 1) := by decide +kernel
theorem dX8_manyNow_3 : decode cX8_manyNow 3 = .ok (.istore_n 3, 1) := by decide +kernel
theorem dX8_manyNow_4 : decode cX8_manyNow 4 = .ok (.iconst 0, 1) := by decide +kernel
theorem dX8_manyNow_5 : decode cX8_manyNow 5 = .ok (.istore 4, 2) := by decide +kernel
theorem dX8_manyNow_7 : decode cX8_manyNow 7 = .ok (.iconst 0, 1) := by decide +kernel
theorem dX8_manyNow_8 : decode cX8_manyNow 8 = .ok (.istore 5, 2) := by decide +kernel
theorem dX8_manyNow_10 : decode cX8_manyNow 10 = .ok (.iconst 0, 1) := by decide +kernel
theorem dX8_manyNow_11 : decode cX8_manyNow 11 = .ok (.istore 6, 2) := by decide +kernel
theorem dX8_manyNow_13 : decode cX8_manyNow 13 = .ok (.iconst 0, 1) := by decide +kernel
theorem dX8_manyNow_14 : decode cX8_manyNow 14 = .ok (.istore 7, 2) := by decide +kernel
theorem dX8_manyNow_16 : decode cX8_manyNow 16 = .ok (.iload 7, 2) := by decide +kernel
theorem dX8_manyNow_18 : decode cX8_manyNow 18 = .ok (.aload_n 0, 1) := by decide +kernel
theorem dX8_manyNow_19 : decode cX8_manyNow 19 = .ok (.getfield 10, 3) := by decide +kernel
theorem dX8_manyNow_22 : decode cX8_manyNow 22 = .ok (.getfield 33, 3) := by decide +kernel
theorem dX8_manyNow_25 : decode cX8_manyNow 25 = .ok (.if_icmp .ge 37, 3) := by decide +kernel
theorem dX8_manyNow_28 : decode cX8_manyNow 28 = .ok (.iload_n 2, 1) := by decide +kernel
theorem dX8_manyNow_29 : decode cX8_manyNow 29 = .ok (.aload_n 0, 1) := by decide +kernel
theorem dX8_manyNow_30 : decode cX8_manyNow 30 = .ok (.getfield 10, 3) := by decide +kernel
theorem dX8_manyNow_33 : decode cX8_manyNow 33 = .ok (.getfield 57, 3) := by decide +kernel
theorem dX8_manyNow_36 : decode cX8_manyNow 36 = .ok (.iload 7, 2) := by decide +kernel
theorem dX8_manyNow_38 : decode cX8_manyNow 38 = .ok (.aaload, 1) := by decide +kernel
theorem dX8_manyNow_39 : decode cX8_manyNow 39 = .ok (.iconst 2, 1) := by decide +kernel
theorem dX8_manyNow_40 : decode cX8_manyNow 40 = .ok (.iaload, 1) := by decide +kernel
theorem dX8_manyNow_41 : decode cX8_manyNow 41 = .ok (.aload_n 0, 1) := by decide +kernel
theorem dX8_manyNow_42 : decode cX8_manyNow 42 = .ok (.getfield 10, 3) := by decide +kernel
theorem dX8_manyNow_45 : decode cX8_manyNow 45 = .ok (.getfield 57, 3) := by decide +kernel
theorem dX8_manyNow_48 : decode cX8_manyNow 48 = .ok (.iload 7, 2) := by decide +kernel
theorem dX8_manyNow_50 : decode cX8_manyNow 50 = .ok (.aaload, 1) := by decide +kernel
theorem dX8_manyNow_51 : decode cX8_manyNow 51 = .ok (.iconst 3, 1) := by decide +kernel
theorem dX8_manyNow_52 : decode cX8_manyNow 52 = .ok (.iaload, 1) := by decide +kernel
theorem dX8_manyNow_53 : decode cX8_manyNow 53 = .ok (.isub, 1) := by decide +kernel
theorem dX8_manyNow_54 : decode cX8_manyNow 54 = .ok (.iadd, 1) := by decide +kernel
theorem dX8_manyNow_55 : decode cX8_manyNow 55 = .ok (.istore_n 2, 1) := by decide +kernel
theorem dX8_manyNow_56 : decode cX8_manyNow 56 = .ok (.iinc 7 1, 3) := by decide +kernel
theorem dX8_manyNow_59 : decode cX8_manyNow 59 = .ok (.goto (-43), 3) := by decide +kernel
theorem dX8_manyNow_62 : decode cX8_manyNow 62 = .ok (.iconst 0, 1) := by decide +kernel
theorem dX8_manyNow_63 : decode cX8_manyNow 63 = .ok (.istore 7, 2) := by decide +kernel
theorem dX8_manyNow_65 : decode cX8_manyNow 65 = .ok (.iload 7, 2) := by decide +kernel
theorem dX8_manyNow_67 : decode cX8_manyNow 67 = .ok (.aload_n 0, 1) := by decide +kernel
theorem dX8_manyNow_68 : decode cX8_manyNow 68 = .ok (.getfield 10, 3) := by decide +kernel
theorem dX8_manyNow_71 : decode cX8_manyNow 71 = .ok (.getfield 40, 3) := by decide +kernel
theorem dX8_manyNow_74 : decode cX8_manyNow 74 = .ok (.if_icmp .ge 43, 3) := by decide +kernel
theorem dX8_manyNow_77 : decode cX8_manyNow 77 = .ok (.iload_n 3, 1) := by decide +kernel
theorem dX8_manyNow_78 : decode cX8_manyNow 78 = .ok (.aload_n 0, 1) := by decide +kernel
theorem dX8_manyNow_79 : decode cX8_manyNow 79 = .ok (.getfield 10, 3) := by decide +kernel
theorem dX8_manyNow_82 : decode cX8_manyNow 82 = .ok (.getfield 70, 3) := by decide +kernel
theorem dX8_manyNow_85 : decode cX8_manyNow 85 = .ok (.iload 7, 2) := by decide +kernel
theorem dX8_manyNow_87 : decode cX8_manyNow 87 = .ok (.aaload, 1) := by decide +kernel
theorem dX8_manyNow_88 : decode cX8_manyNow 88 = .ok (.bipush 6, 2) := by decide +kernel
theorem dX8_manyNow_90 : decode cX8_manyNow 90 = .ok (.iaload, 1) := by decide +kernel
theorem dX8_manyNow_91 : decode cX8_manyNow 91 = .ok (.iadd, 1) := by decide +kernel
theorem dX8_manyNow_92 : decode cX8_manyNow 92 = .ok (.istore_n 3, 1) := by decide +kernel
theorem dX8_manyNow_93 : decode cX8_manyNow 93 = .ok (.iload 5, 2) := by decide +kernel
theorem dX8_manyNow_95 : decode cX8_manyNow 95 = .ok (.aload_n 0, 1) := by decide +kernel
theorem dX8_manyNow_96 : decode cX8_manyNow 96 = .ok (.getfield 10, 3) := by decide +kernel
theorem dX8_manyNow_99 : decode cX8_manyNow 99 = .ok (.getfield 70, 3) := by decide +kernel
theorem dX8_manyNow_102 : decode cX8_manyNow 102 = .ok (.iload 7, 2) := by decide +kernel
theorem dX8_manyNow_104 : decode cX8_manyNow 104 = .ok (.aaload, 1) := by decide +kernel
theorem dX8_manyNow_105 : decode cX8_manyNow 105 = .ok (.bipush 9, 2) := by decide +kernel
theorem dX8_manyNow_107 : decode cX8_manyNow 107 = .ok (.iaload, 1) := by decide +kernel
theorem dX8_manyNow_108 : decode cX8_manyNow 108 = .ok (.iadd, 1) := by decide +kernel
theorem dX8_manyNow_109 : decode cX8_manyNow 109 = .ok (.istore 5, 2) := by decide +kernel
theorem dX8_manyNow_111 : decode cX8_manyNow 111 = .ok (.iinc 7 1, 3) := by decide +kernel
theorem dX8_manyNow_114 : decode cX8_manyNow 114 = .ok (.goto (-49), 3) := by decide +kernel
theorem dX8_manyNow_117 : decode cX8_manyNow 117 = .ok (.iconst 0, 1) := by decide +kernel
theorem dX8_manyNow_118 : decode cX8_manyNow 118 = .ok (.istore 7, 2) := by decide +kernel
theorem dX8_manyNow_120 : decode cX8_manyNow 120 = .ok (.iload 7, 2) := by decide +kernel
theorem dX8_manyNow_122 : decode cX8_manyNow 122 = .ok (.aload_n 0, 1) := by decide +kernel
theorem dX8_manyNow_123 : decode cX8_manyNow 123 = .ok (.getfield 10, 3) := by decide +kernel
theorem dX8_manyNow_126 : decode cX8_manyNow 126 = .ok (.getfield 46, 3) := by decide +kernel
theorem dX8_manyNow_129 : decode cX8_manyNow 129 = .ok (.if_icmp .ge 26, 3) := by decide +kernel
theorem dX8_manyNow_132 : decode cX8_manyNow 132 = .ok (.iload 4, 2) := by decide +kernel
theorem dX8_manyNow_134 : decode cX8_manyNow 134 = .ok (.aload_n 0, 1) := by decide +kernel
theorem dX8_manyNow_135 : decode cX8_manyNow 135 = .ok (.getfield 10, 3) := by decide +kernel
theorem dX8_manyNow_138 : decode cX8_manyNow 138 = .ok (.getfield 76, 3) := by decide +kernel
theorem dX8_manyNow_141 : decode cX8_manyNow 141 = .ok (.iload 7, 2) := by decide +kernel
theorem dX8_manyNow_143 : decode cX8_manyNow 143 = .ok (.aaload, 1) := by decide +kernel
theorem dX8_manyNow_144 : decode cX8_manyNow 144 = .ok (.iconst 3, 1) := by decide +kernel
theorem dX8_manyNow_145 : decode cX8_manyNow 145 = .ok (.iaload, 1) := by decide +kernel
theorem dX8_manyNow_146 : decode cX8_manyNow 146 = .ok (.iadd, 1) := by decide +kernel
theorem dX8_manyNow_147 : decode cX8_manyNow 147 = .ok (.istore 4, 2) := by decide +kernel
theorem dX8_manyNow_149 : decode cX8_manyNow 149 = .ok (.iinc 7 1, 3) := by decide +kernel
theorem dX8_manyNow_152 : decode cX8_manyNow 152 = .ok (.goto (-32), 3) := by decide +kernel
theorem dX8_manyNow_155 : decode cX8_manyNow 155 = .ok (.iconst 0, 1) := by decide +kernel
theorem dX8_manyNow_156 : decode cX8_manyNow 156 = .ok (.istore 7, 2) := by decide +kernel
theorem dX8_manyNow_158 : decode cX8_manyNow 158 = .ok (.iload 7, 2) := by decide +kernel
theorem dX8_manyNow_160 : decode cX8_manyNow 160 = .ok (.aload_n 0, 1) := by decide +kernel
theorem dX8_manyNow_161 : decode cX8_manyNow 161 = .ok (.getfield 10, 3) := by decide +kernel
theorem dX8_manyNow_164 : decode cX8_manyNow 164 = .ok (.getfield 43, 3) := by decide +kernel
theorem dX8_manyNow_167 : decode cX8_manyNow 167 = .ok (.if_icmp .ge 27, 3) := by decide +kernel
theorem dX8_manyNow_170 : decode cX8_manyNow 170 = .ok (.iload 6, 2) := by decide +kernel
theorem dX8_manyNow_172 : decode cX8_manyNow 172 = .ok (.aload_n 0, 1) := by decide +kernel
theorem dX8_manyNow_173 : decode cX8_manyNow 173 = .ok (.getfield 10, 3) := by decide +kernel
theorem dX8_manyNow_176 : decode cX8_manyNow 176 = .ok (.getfield 73, 3) := by decide +kernel
theorem dX8_manyNow_179 : decode cX8_manyNow 179 = .ok (.iload 7, 2) := by decide +kernel
theorem dX8_manyNow_181 : decode cX8_manyNow 181 = .ok (.aaload, 1) := by decide +kernel
theorem dX8_manyNow_182 : decode cX8_manyNow 182 = .ok (.bipush 8, 2) := by decide +kernel
theorem dX8_manyNow_184 : decode cX8_manyNow 184 = .ok (.iaload, 1) := by decide +kernel
theorem dX8_manyNow_185 : decode cX8_manyNow 185 = .ok (.iadd, 1) := by decide +kernel
theorem dX8_manyNow_186 : decode cX8_manyNow 186 = .ok (.istore 6, 2) := by decide +kernel
theorem dX8_manyNow_188 : decode cX8_manyNow 188 = .ok (.iinc 7 1, 3) := by decide +kernel
theorem dX8_manyNow_191 : decode cX8_manyNow 191 = .ok (.goto (-33), 3) := by decide +kernel
theorem dX8_manyNow_194 : decode cX8_manyNow 194 = .ok (.bipush 13, 2) := by decide +kernel
theorem dX8_manyNow_196 : decode cX8_manyNow 196 = .ok (.newarray .int, 2) := by decide +kernel
theorem dX8_manyNow_198 : decode cX8_manyNow 198 = .ok (.dup, 1) := by decide +kernel
theorem dX8_manyNow_199 : decode cX8_manyNow 199 = .ok (.iconst 0, 1) := by decide +kernel
theorem dX8_manyNow_200 : decode cX8_manyNow 200 = .ok (.aload_n 0, 1) := by decide +kernel
theorem dX8_manyNow_201 : decode cX8_manyNow 201 = .ok (.getfield 10, 3) := by decide +kernel
theorem dX8_manyNow_204 : decode cX8_manyNow 204 = .ok (.getfield 107, 3) := by decide +kernel
theorem dX8_manyNow_207 : decode cX8_manyNow 207 = .ok (.iastore, 1) := by decide +kernel
theorem dX8_manyNow_208 : decode cX8_manyNow 208 = .ok (.dup, 1) := by decide +kernel
theorem dX8_manyNow_209 : decode cX8_manyNow 209 = .ok (.iconst 1, 1) := by decide +kernel
theorem dX8_manyNow_210 : decode cX8_manyNow 210 = .ok (.aload_n 0, 1) := by decide +kernel
theorem dX8_manyNow_211 : decode cX8_manyNow 211 = .ok (.getfield 10, 3) := by decide +kernel
theorem dX8_manyNow_214 : decode cX8_manyNow 214 = .ok (.getfield 33, 3) := by decide +kernel
theorem dX8_manyNow_217 : decode cX8_manyNow 217 = .ok (.iastore, 1) := by decide +kernel
theorem dX8_manyNow_218 : decode cX8_manyNow 218 = .ok (.dup, 1) := by decide +kernel
theorem dX8_manyNow_219 : decode cX8_manyNow 219 = .ok (.iconst 2, 1) := by decide +kernel
theorem dX8_manyNow_220 : decode cX8_manyNow 220 = .ok (.iload_n 2, 1) := by decide +kernel
theorem dX8_manyNow_221 : decode cX8_manyNow 221 = .ok (.iastore, 1) := by decide +kernel
theorem dX8_manyNow_222 : decode cX8_manyNow 222 = .ok (.dup, 1) := by decide +kernel
theorem dX8_manyNow_223 : decode cX8_manyNow 223 = .ok (.iconst 3, 1) := by decide +kernel
theorem dX8_manyNow_224 : decode cX8_manyNow 224 = .ok (.aload_n 0, 1) := by decide +kernel
theorem dX8_manyNow_225 : decode cX8_manyNow 225 = .ok (.getfield 10, 3) := by decide +kernel
theorem dX8_manyNow_228 : decode cX8_manyNow 228 = .ok (.getfield 40, 3) := by decide +kernel
theorem dX8_manyNow_231 : decode cX8_manyNow 231 = .ok (.iastore, 1) := by decide +kernel
theorem dX8_manyNow_232 : decode cX8_manyNow 232 = .ok (.dup, 1) := by decide +kernel
theorem dX8_manyNow_233 : decode cX8_manyNow 233 = .ok (.iconst 4, 1) := by decide +kernel
theorem dX8_manyNow_234 : decode cX8_manyNow 234 = .ok (.iload_n 3, 1) := by decide +kernel
theorem dX8_manyNow_235 : decode cX8_manyNow 235 = .ok (.iastore, 1) := by decide +kernel
theorem dX8_manyNow_236 : decode cX8_manyNow 236 = .ok (.dup, 1) := by decide +kernel
theorem dX8_manyNow_237 : decode cX8_manyNow 237 = .ok (.iconst 5, 1) := by decide +kernel
theorem dX8_manyNow_238 : decode cX8_manyNow 238 = .ok (.aload_n 0, 1) := by decide +kernel
theorem dX8_manyNow_239 : decode cX8_manyNow 239 = .ok (.getfield 10, 3) := by decide +kernel
theorem dX8_manyNow_242 : decode cX8_manyNow 242 = .ok (.getfield 43, 3) := by decide +kernel
theorem dX8_manyNow_245 : decode cX8_manyNow 245 = .ok (.iastore, 1) := by decide +kernel
theorem dX8_manyNow_246 : decode cX8_manyNow 246 = .ok (.dup, 1) := by decide +kernel
theorem dX8_manyNow_247 : decode cX8_manyNow 247 = .ok (.bipush 6, 2) := by decide +kernel
theorem dX8_manyNow_249 : decode cX8_manyNow 249 = .ok (.aload_n 0, 1) := by decide +kernel
theorem dX8_manyNow_250 : decode cX8_manyNow 250 = .ok (.getfield 10, 3) := by decide +kernel
theorem dX8_manyNow_253 : decode cX8_manyNow 253 = .ok (.getfield 46, 3) := by decide +kernel
theorem dX8_manyNow_256 : decode cX8_manyNow 256 = .ok (.iastore, 1) := by decide +kernel
theorem dX8_manyNow_257 : decode cX8_manyNow 257 = .ok (.dup, 1) := by decide +kernel
theorem dX8_manyNow_258 : decode cX8_manyNow 258 = .ok (.bipush 7, 2) := by decide +kernel
theorem dX8_manyNow_260 : decode cX8_manyNow 260 = .ok (.aload_n 0, 1) := by decide +kernel
theorem dX8_manyNow_261 : decode cX8_manyNow 261 = .ok (.getfield 10, 3) := by decide +kernel
theorem dX8_manyNow_264 : decode cX8_manyNow 264 = .ok (.getfield 110, 3) := by decide +kernel
theorem dX8_manyNow_267 : decode cX8_manyNow 267 = .ok (.invokeinterface 114 1, 5) := by decide +kernel
theorem dX8_manyNow_272 : decode cX8_manyNow 272 = .ok (.iastore, 1) := by decide +kernel
theorem dX8_manyNow_273 : decode cX8_manyNow 273 = .ok (.dup, 1) := by decide +kernel
theorem dX8_manyNow_274 : decode cX8_manyNow 274 = .ok (.bipush 8, 2) := by decide +kernel
theorem dX8_manyNow_276 : decode cX8_manyNow 276 = .ok (.aload_n 0, 1) := by decide +kernel
theorem dX8_manyNow_277 : decode cX8_manyNow 277 = .ok (.getfield 27, 3) := by decide +kernel
theorem dX8_manyNow_280 : decode cX8_manyNow 280 = .ok (.iastore, 1) := by decide +kernel
theorem dX8_manyNow_281 : decode cX8_manyNow 281 = .ok (.dup, 1) := by decide +kernel
theorem dX8_manyNow_282 : decode cX8_manyNow 282 = .ok (.bipush 9, 2) := by decide +kernel
theorem dX8_manyNow_284 : decode cX8_manyNow 284 = .ok (.iload 4, 2) := by decide +kernel
theorem dX8_manyNow_286 : decode cX8_manyNow 286 = .ok (.iastore, 1) := by decide +kernel
theorem dX8_manyNow_287 : decode cX8_manyNow 287 = .ok (.dup, 1) := by decide +kernel
theorem dX8_manyNow_288 : decode cX8_manyNow 288 = .ok (.bipush 10, 2) := by decide +kernel
theorem dX8_manyNow_290 : decode cX8_manyNow 290 = .ok (.aload_n 0, 1) := by decide +kernel
theorem dX8_manyNow_291 : decode cX8_manyNow 291 = .ok (.getfield 10, 3) := by decide +kernel
theorem dX8_manyNow_294 : decode cX8_manyNow 294 = .ok (.iconst (-1), 1) := by decide +kernel
theorem dX8_manyNow_295 : decode cX8_manyNow 295 = .ok (.invokevirtual 133, 3) := by decide +kernel
theorem dX8_manyNow_298 : decode cX8_manyNow 298 = .ok (.iastore, 1) := by decide +kernel
theorem dX8_manyNow_299 : decode cX8_manyNow 299 = .ok (.dup, 1) := by decide +kernel
theorem dX8_manyNow_300 : decode cX8_manyNow 300 = .ok (.bipush 11, 2) := by decide +kernel
theorem dX8_manyNow_302 : decode cX8_manyNow 302 = .ok (.iload 5, 2) := by decide +kernel
theorem dX8_manyNow_304 : decode cX8_manyNow 304 = .ok (.iastore, 1) := by decide +kernel
theorem dX8_manyNow_305 : decode cX8_manyNow 305 = .ok (.dup, 1) := by decide +kernel
theorem dX8_manyNow_306 : decode cX8_manyNow 306 = .ok (.bipush 12, 2) := by decide +kernel
theorem dX8_manyNow_308 : decode cX8_manyNow 308 = .ok (.iload 6, 2) := by decide +kernel
theorem dX8_manyNow_310 : decode cX8_manyNow 310 = .ok (.iastore, 1) := by decide +kernel
theorem dX8_manyNow_311 : decode cX8_manyNow 311 = .ok (.astore 7, 2) := by decide +kernel
theorem dX8_manyNow_313 : decode cX8_manyNow 313 = .ok (.aload 7, 2) := by decide +kernel
theorem dX8_manyNow_315 : decode cX8_manyNow 315 = .ok (.iload_n 1, 1) := by decide +kernel
theorem dX8_manyNow_316 : decode cX8_manyNow 316 = .ok (.iaload, 1) := by decide +kernel
theorem dX8_manyNow_317 : decode cX8_manyNow 317 = .ok (.ireturn, 1) := by decide +kernel
theorem dX8_many_0 : decode cX8_many 0 = .ok (.aload_n 0, 1) := by decide +kernel
theorem dX8_many_1 : decode cX8_many 1 = .ok (.iconst 0, 1) := by decide +kernel
theorem dX8_many_2 : decode cX8_many 2 = .ok (.putfield 30, 3) := by decide +kernel
theorem dX8_many_5 : decode cX8_many 5 = .ok (.iload_n 1, 1) := by decide +kernel
theorem dX8_many_6 : decode cX8_many 6 = .ok (.iconst 0, 1) := by decide +kernel
theorem dX8_many_7 : decode cX8_many 7 = .ok (.bipush 12, 2) := by decide +kernel
theorem dX8_many_9 : decode cX8_many 9 = .ok (.invokestatic 36, 3) := by decide +kernel
theorem dX8_many_12 : decode cX8_many 12 = .ok (.ifCond .ne 9, 3) := by decide +kernel
theorem dX8_many_15 : decode cX8_many 15 = .ok (.aload_n 0, 1) := by decide +kernel
theorem dX8_many_16 : decode cX8_many 16 = .ok (.iconst 1, 1) := by decide +kernel
theorem dX8_many_17 : decode cX8_many 17 = .ok (.invokevirtual 49, 3) := by decide +kernel
theorem dX8_many_20 : decode cX8_many 20 = .ok (.ireturn, 1) := by decide +kernel
theorem dX8_many_21 : decode cX8_many 21 = .ok (.aload_n 0, 1) := by decide +kernel
theorem dX8_many_22 : decode cX8_many 22 = .ok (.iload_n 1, 1) := by decide +kernel
theorem dX8_many_23 : decode cX8_many 23 = .ok (.invokevirtual 145, 3) := by decide +kernel
theorem dX8_many_26 : decode cX8_many 26 = .ok (.ireturn, 1) := by decide +kernel
theorem dX8_meanDamp_0 : decode cX8_meanDamp 0 = .ok (.aload_n 0, 1) := by decide +kernel
theorem dX8_meanDamp_1 : decode cX8_meanDamp 1 = .ok (.iconst 0, 1) := by decide +kernel
theorem dX8_meanDamp_2 : decode cX8_meanDamp 2 = .ok (.putfield 30, 3) := by decide +kernel
theorem dX8_meanDamp_5 : decode cX8_meanDamp 5 = .ok (.iconst 0, 1) := by decide +kernel
theorem dX8_meanDamp_6 : decode cX8_meanDamp 6 = .ok (.istore_n 1, 1) := by decide +kernel
theorem dX8_meanDamp_7 : decode cX8_meanDamp 7 = .ok (.iconst 0, 1) := by decide +kernel
theorem dX8_meanDamp_8 : decode cX8_meanDamp 8 = .ok (.istore_n 2, 1) := by decide +kernel
theorem dX8_meanDamp_9 : decode cX8_meanDamp 9 = .ok (.iconst 0, 1) := by decide +kernel
theorem dX8_meanDamp_10 : decode cX8_meanDamp 10 = .ok (.istore_n 3, 1) := by decide +kernel
theorem dX8_meanDamp_11 : decode cX8_meanDamp 11 = .ok (.iload_n 3, 1) := by decide +kernel
theorem dX8_meanDamp_12 : decode cX8_meanDamp 12 = .ok (.aload_n 0, 1) := by decide +kernel
theorem dX8_meanDamp_13 : decode cX8_meanDamp 13 = .ok (.getfield 10, 3) := by decide +kernel
theorem dX8_meanDamp_16 : decode cX8_meanDamp 16 = .ok (.getfield 33, 3) := by decide +kernel
theorem dX8_meanDamp_19 : decode cX8_meanDamp 19 = .ok (.if_icmp .ge 56, 3) := by decide +kernel
theorem dX8_meanDamp_22 : decode cX8_meanDamp 22 = .ok (.aload_n 0, 1) := by decide +kernel
theorem dX8_meanDamp_23 : decode cX8_meanDamp 23 = .ok (.getfield 10, 3) := by decide +kernel
theorem dX8_meanDamp_26 : decode cX8_meanDamp 26 = .ok (.getfield 57, 3) := by decide +kernel
theorem dX8_meanDamp_29 : decode cX8_meanDamp 29 = .ok (.iload_n 3, 1) := by decide +kernel
theorem dX8_meanDamp_30 : decode cX8_meanDamp 30 = .ok (.aaload, 1) := by decide +kernel
theorem dX8_meanDamp_31 : decode cX8_meanDamp 31 = .ok (.iconst 2, 1) := by decide +kernel
theorem dX8_meanDamp_32 : decode cX8_meanDamp 32 = .ok (.iaload, 1) := by decide +kernel
theorem dX8_meanDamp_33 : decode cX8_meanDamp 33 = .ok (.aload_n 0, 1) := by decide +kernel
theorem dX8_meanDamp_34 : decode cX8_meanDamp 34 = .ok (.getfield 10, 3) := by decide +kernel
theorem dX8_meanDamp_37 : decode cX8_meanDamp 37 = .ok (.getfield 57, 3) := by decide +kernel
theorem dX8_meanDamp_40 : decode cX8_meanDamp 40 = .ok (.iload_n 3, 1) := by decide +kernel
theorem dX8_meanDamp_41 : decode cX8_meanDamp 41 = .ok (.aaload, 1) := by decide +kernel
theorem dX8_meanDamp_42 : decode cX8_meanDamp 42 = .ok (.iconst 3, 1) := by decide +kernel
theorem dX8_meanDamp_43 : decode cX8_meanDamp 43 = .ok (.iaload, 1) := by decide +kernel
theorem dX8_meanDamp_44 : decode cX8_meanDamp 44 = .ok (.isub, 1) := by decide +kernel
theorem dX8_meanDamp_45 : decode cX8_meanDamp 45 = .ok (.istore 4, 2) := by decide +kernel
theorem dX8_meanDamp_47 : decode cX8_meanDamp 47 = .ok (.iload_n 1, 1) := by decide +kernel
theorem dX8_meanDamp_48 : decode cX8_meanDamp 48 = .ok (.iload 4, 2) := by decide +kernel
theorem dX8_meanDamp_50 : decode cX8_meanDamp 50 = .ok (.aload_n 0, 1) := by decide +kernel
theorem dX8_meanDamp_51 : decode cX8_meanDamp 51 = .ok (.getfield 10, 3) := by decide +kernel
theorem dX8_meanDamp_54 : decode cX8_meanDamp 54 = .ok (.getfield 57, 3) := by decide +kernel
theorem dX8_meanDamp_57 : decode cX8_meanDamp 57 = .ok (.iload_n 3, 1) := by decide +kernel
theorem dX8_meanDamp_58 : decode cX8_meanDamp 58 = .ok (.aaload, 1) := by decide +kernel
theorem dX8_meanDamp_59 : decode cX8_meanDamp 59 = .ok (.iconst 5, 1) := by decide +kernel
theorem dX8_meanDamp_60 : decode cX8_meanDamp 60 = .ok (.iaload, 1) := by decide +kernel
theorem dX8_meanDamp_61 : decode cX8_meanDamp 61 = .ok (.imul, 1) := by decide +kernel
theorem dX8_meanDamp_62 : decode cX8_meanDamp 62 = .ok (.iadd, 1) := by decide +kernel
theorem dX8_meanDamp_63 : decode cX8_meanDamp 63 = .ok (.istore_n 1, 1) := by decide +kernel
theorem dX8_meanDamp_64 : decode cX8_meanDamp 64 = .ok (.iload_n 2, 1) := by decide +kernel
theorem dX8_meanDamp_65 : decode cX8_meanDamp 65 = .ok (.iload 4, 2) := by decide +kernel
theorem dX8_meanDamp_67 : decode cX8_meanDamp 67 = .ok (.iadd, 1) := by decide +kernel
theorem dX8_meanDamp_68 : decode cX8_meanDamp 68 = .ok (.istore_n 2, 1) := by decide +kernel
theorem dX8_meanDamp_69 : decode cX8_meanDamp 69 = .ok (.iinc 3 1, 3) := by decide +kernel
theorem dX8_meanDamp_72 : decode cX8_meanDamp 72 = .ok (.goto (-61), 3) := by decide +kernel
theorem dX8_meanDamp_75 : decode cX8_meanDamp 75 = .ok (.iload_n 2, 1) := by decide +kernel
theorem dX8_meanDamp_76 : decode cX8_meanDamp 76 = .ok (.ifCond .ne 7, 3) := by decide +kernel
theorem dX8_meanDamp_79 : decode cX8_meanDamp 79 = .ok (.dconst 0, 1) := by decide +kernel
theorem dX8_meanDamp_80 : decode cX8_meanDamp 80 = .ok (.goto 8, 3) := by decide +kernel
theorem dX8_meanDamp_83 : decode cX8_meanDamp 83 = .ok (.iload_n 1, 1) := by decide +kernel
theorem dX8_meanDamp_84 : decode cX8_meanDamp 84 = .ok (.i2d, 1) := by decide +kernel
theorem dX8_meanDamp_85 : decode cX8_meanDamp 85 = .ok (.iload_n 2, 1) := by decide +kernel
theorem dX8_meanDamp_86 : decode cX8_meanDamp 86 = .ok (.i2d, 1) := by decide +kernel
theorem dX8_meanDamp_87 : decode cX8_meanDamp 87 = .ok (.ddiv, 1) := by decide +kernel
theorem dX8_meanDamp_88 : decode cX8_meanDamp 88 = .ok (.dreturn, 1) := by decide +kernel
theorem dX8_readyNow_0 : decode cX8_readyNow 0 = .ok (.bipush 11, 2) := by decide +kernel
theorem dX8_readyNow_2 : decode cX8_readyNow 2 = .ok (.newarray .int, 2) := by decide +kernel
theorem dX8_readyNow_4 : decode cX8_readyNow 4 = .ok (.astore 4, 2) := by decide +kernel
theorem dX8_readyNow_6 : decode cX8_readyNow 6 = .ok (.aload_n 0, 1) := by decide +kernel
theorem dX8_readyNow_7 : decode cX8_readyNow 7 = .ok (.getfield 10, 3) := by decide +kernel
theorem dX8_readyNow_10 : decode cX8_readyNow 10 = .ok (.getfield 57, 3) := by decide +kernel
theorem dX8_readyNow_13 : decode cX8_readyNow 13 = .ok (.iload_n 1, 1) := by decide +kernel
theorem dX8_readyNow_14 : decode cX8_readyNow 14 = .ok (.aaload, 1) := by decide +kernel
theorem dX8_readyNow_15 : decode cX8_readyNow 15 = .ok (.iconst 0, 1) := by decide +kernel
theorem dX8_readyNow_16 : decode cX8_readyNow 16 = .ok (.aload 4, 2) := by decide +kernel
theorem dX8_readyNow_18 : decode cX8_readyNow 18 = .ok (.iconst 0, 1) := by decide +kernel
theorem dX8_readyNow_19 : decode cX8_readyNow 19 = .ok (.bipush 11, 2) := by decide +kernel
theorem dX8_readyNow_21 : decode cX8_readyNow 21 = .ok (.invokestatic 61, 3) := by decide +kernel
theorem dX8_readyNow_24 : decode cX8_readyNow 24 = .ok (.iconst 0, 1) := by decide +kernel
theorem dX8_readyNow_25 : decode cX8_readyNow 25 = .ok (.istore 5, 2) := by decide +kernel
theorem dX8_readyNow_27 : decode cX8_readyNow 27 = .ok (.iload 5, 2) := by decide +kernel
theorem dX8_readyNow_29 : decode cX8_readyNow 29 = .ok (.bipush 96, 2) := by decide +kernel
theorem dX8_readyNow_31 : decode cX8_readyNow 31 = .ok (.if_icmp .gt 67, 3) := by decide +kernel
theorem dX8_readyNow_34 : decode cX8_readyNow 34 = .ok (.aload_n 0, 1) := by decide +kernel
theorem dX8_readyNow_35 : decode cX8_readyNow 35 = .ok (.getfield 10, 3) := by decide +kernel
theorem dX8_readyNow_38 : decode cX8_readyNow 38 = .ok (.getfield 107, 3) := by decide +kernel
theorem dX8_readyNow_41 : decode cX8_readyNow 41 = .ok (.iload 5, 2) := by decide +kernel
theorem dX8_readyNow_43 : decode cX8_readyNow 43 = .ok (.iadd, 1) := by decide +kernel
theorem dX8_readyNow_44 : decode cX8_readyNow 44 = .ok (.bipush 24, 2) := by decide +kernel
theorem dX8_readyNow_46 : decode cX8_readyNow 46 = .ok (.irem, 1) := by decide +kernel
theorem dX8_readyNow_47 : decode cX8_readyNow 47 = .ok (.istore 6, 2) := by decide +kernel
theorem dX8_readyNow_49 : decode cX8_readyNow 49 = .ok (.iload 5, 2) := by decide +kernel
theorem dX8_readyNow_51 : decode cX8_readyNow 51 = .ok (.ifCond .le 13, 3) := by decide +kernel
theorem dX8_readyNow_54 : decode cX8_readyNow 54 = .ok (.aload 4, 2) := by decide +kernel
theorem dX8_readyNow_56 : decode cX8_readyNow 56 = .ok (.iload 6, 2) := by decide +kernel
theorem dX8_readyNow_58 : decode cX8_readyNow 58 = .ok (.iload_n 2, 1) := by decide +kernel
theorem dX8_readyNow_59 : decode cX8_readyNow 59 = .ok (.iload_n 3, 1) := by decide +kernel
theorem dX8_readyNow_60 : decode cX8_readyNow 60 = .ok (.iconst 0, 1) := by decide +kernel
theorem dX8_readyNow_61 : decode cX8_readyNow 61 = .ok (.invokestatic 148, 3) := by decide +kernel
theorem dX8_readyNow_64 : decode cX8_readyNow 64 = .ok (.aload 4, 2) := by decide +kernel
theorem dX8_readyNow_66 : decode cX8_readyNow 66 = .ok (.iconst 4, 1) := by decide +kernel
theorem dX8_readyNow_67 : decode cX8_readyNow 67 = .ok (.iaload, 1) := by decide +kernel
theorem dX8_readyNow_68 : decode cX8_readyNow 68 = .ok (.bipush 80, 2) := by decide +kernel
theorem dX8_readyNow_70 : decode cX8_readyNow 70 = .ok (.if_icmp .lt 22, 3) := by decide +kernel
theorem dX8_readyNow_73 : decode cX8_readyNow 73 = .ok (.aload 4, 2) := by decide +kernel
theorem dX8_readyNow_75 : decode cX8_readyNow 75 = .ok (.iconst 5, 1) := by decide +kernel
theorem dX8_readyNow_76 : decode cX8_readyNow 76 = .ok (.iaload, 1) := by decide +kernel
theorem dX8_readyNow_77 : decode cX8_readyNow 77 = .ok (.bipush 20, 2) := by decide +kernel
theorem dX8_readyNow_79 : decode cX8_readyNow 79 = .ok (.if_icmp .ge 13, 3) := by decide +kernel
theorem dX8_readyNow_82 : decode cX8_readyNow 82 = .ok (.iload 6, 2) := by decide +kernel
theorem dX8_readyNow_84 : decode cX8_readyNow 84 = .ok (.bipush 8, 2) := by decide +kernel
theorem dX8_readyNow_86 : decode cX8_readyNow 86 = .ok (.if_icmp .lt 6, 3) := by decide +kernel
theorem dX8_readyNow_89 : decode cX8_readyNow 89 = .ok (.iload 5, 2) := by decide +kernel
theorem dX8_readyNow_91 : decode cX8_readyNow 91 = .ok (.ireturn, 1) := by decide +kernel
theorem dX8_readyNow_92 : decode cX8_readyNow 92 = .ok (.iinc 5 1, 3) := by decide +kernel
theorem dX8_readyNow_95 : decode cX8_readyNow 95 = .ok (.goto (-68), 3) := by decide +kernel
theorem dX8_readyNow_98 : decode cX8_readyNow 98 = .ok (.iconst (-1), 1) := by decide +kernel
theorem dX8_readyNow_99 : decode cX8_readyNow 99 = .ok (.ireturn, 1) := by decide +kernel
theorem dX8_readyIn_0 : decode cX8_readyIn 0 = .ok (.aload_n 0, 1) := by decide +kernel
theorem dX8_readyIn_1 : decode cX8_readyIn 1 = .ok (.iconst 0, 1) := by decide +kernel
theorem dX8_readyIn_2 : decode cX8_readyIn 2 = .ok (.putfield 30, 3) := by decide +kernel
theorem dX8_readyIn_5 : decode cX8_readyIn 5 = .ok (.aload_n 0, 1) := by decide +kernel
theorem dX8_readyIn_6 : decode cX8_readyIn 6 = .ok (.iload_n 1, 1) := by decide +kernel
theorem dX8_readyIn_7 : decode cX8_readyIn 7 = .ok (.invokevirtual 67, 3) := by decide +kernel
theorem dX8_readyIn_10 : decode cX8_readyIn 10 = .ok (.ifCond .ne 9, 3) := by decide +kernel
theorem dX8_readyIn_13 : decode cX8_readyIn 13 = .ok (.aload_n 0, 1) := by decide +kernel
theorem dX8_readyIn_14 : decode cX8_readyIn 14 = .ok (.iconst 1, 1) := by decide +kernel
theorem dX8_readyIn_15 : decode cX8_readyIn 15 = .ok (.invokevirtual 49, 3) := by decide +kernel
theorem dX8_readyIn_18 : decode cX8_readyIn 18 = .ok (.ireturn, 1) := by decide +kernel
theorem dX8_readyIn_19 : decode cX8_readyIn 19 = .ok (.iload_n 2, 1) := by decide +kernel
theorem dX8_readyIn_20 : decode cX8_readyIn 20 = .ok (.iload_n 3, 1) := by decide +kernel
theorem dX8_readyIn_21 : decode cX8_readyIn 21 = .ok (.iconst 0, 1) := by decide +kernel
theorem dX8_readyIn_22 : decode cX8_readyIn 22 = .ok (.invokestatic 104, 3) := by decide +kernel
theorem dX8_readyIn_25 : decode cX8_readyIn 25 = .ok (.ifCond .ne 9, 3) := by decide +kernel
theorem dX8_readyIn_28 : decode cX8_readyIn 28 = .ok (.aload_n 0, 1) := by decide +kernel
theorem dX8_readyIn_29 : decode cX8_readyIn 29 = .ok (.iconst 2, 1) := by decide +kernel
theorem dX8_readyIn_30 : decode cX8_readyIn 30 = .ok (.invokevirtual 49, 3) := by decide +kernel
theorem dX8_readyIn_33 : decode cX8_readyIn 33 = .ok (.ireturn, 1) := by decide +kernel
theorem dX8_readyIn_34 : decode cX8_readyIn 34 = .ok (.aload_n 0, 1) := by decide +kernel
theorem dX8_readyIn_35 : decode cX8_readyIn 35 = .ok (.iload_n 1, 1) := by decide +kernel
theorem dX8_readyIn_36 : decode cX8_readyIn 36 = .ok (.iload_n 2, 1) := by decide +kernel
theorem dX8_readyIn_37 : decode cX8_readyIn 37 = .ok (.iload_n 3, 1) := by decide +kernel
theorem dX8_readyIn_38 : decode cX8_readyIn 38 = .ok (.invokevirtual 152, 3) := by decide +kernel
theorem dX8_readyIn_41 : decode cX8_readyIn 41 = .ok (.ireturn, 1) := by decide +kernel
theorem dX8_nextNow_0 : decode cX8_nextNow 0 = .ok (.aload_n 0, 1) := by decide +kernel
theorem dX8_nextNow_1 : decode cX8_nextNow 1 = .ok (.getfield 10, 3) := by decide +kernel
theorem dX8_nextNow_4 : decode cX8_nextNow 4 = .ok (.getfield 70, 3) := by decide +kernel
theorem dX8_nextNow_7 : decode cX8_nextNow 7 = .ok (.iload_n 1, 1) := by decide +kernel
theorem dX8_nextNow_8 : decode cX8_nextNow 8 = .ok (.aaload, 1) := by decide +kernel
theorem dX8_nextNow_9 : decode cX8_nextNow 9 = .ok (.bipush 7, 2) := by decide +kernel
theorem dX8_nextNow_11 : decode cX8_nextNow 11 = .ok (.iaload, 1) := by decide +kernel
theorem dX8_nextNow_12 : decode cX8_nextNow 12 = .ok (.istore 5, 2) := by decide +kernel
theorem dX8_nextNow_14 : decode cX8_nextNow 14 = .ok (.iconst (-1), 1) := by decide +kernel
theorem dX8_nextNow_15 : decode cX8_nextNow 15 = .ok (.istore 6, 2) := by decide +kernel
theorem dX8_nextNow_17 : decode cX8_nextNow 17 = .ok (.iconst 0, 1) := by decide +kernel
theorem dX8_nextNow_18 : decode cX8_nextNow 18 = .ok (.istore 7, 2) := by decide +kernel
theorem dX8_nextNow_20 : decode cX8_nextNow 20 = .ok (.iconst 0, 1) := by decide +kernel
theorem dX8_nextNow_21 : decode cX8_nextNow 21 = .ok (.istore 8, 2) := by decide +kernel
theorem dX8_nextNow_23 : decode cX8_nextNow 23 = .ok (.iload 8, 2) := by decide +kernel
theorem dX8_nextNow_25 : decode cX8_nextNow 25 = .ok (.aload_n 0, 1) := by decide +kernel
theorem dX8_nextNow_26 : decode cX8_nextNow 26 = .ok (.getfield 10, 3) := by decide +kernel
theorem dX8_nextNow_29 : decode cX8_nextNow 29 = .ok (.getfield 33, 3) := by decide +kernel
theorem dX8_nextNow_32 : decode cX8_nextNow 32 = .ok (.if_icmp .ge 147, 3) := by decide +kernel
theorem dX8_nextNow_35 : decode cX8_nextNow 35 = .ok (.aload_n 0, 1) := by decide +kernel
theorem dX8_nextNow_36 : decode cX8_nextNow 36 = .ok (.getfield 10, 3) := by decide +kernel
theorem dX8_nextNow_39 : decode cX8_nextNow 39 = .ok (.getfield 57, 3) := by decide +kernel
theorem dX8_nextNow_42 : decode cX8_nextNow 42 = .ok (.iload 8, 2) := by decide +kernel
theorem dX8_nextNow_44 : decode cX8_nextNow 44 = .ok (.aaload, 1) := by decide +kernel
theorem dX8_nextNow_45 : decode cX8_nextNow 45 = .ok (.iconst 2, 1) := by decide +kernel
theorem dX8_nextNow_46 : decode cX8_nextNow 46 = .ok (.iaload, 1) := by decide +kernel
theorem dX8_nextNow_47 : decode cX8_nextNow 47 = .ok (.aload_n 0, 1) := by decide +kernel
theorem dX8_nextNow_48 : decode cX8_nextNow 48 = .ok (.getfield 10, 3) := by decide +kernel
theorem dX8_nextNow_51 : decode cX8_nextNow 51 = .ok (.getfield 57, 3) := by decide +kernel
theorem dX8_nextNow_54 : decode cX8_nextNow 54 = .ok (.iload 8, 2) := by decide +kernel
theorem dX8_nextNow_56 : decode cX8_nextNow 56 = .ok (.aaload, 1) := by decide +kernel
theorem dX8_nextNow_57 : decode cX8_nextNow 57 = .ok (.iconst 3, 1) := by decide +kernel
theorem dX8_nextNow_58 : decode cX8_nextNow 58 = .ok (.iaload, 1) := by decide +kernel
theorem dX8_nextNow_59 : decode cX8_nextNow 59 = .ok (.if_icmp .ne 6, 3) := by decide +kernel
theorem dX8_nextNow_62 : decode cX8_nextNow 62 = .ok (.goto 111, 3) := by decide +kernel
theorem dX8_nextNow_65 : decode cX8_nextNow 65 = .ok (.aload_n 0, 1) := by decide +kernel
theorem dX8_nextNow_66 : decode cX8_nextNow 66 = .ok (.getfield 10, 3) := by decide +kernel
theorem dX8_nextNow_69 : decode cX8_nextNow 69 = .ok (.invokevirtual 155, 3) := by decide +kernel
theorem dX8_nextNow_72 : decode cX8_nextNow 72 = .ok (.astore 9, 2) := by decide +kernel
theorem dX8_nextNow_74 : decode cX8_nextNow 74 = .ok (.aload 9, 2) := by decide +kernel
theorem dX8_nextNow_76 : decode cX8_nextNow 76 = .ok (.getfield 70, 3) := by decide +kernel
theorem dX8_nextNow_79 : decode cX8_nextNow 79 = .ok (.iload_n 1, 1) := by decide +kernel
theorem dX8_nextNow_80 : decode cX8_nextNow 80 = .ok (.aaload, 1) := by decide +kernel
theorem dX8_nextNow_81 : decode cX8_nextNow 81 = .ok (.bipush 7, 2) := by decide +kernel
theorem dX8_nextNow_83 : decode cX8_nextNow 83 = .ok (.iload 8, 2) := by decide +kernel
theorem dX8_nextNow_85 : decode cX8_nextNow 85 = .ok (.iastore, 1) := by decide +kernel
theorem dX8_nextNow_86 : decode cX8_nextNow 86 = .ok (.iconst 0, 1) := by decide +kernel
theorem dX8_nextNow_87 : decode cX8_nextNow 87 = .ok (.istore 10, 2) := by decide +kernel
theorem dX8_nextNow_89 : decode cX8_nextNow 89 = .ok (.iload 10, 2) := by decide +kernel
theorem dX8_nextNow_91 : decode cX8_nextNow 91 = .ok (.iload_n 2, 1) := by decide +kernel
theorem dX8_nextNow_92 : decode cX8_nextNow 92 = .ok (.if_icmp .ge 19, 3) := by decide +kernel
theorem dX8_nextNow_95 : decode cX8_nextNow 95 = .ok (.aload 9, 2) := by decide +kernel
theorem dX8_nextNow_97 : decode cX8_nextNow 97 = .ok (.iload_n 3, 1) := by decide +kernel
theorem dX8_nextNow_98 : decode cX8_nextNow 98 = .ok (.iload 4, 2) := by decide +kernel
theorem dX8_nextNow_100 : decode cX8_nextNow 100 = .ok (.iconst 0, 1) := by decide +kernel
theorem dX8_nextNow_101 : decode cX8_nextNow 101 = .ok (.invokevirtual 120, 3) := by decide +kernel
theorem dX8_nextNow_104 : decode cX8_nextNow 104 = .ok (.pop, 1) := by decide +kernel
theorem dX8_nextNow_105 : decode cX8_nextNow 105 = .ok (.iinc 10 1, 3) := by decide +kernel
theorem dX8_nextNow_108 : decode cX8_nextNow 108 = .ok (.goto (-19), 3) := by decide +kernel
theorem dX8_nextNow_111 : decode cX8_nextNow 111 = .ok (.aload 9, 2) := by decide +kernel
theorem dX8_nextNow_113 : decode cX8_nextNow 113 = .ok (.getfield 70, 3) := by decide +kernel
theorem dX8_nextNow_116 : decode cX8_nextNow 116 = .ok (.iload_n 1, 1) := by decide +kernel
theorem dX8_nextNow_117 : decode cX8_nextNow 117 = .ok (.aaload, 1) := by decide +kernel
theorem dX8_nextNow_118 : decode cX8_nextNow 118 = .ok (.bipush 10, 2) := by decide +kernel
theorem dX8_nextNow_120 : decode cX8_nextNow 120 = .ok (.iaload, 1) := by decide +kernel
theorem dX8_nextNow_121 : decode cX8_nextNow 121 = .ok (.aload_n 0, 1) := by decide +kernel
theorem dX8_nextNow_122 : decode cX8_nextNow 122 = .ok (.getfield 10, 3) := by decide +kernel
theorem dX8_nextNow_125 : decode cX8_nextNow 125 = .ok (.getfield 70, 3) := by decide +kernel
theorem dX8_nextNow_128 : decode cX8_nextNow 128 = .ok (.iload_n 1, 1) := by decide +kernel
theorem dX8_nextNow_129 : decode cX8_nextNow 129 = .ok (.aaload, 1) := by decide +kernel
theorem dX8_nextNow_130 : decode cX8_nextNow 130 = .ok (.bipush 10, 2) := by decide +kernel
theorem dX8_nextNow_132 : decode cX8_nextNow 132 = .ok (.iaload, 1) := by decide +kernel
theorem dX8_nextNow_133 : decode cX8_nextNow 133 = .ok (.isub, 1) := by decide +kernel
theorem dX8_nextNow_134 : decode cX8_nextNow 134 = .ok (.istore 10, 2) := by decide +kernel
theorem dX8_nextNow_136 : decode cX8_nextNow 136 = .ok (.iload 10, 2) := by decide +kernel
theorem dX8_nextNow_138 : decode cX8_nextNow 138 = .ok (.iload 7, 2) := by decide +kernel
theorem dX8_nextNow_140 : decode cX8_nextNow 140 = .ok (.if_icmp .lt 33, 3) := by decide +kernel
theorem dX8_nextNow_143 : decode cX8_nextNow 143 = .ok (.iload 10, 2) := by decide +kernel
theorem dX8_nextNow_145 : decode cX8_nextNow 145 = .ok (.ifCond .eq 28, 3) := by decide +kernel
theorem dX8_nextNow_148 : decode cX8_nextNow 148 = .ok (.iload 10, 2) := by decide +kernel
theorem dX8_nextNow_150 : decode cX8_nextNow 150 = .ok (.iload 7, 2) := by decide +kernel
theorem dX8_nextNow_152 : decode cX8_nextNow 152 = .ok (.if_icmp .ne 13, 3) := by decide +kernel
theorem dX8_nextNow_155 : decode cX8_nextNow 155 = .ok (.iload 8, 2) := by decide +kernel
theorem dX8_nextNow_157 : decode cX8_nextNow 157 = .ok (.iload 5, 2) := by decide +kernel
theorem dX8_nextNow_159 : decode cX8_nextNow 159 = .ok (.if_icmp .eq 6, 3) := by decide +kernel
theorem dX8_nextNow_162 : decode cX8_nextNow 162 = .ok (.goto 11, 3) := by decide +kernel
theorem dX8_nextNow_165 : decode cX8_nextNow 165 = .ok (.iload 8, 2) := by decide +kernel
theorem dX8_nextNow_167 : decode cX8_nextNow 167 = .ok (.istore 6, 2) := by decide +kernel
theorem dX8_nextNow_169 : decode cX8_nextNow 169 = .ok (.iload 10, 2) := by decide +kernel
theorem dX8_nextNow_171 : decode cX8_nextNow 171 = .ok (.istore 7, 2) := by decide +kernel
theorem dX8_nextNow_173 : decode cX8_nextNow 173 = .ok (.iinc 8 1, 3) := by decide +kernel
theorem dX8_nextNow_176 : decode cX8_nextNow 176 = .ok (.goto (-153), 3) := by decide +kernel
theorem dX8_nextNow_179 : decode cX8_nextNow 179 = .ok (.iload 6, 2) := by decide +kernel
theorem dX8_nextNow_181 : decode cX8_nextNow 181 = .ok (.ireturn, 1) := by decide +kernel
theorem dX8_nextField_0 : decode cX8_nextField 0 = .ok (.aload_n 0, 1) := by decide +kernel
theorem dX8_nextField_1 : decode cX8_nextField 1 = .ok (.iconst 0, 1) := by decide +kernel
theorem dX8_nextField_2 : decode cX8_nextField 2 = .ok (.putfield 30, 3) := by decide +kernel
theorem dX8_nextField_5 : decode cX8_nextField 5 = .ok (.aload_n 0, 1) := by decide +kernel
theorem dX8_nextField_6 : decode cX8_nextField 6 = .ok (.iload_n 1, 1) := by decide +kernel
theorem dX8_nextField_7 : decode cX8_nextField 7 = .ok (.invokevirtual 79, 3) := by decide +kernel
theorem dX8_nextField_10 : decode cX8_nextField 10 = .ok (.ifCond .ne 9, 3) := by decide +kernel
theorem dX8_nextField_13 : decode cX8_nextField 13 = .ok (.aload_n 0, 1) := by decide +kernel
theorem dX8_nextField_14 : decode cX8_nextField 14 = .ok (.iconst 1, 1) := by decide +kernel
theorem dX8_nextField_15 : decode cX8_nextField 15 = .ok (.invokevirtual 49, 3) := by decide +kernel
theorem dX8_nextField_18 : decode cX8_nextField 18 = .ok (.ireturn, 1) := by decide +kernel
theorem dX8_nextField_19 : decode cX8_nextField 19 = .ok (.iload_n 2, 1) := by decide +kernel
theorem dX8_nextField_20 : decode cX8_nextField 20 = .ok (.iconst 1, 1) := by decide +kernel
theorem dX8_nextField_21 : decode cX8_nextField 21 = .ok (.bipush 48, 2) := by decide +kernel
theorem dX8_nextField_23 : decode cX8_nextField 23 = .ok (.invokestatic 36, 3) := by decide +kernel
theorem dX8_nextField_26 : decode cX8_nextField 26 = .ok (.ifCond .eq 13, 3) := by decide +kernel
theorem dX8_nextField_29 : decode cX8_nextField 29 = .ok (.iload_n 3, 1) := by decide +kernel
theorem dX8_nextField_30 : decode cX8_nextField 30 = .ok (.iload 4, 2) := by decide +kernel
theorem dX8_nextField_32 : decode cX8_nextField 32 = .ok (.iconst 0, 1) := by decide +kernel
theorem dX8_nextField_33 : decode cX8_nextField 33 = .ok (.invokestatic 104, 3) := by decide +kernel
theorem dX8_nextField_36 : decode cX8_nextField 36 = .ok (.ifCond .ne 9, 3) := by decide +kernel
theorem dX8_nextField_39 : decode cX8_nextField 39 = .ok (.aload_n 0, 1) := by decide +kernel
theorem dX8_nextField_40 : decode cX8_nextField 40 = .ok (.iconst 2, 1) := by decide +kernel
theorem dX8_nextField_41 : decode cX8_nextField 41 = .ok (.invokevirtual 49, 3) := by decide +kernel
theorem dX8_nextField_44 : decode cX8_nextField 44 = .ok (.ireturn, 1) := by decide +kernel
theorem dX8_nextField_45 : decode cX8_nextField 45 = .ok (.aload_n 0, 1) := by decide +kernel
theorem dX8_nextField_46 : decode cX8_nextField 46 = .ok (.iload_n 1, 1) := by decide +kernel
theorem dX8_nextField_47 : decode cX8_nextField 47 = .ok (.iload_n 2, 1) := by decide +kernel
theorem dX8_nextField_48 : decode cX8_nextField 48 = .ok (.iload_n 3, 1) := by decide +kernel
theorem dX8_nextField_49 : decode cX8_nextField 49 = .ok (.iload 4, 2) := by decide +kernel
theorem dX8_nextField_51 : decode cX8_nextField 51 = .ok (.invokevirtual 159, 3) := by decide +kernel
theorem dX8_nextField_54 : decode cX8_nextField 54 = .ok (.ireturn, 1) := by decide +kernel
theorem dX8_waitingNow_0 : decode cX8_waitingNow 0 = .ok (.bipush 11, 2) := by decide +kernel
theorem dX8_waitingNow_2 : decode cX8_waitingNow 2 = .ok (.newarray .int, 2) := by decide +kernel
theorem dX8_waitingNow_4 : decode cX8_waitingNow 4 = .ok (.astore 6, 2) := by decide +kernel
theorem dX8_waitingNow_6 : decode cX8_waitingNow 6 = .ok (.aload_n 0, 1) := by decide +kernel
theorem dX8_waitingNow_7 : decode cX8_waitingNow 7 = .ok (.getfield 10, 3) := by decide +kernel
theorem dX8_waitingNow_10 : decode cX8_waitingNow 10 = .ok (.getfield 57, 3) := by decide +kernel
theorem dX8_waitingNow_13 : decode cX8_waitingNow 13 = .ok (.iload_n 1, 1) := by decide +kernel
theorem dX8_waitingNow_14 : decode cX8_waitingNow 14 = .ok (.aaload, 1) := by decide +kernel
theorem dX8_waitingNow_15 : decode cX8_waitingNow 15 = .ok (.iconst 0, 1) := by decide +kernel
theorem dX8_waitingNow_16 : decode cX8_waitingNow 16 = .ok (.aload 6, 2) := by decide +kernel
theorem dX8_waitingNow_18 : decode cX8_waitingNow 18 = .ok (.iconst 0, 1) := by decide +kernel
theorem dX8_waitingNow_19 : decode cX8_waitingNow 19 = .ok (.bipush 11, 2) := by decide +kernel
theorem dX8_waitingNow_21 : decode cX8_waitingNow 21 = .ok (.invokestatic 61, 3) := by decide +kernel
theorem dX8_waitingNow_24 : decode cX8_waitingNow 24 = .ok (.aload 6, 2) := by decide +kernel
theorem dX8_waitingNow_26 : decode cX8_waitingNow 26 = .ok (.invokestatic 162, 3) := by decide +kernel
theorem dX8_waitingNow_29 : decode cX8_waitingNow 29 = .ok (.istore 7, 2) := by decide +kernel
theorem dX8_waitingNow_31 : decode cX8_waitingNow 31 = .ok (.iconst 1, 1) := by decide +kernel
theorem dX8_waitingNow_32 : decode cX8_waitingNow 32 = .ok (.istore 8, 2) := by decide +kernel
theorem dX8_waitingNow_34 : decode cX8_waitingNow 34 = .ok (.iload 8, 2) := by decide +kernel
theorem dX8_waitingNow_36 : decode cX8_waitingNow 36 = .ok (.iload_n 2, 1) := by decide +kernel
theorem dX8_waitingNow_37 : decode cX8_waitingNow 37 = .ok (.if_icmp .gt 32, 3) := by decide +kernel
theorem dX8_waitingNow_40 : decode cX8_waitingNow 40 = .ok (.aload 6, 2) := by decide +kernel
theorem dX8_waitingNow_42 : decode cX8_waitingNow 42 = .ok (.aload_n 0, 1) := by decide +kernel
theorem dX8_waitingNow_43 : decode cX8_waitingNow 43 = .ok (.getfield 10, 3) := by decide +kernel
theorem dX8_waitingNow_46 : decode cX8_waitingNow 46 = .ok (.getfield 107, 3) := by decide +kernel
theorem dX8_waitingNow_49 : decode cX8_waitingNow 49 = .ok (.iload 8, 2) := by decide +kernel
theorem dX8_waitingNow_51 : decode cX8_waitingNow 51 = .ok (.iadd, 1) := by decide +kernel
theorem dX8_waitingNow_52 : decode cX8_waitingNow 52 = .ok (.bipush 24, 2) := by decide +kernel
theorem dX8_waitingNow_54 : decode cX8_waitingNow 54 = .ok (.irem, 1) := by decide +kernel
theorem dX8_waitingNow_55 : decode cX8_waitingNow 55 = .ok (.iload_n 3, 1) := by decide +kernel
theorem dX8_waitingNow_56 : decode cX8_waitingNow 56 = .ok (.iload 4, 2) := by decide +kernel
theorem dX8_waitingNow_58 : decode cX8_waitingNow 58 = .ok (.iload 5, 2) := by decide +kernel
theorem dX8_waitingNow_60 : decode cX8_waitingNow 60 = .ok (.invokestatic 148, 3) := by decide +kernel
theorem dX8_waitingNow_63 : decode cX8_waitingNow 63 = .ok (.iinc 8 1, 3) := by decide +kernel
theorem dX8_waitingNow_66 : decode cX8_waitingNow 66 = .ok (.goto (-32), 3) := by decide +kernel
theorem dX8_waitingNow_69 : decode cX8_waitingNow 69 = .ok (.aload 6, 2) := by decide +kernel
theorem dX8_waitingNow_71 : decode cX8_waitingNow 71 = .ok (.iconst 2, 1) := by decide +kernel
theorem dX8_waitingNow_72 : decode cX8_waitingNow 72 = .ok (.iaload, 1) := by decide +kernel
theorem dX8_waitingNow_73 : decode cX8_waitingNow 73 = .ok (.aload 6, 2) := by decide +kernel
theorem dX8_waitingNow_75 : decode cX8_waitingNow 75 = .ok (.iconst 3, 1) := by decide +kernel
theorem dX8_waitingNow_76 : decode cX8_waitingNow 76 = .ok (.iaload, 1) := by decide +kernel
theorem dX8_waitingNow_77 : decode cX8_waitingNow 77 = .ok (.isub, 1) := by decide +kernel
theorem dX8_waitingNow_78 : decode cX8_waitingNow 78 = .ok (.iload 7, 2) := by decide +kernel
theorem dX8_waitingNow_80 : decode cX8_waitingNow 80 = .ok (.aload 6, 2) := by decide +kernel
theorem dX8_waitingNow_82 : decode cX8_waitingNow 82 = .ok (.invokestatic 162, 3) := by decide +kernel
theorem dX8_waitingNow_85 : decode cX8_waitingNow 85 = .ok (.isub, 1) := by decide +kernel
theorem dX8_waitingNow_86 : decode cX8_waitingNow 86 = .ok (.imul, 1) := by decide +kernel
theorem dX8_waitingNow_87 : decode cX8_waitingNow 87 = .ok (.ireturn, 1) := by decide +kernel
theorem dX8_waiting_0 : decode cX8_waiting 0 = .ok (.aload_n 0, 1) := by decide +kernel
theorem dX8_waiting_1 : decode cX8_waiting 1 = .ok (.iconst 0, 1) := by decide +kernel
theorem dX8_waiting_2 : decode cX8_waiting 2 = .ok (.putfield 30, 3) := by decide +kernel
theorem dX8_waiting_5 : decode cX8_waiting 5 = .ok (.aload_n 0, 1) := by decide +kernel
theorem dX8_waiting_6 : decode cX8_waiting 6 = .ok (.iload_n 1, 1) := by decide +kernel
theorem dX8_waiting_7 : decode cX8_waiting 7 = .ok (.invokevirtual 67, 3) := by decide +kernel
theorem dX8_waiting_10 : decode cX8_waiting 10 = .ok (.ifCond .ne 9, 3) := by decide +kernel
theorem dX8_waiting_13 : decode cX8_waiting 13 = .ok (.aload_n 0, 1) := by decide +kernel
theorem dX8_waiting_14 : decode cX8_waiting 14 = .ok (.iconst 1, 1) := by decide +kernel
theorem dX8_waiting_15 : decode cX8_waiting 15 = .ok (.invokevirtual 49, 3) := by decide +kernel
theorem dX8_waiting_18 : decode cX8_waiting 18 = .ok (.ireturn, 1) := by decide +kernel
theorem dX8_waiting_19 : decode cX8_waiting 19 = .ok (.iload_n 2, 1) := by decide +kernel
theorem dX8_waiting_20 : decode cX8_waiting 20 = .ok (.iconst 1, 1) := by decide +kernel
theorem dX8_waiting_21 : decode cX8_waiting 21 = .ok (.bipush 48, 2) := by decide +kernel
theorem dX8_waiting_23 : decode cX8_waiting 23 = .ok (.invokestatic 36, 3) := by decide +kernel
theorem dX8_waiting_26 : decode cX8_waiting 26 = .ok (.ifCond .eq 14, 3) := by decide +kernel
theorem dX8_waiting_29 : decode cX8_waiting 29 = .ok (.iload_n 3, 1) := by decide +kernel
theorem dX8_waiting_30 : decode cX8_waiting 30 = .ok (.iload 4, 2) := by decide +kernel
theorem dX8_waiting_32 : decode cX8_waiting 32 = .ok (.iload 5, 2) := by decide +kernel
theorem dX8_waiting_34 : decode cX8_waiting 34 = .ok (.invokestatic 104, 3) := by decide +kernel
theorem dX8_waiting_37 : decode cX8_waiting 37 = .ok (.ifCond .ne 9, 3) := by decide +kernel
theorem dX8_waiting_40 : decode cX8_waiting 40 = .ok (.aload_n 0, 1) := by decide +kernel
theorem dX8_waiting_41 : decode cX8_waiting 41 = .ok (.iconst 2, 1) := by decide +kernel
theorem dX8_waiting_42 : decode cX8_waiting 42 = .ok (.invokevirtual 49, 3) := by decide +kernel
theorem dX8_waiting_45 : decode cX8_waiting 45 = .ok (.ireturn, 1) := by decide +kernel
theorem dX8_waiting_46 : decode cX8_waiting 46 = .ok (.aload_n 0, 1) := by decide +kernel
theorem dX8_waiting_47 : decode cX8_waiting 47 = .ok (.iload_n 1, 1) := by decide +kernel
theorem dX8_waiting_48 : decode cX8_waiting 48 = .ok (.iload_n 2, 1) := by decide +kernel
theorem dX8_waiting_49 : decode cX8_waiting 49 = .ok (.iload_n 3, 1) := by decide +kernel
theorem dX8_waiting_50 : decode cX8_waiting 50 = .ok (.iload 4, 2) := by decide +kernel
theorem dX8_waiting_52 : decode cX8_waiting 52 = .ok (.iload 5, 2) := by decide +kernel
theorem dX8_waiting_54 : decode cX8_waiting 54 = .ok (.invokevirtual 166, 3) := by decide +kernel
theorem dX8_waiting_57 : decode cX8_waiting 57 = .ok (.ireturn, 1) := by decide +kernel
theorem dX8_digest_0 : decode cX8_digest 0 = .ok (.aload_n 0, 1) := by decide +kernel
theorem dX8_digest_1 : decode cX8_digest 1 = .ok (.iconst 0, 1) := by decide +kernel
theorem dX8_digest_2 : decode cX8_digest 2 = .ok (.putfield 30, 3) := by decide +kernel
theorem dX8_digest_5 : decode cX8_digest 5 = .ok (.ldc2_w 170, 3) := by decide +kernel
theorem dX8_digest_8 : decode cX8_digest 8 = .ok (.lstore_n 1, 1) := by decide +kernel
theorem dX8_digest_9 : decode cX8_digest 9 = .ok (.iconst 0, 1) := by decide +kernel
theorem dX8_digest_10 : decode cX8_digest 10 = .ok (.istore_n 3, 1) := by decide +kernel
theorem dX8_digest_11 : decode cX8_digest 11 = .ok (.iload_n 3, 1) := by decide +kernel
theorem dX8_digest_12 : decode cX8_digest 12 = .ok (.bipush 12, 2) := by decide +kernel
theorem dX8_digest_14 : decode cX8_digest 14 = .ok (.if_icmp .gt 22, 3) := by decide +kernel
theorem dX8_digest_17 : decode cX8_digest 17 = .ok (.lload_n 1, 1) := by decide +kernel
theorem dX8_digest_18 : decode cX8_digest 18 = .ok (.ldc2_w 172, 3) := by decide +kernel
theorem dX8_digest_21 : decode cX8_digest 21 = .ok (.lmul, 1) := by decide +kernel
theorem dX8_digest_22 : decode cX8_digest 22 = .ok (.aload_n 0, 1) := by decide +kernel
theorem dX8_digest_23 : decode cX8_digest 23 = .ok (.iload_n 3, 1) := by decide +kernel
theorem dX8_digest_24 : decode cX8_digest 24 = .ok (.invokevirtual 145, 3) := by decide +kernel
theorem dX8_digest_27 : decode cX8_digest 27 = .ok (.i2l, 1) := by decide +kernel
theorem dX8_digest_28 : decode cX8_digest 28 = .ok (.ladd, 1) := by decide +kernel
theorem dX8_digest_29 : decode cX8_digest 29 = .ok (.lstore_n 1, 1) := by decide +kernel
theorem dX8_digest_30 : decode cX8_digest 30 = .ok (.iinc 3 1, 3) := by decide +kernel
theorem dX8_digest_33 : decode cX8_digest 33 = .ok (.goto (-22), 3) := by decide +kernel
theorem dX8_digest_36 : decode cX8_digest 36 = .ok (.iconst 0, 1) := by decide +kernel
