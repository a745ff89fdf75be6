theorem dX6_pass_8 : decode cX6_pass 8 = .ok (.ifCond .eq 13, 3) := by decide +kernel
theorem dX6_pass_11 : decode cX6_pass 11 = .ok (.new 41, 3) := by decide +kernel
theorem dX6_pass_14 : decode cX6_pass 14 = .ok (.dup, 1) := by decide +kernel
theorem dX6_pass_15 : decode cX6_pass 15 = .ok (.ldc 194, 2) := by decide +kernel
theorem dX6_pass_17 : decode cX6_pass 17 = .ok (.invokespecial 45, 3) := by decide +kernel
theorem dX6_pass_20 : decode cX6_pass 20 = .ok (.athrow, 1) := by decide +kernel
theorem dX6_pass_21 : decode cX6_pass 21 = .ok (.aload_n 0, 1) := by decide +kernel
theorem dX6_pass_22 : decode cX6_pass 22 = .ok (.getfield 12, 3) := by decide +kernel
theorem dX6_pass_25 : decode cX6_pass 25 = .ok (.getfield 196, 3) := by decide +kernel
theorem dX6_pass_28 : decode cX6_pass 28 = .ok (.iload_n 1, 1) := by decide +kernel
theorem dX6_pass_29 : decode cX6_pass 29 = .ok (.iadd, 1) := by decide +kernel
theorem dX6_pass_30 : decode cX6_pass 30 = .ok (.sipush 2400, 3) := by decide +kernel
theorem dX6_pass_33 : decode cX6_pass 33 = .ok (.if_icmp .le 13, 3) := by decide +kernel
theorem dX6_pass_36 : decode cX6_pass 36 = .ok (.new 56, 3) := by decide +kernel
theorem dX6_pass_39 : decode cX6_pass 39 = .ok (.dup, 1) := by decide +kernel
theorem dX6_pass_40 : decode cX6_pass 40 = .ok (.ldc 199, 2) := by decide +kernel
theorem dX6_pass_42 : decode cX6_pass 42 = .ok (.invokespecial 60, 3) := by decide +kernel
theorem dX6_pass_45 : decode cX6_pass 45 = .ok (.athrow, 1) := by decide +kernel
theorem dX6_pass_46 : decode cX6_pass 46 = .ok (.aload_n 0, 1) := by decide +kernel
theorem dX6_pass_47 : decode cX6_pass 47 = .ok (.getfield 12, 3) := by decide +kernel
theorem dX6_pass_50 : decode cX6_pass 50 = .ok (.getfield 201, 3) := by decide +kernel
theorem dX6_pass_53 : decode cX6_pass 53 = .ok (.invokevirtual 50, 3) := by decide +kernel
theorem dX6_pass_56 : decode cX6_pass 56 = .ok (.istore 5, 2) := by decide +kernel
theorem dX6_pass_58 : decode cX6_pass 58 = .ok (.iconst 0, 1) := by decide +kernel
theorem dX6_pass_59 : decode cX6_pass 59 = .ok (.istore 6, 2) := by decide +kernel
theorem dX6_pass_61 : decode cX6_pass 61 = .ok (.iload 6, 2) := by decide +kernel
theorem dX6_pass_63 : decode cX6_pass 63 = .ok (.iload_n 1, 1) := by decide +kernel
theorem dX6_pass_64 : decode cX6_pass 64 = .ok (.if_icmp .ge 20, 3) := by decide +kernel
theorem dX6_pass_67 : decode cX6_pass 67 = .ok (.aload_n 0, 1) := by decide +kernel
theorem dX6_pass_68 : decode cX6_pass 68 = .ok (.getfield 12, 3) := by decide +kernel
theorem dX6_pass_71 : decode cX6_pass 71 = .ok (.iload_n 2, 1) := by decide +kernel
theorem dX6_pass_72 : decode cX6_pass 72 = .ok (.iload_n 3, 1) := by decide +kernel
theorem dX6_pass_73 : decode cX6_pass 73 = .ok (.iload 4, 2) := by decide +kernel
theorem dX6_pass_75 : decode cX6_pass 75 = .ok (.invokevirtual 204, 3) := by decide +kernel
theorem dX6_pass_78 : decode cX6_pass 78 = .ok (.iinc 6 1, 3) := by decide +kernel
theorem dX6_pass_81 : decode cX6_pass 81 = .ok (.goto (-20), 3) := by decide +kernel
theorem dX6_pass_84 : decode cX6_pass 84 = .ok (.aload_n 0, 1) := by decide +kernel
theorem dX6_pass_85 : decode cX6_pass 85 = .ok (.getfield 12, 3) := by decide +kernel
theorem dX6_pass_88 : decode cX6_pass 88 = .ok (.getfield 201, 3) := by decide +kernel
theorem dX6_pass_91 : decode cX6_pass 91 = .ok (.invokevirtual 50, 3) := by decide +kernel
theorem dX6_pass_94 : decode cX6_pass 94 = .ok (.iload 5, 2) := by decide +kernel
theorem dX6_pass_96 : decode cX6_pass 96 = .ok (.isub, 1) := by decide +kernel
theorem dX6_pass_97 : decode cX6_pass 97 = .ok (.ireturn, 1) := by decide +kernel
theorem dX6_ofField_0 : decode cX6_ofField 0 = .ok (.aload_n 0, 1) := by decide +kernel
theorem dX6_ofField_1 : decode cX6_ofField 1 = .ok (.getfield 12, 3) := by decide +kernel
theorem dX6_ofField_4 : decode cX6_ofField 4 = .ok (.iload_n 1, 1) := by decide +kernel
theorem dX6_ofField_5 : decode cX6_ofField 5 = .ok (.invokevirtual 65, 3) := by decide +kernel
theorem dX6_ofField_8 : decode cX6_ofField 8 = .ok (.astore_n 3, 1) := by decide +kernel
theorem dX6_ofField_9 : decode cX6_ofField 9 = .ok (.aload_n 3, 1) := by decide +kernel
theorem dX6_ofField_10 : decode cX6_ofField 10 = .ok (.ifnonnull 13, 3) := by decide +kernel
theorem dX6_ofField_13 : decode cX6_ofField 13 = .ok (.new 34, 3) := by decide +kernel
theorem dX6_ofField_16 : decode cX6_ofField 16 = .ok (.dup, 1) := by decide +kernel
theorem dX6_ofField_17 : decode cX6_ofField 17 = .ok (.ldc 69, 2) := by decide +kernel
theorem dX6_ofField_19 : decode cX6_ofField 19 = .ok (.invokespecial 38, 3) := by decide +kernel
theorem dX6_ofField_22 : decode cX6_ofField 22 = .ok (.athrow, 1) := by decide +kernel
theorem dX6_ofField_23 : decode cX6_ofField 23 = .ok (.iload_n 2, 1) := by decide +kernel
theorem dX6_ofField_24 : decode cX6_ofField 24 = .ok (.iconst 0, 1) := by decide +kernel
theorem dX6_ofField_25 : decode cX6_ofField 25 = .ok (.bipush 11, 2) := by decide +kernel
theorem dX6_ofField_27 : decode cX6_ofField 27 = .ok (.invokestatic 30, 3) := by decide +kernel
theorem dX6_ofField_30 : decode cX6_ofField 30 = .ok (.ifCond .eq 13, 3) := by decide +kernel
theorem dX6_ofField_33 : decode cX6_ofField 33 = .ok (.new 41, 3) := by decide +kernel
theorem dX6_ofField_36 : decode cX6_ofField 36 = .ok (.dup, 1) := by decide +kernel
theorem dX6_ofField_37 : decode cX6_ofField 37 = .ok (.ldc 207, 2) := by decide +kernel
theorem dX6_ofField_39 : decode cX6_ofField 39 = .ok (.invokespecial 45, 3) := by decide +kernel
theorem dX6_ofField_42 : decode cX6_ofField 42 = .ok (.athrow, 1) := by decide +kernel
theorem dX6_ofField_43 : decode cX6_ofField 43 = .ok (.iload_n 2, 1) := by decide +kernel
theorem dX6_ofField_44 : decode cX6_ofField 44 = .ok (.tableswitch 127 0 10 #[60, 65, 70, 75, 80, 85, 90, 95, 100, 105, 114], 60) := by decide +kernel
theorem dX6_ofField_104 : decode cX6_ofField 104 = .ok (.aload_n 3, 1) := by decide +kernel
theorem dX6_ofField_105 : decode cX6_ofField 105 = .ok (.getfield 209, 3) := by decide +kernel
theorem dX6_ofField_108 : decode cX6_ofField 108 = .ok (.ireturn, 1) := by decide +kernel
theorem dX6_ofField_109 : decode cX6_ofField 109 = .ok (.aload_n 3, 1) := by decide +kernel
theorem dX6_ofField_110 : decode cX6_ofField 110 = .ok (.getfield 212, 3) := by decide +kernel
theorem dX6_ofField_113 : decode cX6_ofField 113 = .ok (.ireturn, 1) := by decide +kernel
theorem dX6_ofField_114 : decode cX6_ofField 114 = .ok (.aload_n 3, 1) := by decide +kernel
theorem dX6_ofField_115 : decode cX6_ofField 115 = .ok (.getfield 213, 3) := by decide +kernel
theorem dX6_ofField_118 : decode cX6_ofField 118 = .ok (.ireturn, 1) := by decide +kernel
theorem dX6_ofField_119 : decode cX6_ofField 119 = .ok (.aload_n 3, 1) := by decide +kernel
theorem dX6_ofField_120 : decode cX6_ofField 120 = .ok (.getfield 216, 3) := by decide +kernel
theorem dX6_ofField_123 : decode cX6_ofField 123 = .ok (.ireturn, 1) := by decide +kernel
theorem dX6_ofField_124 : decode cX6_ofField 124 = .ok (.aload_n 3, 1) := by decide +kernel
theorem dX6_ofField_125 : decode cX6_ofField 125 = .ok (.getfield 73, 3) := by decide +kernel
theorem dX6_ofField_128 : decode cX6_ofField 128 = .ok (.ireturn, 1) := by decide +kernel
theorem dX6_ofField_129 : decode cX6_ofField 129 = .ok (.aload_n 3, 1) := by decide +kernel
theorem dX6_ofField_130 : decode cX6_ofField 130 = .ok (.getfield 77, 3) := by decide +kernel
theorem dX6_ofField_133 : decode cX6_ofField 133 = .ok (.ireturn, 1) := by decide +kernel
theorem dX6_ofField_134 : decode cX6_ofField 134 = .ok (.aload_n 3, 1) := by decide +kernel
theorem dX6_ofField_135 : decode cX6_ofField 135 = .ok (.getfield 219, 3) := by decide +kernel
theorem dX6_ofField_138 : decode cX6_ofField 138 = .ok (.ireturn, 1) := by decide +kernel
theorem dX6_ofField_139 : decode cX6_ofField 139 = .ok (.aload_n 3, 1) := by decide +kernel
theorem dX6_ofField_140 : decode cX6_ofField 140 = .ok (.getfield 222, 3) := by decide +kernel
theorem dX6_ofField_143 : decode cX6_ofField 143 = .ok (.ireturn, 1) := by decide +kernel
theorem dX6_ofField_144 : decode cX6_ofField 144 = .ok (.aload_n 3, 1) := by decide +kernel
theorem dX6_ofField_145 : decode cX6_ofField 145 = .ok (.getfield 225, 3) := by decide +kernel
theorem dX6_ofField_148 : decode cX6_ofField 148 = .ok (.ireturn, 1) := by decide +kernel
theorem dX6_ofField_149 : decode cX6_ofField 149 = .ok (.aload_n 0, 1) := by decide +kernel
theorem dX6_ofField_150 : decode cX6_ofField 150 = .ok (.getfield 12, 3) := by decide +kernel
theorem dX6_ofField_153 : decode cX6_ofField 153 = .ok (.iload_n 1, 1) := by decide +kernel
theorem dX6_ofField_154 : decode cX6_ofField 154 = .ok (.invokevirtual 228, 3) := by decide +kernel
theorem dX6_ofField_157 : decode cX6_ofField 157 = .ok (.ireturn, 1) := by decide +kernel
theorem dX6_ofField_158 : decode cX6_ofField 158 = .ok (.aload_n 3, 1) := by decide +kernel
theorem dX6_ofField_159 : decode cX6_ofField 159 = .ok (.aload_n 0, 1) := by decide +kernel
theorem dX6_ofField_160 : decode cX6_ofField 160 = .ok (.getfield 12, 3) := by decide +kernel
theorem dX6_ofField_163 : decode cX6_ofField 163 = .ok (.iload_n 1, 1) := by decide +kernel
theorem dX6_ofField_164 : decode cX6_ofField 164 = .ok (.invokevirtual 228, 3) := by decide +kernel
theorem dX6_ofField_167 : decode cX6_ofField 167 = .ok (.invokevirtual 231, 3) := by decide +kernel
theorem dX6_ofField_170 : decode cX6_ofField 170 = .ok (.ireturn, 1) := by decide +kernel
theorem dX6_ofField_171 : decode cX6_ofField 171 = .ok (.aload_n 0, 1) := by decide +kernel
theorem dX6_ofField_172 : decode cX6_ofField 172 = .ok (.getfield 12, 3) := by decide +kernel
theorem dX6_ofField_175 : decode cX6_ofField 175 = .ok (.iload_n 1, 1) := by decide +kernel
theorem dX6_ofField_176 : decode cX6_ofField 176 = .ok (.invokevirtual 134, 3) := by decide +kernel
theorem dX6_ofField_179 : decode cX6_ofField 179 = .ok (.ireturn, 1) := by decide +kernel
theorem dX6_ofCombine_0 : decode cX6_ofCombine 0 = .ok (.aload_n 0, 1) := by decide +kernel
theorem dX6_ofCombine_1 : decode cX6_ofCombine 1 = .ok (.getfield 12, 3) := by decide +kernel
theorem dX6_ofCombine_4 : decode cX6_ofCombine 4 = .ok (.iload_n 1, 1) := by decide +kernel
theorem dX6_ofCombine_5 : decode cX6_ofCombine 5 = .ok (.invokevirtual 125, 3) := by decide +kernel
theorem dX6_ofCombine_8 : decode cX6_ofCombine 8 = .ok (.astore_n 3, 1) := by decide +kernel
theorem dX6_ofCombine_9 : decode cX6_ofCombine 9 = .ok (.aload_n 3, 1) := by decide +kernel
theorem dX6_ofCombine_10 : decode cX6_ofCombine 10 = .ok (.ifnonnull 13, 3) := by decide +kernel
theorem dX6_ofCombine_13 : decode cX6_ofCombine 13 = .ok (.new 34, 3) := by decide +kernel
theorem dX6_ofCombine_16 : decode cX6_ofCombine 16 = .ok (.dup, 1) := by decide +kernel
theorem dX6_ofCombine_17 : decode cX6_ofCombine 17 = .ok (.ldc 129, 2) := by decide +kernel
theorem dX6_ofCombine_19 : decode cX6_ofCombine 19 = .ok (.invokespecial 38, 3) := by decide +kernel
theorem dX6_ofCombine_22 : decode cX6_ofCombine 22 = .ok (.athrow, 1) := by decide +kernel
theorem dX6_ofCombine_23 : decode cX6_ofCombine 23 = .ok (.iload_n 2, 1) := by decide +kernel
theorem dX6_ofCombine_24 : decode cX6_ofCombine 24 = .ok (.iconst 0, 1) := by decide +kernel
theorem dX6_ofCombine_25 : decode cX6_ofCombine 25 = .ok (.bipush 7, 2) := by decide +kernel
theorem dX6_ofCombine_27 : decode cX6_ofCombine 27 = .ok (.invokestatic 30, 3) := by decide +kernel
theorem dX6_ofCombine_30 : decode cX6_ofCombine 30 = .ok (.ifCond .eq 13, 3) := by decide +kernel
theorem dX6_ofCombine_33 : decode cX6_ofCombine 33 = .ok (.new 41, 3) := by decide +kernel
theorem dX6_ofCombine_36 : decode cX6_ofCombine 36 = .ok (.dup, 1) := by decide +kernel
theorem dX6_ofCombine_37 : decode cX6_ofCombine 37 = .ok (.ldc 207, 2) := by decide +kernel
theorem dX6_ofCombine_39 : decode cX6_ofCombine 39 = .ok (.invokespecial 45, 3) := by decide +kernel
theorem dX6_ofCombine_42 : decode cX6_ofCombine 42 = .ok (.athrow, 1) := by decide +kernel
theorem dX6_ofCombine_43 : decode cX6_ofCombine 43 = .ok (.iload_n 2, 1) := by decide +kernel
theorem dX6_ofCombine_44 : decode cX6_ofCombine 44 = .ok (.tableswitch 98 0 6 #[44, 49, 54, 70, 75, 88, 93], 44) := by decide +kernel
theorem dX6_ofCombine_88 : decode cX6_ofCombine 88 = .ok (.aload_n 3, 1) := by decide +kernel
theorem dX6_ofCombine_89 : decode cX6_ofCombine 89 = .ok (.getfield 150, 3) := by decide +kernel
theorem dX6_ofCombine_92 : decode cX6_ofCombine 92 = .ok (.ireturn, 1) := by decide +kernel
theorem dX6_ofCombine_93 : decode cX6_ofCombine 93 = .ok (.aload_n 3, 1) := by decide +kernel
theorem dX6_ofCombine_94 : decode cX6_ofCombine 94 = .ok (.getfield 234, 3) := by decide +kernel
theorem dX6_ofCombine_97 : decode cX6_ofCombine 97 = .ok (.ireturn, 1) := by decide +kernel
theorem dX6_ofCombine_98 : decode cX6_ofCombine 98 = .ok (.aload_n 3, 1) := by decide +kernel
theorem dX6_ofCombine_99 : decode cX6_ofCombine 99 = .ok (.getfield 234, 3) := by decide +kernel
theorem dX6_ofCombine_102 : decode cX6_ofCombine 102 = .ok (.ifCond .le 10, 3) := by decide +kernel
theorem dX6_ofCombine_105 : decode cX6_ofCombine 105 = .ok (.aload_n 3, 1) := by decide +kernel
theorem dX6_ofCombine_106 : decode cX6_ofCombine 106 = .ok (.getfield 237, 3) := by decide +kernel
theorem dX6_ofCombine_109 : decode cX6_ofCombine 109 = .ok (.goto 4, 3) := by decide +kernel
theorem dX6_ofCombine_112 : decode cX6_ofCombine 112 = .ok (.iconst (-1), 1) := by decide +kernel
theorem dX6_ofCombine_113 : decode cX6_ofCombine 113 = .ok (.ireturn, 1) := by decide +kernel
theorem dX6_ofCombine_114 : decode cX6_ofCombine 114 = .ok (.aload_n 3, 1) := by decide +kernel
theorem dX6_ofCombine_115 : decode cX6_ofCombine 115 = .ok (.getfield 169, 3) := by decide +kernel
theorem dX6_ofCombine_118 : decode cX6_ofCombine 118 = .ok (.ireturn, 1) := by decide +kernel
theorem dX6_ofCombine_119 : decode cX6_ofCombine 119 = .ok (.aload_n 3, 1) := by decide +kernel
theorem dX6_ofCombine_120 : decode cX6_ofCombine 120 = .ok (.getfield 177, 3) := by decide +kernel
theorem dX6_ofCombine_123 : decode cX6_ofCombine 123 = .ok (.ifCond .eq 7, 3) := by decide +kernel
theorem dX6_ofCombine_126 : decode cX6_ofCombine 126 = .ok (.iconst 1, 1) := by decide +kernel
theorem dX6_ofCombine_127 : decode cX6_ofCombine 127 = .ok (.goto 4, 3) := by decide +kernel
theorem dX6_ofCombine_130 : decode cX6_ofCombine 130 = .ok (.iconst 0, 1) := by decide +kernel
theorem dX6_ofCombine_131 : decode cX6_ofCombine 131 = .ok (.ireturn, 1) := by decide +kernel
theorem dX6_ofCombine_132 : decode cX6_ofCombine 132 = .ok (.aload_n 3, 1) := by decide +kernel
theorem dX6_ofCombine_133 : decode cX6_ofCombine 133 = .ok (.getfield 131, 3) := by decide +kernel
theorem dX6_ofCombine_136 : decode cX6_ofCombine 136 = .ok (.ireturn, 1) := by decide +kernel
theorem dX6_ofCombine_137 : decode cX6_ofCombine 137 = .ok (.aload_n 3, 1) := by decide +kernel
theorem dX6_ofCombine_138 : decode cX6_ofCombine 138 = .ok (.getfield 240, 3) := by decide +kernel
theorem dX6_ofCombine_141 : decode cX6_ofCombine 141 = .ok (.ireturn, 1) := by decide +kernel
theorem dX6_ofCombine_142 : decode cX6_ofCombine 142 = .ok (.aload_n 3, 1) := by decide +kernel
theorem dX6_ofCombine_143 : decode cX6_ofCombine 143 = .ok (.getfield 241, 3) := by decide +kernel
theorem dX6_ofCombine_146 : decode cX6_ofCombine 146 = .ok (.ireturn, 1) := by decide +kernel
theorem dX6_ofTruck_0 : decode cX6_ofTruck 0 = .ok (.aload_n 0, 1) := by decide +kernel
theorem dX6_ofTruck_1 : decode cX6_ofTruck 1 = .ok (.getfield 12, 3) := by decide +kernel
theorem dX6_ofTruck_4 : decode cX6_ofTruck 4 = .ok (.iload_n 1, 1) := by decide +kernel
theorem dX6_ofTruck_5 : decode cX6_ofTruck 5 = .ok (.invokevirtual 138, 3) := by decide +kernel
theorem dX6_ofTruck_8 : decode cX6_ofTruck 8 = .ok (.astore_n 3, 1) := by decide +kernel
theorem dX6_ofTruck_9 : decode cX6_ofTruck 9 = .ok (.aload_n 3, 1) := by decide +kernel
theorem dX6_ofTruck_10 : decode cX6_ofTruck 10 = .ok (.ifnonnull 13, 3) := by decide +kernel
theorem dX6_ofTruck_13 : decode cX6_ofTruck 13 = .ok (.new 34, 3) := by decide +kernel
theorem dX6_ofTruck_16 : decode cX6_ofTruck 16 = .ok (.dup, 1) := by decide +kernel
theorem dX6_ofTruck_17 : decode cX6_ofTruck 17 = .ok (.ldc 142, 2) := by decide +kernel
theorem dX6_ofTruck_19 : decode cX6_ofTruck 19 = .ok (.invokespecial 38, 3) := by decide +kernel
theorem dX6_ofTruck_22 : decode cX6_ofTruck 22 = .ok (.athrow, 1) := by decide +kernel
theorem dX6_ofTruck_23 : decode cX6_ofTruck 23 = .ok (.iload_n 2, 1) := by decide +kernel
theorem dX6_ofTruck_24 : decode cX6_ofTruck 24 = .ok (.iconst 0, 1) := by decide +kernel
theorem dX6_ofTruck_25 : decode cX6_ofTruck 25 = .ok (.bipush 7, 2) := by decide +kernel
theorem dX6_ofTruck_27 : decode cX6_ofTruck 27 = .ok (.invokestatic 30, 3) := by decide +kernel
theorem dX6_ofTruck_30 : decode cX6_ofTruck 30 = .ok (.ifCond .eq 13, 3) := by decide +kernel
theorem dX6_ofTruck_33 : decode cX6_ofTruck 33 = .ok (.new 41, 3) := by decide +kernel
theorem dX6_ofTruck_36 : decode cX6_ofTruck 36 = .ok (.dup, 1) := by decide +kernel
theorem dX6_ofTruck_37 : decode cX6_ofTruck 37 = .ok (.ldc 207, 2) := by decide +kernel
theorem dX6_ofTruck_39 : decode cX6_ofTruck 39 = .ok (.invokespecial 45, 3) := by decide +kernel
theorem dX6_ofTruck_42 : decode cX6_ofTruck 42 = .ok (.athrow, 1) := by decide +kernel
theorem dX6_ofTruck_43 : decode cX6_ofTruck 43 = .ok (.iload_n 2, 1) := by decide +kernel
theorem dX6_ofTruck_44 : decode cX6_ofTruck 44 = .ok (.tableswitch 101 0 6 #[44, 49, 54, 70, 86, 91, 96], 44) := by decide +kernel
theorem dX6_ofTruck_88 : decode cX6_ofTruck 88 = .ok (.aload_n 3, 1) := by decide +kernel
theorem dX6_ofTruck_89 : decode cX6_ofTruck 89 = .ok (.getfield 153, 3) := by decide +kernel
theorem dX6_ofTruck_92 : decode cX6_ofTruck 92 = .ok (.ireturn, 1) := by decide +kernel
theorem dX6_ofTruck_93 : decode cX6_ofTruck 93 = .ok (.aload_n 3, 1) := by decide +kernel
theorem dX6_ofTruck_94 : decode cX6_ofTruck 94 = .ok (.getfield 244, 3) := by decide +kernel
theorem dX6_ofTruck_97 : decode cX6_ofTruck 97 = .ok (.ireturn, 1) := by decide +kernel
theorem dX6_ofTruck_98 : decode cX6_ofTruck 98 = .ok (.aload_n 3, 1) := by decide +kernel
theorem dX6_ofTruck_99 : decode cX6_ofTruck 99 = .ok (.getfield 244, 3) := by decide +kernel
theorem dX6_ofTruck_102 : decode cX6_ofTruck 102 = .ok (.ifCond .le 10, 3) := by decide +kernel
theorem dX6_ofTruck_105 : decode cX6_ofTruck 105 = .ok (.aload_n 3, 1) := by decide +kernel
theorem dX6_ofTruck_106 : decode cX6_ofTruck 106 = .ok (.getfield 247, 3) := by decide +kernel
theorem dX6_ofTruck_109 : decode cX6_ofTruck 109 = .ok (.goto 4, 3) := by decide +kernel
theorem dX6_ofTruck_112 : decode cX6_ofTruck 112 = .ok (.iconst (-1), 1) := by decide +kernel
theorem dX6_ofTruck_113 : decode cX6_ofTruck 113 = .ok (.ireturn, 1) := by decide +kernel
theorem dX6_ofTruck_114 : decode cX6_ofTruck 114 = .ok (.aload_n 3, 1) := by decide +kernel
theorem dX6_ofTruck_115 : decode cX6_ofTruck 115 = .ok (.getfield 244, 3) := by decide +kernel
theorem dX6_ofTruck_118 : decode cX6_ofTruck 118 = .ok (.ifCond .le 10, 3) := by decide +kernel
theorem dX6_ofTruck_121 : decode cX6_ofTruck 121 = .ok (.aload_n 3, 1) := by decide +kernel
theorem dX6_ofTruck_122 : decode cX6_ofTruck 122 = .ok (.getfield 250, 3) := by decide +kernel
theorem dX6_ofTruck_125 : decode cX6_ofTruck 125 = .ok (.goto 4, 3) := by decide +kernel
theorem dX6_ofTruck_128 : decode cX6_ofTruck 128 = .ok (.iconst 0, 1) := by decide +kernel
theorem dX6_ofTruck_129 : decode cX6_ofTruck 129 = .ok (.ireturn, 1) := by decide +kernel
theorem dX6_ofTruck_130 : decode cX6_ofTruck 130 = .ok (.aload_n 3, 1) := by decide +kernel
theorem dX6_ofTruck_131 : decode cX6_ofTruck 131 = .ok (.getfield 166, 3) := by decide +kernel
theorem dX6_ofTruck_134 : decode cX6_ofTruck 134 = .ok (.ireturn, 1) := by decide +kernel
theorem dX6_ofTruck_135 : decode cX6_ofTruck 135 = .ok (.aload_n 3, 1) := by decide +kernel
theorem dX6_ofTruck_136 : decode cX6_ofTruck 136 = .ok (.getfield 251, 3) := by decide +kernel
theorem dX6_ofTruck_139 : decode cX6_ofTruck 139 = .ok (.ireturn, 1) := by decide +kernel
theorem dX6_ofTruck_140 : decode cX6_ofTruck 140 = .ok (.aload_n 3, 1) := by decide +kernel
theorem dX6_ofTruck_141 : decode cX6_ofTruck 141 = .ok (.getfield 254, 3) := by decide +kernel
theorem dX6_ofTruck_144 : decode cX6_ofTruck 144 = .ok (.ireturn, 1) := by decide +kernel
theorem dX6_ofTruck_145 : decode cX6_ofTruck 145 = .ok (.aload_n 3, 1) := by decide +kernel
theorem dX6_ofTruck_146 : decode cX6_ofTruck 146 = .ok (.getfield 257, 3) := by decide +kernel
theorem dX6_ofTruck_149 : decode cX6_ofTruck 149 = .ok (.ireturn, 1) := by decide +kernel
theorem dX6_ofTicket_0 : decode cX6_ofTicket 0 = .ok (.aload_n 0, 1) := by decide +kernel
theorem dX6_ofTicket_1 : decode cX6_ofTicket 1 = .ok (.getfield 12, 3) := by decide +kernel
theorem dX6_ofTicket_4 : decode cX6_ofTicket 4 = .ok (.iload_n 1, 1) := by decide +kernel
theorem dX6_ofTicket_5 : decode cX6_ofTicket 5 = .ok (.invokevirtual 260, 3) := by decide +kernel
theorem dX6_ofTicket_8 : decode cX6_ofTicket 8 = .ok (.astore_n 3, 1) := by decide +kernel
theorem dX6_ofTicket_9 : decode cX6_ofTicket 9 = .ok (.aload_n 3, 1) := by decide +kernel
theorem dX6_ofTicket_10 : decode cX6_ofTicket 10 = .ok (.ifnonnull 14, 3) := by decide +kernel
theorem dX6_ofTicket_13 : decode cX6_ofTicket 13 = .ok (.new 34, 3) := by decide +kernel
theorem dX6_ofTicket_16 : decode cX6_ofTicket 16 = .ok (.dup, 1) := by decide +kernel
theorem dX6_ofTicket_17 : decode cX6_ofTicket 17 = .ok (.ldc_w 264, 3) := by decide +kernel
theorem dX6_ofTicket_20 : decode cX6_ofTicket 20 = .ok (.invokespecial 38, 3) := by decide +kernel
theorem dX6_ofTicket_23 : decode cX6_ofTicket 23 = .ok (.athrow, 1) := by decide +kernel
theorem dX6_ofTicket_24 : decode cX6_ofTicket 24 = .ok (.iload_n 2, 1) := by decide +kernel
theorem dX6_ofTicket_25 : decode cX6_ofTicket 25 = .ok (.iconst 0, 1) := by decide +kernel
theorem dX6_ofTicket_26 : decode cX6_ofTicket 26 = .ok (.bipush 6, 2) := by decide +kernel
theorem dX6_ofTicket_28 : decode cX6_ofTicket 28 = .ok (.invokestatic 30, 3) := by decide +kernel
theorem dX6_ofTicket_31 : decode cX6_ofTicket 31 = .ok (.ifCond .eq 13, 3) := by decide +kernel
theorem dX6_ofTicket_34 : decode cX6_ofTicket 34 = .ok (.new 41, 3) := by decide +kernel
theorem dX6_ofTicket_37 : decode cX6_ofTicket 37 = .ok (.dup, 1) := by decide +kernel
theorem dX6_ofTicket_38 : decode cX6_ofTicket 38 = .ok (.ldc 207, 2) := by decide +kernel
theorem dX6_ofTicket_40 : decode cX6_ofTicket 40 = .ok (.invokespecial 45, 3) := by decide +kernel
theorem dX6_ofTicket_43 : decode cX6_ofTicket 43 = .ok (.athrow, 1) := by decide +kernel
theorem dX6_ofTicket_44 : decode cX6_ofTicket 44 = .ok (.iload_n 2, 1) := by decide +kernel
theorem dX6_ofTicket_45 : decode cX6_ofTicket 45 = .ok (.tableswitch 69 0 5 #[39, 44, 49, 54, 59, 64], 39) := by decide +kernel
theorem dX6_ofTicket_84 : decode cX6_ofTicket 84 = .ok (.aload_n 3, 1) := by decide +kernel
theorem dX6_ofTicket_85 : decode cX6_ofTicket 85 = .ok (.getfield 266, 3) := by decide +kernel
theorem dX6_ofTicket_88 : decode cX6_ofTicket 88 = .ok (.ireturn, 1) := by decide +kernel
theorem dX6_ofTicket_89 : decode cX6_ofTicket 89 = .ok (.aload_n 3, 1) := by decide +kernel
theorem dX6_ofTicket_90 : decode cX6_ofTicket 90 = .ok (.getfield 271, 3) := by decide +kernel
theorem dX6_ofTicket_93 : decode cX6_ofTicket 93 = .ok (.ireturn, 1) := by decide +kernel
theorem dX6_ofTicket_94 : decode cX6_ofTicket 94 = .ok (.aload_n 3, 1) := by decide +kernel
theorem dX6_ofTicket_95 : decode cX6_ofTicket 95 = .ok (.getfield 274, 3) := by decide +kernel
theorem dX6_ofTicket_98 : decode cX6_ofTicket 98 = .ok (.ireturn, 1) := by decide +kernel
theorem dX6_ofTicket_99 : decode cX6_ofTicket 99 = .ok (.aload_n 3, 1) := by decide +kernel
theorem dX6_ofTicket_100 : decode cX6_ofTicket 100 = .ok (.getfield 275, 3) := by decide +kernel
theorem dX6_ofTicket_103 : decode cX6_ofTicket 103 = .ok (.ireturn, 1) := by decide +kernel
theorem dX6_ofTicket_104 : decode cX6_ofTicket 104 = .ok (.aload_n 3, 1) := by decide +kernel
theorem dX6_ofTicket_105 : decode cX6_ofTicket 105 = .ok (.getfield 278, 3) := by decide +kernel
theorem dX6_ofTicket_108 : decode cX6_ofTicket 108 = .ok (.ireturn, 1) := by decide +kernel
theorem dX6_ofTicket_109 : decode cX6_ofTicket 109 = .ok (.aload_n 3, 1) := by decide +kernel
theorem dX6_ofTicket_110 : decode cX6_ofTicket 110 = .ok (.getfield 281, 3) := by decide +kernel
theorem dX6_ofTicket_113 : decode cX6_ofTicket 113 = .ok (.ireturn, 1) := by decide +kernel
theorem dX6_ofTicket_114 : decode cX6_ofTicket 114 = .ok (.aload_n 3, 1) := by decide +kernel
theorem dX6_ofTicket_115 : decode cX6_ofTicket 115 = .ok (.getfield 284, 3) := by decide +kernel
theorem dX6_ofTicket_118 : decode cX6_ofTicket 118 = .ok (.ireturn, 1) := by decide +kernel
theorem dX6_owed_0 : decode cX6_owed 0 = .ok (.iload_n 1, 1) := by decide +kernel
theorem dX6_owed_1 : decode cX6_owed 1 = .ok (.iconst 0, 1) := by decide +kernel
theorem dX6_owed_2 : decode cX6_owed 2 = .ok (.iconst 3, 1) := by decide +kernel
theorem dX6_owed_3 : decode cX6_owed 3 = .ok (.invokestatic 30, 3) := by decide +kernel
theorem dX6_owed_6 : decode cX6_owed 6 = .ok (.ifCond .eq 13, 3) := by decide +kernel
theorem dX6_owed_9 : decode cX6_owed 9 = .ok (.new 34, 3) := by decide +kernel
theorem dX6_owed_12 : decode cX6_owed 12 = .ok (.dup, 1) := by decide +kernel
theorem dX6_owed_13 : decode cX6_owed 13 = .ok (.ldc 36, 2) := by decide +kernel
theorem dX6_owed_15 : decode cX6_owed 15 = .ok (.invokespecial 38, 3) := by decide +kernel
theorem dX6_owed_18 : decode cX6_owed 18 = .ok (.athrow, 1) := by decide +kernel
theorem dX6_owed_19 : decode cX6_owed 19 = .ok (.iconst 0, 1) := by decide +kernel
theorem dX6_owed_20 : decode cX6_owed 20 = .ok (.istore_n 3, 1) := by decide +kernel
theorem dX6_owed_21 : decode cX6_owed 21 = .ok (.iconst 0, 1) := by decide +kernel
theorem dX6_owed_22 : decode cX6_owed 22 = .ok (.istore 4, 2) := by decide +kernel
theorem dX6_owed_24 : decode cX6_owed 24 = .ok (.iload 4, 2) := by decide +kernel
theorem dX6_owed_26 : decode cX6_owed 26 = .ok (.aload_n 0, 1) := by decide +kernel
theorem dX6_owed_27 : decode cX6_owed 27 = .ok (.getfield 12, 3) := by decide +kernel
theorem dX6_owed_30 : decode cX6_owed 30 = .ok (.getfield 46, 3) := by decide +kernel
theorem dX6_owed_33 : decode cX6_owed 33 = .ok (.invokevirtual 50, 3) := by decide +kernel
theorem dX6_owed_36 : decode cX6_owed 36 = .ok (.if_icmp .ge 55, 3) := by decide +kernel
theorem dX6_owed_39 : decode cX6_owed 39 = .ok (.aload_n 0, 1) := by decide +kernel
theorem dX6_owed_40 : decode cX6_owed 40 = .ok (.getfield 12, 3) := by decide +kernel
theorem dX6_owed_43 : decode cX6_owed 43 = .ok (.getfield 46, 3) := by decide +kernel
theorem dX6_owed_46 : decode cX6_owed 46 = .ok (.iload 4, 2) := by decide +kernel
theorem dX6_owed_48 : decode cX6_owed 48 = .ok (.invokevirtual 287, 3) := by decide +kernel
theorem dX6_owed_51 : decode cX6_owed 51 = .ok (.checkcast 21, 3) := by decide +kernel
theorem dX6_owed_54 : decode cX6_owed 54 = .ok (.astore 5, 2) := by decide +kernel
theorem dX6_owed_56 : decode cX6_owed 56 = .ok (.aload 5, 2) := by decide +kernel
theorem dX6_owed_58 : decode cX6_owed 58 = .ok (.getfield 209, 3) := by decide +kernel
theorem dX6_owed_61 : decode cX6_owed 61 = .ok (.iload_n 1, 1) := by decide +kernel
theorem dX6_owed_62 : decode cX6_owed 62 = .ok (.if_icmp .ne 23, 3) := by decide +kernel
theorem dX6_owed_65 : decode cX6_owed 65 = .ok (.iload_n 3, 1) := by decide +kernel
theorem dX6_owed_66 : decode cX6_owed 66 = .ok (.iload_n 2, 1) := by decide +kernel
theorem dX6_owed_67 : decode cX6_owed 67 = .ok (.ifCond .eq 11, 3) := by decide +kernel
theorem dX6_owed_70 : decode cX6_owed 70 = .ok (.aload 5, 2) := by decide +kernel
theorem dX6_owed_72 : decode cX6_owed 72 = .ok (.getfield 291, 3) := by decide +kernel
theorem dX6_owed_75 : decode cX6_owed 75 = .ok (.goto 8, 3) := by decide +kernel
theorem dX6_owed_78 : decode cX6_owed 78 = .ok (.aload 5, 2) := by decide +kernel
theorem dX6_owed_80 : decode cX6_owed 80 = .ok (.getfield 294, 3) := by decide +kernel
theorem dX6_owed_83 : decode cX6_owed 83 = .ok (.iadd, 1) := by decide +kernel
theorem dX6_owed_84 : decode cX6_owed 84 = .ok (.istore_n 3, 1) := by decide +kernel
theorem dX6_owed_85 : decode cX6_owed 85 = .ok (.iinc 4 1, 3) := by decide +kernel
theorem dX6_owed_88 : decode cX6_owed 88 = .ok (.goto (-64), 3) := by decide +kernel
theorem dX6_owed_91 : decode cX6_owed 91 = .ok (.iload_n 3, 1) := by decide +kernel
theorem dX6_owed_92 : decode cX6_owed 92 = .ok (.ireturn, 1) := by decide +kernel
theorem dX6_many_0 : decode cX6_many 0 = .ok (.iload_n 1, 1) := by decide +kernel
theorem dX6_many_1 : decode cX6_many 1 = .ok (.iconst 0, 1) := by decide +kernel
theorem dX6_many_2 : decode cX6_many 2 = .ok (.bipush 12, 2) := by decide +kernel
theorem dX6_many_4 : decode cX6_many 4 = .ok (.invokestatic 30, 3) := by decide +kernel
theorem dX6_many_7 : decode cX6_many 7 = .ok (.ifCond .eq 13, 3) := by decide +kernel
theorem dX6_many_10 : decode cX6_many 10 = .ok (.new 41, 3) := by decide +kernel
theorem dX6_many_13 : decode cX6_many 13 = .ok (.dup, 1) := by decide +kernel
theorem dX6_many_14 : decode cX6_many 14 = .ok (.ldc 207, 2) := by decide +kernel
theorem dX6_many_16 : decode cX6_many 16 = .ok (.invokespecial 45, 3) := by decide +kernel
theorem dX6_many_19 : decode cX6_many 19 = .ok (.athrow, 1) := by decide +kernel
theorem dX6_many_20 : decode cX6_many 20 = .ok (.iload_n 1, 1) := by decide +kernel
theorem dX6_many_21 : decode cX6_many 21 = .ok (.tableswitch 174 0 11 #[63, 71, 82, 90, 101, 109, 120, 131, 142, 150, 158, 166], 63) := by decide +kernel
theorem dX6_many_84 : decode cX6_many 84 = .ok (.aload_n 0, 1) := by decide +kernel
theorem dX6_many_85 : decode cX6_many 85 = .ok (.getfield 12, 3) := by decide +kernel
theorem dX6_many_88 : decode cX6_many 88 = .ok (.getfield 196, 3) := by decide +kernel
theorem dX6_many_91 : decode cX6_many 91 = .ok (.ireturn, 1) := by decide +kernel
theorem dX6_many_92 : decode cX6_many 92 = .ok (.aload_n 0, 1) := by decide +kernel
theorem dX6_many_93 : decode cX6_many 93 = .ok (.getfield 12, 3) := by decide +kernel
theorem dX6_many_96 : decode cX6_many 96 = .ok (.getfield 46, 3) := by decide +kernel
theorem dX6_many_99 : decode cX6_many 99 = .ok (.invokevirtual 50, 3) := by decide +kernel
theorem dX6_many_102 : decode cX6_many 102 = .ok (.ireturn, 1) := by decide +kernel
theorem dX6_many_103 : decode cX6_many 103 = .ok (.aload_n 0, 1) := by decide +kernel
theorem dX6_many_104 : decode cX6_many 104 = .ok (.getfield 12, 3) := by decide +kernel
theorem dX6_many_107 : decode cX6_many 107 = .ok (.invokevirtual 297, 3) := by decide +kernel
theorem dX6_many_110 : decode cX6_many 110 = .ok (.ireturn, 1) := by decide +kernel
theorem dX6_many_111 : decode cX6_many 111 = .ok (.aload_n 0, 1) := by decide +kernel
theorem dX6_many_112 : decode cX6_many 112 = .ok (.getfield 12, 3) := by decide +kernel
theorem dX6_many_115 : decode cX6_many 115 = .ok (.getfield 82, 3) := by decide +kernel
theorem dX6_many_118 : decode cX6_many 118 = .ok (.invokevirtual 50, 3) := by decide +kernel
theorem dX6_many_121 : decode cX6_many 121 = .ok (.ireturn, 1) := by decide +kernel
theorem dX6_many_122 : decode cX6_many 122 = .ok (.aload_n 0, 1) := by decide +kernel
theorem dX6_many_123 : decode cX6_many 123 = .ok (.getfield 12, 3) := by decide +kernel
theorem dX6_many_126 : decode cX6_many 126 = .ok (.invokevirtual 300, 3) := by decide +kernel
theorem dX6_many_129 : decode cX6_many 129 = .ok (.ireturn, 1) := by decide +kernel
theorem dX6_many_130 : decode cX6_many 130 = .ok (.aload_n 0, 1) := by decide +kernel
theorem dX6_many_131 : decode cX6_many 131 = .ok (.getfield 12, 3) := by decide +kernel
theorem dX6_many_134 : decode cX6_many 134 = .ok (.getfield 94, 3) := by decide +kernel
theorem dX6_many_137 : decode cX6_many 137 = .ok (.invokevirtual 50, 3) := by decide +kernel
theorem dX6_many_140 : decode cX6_many 140 = .ok (.ireturn, 1) := by decide +kernel
theorem dX6_many_141 : decode cX6_many 141 = .ok (.aload_n 0, 1) := by decide +kernel
theorem dX6_many_142 : decode cX6_many 142 = .ok (.getfield 12, 3) := by decide +kernel
theorem dX6_many_145 : decode cX6_many 145 = .ok (.getfield 110, 3) := by decide +kernel
theorem dX6_many_148 : decode cX6_many 148 = .ok (.invokevirtual 50, 3) := by decide +kernel
theorem dX6_many_151 : decode cX6_many 151 = .ok (.ireturn, 1) := by decide +kernel
theorem dX6_many_152 : decode cX6_many 152 = .ok (.aload_n 0, 1) := by decide +kernel
theorem dX6_many_153 : decode cX6_many 153 = .ok (.getfield 12, 3) := by decide +kernel
theorem dX6_many_156 : decode cX6_many 156 = .ok (.getfield 201, 3) := by decide +kernel
theorem dX6_many_159 : decode cX6_many 159 = .ok (.invokevirtual 50, 3) := by decide +kernel
theorem dX6_many_162 : decode cX6_many 162 = .ok (.ireturn, 1) := by decide +kernel
theorem dX6_many_163 : decode cX6_many 163 = .ok (.aload_n 0, 1) := by decide +kernel
theorem dX6_many_164 : decode cX6_many 164 = .ok (.getfield 12, 3) := by decide +kernel
theorem dX6_many_167 : decode cX6_many 167 = .ok (.getfield 172, 3) := by decide +kernel
theorem dX6_many_170 : decode cX6_many 170 = .ok (.ireturn, 1) := by decide +kernel
theorem dX6_many_171 : decode cX6_many 171 = .ok (.aload_n 0, 1) := by decide +kernel
theorem dX6_many_172 : decode cX6_many 172 = .ok (.getfield 12, 3) := by decide +kernel
theorem dX6_many_175 : decode cX6_many 175 = .ok (.invokevirtual 303, 3) := by decide +kernel
theorem dX6_many_178 : decode cX6_many 178 = .ok (.ireturn, 1) := by decide +kernel
theorem dX6_many_179 : decode cX6_many 179 = .ok (.aload_n 0, 1) := by decide +kernel
theorem dX6_many_180 : decode cX6_many 180 = .ok (.getfield 12, 3) := by decide +kernel
theorem dX6_many_183 : decode cX6_many 183 = .ok (.invokevirtual 306, 3) := by decide +kernel
theorem dX6_many_186 : decode cX6_many 186 = .ok (.ireturn, 1) := by decide +kernel
theorem dX6_many_187 : decode cX6_many 187 = .ok (.aload_n 0, 1) := by decide +kernel
theorem dX6_many_188 : decode cX6_many 188 = .ok (.getfield 12, 3) := by decide +kernel
theorem dX6_many_191 : decode cX6_many 191 = .ok (.invokevirtual 309, 3) := by decide +kernel
theorem dX6_many_194 : decode cX6_many 194 = .ok (.ireturn, 1) := by decide +kernel
theorem dX6_many_195 : decode cX6_many 195 = .ok (.aload_n 0, 1) := by decide +kernel
theorem dX6_many_196 : decode cX6_many 196 = .ok (.getfield 12, 3) := by decide +kernel
theorem dX6_many_199 : decode cX6_many 199 = .ok (.invokevirtual 312, 3) := by decide +kernel
theorem dX6_many_202 : decode cX6_many 202 = .ok (.ireturn, 1) := by decide +kernel
theorem dX6_readyIn_0 : decode cX6_readyIn 0 = .ok (.aload_n 0, 1) := by decide +kernel
theorem dX6_readyIn_1 : decode cX6_readyIn 1 = .ok (.getfield 12, 3) := by decide +kernel
theorem dX6_readyIn_4 : decode cX6_readyIn 4 = .ok (.iload_n 1, 1) := by decide +kernel
theorem dX6_readyIn_5 : decode cX6_readyIn 5 = .ok (.invokevirtual 65, 3) := by decide +kernel
theorem dX6_readyIn_8 : decode cX6_readyIn 8 = .ok (.astore 4, 2) := by decide +kernel
theorem dX6_readyIn_10 : decode cX6_readyIn 10 = .ok (.aload 4, 2) := by decide +kernel
theorem dX6_readyIn_12 : decode cX6_readyIn 12 = .ok (.ifnonnull 13, 3) := by decide +kernel
theorem dX6_readyIn_15 : decode cX6_readyIn 15 = .ok (.new 34, 3) := by decide +kernel
theorem dX6_readyIn_18 : decode cX6_readyIn 18 = .ok (.dup, 1) := by decide +kernel
theorem dX6_readyIn_19 : decode cX6_readyIn 19 = .ok (.ldc 69, 2) := by decide +kernel
theorem dX6_readyIn_21 : decode cX6_readyIn 21 = .ok (.invokespecial 38, 3) := by decide +kernel
theorem dX6_readyIn_24 : decode cX6_readyIn 24 = .ok (.athrow, 1) := by decide +kernel
theorem dX6_readyIn_25 : decode cX6_readyIn 25 = .ok (.iload_n 2, 1) := by decide +kernel
theorem dX6_readyIn_26 : decode cX6_readyIn 26 = .ok (.iload_n 3, 1) := by decide +kernel
theorem dX6_readyIn_27 : decode cX6_readyIn 27 = .ok (.iconst 0, 1) := by decide +kernel
theorem dX6_readyIn_28 : decode cX6_readyIn 28 = .ok (.invokestatic 318, 3) := by decide +kernel
theorem dX6_readyIn_31 : decode cX6_readyIn 31 = .ok (.ifCond .eq 14, 3) := by decide +kernel
theorem dX6_readyIn_34 : decode cX6_readyIn 34 = .ok (.new 41, 3) := by decide +kernel
theorem dX6_readyIn_37 : decode cX6_readyIn 37 = .ok (.dup, 1) := by decide +kernel
theorem dX6_readyIn_38 : decode cX6_readyIn 38 = .ok (.ldc_w 321, 3) := by decide +kernel
theorem dX6_readyIn_41 : decode cX6_readyIn 41 = .ok (.invokespecial 45, 3) := by decide +kernel
theorem dX6_readyIn_44 : decode cX6_readyIn 44 = .ok (.athrow, 1) := by decide +kernel
theorem dX6_readyIn_45 : decode cX6_readyIn 45 = .ok (.aload_n 0, 1) := by decide +kernel
theorem dX6_readyIn_46 : decode cX6_readyIn 46 = .ok (.getfield 26, 3) := by decide +kernel
theorem dX6_readyIn_49 : decode cX6_readyIn 49 = .ok (.aload 4, 2) := by decide +kernel
theorem dX6_readyIn_51 : decode cX6_readyIn 51 = .ok (.invokevirtual 323, 3) := by decide +kernel
theorem dX6_readyIn_54 : decode cX6_readyIn 54 = .ok (.aload_n 0, 1) := by decide +kernel
theorem dX6_readyIn_55 : decode cX6_readyIn 55 = .ok (.getfield 26, 3) := by decide +kernel
theorem dX6_readyIn_58 : decode cX6_readyIn 58 = .ok (.aload_n 0, 1) := by decide +kernel
theorem dX6_readyIn_59 : decode cX6_readyIn 59 = .ok (.getfield 12, 3) := by decide +kernel
theorem dX6_readyIn_62 : decode cX6_readyIn 62 = .ok (.invokevirtual 327, 3) := by decide +kernel
theorem dX6_readyIn_65 : decode cX6_readyIn 65 = .ok (.invokevirtual 330, 3) := by decide +kernel
theorem dX6_readyIn_68 : decode cX6_readyIn 68 = .ok (.ifCond .eq 5, 3) := by decide +kernel
theorem dX6_readyIn_71 : decode cX6_readyIn 71 = .ok (.iconst 0, 1) := by decide +kernel
theorem dX6_readyIn_72 : decode cX6_readyIn 72 = .ok (.ireturn, 1) := by decide +kernel
theorem dX6_readyIn_73 : decode cX6_readyIn 73 = .ok (.iconst 1, 1) := by decide +kernel
theorem dX6_readyIn_74 : decode cX6_readyIn 74 = .ok (.istore 5, 2) := by decide +kernel
theorem dX6_readyIn_76 : decode cX6_readyIn 76 = .ok (.iload 5, 2) := by decide +kernel
theorem dX6_readyIn_78 : decode cX6_readyIn 78 = .ok (.bipush 96, 2) := by decide +kernel
theorem dX6_readyIn_80 : decode cX6_readyIn 80 = .ok (.if_icmp .gt 51, 3) := by decide +kernel
theorem dX6_readyIn_83 : decode cX6_readyIn 83 = .ok (.aload_n 0, 1) := by decide +kernel
theorem dX6_readyIn_84 : decode cX6_readyIn 84 = .ok (.getfield 12, 3) := by decide +kernel
theorem dX6_readyIn_87 : decode cX6_readyIn 87 = .ok (.getfield 196, 3) := by decide +kernel
theorem dX6_readyIn_90 : decode cX6_readyIn 90 = .ok (.iload 5, 2) := by decide +kernel
theorem dX6_readyIn_92 : decode cX6_readyIn 92 = .ok (.iadd, 1) := by decide +kernel
theorem dX6_readyIn_93 : decode cX6_readyIn 93 = .ok (.bipush 24, 2) := by decide +kernel
theorem dX6_readyIn_95 : decode cX6_readyIn 95 = .ok (.irem, 1) := by decide +kernel
theorem dX6_readyIn_96 : decode cX6_readyIn 96 = .ok (.istore 6, 2) := by decide +kernel
theorem dX6_readyIn_98 : decode cX6_readyIn 98 = .ok (.aload_n 0, 1) := by decide +kernel
theorem dX6_readyIn_99 : decode cX6_readyIn 99 = .ok (.getfield 26, 3) := by decide +kernel
theorem dX6_readyIn_102 : decode cX6_readyIn 102 = .ok (.iload 6, 2) := by decide +kernel
theorem dX6_readyIn_104 : decode cX6_readyIn 104 = .ok (.iload_n 2, 1) := by decide +kernel
theorem dX6_readyIn_105 : decode cX6_readyIn 105 = .ok (.iload_n 3, 1) := by decide +kernel
theorem dX6_readyIn_106 : decode cX6_readyIn 106 = .ok (.iconst 0, 1) := by decide +kernel
theorem dX6_readyIn_107 : decode cX6_readyIn 107 = .ok (.invokevirtual 334, 3) := by decide +kernel
theorem dX6_readyIn_110 : decode cX6_readyIn 110 = .ok (.aload_n 0, 1) := by decide +kernel
theorem dX6_readyIn_111 : decode cX6_readyIn 111 = .ok (.getfield 26, 3) := by decide +kernel
theorem dX6_readyIn_114 : decode cX6_readyIn 114 = .ok (.iload 6, 2) := by decide +kernel
theorem dX6_readyIn_116 : decode cX6_readyIn 116 = .ok (.invokevirtual 330, 3) := by decide +kernel
theorem dX6_readyIn_119 : decode cX6_readyIn 119 = .ok (.ifCond .eq 6, 3) := by decide +kernel
theorem dX6_readyIn_122 : decode cX6_readyIn 122 = .ok (.iload 5, 2) := by decide +kernel
theorem dX6_readyIn_124 : decode cX6_readyIn 124 = .ok (.ireturn, 1) := by decide +kernel
theorem dX6_readyIn_125 : decode cX6_readyIn 125 = .ok (.iinc 5 1, 3) := by decide +kernel
theorem dX6_readyIn_128 : decode cX6_readyIn 128 = .ok (.goto (-52), 3) := by decide +kernel
theorem dX6_readyIn_131 : decode cX6_readyIn 131 = .ok (.iconst (-1), 1) := by decide +kernel
theorem dX6_readyIn_132 : decode cX6_readyIn 132 = .ok (.ireturn, 1) := by decide +kernel
theorem dX6_nextField_0 : decode cX6_nextField 0 = .ok (.aload_n 0, 1) := by decide +kernel
theorem dX6_nextField_1 : decode cX6_nextField 1 = .ok (.getfield 12, 3) := by decide +kernel
theorem dX6_nextField_4 : decode cX6_nextField 4 = .ok (.iload_n 1, 1) := by decide +kernel
theorem dX6_nextField_5 : decode cX6_nextField 5 = .ok (.invokevirtual 125, 3) := by decide +kernel
theorem dX6_nextField_8 : decode cX6_nextField 8 = .ok (.astore 5, 2) := by decide +kernel
theorem dX6_nextField_10 : decode cX6_nextField 10 = .ok (.aload 5, 2) := by decide +kernel
theorem dX6_nextField_12 : decode cX6_nextField 12 = .ok (.ifnonnull 13, 3) := by decide +kernel
theorem dX6_nextField_15 : decode cX6_nextField 15 = .ok (.new 34, 3) := by decide +kernel
theorem dX6_nextField_18 : decode cX6_nextField 18 = .ok (.dup, 1) := by decide +kernel
theorem dX6_nextField_19 : decode cX6_nextField 19 = .ok (.ldc 129, 2) := by decide +kernel
theorem dX6_nextField_21 : decode cX6_nextField 21 = .ok (.invokespecial 38, 3) := by decide +kernel
theorem dX6_nextField_24 : decode cX6_nextField 24 = .ok (.athrow, 1) := by decide +kernel
theorem dX6_nextField_25 : decode cX6_nextField 25 = .ok (.iload_n 2, 1) := by decide +kernel
theorem dX6_nextField_26 : decode cX6_nextField 26 = .ok (.iload_n 3, 1) := by decide +kernel
theorem dX6_nextField_27 : decode cX6_nextField 27 = .ok (.iload 4, 2) := by decide +kernel
theorem dX6_nextField_29 : decode cX6_nextField 29 = .ok (.iconst 0, 1) := by decide +kernel
theorem dX6_nextField_30 : decode cX6_nextField 30 = .ok (.invokestatic 190, 3) := by decide +kernel
theorem dX6_nextField_33 : decode cX6_nextField 33 = .ok (.ifCond .eq 14, 3) := by decide +kernel
theorem dX6_nextField_36 : decode cX6_nextField 36 = .ok (.new 41, 3) := by decide +kernel
theorem dX6_nextField_39 : decode cX6_nextField 39 = .ok (.dup, 1) := by decide +kernel
theorem dX6_nextField_40 : decode cX6_nextField 40 = .ok (.ldc_w 337, 3) := by decide +kernel
theorem dX6_nextField_43 : decode cX6_nextField 43 = .ok (.invokespecial 45, 3) := by decide +kernel
theorem dX6_nextField_46 : decode cX6_nextField 46 = .ok (.athrow, 1) := by decide +kernel
theorem dX6_nextField_47 : decode cX6_nextField 47 = .ok (.iconst (-1), 1) := by decide +kernel
theorem dX6_nextField_48 : decode cX6_nextField 48 = .ok (.istore 6, 2) := by decide +kernel
theorem dX6_nextField_50 : decode cX6_nextField 50 = .ok (.iconst 0, 1) := by decide +kernel
theorem dX6_nextField_51 : decode cX6_nextField 51 = .ok (.istore 7, 2) := by decide +kernel
theorem dX6_nextField_53 : decode cX6_nextField 53 = .ok (.iconst 0, 1) := by decide +kernel
theorem dX6_nextField_54 : decode cX6_nextField 54 = .ok (.istore 8, 2) := by decide +kernel
theorem dX6_nextField_56 : decode cX6_nextField 56 = .ok (.iload 8, 2) := by decide +kernel
theorem dX6_nextField_58 : decode cX6_nextField 58 = .ok (.aload_n 0, 1) := by decide +kernel
theorem dX6_nextField_59 : decode cX6_nextField 59 = .ok (.getfield 12, 3) := by decide +kernel
theorem dX6_nextField_62 : decode cX6_nextField 62 = .ok (.getfield 46, 3) := by decide +kernel
theorem dX6_nextField_65 : decode cX6_nextField 65 = .ok (.invokevirtual 50, 3) := by decide +kernel
theorem dX6_nextField_68 : decode cX6_nextField 68 = .ok (.if_icmp .ge 92, 3) := by decide +kernel
theorem dX6_nextField_71 : decode cX6_nextField 71 = .ok (.aload_n 0, 1) := by decide +kernel
theorem dX6_nextField_72 : decode cX6_nextField 72 = .ok (.getfield 12, 3) := by decide +kernel
theorem dX6_nextField_75 : decode cX6_nextField 75 = .ok (.getfield 46, 3) := by decide +kernel
theorem dX6_nextField_78 : decode cX6_nextField 78 = .ok (.iload 8, 2) := by decide +kernel
theorem dX6_nextField_80 : decode cX6_nextField 80 = .ok (.invokevirtual 287, 3) := by decide +kernel
theorem dX6_nextField_83 : decode cX6_nextField 83 = .ok (.checkcast 21, 3) := by decide +kernel
theorem dX6_nextField_86 : decode cX6_nextField 86 = .ok (.invokevirtual 315, 3) := by decide +kernel
theorem dX6_nextField_89 : decode cX6_nextField 89 = .ok (.ifCond .le 65, 3) := by decide +kernel
theorem dX6_nextField_92 : decode cX6_nextField 92 = .ok (.aload_n 0, 1) := by decide +kernel
theorem dX6_nextField_93 : decode cX6_nextField 93 = .ok (.iload_n 1, 1) := by decide +kernel
theorem dX6_nextField_94 : decode cX6_nextField 94 = .ok (.iload 8, 2) := by decide +kernel
theorem dX6_nextField_96 : decode cX6_nextField 96 = .ok (.iload_n 2, 1) := by decide +kernel
theorem dX6_nextField_97 : decode cX6_nextField 97 = .ok (.iload_n 3, 1) := by decide +kernel
theorem dX6_nextField_98 : decode cX6_nextField 98 = .ok (.iload 4, 2) := by decide +kernel
theorem dX6_nextField_100 : decode cX6_nextField 100 = .ok (.invokevirtual 339, 3) := by decide +kernel
theorem dX6_nextField_103 : decode cX6_nextField 103 = .ok (.istore 9, 2) := by decide +kernel
theorem dX6_nextField_105 : decode cX6_nextField 105 = .ok (.iload 9, 2) := by decide +kernel
theorem dX6_nextField_107 : decode cX6_nextField 107 = .ok (.iload 7, 2) := by decide +kernel
theorem dX6_nextField_109 : decode cX6_nextField 109 = .ok (.if_icmp .ne 22, 3) := by decide +kernel
theorem dX6_nextField_112 : decode cX6_nextField 112 = .ok (.iload 9, 2) := by decide +kernel
theorem dX6_nextField_114 : decode cX6_nextField 114 = .ok (.ifCond .le 17, 3) := by decide +kernel
theorem dX6_nextField_117 : decode cX6_nextField 117 = .ok (.iload 8, 2) := by decide +kernel
theorem dX6_nextField_119 : decode cX6_nextField 119 = .ok (.aload 5, 2) := by decide +kernel
theorem dX6_nextField_121 : decode cX6_nextField 121 = .ok (.getfield 131, 3) := by decide +kernel
theorem dX6_nextField_124 : decode cX6_nextField 124 = .ok (.if_icmp .ne 7, 3) := by decide +kernel
theorem dX6_nextField_127 : decode cX6_nextField 127 = .ok (.iconst 1, 1) := by decide +kernel
theorem dX6_nextField_128 : decode cX6_nextField 128 = .ok (.goto 4, 3) := by decide +kernel
theorem dX6_nextField_131 : decode cX6_nextField 131 = .ok (.iconst 0, 1) := by decide +kernel
theorem dX6_nextField_132 : decode cX6_nextField 132 = .ok (.istore 10, 2) := by decide +kernel
theorem dX6_nextField_134 : decode cX6_nextField 134 = .ok (.iload 9, 2) := by decide +kernel
theorem dX6_nextField_136 : decode cX6_nextField 136 = .ok (.iload 7, 2) := by decide +kernel
theorem dX6_nextField_138 : decode cX6_nextField 138 = .ok (.if_icmp .gt 8, 3) := by decide +kernel
theorem dX6_nextField_141 : decode cX6_nextField 141 = .ok (.iload 10, 2) := by decide +kernel
theorem dX6_nextField_143 : decode cX6_nextField 143 = .ok (.ifCond .eq 11, 3) := by decide +kernel
theorem dX6_nextField_146 : decode cX6_nextField 146 = .ok (.iload 8, 2) := by decide +kernel
theorem dX6_nextField_148 : decode cX6_nextField 148 = .ok (.istore 6, 2) := by decide +kernel
theorem dX6_nextField_150 : decode cX6_nextField 150 = .ok (.iload 9, 2) := by decide +kernel
theorem dX6_nextField_152 : decode cX6_nextField 152 = .ok (.istore 7, 2) := by decide +kernel
theorem dX6_nextField_154 : decode cX6_nextField 154 = .ok (.iinc 8 1, 3) := by decide +kernel
theorem dX6_nextField_157 : decode cX6_nextField 157 = .ok (.goto (-101), 3) := by decide +kernel
theorem dX6_nextField_160 : decode cX6_nextField 160 = .ok (.iload 6, 2) := by decide +kernel
theorem dX6_nextField_162 : decode cX6_nextField 162 = .ok (.ireturn, 1) := by decide +kernel
theorem dX6_waiting_0 : decode cX6_waiting 0 = .ok (.aload_n 0, 1) := by decide +kernel
theorem dX6_waiting_1 : decode cX6_waiting 1 = .ok (.getfield 12, 3) := by decide +kernel
theorem dX6_waiting_4 : decode cX6_waiting 4 = .ok (.iload_n 1, 1) := by decide +kernel
theorem dX6_waiting_5 : decode cX6_waiting 5 = .ok (.invokevirtual 65, 3) := by decide +kernel
theorem dX6_waiting_8 : decode cX6_waiting 8 = .ok (.astore 6, 2) := by decide +kernel
theorem dX6_waiting_10 : decode cX6_waiting 10 = .ok (.aload 6, 2) := by decide +kernel
theorem dX6_waiting_12 : decode cX6_waiting 12 = .ok (.ifnonnull 13, 3) := by decide +kernel
theorem dX6_waiting_15 : decode cX6_waiting 15 = .ok (.new 34, 3) := by decide +kernel
theorem dX6_waiting_18 : decode cX6_waiting 18 = .ok (.dup, 1) := by decide +kernel
theorem dX6_waiting_19 : decode cX6_waiting 19 = .ok (.ldc 69, 2) := by decide +kernel
theorem dX6_waiting_21 : decode cX6_waiting 21 = .ok (.invokespecial 38, 3) := by decide +kernel
theorem dX6_waiting_24 : decode cX6_waiting 24 = .ok (.athrow, 1) := by decide +kernel
theorem dX6_waiting_25 : decode cX6_waiting 25 = .ok (.iload_n 2, 1) := by decide +kernel
theorem dX6_waiting_26 : decode cX6_waiting 26 = .ok (.iload_n 3, 1) := by decide +kernel
theorem dX6_waiting_27 : decode cX6_waiting 27 = .ok (.iload 4, 2) := by decide +kernel
theorem dX6_waiting_29 : decode cX6_waiting 29 = .ok (.iload 5, 2) := by decide +kernel
theorem dX6_waiting_31 : decode cX6_waiting 31 = .ok (.invokestatic 190, 3) := by decide +kernel
theorem dX6_waiting_34 : decode cX6_waiting 34 = .ok (.ifCond .eq 13, 3) := by decide +kernel
theorem dX6_waiting_37 : decode cX6_waiting 37 = .ok (.new 41, 3) := by decide +kernel
theorem dX6_waiting_40 : decode cX6_waiting 40 = .ok (.dup, 1) := by decide +kernel
theorem dX6_waiting_41 : decode cX6_waiting 41 = .ok (.ldc 194, 2) := by decide +kernel
theorem dX6_waiting_43 : decode cX6_waiting 43 = .ok (.invokespecial 45, 3) := by decide +kernel
theorem dX6_waiting_46 : decode cX6_waiting 46 = .ok (.athrow, 1) := by decide +kernel
theorem dX6_waiting_47 : decode cX6_waiting 47 = .ok (.aload_n 0, 1) := by decide +kernel
theorem dX6_waiting_48 : decode cX6_waiting 48 = .ok (.getfield 26, 3) := by decide +kernel
theorem dX6_waiting_51 : decode cX6_waiting 51 = .ok (.aload 6, 2) := by decide +kernel
theorem dX6_waiting_53 : decode cX6_waiting 53 = .ok (.invokevirtual 323, 3) := by decide +kernel
theorem dX6_waiting_56 : decode cX6_waiting 56 = .ok (.iconst 1, 1) := by decide +kernel
theorem dX6_waiting_57 : decode cX6_waiting 57 = .ok (.istore 7, 2) := by decide +kernel
theorem dX6_waiting_59 : decode cX6_waiting 59 = .ok (.iload 7, 2) := by decide +kernel
theorem dX6_waiting_61 : decode cX6_waiting 61 = .ok (.iload_n 2, 1) := by decide +kernel
theorem dX6_waiting_62 : decode cX6_waiting 62 = .ok (.if_icmp .gt 34, 3) := by decide +kernel
theorem dX6_waiting_65 : decode cX6_waiting 65 = .ok (.aload_n 0, 1) := by decide +kernel
theorem dX6_waiting_66 : decode cX6_waiting 66 = .ok (.getfield 26, 3) := by decide +kernel
theorem dX6_waiting_69 : decode cX6_waiting 69 = .ok (.aload_n 0, 1) := by decide +kernel
theorem dX6_waiting_70 : decode cX6_waiting 70 = .ok (.getfield 12, 3) := by decide +kernel
theorem dX6_waiting_73 : decode cX6_waiting 73 = .ok (.getfield 196, 3) := by decide +kernel
theorem dX6_waiting_76 : decode cX6_waiting 76 = .ok (.iload 7, 2) := by decide +kernel
theorem dX6_waiting_78 : decode cX6_waiting 78 = .ok (.iadd, 1) := by decide +kernel
theorem dX6_waiting_79 : decode cX6_waiting 79 = .ok (.bipush 24, 2) := by decide +kernel
theorem dX6_waiting_81 : decode cX6_waiting 81 = .ok (.irem, 1) := by decide +kernel
theorem dX6_waiting_82 : decode cX6_waiting 82 = .ok (.iload_n 3, 1) := by decide +kernel
theorem dX6_waiting_83 : decode cX6_waiting 83 = .ok (.iload 4, 2) := by decide +kernel
theorem dX6_waiting_85 : decode cX6_waiting 85 = .ok (.iload 5, 2) := by decide +kernel
theorem dX6_waiting_87 : decode cX6_waiting 87 = .ok (.invokevirtual 334, 3) := by decide +kernel
theorem dX6_waiting_90 : decode cX6_waiting 90 = .ok (.iinc 7 1, 3) := by decide +kernel
theorem dX6_waiting_93 : decode cX6_waiting 93 = .ok (.goto (-34), 3) := by decide +kernel
theorem dX6_waiting_96 : decode cX6_waiting 96 = .ok (.aload 6, 2) := by decide +kernel
theorem dX6_waiting_98 : decode cX6_waiting 98 = .ok (.invokevirtual 315, 3) := by decide +kernel
theorem dX6_waiting_101 : decode cX6_waiting 101 = .ok (.aload 6, 2) := by decide +kernel
theorem dX6_waiting_103 : decode cX6_waiting 103 = .ok (.invokevirtual 343, 3) := by decide +kernel
theorem dX6_waiting_106 : decode cX6_waiting 106 = .ok (.aload_n 0, 1) := by decide +kernel
theorem dX6_waiting_107 : decode cX6_waiting 107 = .ok (.getfield 26, 3) := by decide +kernel
theorem dX6_waiting_110 : decode cX6_waiting 110 = .ok (.invokevirtual 343, 3) := by decide +kernel
theorem dX6_waiting_113 : decode cX6_waiting 113 = .ok (.isub, 1) := by decide +kernel
theorem dX6_waiting_114 : decode cX6_waiting 114 = .ok (.imul, 1) := by decide +kernel
theorem dX6_waiting_115 : decode cX6_waiting 115 = .ok (.ireturn, 1) := by decide +kernel
theorem dX6_digest_0 : decode cX6_digest 0 = .ok (.ldc2_w 346, 3) := by decide +kernel
theorem dX6_digest_3 : decode cX6_digest 3 = .ok (.lstore_n 1, 1) := by decide +kernel
theorem dX6_digest_4 : decode cX6_digest 4 = .ok (.iconst 0, 1) := by decide +kernel
theorem dX6_digest_5 : decode cX6_digest 5 = .ok (.istore_n 3, 1) := by decide +kernel
theorem dX6_digest_6 : decode cX6_digest 6 = .ok (.iload_n 3, 1) := by decide +kernel
theorem dX6_digest_7 : decode cX6_digest 7 = .ok (.bipush 12, 2) := by decide +kernel
theorem dX6_digest_9 : decode cX6_digest 9 = .ok (.if_icmp .gt 22, 3) := by decide +kernel
theorem dX6_digest_12 : decode cX6_digest 12 = .ok (.lload_n 1, 1) := by decide +kernel
theorem dX6_digest_13 : decode cX6_digest 13 = .ok (.ldc2_w 348, 3) := by decide +kernel
theorem dX6_digest_16 : decode cX6_digest 16 = .ok (.lmul, 1) := by decide +kernel
theorem dX6_digest_17 : decode cX6_digest 17 = .ok (.aload_n 0, 1) := by decide +kernel
theorem dX6_digest_18 : decode cX6_digest 18 = .ok (.iload_n 3, 1) := by decide +kernel
theorem dX6_digest_19 : decode cX6_digest 19 = .ok (.invokevirtual 350, 3) := by decide +kernel
theorem dX6_digest_22 : decode cX6_digest 22 = .ok (.i2l, 1) := by decide +kernel
theorem dX6_digest_23 : decode cX6_digest 23 = .ok (.ladd, 1) := by decide +kernel
theorem dX6_digest_24 : decode cX6_digest 24 = .ok (.lstore_n 1, 1) := by decide +kernel
theorem dX6_digest_25 : decode cX6_digest 25 = .ok (.iinc 3 1, 3) := by decide +kernel
theorem dX6_digest_28 : decode cX6_digest 28 = .ok (.goto (-22), 3) := by decide +kernel
theorem dX6_digest_31 : decode cX6_digest 31 = .ok (.iconst 0, 1) := by decide +kernel
theorem dX6_digest_32 : decode cX6_digest 32 = .ok (.istore_n 3, 1) := by decide +kernel
theorem dX6_digest_33 : decode cX6_digest 33 = .ok (.iload_n 3, 1) := by decide +kernel
theorem dX6_digest_34 : decode cX6_digest 34 = .ok (.aload_n 0, 1) := by decide +kernel
theorem dX6_digest_35 : decode cX6_digest 35 = .ok (.getfield 12, 3) := by decide +kernel
theorem dX6_digest_38 : decode cX6_digest 38 = .ok (.getfield 46, 3) := by decide +kernel
theorem dX6_digest_41 : decode cX6_digest 41 = .ok (.invokevirtual 50, 3) := by decide +kernel
theorem dX6_digest_44 : decode cX6_digest 44 = .ok (.if_icmp .ge 77, 3) := by decide +kernel
theorem dX6_digest_47 : decode cX6_digest 47 = .ok (.iconst 0, 1) := by decide +kernel
theorem dX6_digest_48 : decode cX6_digest 48 = .ok (.istore 4, 2) := by decide +kernel
theorem dX6_digest_50 : decode cX6_digest 50 = .ok (.iload 4, 2) := by decide +kernel
theorem dX6_digest_52 : decode cX6_digest 52 = .ok (.bipush 11, 2) := by decide +kernel
theorem dX6_digest_54 : decode cX6_digest 54 = .ok (.if_icmp .gt 24, 3) := by decide +kernel
theorem dX6_digest_57 : decode cX6_digest 57 = .ok (.lload_n 1, 1) := by decide +kernel
theorem dX6_digest_58 : decode cX6_digest 58 = .ok (.ldc2_w 348, 3) := by decide +kernel
theorem dX6_digest_61 : decode cX6_digest 61 = .ok (.lmul, 1) := by decide +kernel
theorem dX6_digest_62 : decode cX6_digest 62 = .ok (.aload_n 0, 1) := by decide +kernel
theorem dX6_digest_63 : decode cX6_digest 63 = .ok (.iload_n 3, 1) := by decide +kernel
theorem dX6_digest_64 : decode cX6_digest 64 = .ok (.iload 4, 2) := by decide +kernel
theorem dX6_digest_66 : decode cX6_digest 66 = .ok (.invokevirtual 353, 3) := by decide +kernel
theorem dX6_digest_69 : decode cX6_digest 69 = .ok (.i2l, 1) := by decide +kernel
theorem dX6_digest_70 : decode cX6_digest 70 = .ok (.ladd, 1) := by decide +kernel
theorem dX6_digest_71 : decode cX6_digest 71 = .ok (.lstore_n 1, 1) := by decide +kernel
theorem dX6_digest_72 : decode cX6_digest 72 = .ok (.iinc 4 1, 3) := by decide +kernel
theorem dX6_digest_75 : decode cX6_digest 75 = .ok (.goto (-25), 3) := by decide +kernel
theorem dX6_digest_78 : decode cX6_digest 78 = .ok (.lload_n 1, 1) := by decide +kernel
theorem dX6_digest_79 : decode cX6_digest 79 = .ok (.ldc2_w 348, 3) := by decide +kernel
theorem dX6_digest_82 : decode cX6_digest 82 = .ok (.lmul, 1) := by decide +kernel
theorem dX6_digest_83 : decode cX6_digest 83 = .ok (.aload_n 0, 1) := by decide +kernel
theorem dX6_digest_84 : decode cX6_digest 84 = .ok (.iload_n 3, 1) := by decide +kernel
theorem dX6_digest_85 : decode cX6_digest 85 = .ok (.bipush 25, 2) := by decide +kernel
theorem dX6_digest_87 : decode cX6_digest 87 = .ok (.bipush 40, 2) := by decide +kernel
theorem dX6_digest_89 : decode cX6_digest 89 = .ok (.invokevirtual 356, 3) := by decide +kernel
theorem dX6_digest_92 : decode cX6_digest 92 = .ok (.i2l, 1) := by decide +kernel
theorem dX6_digest_93 : decode cX6_digest 93 = .ok (.ladd, 1) := by decide +kernel
theorem dX6_digest_94 : decode cX6_digest 94 = .ok (.lstore_n 1, 1) := by decide +kernel
theorem dX6_digest_95 : decode cX6_digest 95 = .ok (.lload_n 1, 1) := by decide +kernel
theorem dX6_digest_96 : decode cX6_digest 96 = .ok (.ldc2_w 348, 3) := by decide +kernel
theorem dX6_digest_99 : decode cX6_digest 99 = .ok (.lmul, 1) := by decide +kernel
theorem dX6_digest_100 : decode cX6_digest 100 = .ok (.aload_n 0, 1) := by decide +kernel
theorem dX6_digest_101 : decode cX6_digest 101 = .ok (.iload_n 3, 1) := by decide +kernel
theorem dX6_digest_102 : decode cX6_digest 102 = .ok (.bipush 24, 2) := by decide +kernel
theorem dX6_digest_104 : decode cX6_digest 104 = .ok (.bipush 30, 2) := by decide +kernel
theorem dX6_digest_106 : decode cX6_digest 106 = .ok (.bipush 20, 2) := by decide +kernel
theorem dX6_digest_108 : decode cX6_digest 108 = .ok (.iconst 0, 1) := by decide +kernel
theorem dX6_digest_109 : decode cX6_digest 109 = .ok (.invokevirtual 360, 3) := by decide +kernel
theorem dX6_digest_112 : decode cX6_digest 112 = .ok (.i2l, 1) := by decide +kernel
theorem dX6_digest_113 : decode cX6_digest 113 = .ok (.ladd, 1) := by decide +kernel
theorem dX6_digest_114 : decode cX6_digest 114 = .ok (.lstore_n 1, 1) := by decide +kernel
theorem dX6_digest_115 : decode cX6_digest 115 = .ok (.iinc 3 1, 3) := by decide +kernel
theorem dX6_digest_118 : decode cX6_digest 118 = .ok (.goto (-85), 3) := by decide +kernel
theorem dX6_digest_121 : decode cX6_digest 121 = .ok (.iconst 0, 1) := by decide +kernel
theorem dX6_digest_122 : decode cX6_digest 122 = .ok (.istore_n 3, 1) := by decide +kernel
theorem dX6_digest_123 : decode cX6_digest 123 = .ok (.iload_n 3, 1) := by decide +kernel
theorem dX6_digest_124 : decode cX6_digest 124 = .ok (.aload_n 0, 1) := by decide +kernel
theorem dX6_digest_125 : decode cX6_digest 125 = .ok (.getfield 12, 3) := by decide +kernel
theorem dX6_digest_128 : decode cX6_digest 128 = .ok (.getfield 82, 3) := by decide +kernel
theorem dX6_digest_131 : decode cX6_digest 131 = .ok (.invokevirtual 50, 3) := by decide +kernel
theorem dX6_digest_134 : decode cX6_digest 134 = .ok (.if_icmp .ge 59, 3) := by decide +kernel
theorem dX6_digest_137 : decode cX6_digest 137 = .ok (.iconst 0, 1) := by decide +kernel
theorem dX6_digest_138 : decode cX6_digest 138 = .ok (.istore 4, 2) := by decide +kernel
theorem dX6_digest_140 : decode cX6_digest 140 = .ok (.iload 4, 2) := by decide +kernel
theorem dX6_digest_142 : decode cX6_digest 142 = .ok (.bipush 7, 2) := by decide +kernel
theorem dX6_digest_144 : decode cX6_digest 144 = .ok (.if_icmp .gt 24, 3) := by decide +kernel
theorem dX6_digest_147 : decode cX6_digest 147 = .ok (.lload_n 1, 1) := by decide +kernel
theorem dX6_digest_148 : decode cX6_digest 148 = .ok (.ldc2_w 348, 3) := by decide +kernel
theorem dX6_digest_151 : decode cX6_digest 151 = .ok (.lmul, 1) := by decide +kernel
theorem dX6_digest_152 : decode cX6_digest 152 = .ok (.aload_n 0, 1) := by decide +kernel
theorem dX6_digest_153 : decode cX6_digest 153 = .ok (.iload_n 3, 1) := by decide +kernel
theorem dX6_digest_154 : decode cX6_digest 154 = .ok (.iload 4, 2) := by decide +kernel
theorem dX6_digest_156 : decode cX6_digest 156 = .ok (.invokevirtual 363, 3) := by decide +kernel
theorem dX6_digest_159 : decode cX6_digest 159 = .ok (.i2l, 1) := by decide +kernel
theorem dX6_digest_160 : decode cX6_digest 160 = .ok (.ladd, 1) := by decide +kernel
theorem dX6_digest_161 : decode cX6_digest 161 = .ok (.lstore_n 1, 1) := by decide +kernel
theorem dX6_digest_162 : decode cX6_digest 162 = .ok (.iinc 4 1, 3) := by decide +kernel
theorem dX6_digest_165 : decode cX6_digest 165 = .ok (.goto (-25), 3) := by decide +kernel
theorem dX6_digest_168 : decode cX6_digest 168 = .ok (.lload_n 1, 1) := by decide +kernel
theorem dX6_digest_169 : decode cX6_digest 169 = .ok (.ldc2_w 348, 3) := by decide +kernel
theorem dX6_digest_172 : decode cX6_digest 172 = .ok (.lmul, 1) := by decide +kernel
theorem dX6_digest_173 : decode cX6_digest 173 = .ok (.aload_n 0, 1) := by decide +kernel
theorem dX6_digest_174 : decode cX6_digest 174 = .ok (.iload_n 3, 1) := by decide +kernel
theorem dX6_digest_175 : decode cX6_digest 175 = .ok (.bipush 12, 2) := by decide +kernel
theorem dX6_digest_177 : decode cX6_digest 177 = .ok (.bipush 30, 2) := by decide +kernel
theorem dX6_digest_179 : decode cX6_digest 179 = .ok (.bipush 40, 2) := by decide +kernel
theorem dX6_digest_181 : decode cX6_digest 181 = .ok (.invokevirtual 366, 3) := by decide +kernel
theorem dX6_digest_184 : decode cX6_digest 184 = .ok (.i2l, 1) := by decide +kernel
theorem dX6_digest_185 : decode cX6_digest 185 = .ok (.ladd, 1) := by decide +kernel
theorem dX6_digest_186 : decode cX6_digest 186 = .ok (.lstore_n 1, 1) := by decide +kernel
theorem dX6_digest_187 : decode cX6_digest 187 = .ok (.iinc 3 1, 3) := by decide +kernel
theorem dX6_digest_190 : decode cX6_digest 190 = .ok (.goto (-67), 3) := by decide +kernel
theorem dX6_digest_193 : decode cX6_digest 193 = .ok (.iconst 0, 1) := by decide +kernel
theorem dX6_digest_194 : decode cX6_digest 194 = .ok (.istore_n 3, 1) := by decide +kernel
theorem dX6_digest_195 : decode cX6_digest 195 = .ok (.iload_n 3, 1) := by decide +kernel
theorem dX6_digest_196 : decode cX6_digest 196 = .ok (.aload_n 0, 1) := by decide +kernel
theorem dX6_digest_197 : decode cX6_digest 197 = .ok (.getfield 12, 3) := by decide +kernel
theorem dX6_digest_200 : decode cX6_digest 200 = .ok (.getfield 94, 3) := by decide +kernel
theorem dX6_digest_203 : decode cX6_digest 203 = .ok (.invokevirtual 50, 3) := by decide +kernel
theorem dX6_digest_206 : decode cX6_digest 206 = .ok (.if_icmp .ge 40, 3) := by decide +kernel
theorem dX6_digest_209 : decode cX6_digest 209 = .ok (.iconst 0, 1) := by decide +kernel
theorem dX6_digest_210 : decode cX6_digest 210 = .ok (.istore 4, 2) := by decide +kernel
theorem dX6_digest_212 : decode cX6_digest 212 = .ok (.iload 4, 2) := by decide +kernel
theorem dX6_digest_214 : decode cX6_digest 214 = .ok (.bipush 7, 2) := by decide +kernel
theorem dX6_digest_216 : decode cX6_digest 216 = .ok (.if_icmp .gt 24, 3) := by decide +kernel
theorem dX6_digest_219 : decode cX6_digest 219 = .ok (.lload_n 1, 1) := by decide +kernel
theorem dX6_digest_220 : decode cX6_digest 220 = .ok (.ldc2_w 348, 3) := by decide +kernel
theorem dX6_digest_223 : decode cX6_digest 223 = .ok (.lmul, 1) := by decide +kernel
theorem dX6_digest_224 : decode cX6_digest 224 = .ok (.aload_n 0, 1) := by decide +kernel
theorem dX6_digest_225 : decode cX6_digest 225 = .ok (.iload_n 3, 1) := by decide +kernel
theorem dX6_digest_226 : decode cX6_digest 226 = .ok (.iload 4, 2) := by decide +kernel
theorem dX6_digest_228 : decode cX6_digest 228 = .ok (.invokevirtual 370, 3) := by decide +kernel
theorem dX6_digest_231 : decode cX6_digest 231 = .ok (.i2l, 1) := by decide +kernel
theorem dX6_digest_232 : decode cX6_digest 232 = .ok (.ladd, 1) := by decide +kernel
theorem dX6_digest_233 : decode cX6_digest 233 = .ok (.lstore_n 1, 1) := by decide +kernel
theorem dX6_digest_234 : decode cX6_digest 234 = .ok (.iinc 4 1, 3) := by decide +kernel
theorem dX6_digest_237 : decode cX6_digest 237 = .ok (.goto (-25), 3) := by decide +kernel
theorem dX6_digest_240 : decode cX6_digest 240 = .ok (.iinc 3 1, 3) := by decide +kernel
theorem dX6_digest_243 : decode cX6_digest 243 = .ok (.goto (-48), 3) := by decide +kernel
theorem dX6_digest_246 : decode cX6_digest 246 = .ok (.iconst 0, 1) := by decide +kernel
theorem dX6_digest_247 : decode cX6_digest 247 = .ok (.istore_n 3, 1) := by decide +kernel
theorem dX6_digest_248 : decode cX6_digest 248 = .ok (.iload_n 3, 1) := by decide +kernel
theorem dX6_digest_249 : decode cX6_digest 249 = .ok (.aload_n 0, 1) := by decide +kernel
theorem dX6_digest_250 : decode cX6_digest 250 = .ok (.getfield 12, 3) := by decide +kernel
theorem dX6_digest_253 : decode cX6_digest 253 = .ok (.getfield 201, 3) := by decide +kernel
theorem dX6_digest_256 : decode cX6_digest 256 = .ok (.invokevirtual 50, 3) := by decide +kernel
theorem dX6_digest_259 : decode cX6_digest 259 = .ok (.if_icmp .ge 40, 3) := by decide +kernel
theorem dX6_digest_262 : decode cX6_digest 262 = .ok (.iconst 0, 1) := by decide +kernel
theorem dX6_digest_263 : decode cX6_digest 263 = .ok (.istore 4, 2) := by decide +kernel
theorem dX6_digest_265 : decode cX6_digest 265 = .ok (.iload 4, 2) := by decide +kernel
theorem dX6_digest_267 : decode cX6_digest 267 = .ok (.bipush 6, 2) := by decide +kernel
theorem dX6_digest_269 : decode cX6_digest 269 = .ok (.if_icmp .gt 24, 3) := by decide +kernel
theorem dX6_digest_272 : decode cX6_digest 272 = .ok (.lload_n 1, 1) := by decide +kernel
theorem dX6_digest_273 : decode cX6_digest 273 = .ok (.ldc2_w 348, 3) := by decide +kernel
theorem dX6_digest_276 : decode cX6_digest 276 = .ok (.lmul, 1) := by decide +kernel
theorem dX6_digest_277 : decode cX6_digest 277 = .ok (.aload_n 0, 1) := by decide +kernel
theorem dX6_digest_278 : decode cX6_digest 278 = .ok (.iload_n 3, 1) := by decide +kernel
theorem dX6_digest_279 : decode cX6_digest 279 = .ok (.iload 4, 2) := by decide +kernel
theorem dX6_digest_281 : decode cX6_digest 281 = .ok (.invokevirtual 373, 3) := by decide +kernel
theorem dX6_digest_284 : decode cX6_digest 284 = .ok (.i2l, 1) := by decide +kernel
theorem dX6_digest_285 : decode cX6_digest 285 = .ok (.ladd, 1) := by decide +kernel
theorem dX6_digest_286 : decode cX6_digest 286 = .ok (.lstore_n 1, 1) := by decide +kernel
theorem dX6_digest_287 : decode cX6_digest 287 = .ok (.iinc 4 1, 3) := by decide +kernel
theorem dX6_digest_290 : decode cX6_digest 290 = .ok (.goto (-25), 3) := by decide +kernel
theorem dX6_digest_293 : decode cX6_digest 293 = .ok (.iinc 3 1, 3) := by decide +kernel
theorem dX6_digest_296 : decode cX6_digest 296 = .ok (.goto (-48), 3) := by decide +kernel
theorem dX6_digest_299 : decode cX6_digest 299 = .ok (.iconst 0, 1) := by decide +kernel
theorem dX6_digest_300 : decode cX6_digest 300 = .ok (.istore_n 3, 1) := by decide +kernel
theorem dX6_digest_301 : decode cX6_digest 301 = .ok (.iload_n 3, 1) := by decide +kernel
theorem dX6_digest_302 : decode cX6_digest 302 = .ok (.iconst 4, 1) := by decide +kernel
theorem dX6_digest_303 : decode cX6_digest 303 = .ok (.if_icmp .ge 37, 3) := by decide +kernel
theorem dX6_digest_306 : decode cX6_digest 306 = .ok (.lload_n 1, 1) := by decide +kernel
theorem dX6_digest_307 : decode cX6_digest 307 = .ok (.ldc2_w 348, 3) := by decide +kernel
theorem dX6_digest_310 : decode cX6_digest 310 = .ok (.lmul, 1) := by decide +kernel
theorem dX6_digest_311 : decode cX6_digest 311 = .ok (.aload_n 0, 1) := by decide +kernel
theorem dX6_digest_312 : decode cX6_digest 312 = .ok (.iload_n 3, 1) := by decide +kernel
theorem dX6_digest_313 : decode cX6_digest 313 = .ok (.iconst 0, 1) := by decide +kernel
theorem dX6_digest_314 : decode cX6_digest 314 = .ok (.invokevirtual 376, 3) := by decide +kernel
theorem dX6_digest_317 : decode cX6_digest 317 = .ok (.i2l, 1) := by decide +kernel
theorem dX6_digest_318 : decode cX6_digest 318 = .ok (.ladd, 1) := by decide +kernel
theorem dX6_digest_319 : decode cX6_digest 319 = .ok (.lstore_n 1, 1) := by decide +kernel
theorem dX6_digest_320 : decode cX6_digest 320 = .ok (.lload_n 1, 1) := by decide +kernel
theorem dX6_digest_321 : decode cX6_digest 321 = .ok (.ldc2_w 348, 3) := by decide +kernel
theorem dX6_digest_324 : decode cX6_digest 324 = .ok (.lmul, 1) := by decide +kernel
theorem dX6_digest_325 : decode cX6_digest 325 = .ok (.aload_n 0, 1) := by decide +kernel
theorem dX6_digest_326 : decode cX6_digest 326 = .ok (.iload_n 3, 1) := by decide +kernel
theorem dX6_digest_327 : decode cX6_digest 327 = .ok (.iconst 1, 1) := by decide +kernel
theorem dX6_digest_328 : decode cX6_digest 328 = .ok (.invokevirtual 376, 3) := by decide +kernel
theorem dX6_digest_331 : decode cX6_digest 331 = .ok (.i2l, 1) := by decide +kernel
theorem dX6_digest_332 : decode cX6_digest 332 = .ok (.ladd, 1) := by decide +kernel
theorem dX6_digest_333 : decode cX6_digest 333 = .ok (.lstore_n 1, 1) := by decide +kernel
theorem dX6_digest_334 : decode cX6_digest 334 = .ok (.iinc 3 1, 3) := by decide +kernel
theorem dX6_digest_337 : decode cX6_digest 337 = .ok (.goto (-36), 3) := by decide +kernel
theorem dX6_digest_340 : decode cX6_digest 340 = .ok (.lload_n 1, 1) := by decide +kernel
theorem dX6_digest_341 : decode cX6_digest 341 = .ok (.lreturn, 1) := by decide +kernel
theorem dX6_isOutside_0 : decode cX6_isOutside 0 = .ok (.iload_n 0, 1) := by decide +kernel
theorem dX6_isOutside_1 : decode cX6_isOutside 1 = .ok (.iload_n 1, 1) := by decide +kernel
theorem dX6_isOutside_2 : decode cX6_isOutside 2 = .ok (.if_icmp .lt 8, 3) := by decide +kernel
theorem dX6_isOutside_5 : decode cX6_isOutside 5 = .ok (.iload_n 0, 1) := by decide +kernel
theorem dX6_isOutside_6 : decode cX6_isOutside 6 = .ok (.iload_n 2, 1) := by decide +kernel
theorem dX6_isOutside_7 : decode cX6_isOutside 7 = .ok (.if_icmp .le 7, 3) := by decide +kernel
theorem dX6_isOutside_10 : decode cX6_isOutside 10 = .ok (.iconst 1, 1) := by decide +kernel
theorem dX6_isOutside_11 : decode cX6_isOutside 11 = .ok (.goto 4, 3) := by decide +kernel
theorem dX6_isOutside_14 : decode cX6_isOutside 14 = .ok (.iconst 0, 1) := by decide +kernel
theorem dX6_isOutside_15 : decode cX6_isOutside 15 = .ok (.ireturn, 1) := by decide +kernel
theorem dX6_isNoWeather_0 : decode cX6_isNoWeather 0 = .ok (.iload_n 0, 1) := by decide +kernel
theorem dX6_isNoWeather_1 : decode cX6_isNoWeather 1 = .ok (.iconst 0, 1) := by decide +kernel
theorem dX6_isNoWeather_2 : decode cX6_isNoWeather 2 = .ok (.bipush 45, 2) := by decide +kernel
theorem dX6_isNoWeather_4 : decode cX6_isNoWeather 4 = .ok (.invokestatic 30, 3) := by decide +kernel
theorem dX6_isNoWeather_7 : decode cX6_isNoWeather 7 = .ok (.ifCond .ne 23, 3) := by decide +kernel
theorem dX6_isNoWeather_10 : decode cX6_isNoWeather 10 = .ok (.iload_n 1, 1) := by decide +kernel
theorem dX6_isNoWeather_11 : decode cX6_isNoWeather 11 = .ok (.iconst 0, 1) := by decide +kernel
theorem dX6_isNoWeather_12 : decode cX6_isNoWeather 12 = .ok (.bipush 100, 2) := by decide +kernel
theorem dX6_isNoWeather_14 : decode cX6_isNoWeather 14 = .ok (.invokestatic 30, 3) := by decide +kernel
theorem dX6_isNoWeather_17 : decode cX6_isNoWeather 17 = .ok (.ifCond .ne 13, 3) := by decide +kernel
theorem dX6_isNoWeather_20 : decode cX6_isNoWeather 20 = .ok (.iload_n 2, 1) := by decide +kernel
theorem dX6_isNoWeather_21 : decode cX6_isNoWeather 21 = .ok (.iconst 0, 1) := by decide +kernel
theorem dX6_isNoWeather_22 : decode cX6_isNoWeather 22 = .ok (.bipush 20, 2) := by decide +kernel
theorem dX6_isNoWeather_24 : decode cX6_isNoWeather 24 = .ok (.invokestatic 30, 3) := by decide +kernel
theorem dX6_isNoWeather_27 : decode cX6_isNoWeather 27 = .ok (.ifCond .eq 7, 3) := by decide +kernel
theorem dX6_isNoWeather_30 : decode cX6_isNoWeather 30 = .ok (.iconst 1, 1) := by decide +kernel
theorem dX6_isNoWeather_31 : decode cX6_isNoWeather 31 = .ok (.goto 4, 3) := by decide +kernel
theorem dX6_isNoWeather_34 : decode cX6_isNoWeather 34 = .ok (.iconst 0, 1) := by decide +kernel
theorem dX6_isNoWeather_35 : decode cX6_isNoWeather 35 = .ok (.ireturn, 1) := by decide +kernel
theorem dX6_isNoForecast_0 : decode cX6_isNoForecast 0 = .ok (.iload_n 0, 1) := by decide +kernel
theorem dX6_isNoForecast_1 : decode cX6_isNoForecast 1 = .ok (.iconst 1, 1) := by decide +kernel
theorem dX6_isNoForecast_2 : decode cX6_isNoForecast 2 = .ok (.bipush 48, 2) := by decide +kernel
theorem dX6_isNoForecast_4 : decode cX6_isNoForecast 4 = .ok (.invokestatic 30, 3) := by decide +kernel
theorem dX6_isNoForecast_7 : decode cX6_isNoForecast 7 = .ok (.ifCond .ne 12, 3) := by decide +kernel
theorem dX6_isNoForecast_10 : decode cX6_isNoForecast 10 = .ok (.iload_n 1, 1) := by decide +kernel
theorem dX6_isNoForecast_11 : decode cX6_isNoForecast 11 = .ok (.iload_n 2, 1) := by decide +kernel
theorem dX6_isNoForecast_12 : decode cX6_isNoForecast 12 = .ok (.iload_n 3, 1) := by decide +kernel
theorem dX6_isNoForecast_13 : decode cX6_isNoForecast 13 = .ok (.invokestatic 318, 3) := by decide +kernel
theorem dX6_isNoForecast_16 : decode cX6_isNoForecast 16 = .ok (.ifCond .eq 7, 3) := by decide +kernel
theorem dX6_isNoForecast_19 : decode cX6_isNoForecast 19 = .ok (.iconst 1, 1) := by decide +kernel
theorem dX6_isNoForecast_20 : decode cX6_isNoForecast 20 = .ok (.goto 4, 3) := by decide +kernel
theorem dX6_isNoForecast_23 : decode cX6_isNoForecast 23 = .ok (.iconst 0, 1) := by decide +kernel
theorem dX6_isNoForecast_24 : decode cX6_isNoForecast 24 = .ok (.ireturn, 1) := by decide +kernel
theorem dX6_towards_0 : decode cX6_towards 0 = .ok (.iload_n 1, 1) := by decide +kernel
theorem dX6_towards_1 : decode cX6_towards 1 = .ok (.iload_n 0, 1) := by decide +kernel
theorem dX6_towards_2 : decode cX6_towards 2 = .ok (.if_icmp .le 13, 3) := by decide +kernel
theorem dX6_towards_5 : decode cX6_towards 5 = .ok (.iload_n 0, 1) := by decide +kernel
theorem dX6_towards_6 : decode cX6_towards 6 = .ok (.iload_n 2, 1) := by decide +kernel
theorem dX6_towards_7 : decode cX6_towards 7 = .ok (.iadd, 1) := by decide +kernel
theorem dX6_towards_8 : decode cX6_towards 8 = .ok (.iload_n 1, 1) := by decide +kernel
theorem dX6_towards_9 : decode cX6_towards 9 = .ok (.invokestatic 186, 3) := by decide +kernel
theorem dX6_towards_12 : decode cX6_towards 12 = .ok (.goto 10, 3) := by decide +kernel
theorem dX6_towards_15 : decode cX6_towards 15 = .ok (.iload_n 0, 1) := by decide +kernel
theorem dX6_towards_16 : decode cX6_towards 16 = .ok (.iload_n 2, 1) := by decide +kernel
theorem dX6_towards_17 : decode cX6_towards 17 = .ok (.isub, 1) := by decide +kernel
theorem dX6_towards_18 : decode cX6_towards 18 = .ok (.iload_n 1, 1) := by decide +kernel
theorem dX6_towards_19 : decode cX6_towards 19 = .ok (.invokestatic 380, 3) := by decide +kernel
theorem dX6_towards_22 : decode cX6_towards 22 = .ok (.ireturn, 1) := by decide +kernel
theorem dX6_bushelsIfSent_0 : decode cX6_bushelsIfSent 0 = .ok (.aload_n 0, 1) := by decide +kernel
theorem dX6_bushelsIfSent_1 : decode cX6_bushelsIfSent 1 = .ok (.getfield 18, 3) := by decide +kernel
theorem dX6_bushelsIfSent_4 : decode cX6_bushelsIfSent 4 = .ok (.aload_n 0, 1) := by decide +kernel
theorem dX6_bushelsIfSent_5 : decode cX6_bushelsIfSent 5 = .ok (.getfield 12, 3) := by decide +kernel
theorem dX6_bushelsIfSent_8 : decode cX6_bushelsIfSent 8 = .ok (.invokevirtual 383, 3) := by decide +kernel
theorem dX6_bushelsIfSent_11 : decode cX6_bushelsIfSent 11 = .ok (.aload_n 0, 1) := by decide +kernel
theorem dX6_bushelsIfSent_12 : decode cX6_bushelsIfSent 12 = .ok (.getfield 18, 3) := by decide +kernel
theorem dX6_bushelsIfSent_15 : decode cX6_bushelsIfSent 15 = .ok (.iload_n 1, 1) := by decide +kernel
theorem dX6_bushelsIfSent_16 : decode cX6_bushelsIfSent 16 = .ok (.invokevirtual 125, 3) := by decide +kernel
theorem dX6_bushelsIfSent_19 : decode cX6_bushelsIfSent 19 = .ok (.astore 6, 2) := by decide +kernel
theorem dX6_bushelsIfSent_21 : decode cX6_bushelsIfSent 21 = .ok (.aload 6, 2) := by decide +kernel
theorem dX6_bushelsIfSent_23 : decode cX6_bushelsIfSent 23 = .ok (.ifnonnull 5, 3) := by decide +kernel
theorem dX6_bushelsIfSent_26 : decode cX6_bushelsIfSent 26 = .ok (.iconst 0, 1) := by decide +kernel
theorem dX6_bushelsIfSent_27 : decode cX6_bushelsIfSent 27 = .ok (.ireturn, 1) := by decide +kernel
theorem dX6_bushelsIfSent_28 : decode cX6_bushelsIfSent 28 = .ok (.aload 6, 2) := by decide +kernel
theorem dX6_bushelsIfSent_30 : decode cX6_bushelsIfSent 30 = .ok (.getfield 386, 3) := by decide +kernel
theorem dX6_bushelsIfSent_33 : decode cX6_bushelsIfSent 33 = .ok (.istore 7, 2) := by decide +kernel
theorem dX6_bushelsIfSent_35 : decode cX6_bushelsIfSent 35 = .ok (.aload 6, 2) := by decide +kernel
theorem dX6_bushelsIfSent_37 : decode cX6_bushelsIfSent 37 = .ok (.iload_n 2, 1) := by decide +kernel
theorem dX6_bushelsIfSent_38 : decode cX6_bushelsIfSent 38 = .ok (.putfield 131, 3) := by decide +kernel
theorem dX6_bushelsIfSent_41 : decode cX6_bushelsIfSent 41 = .ok (.iconst 0, 1) := by decide +kernel
theorem dX6_bushelsIfSent_42 : decode cX6_bushelsIfSent 42 = .ok (.istore 8, 2) := by decide +kernel
theorem dX6_bushelsIfSent_44 : decode cX6_bushelsIfSent 44 = .ok (.iload 8, 2) := by decide +kernel
theorem dX6_bushelsIfSent_46 : decode cX6_bushelsIfSent 46 = .ok (.iload_n 3, 1) := by decide +kernel
theorem dX6_bushelsIfSent_47 : decode cX6_bushelsIfSent 47 = .ok (.if_icmp .ge 21, 3) := by decide +kernel
theorem dX6_bushelsIfSent_50 : decode cX6_bushelsIfSent 50 = .ok (.aload_n 0, 1) := by decide +kernel
theorem dX6_bushelsIfSent_51 : decode cX6_bushelsIfSent 51 = .ok (.getfield 18, 3) := by decide +kernel
theorem dX6_bushelsIfSent_54 : decode cX6_bushelsIfSent 54 = .ok (.iload 4, 2) := by decide +kernel
theorem dX6_bushelsIfSent_56 : decode cX6_bushelsIfSent 56 = .ok (.iload 5, 2) := by decide +kernel
theorem dX6_bushelsIfSent_58 : decode cX6_bushelsIfSent 58 = .ok (.iconst 0, 1) := by decide +kernel
theorem dX6_bushelsIfSent_59 : decode cX6_bushelsIfSent 59 = .ok (.invokevirtual 204, 3) := by decide +kernel
theorem dX6_bushelsIfSent_62 : decode cX6_bushelsIfSent 62 = .ok (.iinc 8 1, 3) := by decide +kernel
theorem dX6_bushelsIfSent_65 : decode cX6_bushelsIfSent 65 = .ok (.goto (-21), 3) := by decide +kernel
theorem dX6_bushelsIfSent_68 : decode cX6_bushelsIfSent 68 = .ok (.aload 6, 2) := by decide +kernel
theorem dX6_bushelsIfSent_70 : decode cX6_bushelsIfSent 70 = .ok (.getfield 386, 3) := by decide +kernel
theorem dX6_bushelsIfSent_73 : decode cX6_bushelsIfSent 73 = .ok (.iload 7, 2) := by decide +kernel
theorem dX6_bushelsIfSent_75 : decode cX6_bushelsIfSent 75 = .ok (.isub, 1) := by decide +kernel
theorem dX6_bushelsIfSent_76 : decode cX6_bushelsIfSent 76 = .ok (.ireturn, 1) := by decide +kernel
theorem dX7_init_0 : decode cX7_init 0 = .ok (.aload_n 0, 1) := by decide +kernel
theorem dX7_init_1 : decode cX7_init 1 = .ok (.invokespecial 1, 3) := by decide +kernel
theorem dX7_init_4 : decode cX7_init 4 = .ok (.aload_n 0, 1) := by decide +kernel
theorem dX7_init_5 : decode cX7_init 5 = .ok (.new 7, 3) := by decide +kernel
theorem dX7_init_8 : decode cX7_init 8 = .ok (.dup, 1) := by decide +kernel
theorem dX7_init_9 : decode cX7_init 9 = .ok (.invokespecial 9, 3) := by decide +kernel
theorem dX7_init_12 : decode cX7_init 12 = .ok (.putfield 10, 3) := by decide +kernel
theorem dX7_init_15 : decode cX7_init 15 = .ok (.aload_n 0, 1) := by decide +kernel
theorem dX7_init_16 : decode cX7_init 16 = .ok (.iconst 0, 1) := by decide +kernel
theorem dX7_init_17 : decode cX7_init 17 = .ok (.anewarray 16, 3) := by decide +kernel
theorem dX7_init_20 : decode cX7_init 20 = .ok (.putfield 18, 3) := by decide +kernel
theorem dX7_init_23 : decode cX7_init 23 = .ok (.aload_n 0, 1) := by decide +kernel
theorem dX7_init_24 : decode cX7_init 24 = .ok (.iconst 0, 1) := by decide +kernel
theorem dX7_init_25 : decode cX7_init 25 = .ok (.anewarray 16, 3) := by decide +kernel
theorem dX7_init_28 : decode cX7_init 28 = .ok (.putfield 22, 3) := by decide +kernel
theorem dX7_init_31 : decode cX7_init 31 = .ok (.aload_n 0, 1) := by decide +kernel
theorem dX7_init_32 : decode cX7_init 32 = .ok (.iconst 0, 1) := by decide +kernel
theorem dX7_init_33 : decode cX7_init 33 = .ok (.anewarray 16, 3) := by decide +kernel
theorem dX7_init_36 : decode cX7_init 36 = .ok (.putfield 25, 3) := by decide +kernel
theorem dX7_init_39 : decode cX7_init 39 = .ok (.aload_n 0, 1) := by decide +kernel
theorem dX7_init_40 : decode cX7_init 40 = .ok (.iconst 0, 1) := by decide +kernel
theorem dX7_init_41 : decode cX7_init 41 = .ok (.anewarray 16, 3) := by decide +kernel
theorem dX7_init_44 : decode cX7_init 44 = .ok (.putfield 28, 3) := by decide +kernel
theorem dX7_init_47 : decode cX7_init 47 = .ok (.aload_n 0, 1) := by decide +kernel
theorem dX7_init_48 : decode cX7_init 48 = .ok (.iconst 0, 1) := by decide +kernel
theorem dX7_init_49 : decode cX7_init 49 = .ok (.anewarray 16, 3) := by decide +kernel
theorem dX7_init_52 : decode cX7_init 52 = .ok (.putfield 31, 3) := by decide +kernel
theorem dX7_init_55 : decode cX7_init 55 = .ok (.aload_n 0, 1) := by decide +kernel
theorem dX7_init_56 : decode cX7_init 56 = .ok (.bipush 8, 2) := by decide +kernel
theorem dX7_init_58 : decode cX7_init 58 = .ok (.newarray .int, 2) := by decide +kernel
theorem dX7_init_60 : decode cX7_init 60 = .ok (.putfield 34, 3) := by decide +kernel
theorem dX7_init_63 : decode cX7_init 63 = .ok (.aload_n 0, 1) := by decide +kernel
theorem dX7_init_64 : decode cX7_init 64 = .ok (.sipush 400, 3) := by decide +kernel
theorem dX7_init_67 : decode cX7_init 67 = .ok (.putfield 37, 3) := by decide +kernel
theorem dX7_init_70 : decode cX7_init 70 = .ok (.aload_n 0, 1) := by decide +kernel
theorem dX7_init_71 : decode cX7_init 71 = .ok (.sipush 1000, 3) := by decide +kernel
theorem dX7_init_74 : decode cX7_init 74 = .ok (.putfield 41, 3) := by decide +kernel
theorem dX7_init_77 : decode cX7_init 77 = .ok (.aload_n 0, 1) := by decide +kernel
theorem dX7_init_78 : decode cX7_init 78 = .ok (.aload_n 1, 1) := by decide +kernel
theorem dX7_init_79 : decode cX7_init 79 = .ok (.putfield 44, 3) := by decide +kernel
theorem dX7_init_82 : decode cX7_init 82 = .ok (.aload_n 0, 1) := by decide +kernel
theorem dX7_init_83 : decode cX7_init 83 = .ok (.iload_n 2, 1) := by decide +kernel
theorem dX7_init_84 : decode cX7_init 84 = .ok (.putfield 47, 3) := by decide +kernel
theorem dX7_init_87 : decode cX7_init 87 = .ok (.return_, 1) := by decide +kernel
theorem dX7_draw_0 : decode cX7_draw 0 = .ok (.aload_n 0, 1) := by decide +kernel
theorem dX7_draw_1 : decode cX7_draw 1 = .ok (.getfield 44, 3) := by decide +kernel
theorem dX7_draw_4 : decode cX7_draw 4 = .ok (.aload_n 0, 1) := by decide +kernel
theorem dX7_draw_5 : decode cX7_draw 5 = .ok (.getfield 47, 3) := by decide +kernel
theorem dX7_draw_8 : decode cX7_draw 8 = .ok (.bipush 24, 2) := by decide +kernel
theorem dX7_draw_10 : decode cX7_draw 10 = .ok (.irem, 1) := by decide +kernel
theorem dX7_draw_11 : decode cX7_draw 11 = .ok (.invokestatic 50, 3) := by decide +kernel
theorem dX7_draw_14 : decode cX7_draw 14 = .ok (.aload_n 0, 1) := by decide +kernel
theorem dX7_draw_15 : decode cX7_draw 15 = .ok (.getfield 47, 3) := by decide +kernel
theorem dX7_draw_18 : decode cX7_draw 18 = .ok (.bipush 24, 2) := by decide +kernel
theorem dX7_draw_20 : decode cX7_draw 20 = .ok (.idiv, 1) := by decide +kernel
theorem dX7_draw_21 : decode cX7_draw 21 = .ok (.bipush 8, 2) := by decide +kernel
theorem dX7_draw_23 : decode cX7_draw 23 = .ok (.irem, 1) := by decide +kernel
theorem dX7_draw_24 : decode cX7_draw 24 = .ok (.ishr, 1) := by decide +kernel
theorem dX7_draw_25 : decode cX7_draw 25 = .ok (.sipush 337, 3) := by decide +kernel
theorem dX7_draw_28 : decode cX7_draw 28 = .ok (.aload_n 0, 1) := by decide +kernel
theorem dX7_draw_29 : decode cX7_draw 29 = .ok (.getfield 47, 3) := by decide +kernel
theorem dX7_draw_32 : decode cX7_draw 32 = .ok (.imul, 1) := by decide +kernel
theorem dX7_draw_33 : decode cX7_draw 33 = .ok (.iadd, 1) := by decide +kernel
theorem dX7_draw_34 : decode cX7_draw 34 = .ok (.iload_n 1, 1) := by decide +kernel
theorem dX7_draw_35 : decode cX7_draw 35 = .ok (.invokestatic 56, 3) := by decide +kernel
theorem dX7_draw_38 : decode cX7_draw 38 = .ok (.istore_n 2, 1) := by decide +kernel
theorem dX7_draw_39 : decode cX7_draw 39 = .ok (.aload_n 0, 1) := by decide +kernel
theorem dX7_draw_40 : decode cX7_draw 40 = .ok (.dup, 1) := by decide +kernel
theorem dX7_draw_41 : decode cX7_draw 41 = .ok (.getfield 47, 3) := by decide +kernel
theorem dX7_draw_44 : decode cX7_draw 44 = .ok (.iconst 1, 1) := by decide +kernel
theorem dX7_draw_45 : decode cX7_draw 45 = .ok (.iadd, 1) := by decide +kernel
theorem dX7_draw_46 : decode cX7_draw 46 = .ok (.putfield 47, 3) := by decide +kernel
theorem dX7_draw_49 : decode cX7_draw 49 = .ok (.iload_n 2, 1) := by decide +kernel
theorem dX7_draw_50 : decode cX7_draw 50 = .ok (.ireturn, 1) := by decide +kernel
theorem dX7_plus_0 : decode cX7_plus 0 = .ok (.aload_n 0, 1) := by decide +kernel
theorem dX7_plus_1 : decode cX7_plus 1 = .ok (.arraylength, 1) := by decide +kernel
theorem dX7_plus_2 : decode cX7_plus 2 = .ok (.iconst 1, 1) := by decide +kernel
theorem dX7_plus_3 : decode cX7_plus 3 = .ok (.iadd, 1) := by decide +kernel
theorem dX7_plus_4 : decode cX7_plus 4 = .ok (.anewarray 16, 3) := by decide +kernel
theorem dX7_plus_7 : decode cX7_plus 7 = .ok (.astore_n 2, 1) := by decide +kernel
theorem dX7_plus_8 : decode cX7_plus 8 = .ok (.aload_n 0, 1) := by decide +kernel
theorem dX7_plus_9 : decode cX7_plus 9 = .ok (.iconst 0, 1) := by decide +kernel
theorem dX7_plus_10 : decode cX7_plus 10 = .ok (.aload_n 2, 1) := by decide +kernel
theorem dX7_plus_11 : decode cX7_plus 11 = .ok (.iconst 0, 1) := by decide +kernel
theorem dX7_plus_12 : decode cX7_plus 12 = .ok (.aload_n 0, 1) := by decide +kernel
theorem dX7_plus_13 : decode cX7_plus 13 = .ok (.arraylength, 1) := by decide +kernel
theorem dX7_plus_14 : decode cX7_plus 14 = .ok (.invokestatic 60, 3) := by decide +kernel
theorem dX7_plus_17 : decode cX7_plus 17 = .ok (.aload_n 2, 1) := by decide +kernel
theorem dX7_plus_18 : decode cX7_plus 18 = .ok (.aload_n 0, 1) := by decide +kernel
theorem dX7_plus_19 : decode cX7_plus 19 = .ok (.arraylength, 1) := by decide +kernel
theorem dX7_plus_20 : decode cX7_plus 20 = .ok (.aload_n 1, 1) := by decide +kernel
theorem dX7_plus_21 : decode cX7_plus 21 = .ok (.aastore, 1) := by decide +kernel
theorem dX7_plus_22 : decode cX7_plus 22 = .ok (.aload_n 2, 1) := by decide +kernel
theorem dX7_plus_23 : decode cX7_plus 23 = .ok (.areturn, 1) := by decide +kernel
theorem dX7_field_0 : decode cX7_field 0 = .ok (.aload_n 0, 1) := by decide +kernel
theorem dX7_field_1 : decode cX7_field 1 = .ok (.aload_n 0, 1) := by decide +kernel
theorem dX7_field_2 : decode cX7_field 2 = .ok (.getfield 18, 3) := by decide +kernel
theorem dX7_field_5 : decode cX7_field 5 = .ok (.bipush 11, 2) := by decide +kernel
theorem dX7_field_7 : decode cX7_field 7 = .ok (.newarray .int, 2) := by decide +kernel
theorem dX7_field_9 : decode cX7_field 9 = .ok (.dup, 1) := by decide +kernel
theorem dX7_field_10 : decode cX7_field 10 = .ok (.iconst 0, 1) := by decide +kernel
theorem dX7_field_11 : decode cX7_field 11 = .ok (.iload_n 1, 1) := by decide +kernel
theorem dX7_field_12 : decode cX7_field 12 = .ok (.iastore, 1) := by decide +kernel
theorem dX7_field_13 : decode cX7_field 13 = .ok (.dup, 1) := by decide +kernel
theorem dX7_field_14 : decode cX7_field 14 = .ok (.iconst 1, 1) := by decide +kernel
theorem dX7_field_15 : decode cX7_field 15 = .ok (.iload_n 2, 1) := by decide +kernel
theorem dX7_field_16 : decode cX7_field 16 = .ok (.iastore, 1) := by decide +kernel
theorem dX7_field_17 : decode cX7_field 17 = .ok (.dup, 1) := by decide +kernel
theorem dX7_field_18 : decode cX7_field 18 = .ok (.iconst 2, 1) := by decide +kernel
theorem dX7_field_19 : decode cX7_field 19 = .ok (.iload_n 3, 1) := by decide +kernel
theorem dX7_field_20 : decode cX7_field 20 = .ok (.iastore, 1) := by decide +kernel
theorem dX7_field_21 : decode cX7_field 21 = .ok (.dup, 1) := by decide +kernel
theorem dX7_field_22 : decode cX7_field 22 = .ok (.iconst 3, 1) := by decide +kernel
theorem dX7_field_23 : decode cX7_field 23 = .ok (.iconst 0, 1) := by decide +kernel
