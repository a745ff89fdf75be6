theorem dX6_fetch_23 : decode cX6_fetch 23 = .ok (.aload_n 0, 1) := by decide +kernel
theorem dX6_fetch_24 : decode cX6_fetch 24 = .ok (.getfield 12, 3) := by decide +kernel
theorem dX6_fetch_27 : decode cX6_fetch 27 = .ok (.iload_n 2, 1) := by decide +kernel
theorem dX6_fetch_28 : decode cX6_fetch 28 = .ok (.invokevirtual 125, 3) := by decide +kernel
theorem dX6_fetch_31 : decode cX6_fetch 31 = .ok (.astore 4, 2) := by decide +kernel
theorem dX6_fetch_33 : decode cX6_fetch 33 = .ok (.aload 4, 2) := by decide +kernel
theorem dX6_fetch_35 : decode cX6_fetch 35 = .ok (.ifnonnull 13, 3) := by decide +kernel
theorem dX6_fetch_38 : decode cX6_fetch 38 = .ok (.new 34, 3) := by decide +kernel
theorem dX6_fetch_41 : decode cX6_fetch 41 = .ok (.dup, 1) := by decide +kernel
theorem dX6_fetch_42 : decode cX6_fetch 42 = .ok (.ldc 129, 2) := by decide +kernel
theorem dX6_fetch_44 : decode cX6_fetch 44 = .ok (.invokespecial 38, 3) := by decide +kernel
theorem dX6_fetch_47 : decode cX6_fetch 47 = .ok (.athrow, 1) := by decide +kernel
theorem dX6_fetch_48 : decode cX6_fetch 48 = .ok (.aload_n 3, 1) := by decide +kernel
theorem dX6_fetch_49 : decode cX6_fetch 49 = .ok (.iload_n 2, 1) := by decide +kernel
theorem dX6_fetch_50 : decode cX6_fetch 50 = .ok (.putfield 144, 3) := by decide +kernel
theorem dX6_fetch_53 : decode cX6_fetch 53 = .ok (.aload_n 3, 1) := by decide +kernel
theorem dX6_fetch_54 : decode cX6_fetch 54 = .ok (.iconst (-1), 1) := by decide +kernel
theorem dX6_fetch_55 : decode cX6_fetch 55 = .ok (.putfield 147, 3) := by decide +kernel
theorem dX6_fetch_58 : decode cX6_fetch 58 = .ok (.aload 4, 2) := by decide +kernel
theorem dX6_fetch_60 : decode cX6_fetch 60 = .ok (.getfield 150, 3) := by decide +kernel
theorem dX6_fetch_63 : decode cX6_fetch 63 = .ok (.aload_n 3, 1) := by decide +kernel
theorem dX6_fetch_64 : decode cX6_fetch 64 = .ok (.getfield 153, 3) := by decide +kernel
theorem dX6_fetch_67 : decode cX6_fetch 67 = .ok (.isub, 1) := by decide +kernel
theorem dX6_fetch_68 : decode cX6_fetch 68 = .ok (.invokestatic 154, 3) := by decide +kernel
theorem dX6_fetch_71 : decode cX6_fetch 71 = .ok (.ireturn, 1) := by decide +kernel
theorem dX6_haul_0 : decode cX6_haul 0 = .ok (.aload_n 0, 1) := by decide +kernel
theorem dX6_haul_1 : decode cX6_haul 1 = .ok (.getfield 12, 3) := by decide +kernel
theorem dX6_haul_4 : decode cX6_haul 4 = .ok (.iload_n 1, 1) := by decide +kernel
theorem dX6_haul_5 : decode cX6_haul 5 = .ok (.invokevirtual 138, 3) := by decide +kernel
theorem dX6_haul_8 : decode cX6_haul 8 = .ok (.astore_n 3, 1) := by decide +kernel
theorem dX6_haul_9 : decode cX6_haul 9 = .ok (.aload_n 3, 1) := by decide +kernel
theorem dX6_haul_10 : decode cX6_haul 10 = .ok (.ifnonnull 13, 3) := by decide +kernel
theorem dX6_haul_13 : decode cX6_haul 13 = .ok (.new 34, 3) := by decide +kernel
theorem dX6_haul_16 : decode cX6_haul 16 = .ok (.dup, 1) := by decide +kernel
theorem dX6_haul_17 : decode cX6_haul 17 = .ok (.ldc 142, 2) := by decide +kernel
theorem dX6_haul_19 : decode cX6_haul 19 = .ok (.invokespecial 38, 3) := by decide +kernel
theorem dX6_haul_22 : decode cX6_haul 22 = .ok (.athrow, 1) := by decide +kernel
theorem dX6_haul_23 : decode cX6_haul 23 = .ok (.aload_n 0, 1) := by decide +kernel
theorem dX6_haul_24 : decode cX6_haul 24 = .ok (.getfield 12, 3) := by decide +kernel
theorem dX6_haul_27 : decode cX6_haul 27 = .ok (.iload_n 2, 1) := by decide +kernel
theorem dX6_haul_28 : decode cX6_haul 28 = .ok (.invokevirtual 159, 3) := by decide +kernel
theorem dX6_haul_31 : decode cX6_haul 31 = .ok (.astore 4, 2) := by decide +kernel
theorem dX6_haul_33 : decode cX6_haul 33 = .ok (.aload 4, 2) := by decide +kernel
theorem dX6_haul_35 : decode cX6_haul 35 = .ok (.ifnonnull 13, 3) := by decide +kernel
theorem dX6_haul_38 : decode cX6_haul 38 = .ok (.new 34, 3) := by decide +kernel
theorem dX6_haul_41 : decode cX6_haul 41 = .ok (.dup, 1) := by decide +kernel
theorem dX6_haul_42 : decode cX6_haul 42 = .ok (.ldc 163, 2) := by decide +kernel
theorem dX6_haul_44 : decode cX6_haul 44 = .ok (.invokespecial 38, 3) := by decide +kernel
theorem dX6_haul_47 : decode cX6_haul 47 = .ok (.athrow, 1) := by decide +kernel
theorem dX6_haul_48 : decode cX6_haul 48 = .ok (.aload_n 3, 1) := by decide +kernel
theorem dX6_haul_49 : decode cX6_haul 49 = .ok (.iconst (-1), 1) := by decide +kernel
theorem dX6_haul_50 : decode cX6_haul 50 = .ok (.putfield 144, 3) := by decide +kernel
theorem dX6_haul_53 : decode cX6_haul 53 = .ok (.aload_n 3, 1) := by decide +kernel
theorem dX6_haul_54 : decode cX6_haul 54 = .ok (.iload_n 2, 1) := by decide +kernel
theorem dX6_haul_55 : decode cX6_haul 55 = .ok (.putfield 147, 3) := by decide +kernel
theorem dX6_haul_58 : decode cX6_haul 58 = .ok (.aload 4, 2) := by decide +kernel
theorem dX6_haul_60 : decode cX6_haul 60 = .ok (.getfield 165, 3) := by decide +kernel
theorem dX6_haul_63 : decode cX6_haul 63 = .ok (.aload_n 3, 1) := by decide +kernel
theorem dX6_haul_64 : decode cX6_haul 64 = .ok (.getfield 153, 3) := by decide +kernel
theorem dX6_haul_67 : decode cX6_haul 67 = .ok (.isub, 1) := by decide +kernel
theorem dX6_haul_68 : decode cX6_haul 68 = .ok (.invokestatic 154, 3) := by decide +kernel
theorem dX6_haul_71 : decode cX6_haul 71 = .ok (.ireturn, 1) := by decide +kernel
theorem dX6_stop_0 : decode cX6_stop 0 = .ok (.aload_n 0, 1) := by decide +kernel
theorem dX6_stop_1 : decode cX6_stop 1 = .ok (.getfield 12, 3) := by decide +kernel
theorem dX6_stop_4 : decode cX6_stop 4 = .ok (.iload_n 1, 1) := by decide +kernel
theorem dX6_stop_5 : decode cX6_stop 5 = .ok (.invokevirtual 138, 3) := by decide +kernel
theorem dX6_stop_8 : decode cX6_stop 8 = .ok (.astore_n 2, 1) := by decide +kernel
theorem dX6_stop_9 : decode cX6_stop 9 = .ok (.aload_n 2, 1) := by decide +kernel
theorem dX6_stop_10 : decode cX6_stop 10 = .ok (.ifnonnull 13, 3) := by decide +kernel
theorem dX6_stop_13 : decode cX6_stop 13 = .ok (.new 34, 3) := by decide +kernel
theorem dX6_stop_16 : decode cX6_stop 16 = .ok (.dup, 1) := by decide +kernel
theorem dX6_stop_17 : decode cX6_stop 17 = .ok (.ldc 142, 2) := by decide +kernel
theorem dX6_stop_19 : decode cX6_stop 19 = .ok (.invokespecial 38, 3) := by decide +kernel
theorem dX6_stop_22 : decode cX6_stop 22 = .ok (.athrow, 1) := by decide +kernel
theorem dX6_stop_23 : decode cX6_stop 23 = .ok (.aload_n 2, 1) := by decide +kernel
theorem dX6_stop_24 : decode cX6_stop 24 = .ok (.iconst (-1), 1) := by decide +kernel
theorem dX6_stop_25 : decode cX6_stop 25 = .ok (.putfield 144, 3) := by decide +kernel
theorem dX6_stop_28 : decode cX6_stop 28 = .ok (.aload_n 2, 1) := by decide +kernel
theorem dX6_stop_29 : decode cX6_stop 29 = .ok (.iconst (-1), 1) := by decide +kernel
theorem dX6_stop_30 : decode cX6_stop 30 = .ok (.putfield 147, 3) := by decide +kernel
theorem dX6_stop_33 : decode cX6_stop 33 = .ok (.aload_n 2, 1) := by decide +kernel
theorem dX6_stop_34 : decode cX6_stop 34 = .ok (.getfield 166, 3) := by decide +kernel
theorem dX6_stop_37 : decode cX6_stop 37 = .ok (.ireturn, 1) := by decide +kernel
theorem dX6_mend_0 : decode cX6_mend 0 = .ok (.aload_n 0, 1) := by decide +kernel
theorem dX6_mend_1 : decode cX6_mend 1 = .ok (.getfield 12, 3) := by decide +kernel
theorem dX6_mend_4 : decode cX6_mend 4 = .ok (.iload_n 1, 1) := by decide +kernel
theorem dX6_mend_5 : decode cX6_mend 5 = .ok (.invokevirtual 125, 3) := by decide +kernel
theorem dX6_mend_8 : decode cX6_mend 8 = .ok (.astore_n 2, 1) := by decide +kernel
theorem dX6_mend_9 : decode cX6_mend 9 = .ok (.aload_n 2, 1) := by decide +kernel
theorem dX6_mend_10 : decode cX6_mend 10 = .ok (.ifnonnull 13, 3) := by decide +kernel
theorem dX6_mend_13 : decode cX6_mend 13 = .ok (.new 34, 3) := by decide +kernel
theorem dX6_mend_16 : decode cX6_mend 16 = .ok (.dup, 1) := by decide +kernel
theorem dX6_mend_17 : decode cX6_mend 17 = .ok (.ldc 129, 2) := by decide +kernel
theorem dX6_mend_19 : decode cX6_mend 19 = .ok (.invokespecial 38, 3) := by decide +kernel
theorem dX6_mend_22 : decode cX6_mend 22 = .ok (.athrow, 1) := by decide +kernel
theorem dX6_mend_23 : decode cX6_mend 23 = .ok (.aload_n 2, 1) := by decide +kernel
theorem dX6_mend_24 : decode cX6_mend 24 = .ok (.getfield 169, 3) := by decide +kernel
theorem dX6_mend_27 : decode cX6_mend 27 = .ok (.iconst 3, 1) := by decide +kernel
theorem dX6_mend_28 : decode cX6_mend 28 = .ok (.imul, 1) := by decide +kernel
theorem dX6_mend_29 : decode cX6_mend 29 = .ok (.istore_n 3, 1) := by decide +kernel
theorem dX6_mend_30 : decode cX6_mend 30 = .ok (.aload_n 0, 1) := by decide +kernel
theorem dX6_mend_31 : decode cX6_mend 31 = .ok (.getfield 12, 3) := by decide +kernel
theorem dX6_mend_34 : decode cX6_mend 34 = .ok (.getfield 172, 3) := by decide +kernel
theorem dX6_mend_37 : decode cX6_mend 37 = .ok (.iload_n 3, 1) := by decide +kernel
theorem dX6_mend_38 : decode cX6_mend 38 = .ok (.if_icmp .ge 13, 3) := by decide +kernel
theorem dX6_mend_41 : decode cX6_mend 41 = .ok (.new 56, 3) := by decide +kernel
theorem dX6_mend_44 : decode cX6_mend 44 = .ok (.dup, 1) := by decide +kernel
theorem dX6_mend_45 : decode cX6_mend 45 = .ok (.ldc 175, 2) := by decide +kernel
theorem dX6_mend_47 : decode cX6_mend 47 = .ok (.invokespecial 60, 3) := by decide +kernel
theorem dX6_mend_50 : decode cX6_mend 50 = .ok (.athrow, 1) := by decide +kernel
theorem dX6_mend_51 : decode cX6_mend 51 = .ok (.aload_n 0, 1) := by decide +kernel
theorem dX6_mend_52 : decode cX6_mend 52 = .ok (.getfield 12, 3) := by decide +kernel
theorem dX6_mend_55 : decode cX6_mend 55 = .ok (.dup, 1) := by decide +kernel
theorem dX6_mend_56 : decode cX6_mend 56 = .ok (.getfield 172, 3) := by decide +kernel
theorem dX6_mend_59 : decode cX6_mend 59 = .ok (.iload_n 3, 1) := by decide +kernel
theorem dX6_mend_60 : decode cX6_mend 60 = .ok (.isub, 1) := by decide +kernel
theorem dX6_mend_61 : decode cX6_mend 61 = .ok (.putfield 172, 3) := by decide +kernel
theorem dX6_mend_64 : decode cX6_mend 64 = .ok (.aload_n 2, 1) := by decide +kernel
theorem dX6_mend_65 : decode cX6_mend 65 = .ok (.iconst 0, 1) := by decide +kernel
theorem dX6_mend_66 : decode cX6_mend 66 = .ok (.putfield 169, 3) := by decide +kernel
theorem dX6_mend_69 : decode cX6_mend 69 = .ok (.aload_n 2, 1) := by decide +kernel
theorem dX6_mend_70 : decode cX6_mend 70 = .ok (.iconst 0, 1) := by decide +kernel
theorem dX6_mend_71 : decode cX6_mend 71 = .ok (.putfield 177, 3) := by decide +kernel
theorem dX6_mend_74 : decode cX6_mend 74 = .ok (.iload_n 3, 1) := by decide +kernel
theorem dX6_mend_75 : decode cX6_mend 75 = .ok (.ireturn, 1) := by decide +kernel
theorem dX6_train_0 : decode cX6_train 0 = .ok (.aload_n 0, 1) := by decide +kernel
theorem dX6_train_1 : decode cX6_train 1 = .ok (.getfield 12, 3) := by decide +kernel
theorem dX6_train_4 : decode cX6_train 4 = .ok (.iload_n 1, 1) := by decide +kernel
theorem dX6_train_5 : decode cX6_train 5 = .ok (.invokevirtual 159, 3) := by decide +kernel
theorem dX6_train_8 : decode cX6_train 8 = .ok (.astore_n 3, 1) := by decide +kernel
theorem dX6_train_9 : decode cX6_train 9 = .ok (.aload_n 3, 1) := by decide +kernel
theorem dX6_train_10 : decode cX6_train 10 = .ok (.ifnonnull 13, 3) := by decide +kernel
theorem dX6_train_13 : decode cX6_train 13 = .ok (.new 34, 3) := by decide +kernel
theorem dX6_train_16 : decode cX6_train 16 = .ok (.dup, 1) := by decide +kernel
theorem dX6_train_17 : decode cX6_train 17 = .ok (.ldc 163, 2) := by decide +kernel
theorem dX6_train_19 : decode cX6_train 19 = .ok (.invokespecial 38, 3) := by decide +kernel
theorem dX6_train_22 : decode cX6_train 22 = .ok (.athrow, 1) := by decide +kernel
theorem dX6_train_23 : decode cX6_train 23 = .ok (.iload_n 2, 1) := by decide +kernel
theorem dX6_train_24 : decode cX6_train 24 = .ok (.iconst 1, 1) := by decide +kernel
theorem dX6_train_25 : decode cX6_train 25 = .ok (.sipush 9999, 3) := by decide +kernel
theorem dX6_train_28 : decode cX6_train 28 = .ok (.invokestatic 30, 3) := by decide +kernel
theorem dX6_train_31 : decode cX6_train 31 = .ok (.ifCond .eq 13, 3) := by decide +kernel
theorem dX6_train_34 : decode cX6_train 34 = .ok (.new 41, 3) := by decide +kernel
theorem dX6_train_37 : decode cX6_train 37 = .ok (.dup, 1) := by decide +kernel
theorem dX6_train_38 : decode cX6_train 38 = .ok (.ldc 181, 2) := by decide +kernel
theorem dX6_train_40 : decode cX6_train 40 = .ok (.invokespecial 45, 3) := by decide +kernel
theorem dX6_train_43 : decode cX6_train 43 = .ok (.athrow, 1) := by decide +kernel
theorem dX6_train_44 : decode cX6_train 44 = .ok (.aload_n 3, 1) := by decide +kernel
theorem dX6_train_45 : decode cX6_train 45 = .ok (.aload_n 3, 1) := by decide +kernel
theorem dX6_train_46 : decode cX6_train 46 = .ok (.getfield 183, 3) := by decide +kernel
theorem dX6_train_49 : decode cX6_train 49 = .ok (.iload_n 2, 1) := by decide +kernel
theorem dX6_train_50 : decode cX6_train 50 = .ok (.iadd, 1) := by decide +kernel
theorem dX6_train_51 : decode cX6_train 51 = .ok (.sipush 9999, 3) := by decide +kernel
theorem dX6_train_54 : decode cX6_train 54 = .ok (.invokestatic 186, 3) := by decide +kernel
theorem dX6_train_57 : decode cX6_train 57 = .ok (.putfield 183, 3) := by decide +kernel
theorem dX6_train_60 : decode cX6_train 60 = .ok (.aload_n 3, 1) := by decide +kernel
theorem dX6_train_61 : decode cX6_train 61 = .ok (.getfield 183, 3) := by decide +kernel
theorem dX6_train_64 : decode cX6_train 64 = .ok (.ireturn, 1) := by decide +kernel
theorem dX6_pass_0 : decode cX6_pass 0 = .ok (.iload_n 1, 1) := by decide +kernel
theorem dX6_pass_1 : decode cX6_pass 1 = .ok (.iload_n 2, 1) := by decide +kernel
theorem dX6_pass_2 : decode cX6_pass 2 = .ok (.iload_n 3, 1) := by decide +kernel
theorem dX6_pass_3 : decode cX6_pass 3 = .ok (.iload 4, 2) := by decide +kernel
theorem dX6_pass_5 : decode cX6_pass 5 = .ok (.invokestatic 190, 3) := by decide +kernel
theorem dX6_pass_8 : decode cX6_pass 8 = .ok (.ifCond .eq 13, 3) := by decide +kernel
theorem dX6_pass_11 : decode cX6_pass 11 = .ok (.new 41, 3) := by decide +kernel
theorem dX6_pass_14 : decode cX6_pass 14 = .ok (.dup, 1) := by decide +kernel
theorem dX6_pass_15 : decode cX6_pass 15 = .ok (.ldc 194, 2) := by decide +kernel
theorem dX6_pass_17 : decode cX6_pass 17 = .ok (.invokespecial 45, 3) := by decide +kernel
theorem dX6_pass_20 : decode cX6_pass 20 = .ok (.athrow, 1) := by decide +kernel
theorem dX6_pass_21 : decode cX6_pass 21 = .ok (.aload_n 0, 1) := by decide +kernel
theorem dX6_pass_22 : decode cX6_pass 22 = .ok (.getfield 12, 3) := by decide +kernel
theorem dX6_pass_25 : decode cX6_pass 25 = .ok (.getfield 196, 3) := by decide +kernel
theorem dX6_pass_28 : decode cX6_pass 28 = .ok (.iload_n 1, 1) := by decide +kernel
theorem dX6_pass_29 : decode cX6_pass 29 = .ok (.iadd, 1) := by decide +kernel
theorem dX6_pass_30 : decode cX6_pass 30 = .ok (.sipush 2400, 3) := by decide +kernel
theorem dX6_pass_33 : decode cX6_pass 33 = .ok (.if_icmp .le 13, 3) := by decide +kernel
theorem dX6_pass_36 : decode cX6_pass 36 = .ok (.new 56, 3) := by decide +kernel
theorem dX6_pass_39 : decode cX6_pass 39 = .ok (.dup, 1) := by decide +kernel
theorem dX6_pass_40 : decode cX6_pass 40 = .ok (.ldc 199, 2) := by decide +kernel
theorem dX6_pass_42 : decode cX6_pass 42 = .ok (.invokespecial 60, 3) := by decide +kernel
theorem dX6_pass_45 : decode cX6_pass 45 = .ok (.athrow, 1) := by decide +kernel
theorem dX6_pass_46 : decode cX6_pass 46 = .ok (.aload_n 0, 1) := by decide +kernel
theorem dX6_pass_47 : decode cX6_pass 47 = .ok (.getfield 12, 3) := by decide +kernel
theorem dX6_pass_50 : decode cX6_pass 50 = .ok (.getfield 201, 3) := by decide +kernel
theorem dX6_pass_53 : decode cX6_pass 53 = .ok (.invokevirtual 50, 3) := by decide +kernel
theorem dX6_pass_56 : decode cX6_pass 56 = .ok (.istore 5, 2) := by decide +kernel
theorem dX6_pass_58 : decode cX6_pass 58 = .ok (.iconst 0, 1) := by decide +kernel
theorem dX6_pass_59 : decode cX6_pass 59 = .ok (.istore 6, 2) := by decide +kernel
theorem dX6_pass_61 : decode cX6_pass 61 = .ok (.iload 6, 2) := by decide +kernel
theorem dX6_pass_63 : decode cX6_pass 63 = .ok (.iload_n 1, 1) := by decide +kernel
theorem dX6_pass_64 : decode cX6_pass 64 = .ok (.if_icmp .ge 20, 3) := by decide +kernel
theorem dX6_pass_67 : decode cX6_pass 67 = .ok (.aload_n 0, 1) := by decide +kernel
theorem dX6_pass_68 : decode cX6_pass 68 = .ok (.getfield 12, 3) := by decide +kernel
theorem dX6_pass_71 : decode cX6_pass 71 = .ok (.iload_n 2, 1) := by decide +kernel
theorem dX6_pass_72 : decode cX6_pass 72 = .ok (.iload_n 3, 1) := by decide +kernel
theorem dX6_pass_73 : decode cX6_pass 73 = .ok (.iload 4, 2) := by decide +kernel
theorem dX6_pass_75 : decode cX6_pass 75 = .ok (.invokevirtual 204, 3) := by decide +kernel
theorem dX6_pass_78 : decode cX6_pass 78 = .ok (.iinc 6 1, 3) := by decide +kernel
theorem dX6_pass_81 : decode cX6_pass 81 = .ok (.goto (-20), 3) := by decide +kernel
theorem dX6_pass_84 : decode cX6_pass 84 = .ok (.aload_n 0, 1) := by decide +kernel
theorem dX6_pass_85 : decode cX6_pass 85 = .ok (.getfield 12, 3) := by decide +kernel
theorem dX6_pass_88 : decode cX6_pass 88 = .ok (.getfield 201, 3) := by decide +kernel
theorem dX6_pass_91 : decode cX6_pass 91 = .ok (.invokevirtual 50, 3) := by decide +kernel
theorem dX6_pass_94 : decode cX6_pass 94 = .ok (.iload 5, 2) := by decide +kernel
theorem dX6_pass_96 : decode cX6_pass 96 = .ok (.isub, 1) := by decide +kernel
theorem dX6_pass_97 : decode cX6_pass 97 = .ok (.ireturn, 1) := by decide +kernel
theorem dX6_ofField_0 : decode cX6_ofField 0 = .ok (.aload_n 0, 1) := by decide +kernel
theorem dX6_ofField_1 : decode cX6_ofField 1 = .ok (.getfield 12, 3) := by decide +kernel
theorem dX6_ofField_4 : decode cX6_ofField 4 = .ok (.iload_n 1, 1) := by decide +kernel
theorem dX6_ofField_5 : decode cX6_ofField 5 = .ok (.invokevirtual 65, 3) := by decide +kernel
theorem dX6_ofField_8 : decode cX6_ofField 8 = .ok (.astore_n 3, 1) := by decide +kernel
theorem dX6_ofField_9 : decode cX6_ofField 9 = .ok (.aload_n 3, 1) := by decide +kernel
theorem dX6_ofField_10 : decode cX6_ofField 10 = .ok (.ifnonnull 13, 3) := by decide +kernel
theorem dX6_ofField_13 : decode cX6_ofField 13 = .ok (.new 34, 3) := by decide +kernel
theorem dX6_ofField_16 : decode cX6_ofField 16 = .ok (.dup, 1) := by decide +kernel
theorem dX6_ofField_17 : decode cX6_ofField 17 = .ok (.ldc 69, 2) := by decide +kernel
theorem dX6_ofField_19 : decode cX6_ofField 19 = .ok (.invokespecial 38, 3) := by decide +kernel
theorem dX6_ofField_22 : decode cX6_ofField 22 = .ok (.athrow, 1) := by decide +kernel
theorem dX6_ofField_23 : decode cX6_ofField 23 = .ok (.iload_n 2, 1) := by decide +kernel
theorem dX6_ofField_24 : decode cX6_ofField 24 = .ok (.iconst 0, 1) := by decide +kernel
theorem dX6_ofField_25 : decode cX6_ofField 25 = .ok (.bipush 11, 2) := by decide +kernel
theorem dX6_ofField_27 : decode cX6_ofField 27 = .ok (.invokestatic 30, 3) := by decide +kernel
theorem dX6_ofField_30 : decode cX6_ofField 30 = .ok (.ifCond .eq 13, 3) := by decide +kernel
theorem dX6_ofField_33 : decode cX6_ofField 33 = .ok (.new 41, 3) := by decide +kernel
theorem dX6_ofField_36 : decode cX6_ofField 36 = .ok (.dup, 1) := by decide +kernel
theorem dX6_ofField_37 : decode cX6_ofField 37 = .ok (.ldc 207, 2) := by decide +kernel
theorem dX6_ofField_39 : decode cX6_ofField 39 = .ok (.invokespecial 45, 3) := by decide +kernel
theorem dX6_ofField_42 : decode cX6_ofField 42 = .ok (.athrow, 1) := by decide +kernel
theorem dX6_ofField_43 : decode cX6_ofField 43 = .ok (.iload_n 2, 1) := by decide +kernel
theorem dX6_ofField_44 : decode cX6_ofField 44 = .ok (.tableswitch 127 0 10 #[60, 65, 70, 75, 80, 85, 90, 95, 100, 105, 114], 60) := by decide +kernel
theorem dX6_ofField_104 : decode cX6_ofField 104 = .ok (.aload_n 3, 1) := by decide +kernel
theorem dX6_ofField_105 : decode cX6_ofField 105 = .ok (.getfield 209, 3) := by decide +kernel
theorem dX6_ofField_108 : decode cX6_ofField 108 = .ok (.ireturn, 1) := by decide +kernel
theorem dX6_ofField_109 : decode cX6_ofField 109 = .ok (.aload_n 3, 1) := by decide +kernel
theorem dX6_ofField_110 : decode cX6_ofField 110 = .ok (.getfield 212, 3) := by decide +kernel
theorem dX6_ofField_113 : decode cX6_ofField 113 = .ok (.ireturn, 1) := by decide +kernel
theorem dX6_ofField_114 : decode cX6_ofField 114 = .ok (.aload_n 3, 1) := by decide +kernel
theorem dX6_ofField_115 : decode cX6_ofField 115 = .ok (.getfield 213, 3) := by decide +kernel
theorem dX6_ofField_118 : decode cX6_ofField 118 = .ok (.ireturn, 1) := by decide +kernel
theorem dX6_ofField_119 : decode cX6_ofField 119 = .ok (.aload_n 3, 1) := by decide +kernel
theorem dX6_ofField_120 : decode cX6_ofField 120 = .ok (.getfield 216, 3) := by decide +kernel
theorem dX6_ofField_123 : decode cX6_ofField 123 = .ok (.ireturn, 1) := by decide +kernel
theorem dX6_ofField_124 : decode cX6_ofField 124 = .ok (.aload_n 3, 1) := by decide +kernel
theorem dX6_ofField_125 : decode cX6_ofField 125 = .ok (.getfield 73, 3) := by decide +kernel
theorem dX6_ofField_128 : decode cX6_ofField 128 = .ok (.ireturn, 1) := by decide +kernel
theorem dX6_ofField_129 : decode cX6_ofField 129 = .ok (.aload_n 3, 1) := by decide +kernel
theorem dX6_ofField_130 : decode cX6_ofField 130 = .ok (.getfield 77, 3) := by decide +kernel
theorem dX6_ofField_133 : decode cX6_ofField 133 = .ok (.ireturn, 1) := by decide +kernel
theorem dX6_ofField_134 : decode cX6_ofField 134 = .ok (.aload_n 3, 1) := by decide +kernel
theorem dX6_ofField_135 : decode cX6_ofField 135 = .ok (.getfield 219, 3) := by decide +kernel
theorem dX6_ofField_138 : decode cX6_ofField 138 = .ok (.ireturn, 1) := by decide +kernel
theorem dX6_ofField_139 : decode cX6_ofField 139 = .ok (.aload_n 3, 1) := by decide +kernel
theorem dX6_ofField_140 : decode cX6_ofField 140 = .ok (.getfield 222, 3) := by decide +kernel
theorem dX6_ofField_143 : decode cX6_ofField 143 = .ok (.ireturn, 1) := by decide +kernel
theorem dX6_ofField_144 : decode cX6_ofField 144 = .ok (.aload_n 3, 1) := by decide +kernel
theorem dX6_ofField_145 : decode cX6_ofField 145 = .ok (.getfield 225, 3) := by decide +kernel
theorem dX6_ofField_148 : decode cX6_ofField 148 = .ok (.ireturn, 1) := by decide +kernel
theorem dX6_ofField_149 : decode cX6_ofField 149 = .ok (.aload_n 0, 1) := by decide +kernel
theorem dX6_ofField_150 : decode cX6_ofField 150 = .ok (.getfield 12, 3) := by decide +kernel
theorem dX6_ofField_153 : decode cX6_ofField 153 = .ok (.iload_n 1, 1) := by decide +kernel
theorem dX6_ofField_154 : decode cX6_ofField 154 = .ok (.invokevirtual 228, 3) := by decide +kernel
theorem dX6_ofField_157 : decode cX6_ofField 157 = .ok (.ireturn, 1) := by decide +kernel
theorem dX6_ofField_158 : decode cX6_ofField 158 = .ok (.aload_n 3, 1) := by decide +kernel
theorem dX6_ofField_159 : decode cX6_ofField 159 = .ok (.aload_n 0, 1) := by decide +kernel
theorem dX6_ofField_160 : decode cX6_ofField 160 = .ok (.getfield 12, 3) := by decide +kernel
theorem dX6_ofField_163 : decode cX6_ofField 163 = .ok (.iload_n 1, 1) := by decide +kernel
theorem dX6_ofField_164 : decode cX6_ofField 164 = .ok (.invokevirtual 228, 3) := by decide +kernel
theorem dX6_ofField_167 : decode cX6_ofField 167 = .ok (.invokevirtual 231, 3) := by decide +kernel
theorem dX6_ofField_170 : decode cX6_ofField 170 = .ok (.ireturn, 1) := by decide +kernel
theorem dX6_ofField_171 : decode cX6_ofField 171 = .ok (.aload_n 0, 1) := by decide +kernel
theorem dX6_ofField_172 : decode cX6_ofField 172 = .ok (.getfield 12, 3) := by decide +kernel
theorem dX6_ofField_175 : decode cX6_ofField 175 = .ok (.iload_n 1, 1) := by decide +kernel
theorem dX6_ofField_176 : decode cX6_ofField 176 = .ok (.invokevirtual 134, 3) := by decide +kernel
theorem dX6_ofField_179 : decode cX6_ofField 179 = .ok (.ireturn, 1) := by decide +kernel
theorem dX6_ofCombine_0 : decode cX6_ofCombine 0 = .ok (.aload_n 0, 1) := by decide +kernel
theorem dX6_ofCombine_1 : decode cX6_ofCombine 1 = .ok (.getfield 12, 3) := by decide +kernel
theorem dX6_ofCombine_4 : decode cX6_ofCombine 4 = .ok (.iload_n 1, 1) := by decide +kernel
theorem dX6_ofCombine_5 : decode cX6_ofCombine 5 = .ok (.invokevirtual 125, 3) := by decide +kernel
theorem dX6_ofCombine_8 : decode cX6_ofCombine 8 = .ok (.astore_n 3, 1) := by decide +kernel
theorem dX6_ofCombine_9 : decode cX6_ofCombine 9 = .ok (.aload_n 3, 1) := by decide +kernel
theorem dX6_ofCombine_10 : decode cX6_ofCombine 10 = .ok (.ifnonnull 13, 3) := by decide +kernel
theorem dX6_ofCombine_13 : decode cX6_ofCombine 13 = .ok (.new 34, 3) := by decide +kernel
theorem dX6_ofCombine_16 : decode cX6_ofCombine 16 = .ok (.dup, 1) := by decide +kernel
theorem dX6_ofCombine_17 : decode cX6_ofCombine 17 = .ok (.ldc 129, 2) := by decide +kernel
theorem dX6_ofCombine_19 : decode cX6_ofCombine 19 = .ok (.invokespecial 38, 3) := by decide +kernel
theorem dX6_ofCombine_22 : decode cX6_ofCombine 22 = .ok (.athrow, 1) := by decide +kernel
theorem dX6_ofCombine_23 : decode cX6_ofCombine 23 = .ok (.iload_n 2, 1) := by decide +kernel
theorem dX6_ofCombine_24 : decode cX6_ofCombine 24 = .ok (.iconst 0, 1) := by decide +kernel
theorem dX6_ofCombine_25 : decode cX6_ofCombine 25 = .ok (.bipush 7, 2) := by decide +kernel
theorem dX6_ofCombine_27 : decode cX6_ofCombine 27 = .ok (.invokestatic 30, 3) := by decide +kernel
theorem dX6_ofCombine_30 : decode cX6_ofCombine 30 = .ok (.ifCond .eq 13, 3) := by decide +kernel
theorem dX6_ofCombine_33 : decode cX6_ofCombine 33 = .ok (.new 41, 3) := by decide +kernel
theorem dX6_ofCombine_36 : decode cX6_ofCombine 36 = .ok (.dup, 1) := by decide +kernel
theorem dX6_ofCombine_37 : decode cX6_ofCombine 37 = .ok (.ldc 207, 2) := by decide +kernel
theorem dX6_ofCombine_39 : decode cX6_ofCombine 39 = .ok (.invokespecial 45, 3) := by decide +kernel
theorem dX6_ofCombine_42 : decode cX6_ofCombine 42 = .ok (.athrow, 1) := by decide +kernel
theorem dX6_ofCombine_43 : decode cX6_ofCombine 43 = .ok (.iload_n 2, 1) := by decide +kernel
theorem dX6_ofCombine_44 : decode cX6_ofCombine 44 = .ok (.tableswitch 98 0 6 #[44, 49, 54, 70, 75, 88, 93], 44) := by decide +kernel
theorem dX6_ofCombine_88 : decode cX6_ofCombine 88 = .ok (.aload_n 3, 1) := by decide +kernel
theorem dX6_ofCombine_89 : decode cX6_ofCombine 89 = .ok (.getfield 150, 3) := by decide +kernel
theorem dX6_ofCombine_92 : decode cX6_ofCombine 92 = .ok (.ireturn, 1) := by decide +kernel
theorem dX6_ofCombine_93 : decode cX6_ofCombine 93 = .ok (.aload_n 3, 1) := by decide +kernel
theorem dX6_ofCombine_94 : decode cX6_ofCombine 94 = .ok (.getfield 234, 3) := by decide +kernel
theorem dX6_ofCombine_97 : decode cX6_ofCombine 97 = .ok (.ireturn, 1) := by decide +kernel
theorem dX6_ofCombine_98 : decode cX6_ofCombine 98 = .ok (.aload_n 3, 1) := by decide +kernel
theorem dX6_ofCombine_99 : decode cX6_ofCombine 99 = .ok (.getfield 234, 3) := by decide +kernel
theorem dX6_ofCombine_102 : decode cX6_ofCombine 102 = .ok (.ifCond .le 10, 3) := by decide +kernel
theorem dX6_ofCombine_105 : decode cX6_ofCombine 105 = .ok (.aload_n 3, 1) := by decide +kernel
theorem dX6_ofCombine_106 : decode cX6_ofCombine 106 = .ok (.getfield 237, 3) := by decide +kernel
theorem dX6_ofCombine_109 : decode cX6_ofCombine 109 = .ok (.goto 4, 3) := by decide +kernel
theorem dX6_ofCombine_112 : decode cX6_ofCombine 112 = .ok (.iconst (-1), 1) := by decide +kernel
theorem dX6_ofCombine_113 : decode cX6_ofCombine 113 = .ok (.ireturn, 1) := by decide +kernel
theorem dX6_ofCombine_114 : decode cX6_ofCombine 114 = .ok (.aload_n 3, 1) := by decide +kernel
theorem dX6_ofCombine_115 : decode cX6_ofCombine 115 = .ok (.getfield 169, 3) := by decide +kernel
theorem dX6_ofCombine_118 : decode cX6_ofCombine 118 = .ok (.ireturn, 1) := by decide +kernel
theorem dX6_ofCombine_119 : decode cX6_ofCombine 119 = .ok (.aload_n 3, 1) := by decide +kernel
theorem dX6_ofCombine_120 : decode cX6_ofCombine 120 = .ok (.getfield 177, 3) := by decide +kernel
theorem dX6_ofCombine_123 : decode cX6_ofCombine 123 = .ok (.ifCond .eq 7, 3) := by decide +kernel
theorem dX6_ofCombine_126 : decode cX6_ofCombine 126 = .ok (.iconst 1, 1) := by decide +kernel
theorem dX6_ofCombine_127 : decode cX6_ofCombine 127 = .ok (.goto 4, 3) := by decide +kernel
theorem dX6_ofCombine_130 : decode cX6_ofCombine 130 = .ok (.iconst 0, 1) := by decide +kernel
theorem dX6_ofCombine_131 : decode cX6_ofCombine 131 = .ok (.ireturn, 1) := by decide +kernel
theorem dX6_ofCombine_132 : decode cX6_ofCombine 132 = .ok (.aload_n 3, 1) := by decide +kernel
theorem dX6_ofCombine_133 : decode cX6_ofCombine 133 = .ok (.getfield 131, 3) := by decide +kernel
theorem dX6_ofCombine_136 : decode cX6_ofCombine 136 = .ok (.ireturn, 1) := by decide +kernel
theorem dX6_ofCombine_137 : decode cX6_ofCombine 137 = .ok (.aload_n 3, 1) := by decide +kernel
theorem dX6_ofCombine_138 : decode cX6_ofCombine 138 = .ok (.getfield 240, 3) := by decide +kernel
theorem dX6_ofCombine_141 : decode cX6_ofCombine 141 = .ok (.ireturn, 1) := by decide +kernel
theorem dX6_ofCombine_142 : decode cX6_ofCombine 142 = .ok (.aload_n 3, 1) := by decide +kernel
theorem dX6_ofCombine_143 : decode cX6_ofCombine 143 = .ok (.getfield 241, 3) := by decide +kernel
theorem dX6_ofCombine_146 : decode cX6_ofCombine 146 = .ok (.ireturn, 1) := by decide +kernel
theorem dX6_ofTruck_0 : decode cX6_ofTruck 0 = .ok (.aload_n 0, 1) := by decide +kernel
theorem dX6_ofTruck_1 : decode cX6_ofTruck 1 = .ok (.getfield 12, 3) := by decide +kernel
theorem dX6_ofTruck_4 : decode cX6_ofTruck 4 = .ok (.iload_n 1, 1) := by decide +kernel
theorem dX6_ofTruck_5 : decode cX6_ofTruck 5 = .ok (.invokevirtual 138, 3) := by decide +kernel
theorem dX6_ofTruck_8 : decode cX6_ofTruck 8 = .ok (.astore_n 3, 1) := by decide +kernel
theorem dX6_ofTruck_9 : decode cX6_ofTruck 9 = .ok (.aload_n 3, 1) := by decide +kernel
theorem dX6_ofTruck_10 : decode cX6_ofTruck 10 = .ok (.ifnonnull 13, 3) := by decide +kernel
theorem dX6_ofTruck_13 : decode cX6_ofTruck 13 = .ok (.new 34, 3) := by decide +kernel
theorem dX6_ofTruck_16 : decode cX6_ofTruck 16 = .ok (.dup, 1) := by decide +kernel
theorem dX6_ofTruck_17 : decode cX6_ofTruck 17 = .ok (.ldc 142, 2) := by decide +kernel
theorem dX6_ofTruck_19 : decode cX6_ofTruck 19 = .ok (.invokespecial 38, 3) := by decide +kernel
theorem dX6_ofTruck_22 : decode cX6_ofTruck 22 = .ok (.athrow, 1) := by decide +kernel
theorem dX6_ofTruck_23 : decode cX6_ofTruck 23 = .ok (.iload_n 2, 1) := by decide +kernel
theorem dX6_ofTruck_24 : decode cX6_ofTruck 24 = .ok (.iconst 0, 1) := by decide +kernel
theorem dX6_ofTruck_25 : decode cX6_ofTruck 25 = .ok (.bipush 7, 2) := by decide +kernel
theorem dX6_ofTruck_27 : decode cX6_ofTruck 27 = .ok (.invokestatic 30, 3) := by decide +kernel
theorem dX6_ofTruck_30 : decode cX6_ofTruck 30 = .ok (.ifCond .eq 13, 3) := by decide +kernel
theorem dX6_ofTruck_33 : decode cX6_ofTruck 33 = .ok (.new 41, 3) := by decide +kernel
theorem dX6_ofTruck_36 : decode cX6_ofTruck 36 = .ok (.dup, 1) := by decide +kernel
theorem dX6_ofTruck_37 : decode cX6_ofTruck 37 = .ok (.ldc 207, 2) := by decide +kernel
theorem dX6_ofTruck_39 : decode cX6_ofTruck 39 = .ok (.invokespecial 45, 3) := by decide +kernel
theorem dX6_ofTruck_42 : decode cX6_ofTruck 42 = .ok (.athrow, 1) := by decide +kernel
theorem dX6_ofTruck_43 : decode cX6_ofTruck 43 = .ok (.iload_n 2, 1) := by decide +kernel
theorem dX6_ofTruck_44 : decode cX6_ofTruck 44 = .ok (.tableswitch 101 0 6 #[44, 49, 54, 70, 86, 91, 96], 44) := by decide +kernel
theorem dX6_ofTruck_88 : decode cX6_ofTruck 88 = .ok (.aload_n 3, 1) := by decide +kernel
theorem dX6_ofTruck_89 : decode cX6_ofTruck 89 = .ok (.getfield 153, 3) := by decide +kernel
theorem dX6_ofTruck_92 : decode cX6_ofTruck 92 = .ok (.ireturn, 1) := by decide +kernel
theorem dX6_ofTruck_93 : decode cX6_ofTruck 93 = .ok (.aload_n 3, 1) := by decide +kernel
theorem dX6_ofTruck_94 : decode cX6_ofTruck 94 = .ok (.getfield 244, 3) := by decide +kernel
theorem dX6_ofTruck_97 : decode cX6_ofTruck 97 = .ok (.ireturn, 1) := by decide +kernel
theorem dX6_ofTruck_98 : decode cX6_ofTruck 98 = .ok (.aload_n 3, 1) := by decide +kernel
theorem dX6_ofTruck_99 : decode cX6_ofTruck 99 = .ok (.getfield 244, 3) := by decide +kernel
theorem dX6_ofTruck_102 : decode cX6_ofTruck 102 = .ok (.ifCond .le 10, 3) := by decide +kernel
theorem dX6_ofTruck_105 : decode cX6_ofTruck 105 = .ok (.aload_n 3, 1) := by decide +kernel
theorem dX6_ofTruck_106 : decode cX6_ofTruck 106 = .ok (.getfield 247, 3) := by decide +kernel
theorem dX6_ofTruck_109 : decode cX6_ofTruck 109 = .ok (.goto 4, 3) := by decide +kernel
theorem dX6_ofTruck_112 : decode cX6_ofTruck 112 = .ok (.iconst (-1), 1) := by decide +kernel
theorem dX6_ofTruck_113 : decode cX6_ofTruck 113 = .ok (.ireturn, 1) := by decide +kernel
theorem dX6_ofTruck_114 : decode cX6_ofTruck 114 = .ok (.aload_n 3, 1) := by decide +kernel
theorem dX6_ofTruck_115 : decode cX6_ofTruck 115 = .ok (.getfield 244, 3) := by decide +kernel
theorem dX6_ofTruck_118 : decode cX6_ofTruck 118 = .ok (.ifCond .le 10, 3) := by decide +kernel
theorem dX6_ofTruck_121 : decode cX6_ofTruck 121 = .ok (.aload_n 3, 1) := by decide +kernel
theorem dX6_ofTruck_122 : decode cX6_ofTruck 122 = .ok (.getfield 250, 3) := by decide +kernel
theorem dX6_ofTruck_125 : decode cX6_ofTruck 125 = .ok (.goto 4, 3) := by decide +kernel
theorem dX6_ofTruck_128 : decode cX6_ofTruck 128 = .ok (.iconst 0, 1) := by decide +kernel
theorem dX6_ofTruck_129 : decode cX6_ofTruck 129 = .ok (.ireturn, 1) := by decide +kernel
theorem dX6_ofTruck_130 : decode cX6_ofTruck 130 = .ok (.aload_n 3, 1) := by decide +kernel
theorem dX6_ofTruck_131 : decode cX6_ofTruck 131 = .ok (.getfield 166, 3) := by decide +kernel
theorem dX6_ofTruck_134 : decode cX6_ofTruck 134 = .ok (.ireturn, 1) := by decide +kernel
theorem dX6_ofTruck_135 : decode cX6_ofTruck 135 = .ok (.aload_n 3, 1) := by decide +kernel
theorem dX6_ofTruck_136 : decode cX6_ofTruck 136 = .ok (.getfield 251, 3) := by decide +kernel
theorem dX6_ofTruck_139 : decode cX6_ofTruck 139 = .ok (.ireturn, 1) := by decide +kernel
theorem dX6_ofTruck_140 : decode cX6_ofTruck 140 = .ok (.aload_n 3, 1) := by decide +kernel
theorem dX6_ofTruck_141 : decode cX6_ofTruck 141 = .ok (.getfield 254, 3) := by decide +kernel
theorem dX6_ofTruck_144 : decode cX6_ofTruck 144 = .ok (.ireturn, 1) := by decide +kernel
theorem dX6_ofTruck_145 : decode cX6_ofTruck 145 = .ok (.aload_n 3, 1) := by decide +kernel
theorem dX6_ofTruck_146 : decode cX6_ofTruck 146 = .ok (.getfield 257, 3) := by decide +kernel
theorem dX6_ofTruck_149 : decode cX6_ofTruck 149 = .ok (.ireturn, 1) := by decide +kernel
theorem dX6_ofTicket_0 : decode cX6_ofTicket 0 = .ok (.aload_n 0, 1) := by decide +kernel
theorem dX6_ofTicket_1 : decode cX6_ofTicket 1 = .ok (.getfield 12, 3) := by decide +kernel
theorem dX6_ofTicket_4 : decode cX6_ofTicket 4 = .ok (.iload_n 1, 1) := by decide +kernel
theorem dX6_ofTicket_5 : decode cX6_ofTicket 5 = .ok (.invokevirtual 260, 3) := by decide +kernel
theorem dX6_ofTicket_8 : decode cX6_ofTicket 8 = .ok (.astore_n 3, 1) := by decide +kernel
theorem dX6_ofTicket_9 : decode cX6_ofTicket 9 = .ok (.aload_n 3, 1) := by decide +kernel
theorem dX6_ofTicket_10 : decode cX6_ofTicket 10 = .ok (.ifnonnull 14, 3) := by decide +kernel
theorem dX6_ofTicket_13 : decode cX6_ofTicket 13 = .ok (.new 34, 3) := by decide +kernel
theorem dX6_ofTicket_16 : decode cX6_ofTicket 16 = .ok (.dup, 1) := by decide +kernel
theorem dX6_ofTicket_17 : decode cX6_ofTicket 17 = .ok (.ldc_w 264, 3) := by decide +kernel
theorem dX6_ofTicket_20 : decode cX6_ofTicket 20 = .ok (.invokespecial 38, 3) := by decide +kernel
theorem dX6_ofTicket_23 : decode cX6_ofTicket 23 = .ok (.athrow, 1) := by decide +kernel
theorem dX6_ofTicket_24 : decode cX6_ofTicket 24 = .ok (.iload_n 2, 1) := by decide +kernel
theorem dX6_ofTicket_25 : decode cX6_ofTicket 25 = .ok (.iconst 0, 1) := by decide +kernel
theorem dX6_ofTicket_26 : decode cX6_ofTicket 26 = .ok (.bipush 6, 2) := by decide +kernel
theorem dX6_ofTicket_28 : decode cX6_ofTicket 28 = .ok (.invokestatic 30, 3) := by decide +kernel
theorem dX6_ofTicket_31 : decode cX6_ofTicket 31 = .ok (.ifCond .eq 13, 3) := by decide +kernel
theorem dX6_ofTicket_34 : decode cX6_ofTicket 34 = .ok (.new 41, 3) := by decide +kernel
theorem dX6_ofTicket_37 : decode cX6_ofTicket 37 = .ok (.dup, 1) := by decide +kernel
theorem dX6_ofTicket_38 : decode cX6_ofTicket 38 = .ok (.ldc 207, 2) := by decide +kernel
theorem dX6_ofTicket_40 : decode cX6_ofTicket 40 = .ok (.invokespecial 45, 3) := by decide +kernel
theorem dX6_ofTicket_43 : decode cX6_ofTicket 43 = .ok (.athrow, 1) := by decide +kernel
theorem dX6_ofTicket_44 : decode cX6_ofTicket 44 = .ok (.iload_n 2, 1) := by decide +kernel
theorem dX6_ofTicket_45 : decode cX6_ofTicket 45 = .ok (.tableswitch 69 0 5 #[39, 44, 49, 54, 59, 64], 39) := by decide +kernel
theorem dX6_ofTicket_84 : decode cX6_ofTicket 84 = .ok (.aload_n 3, 1) := by decide +kernel
theorem dX6_ofTicket_85 : decode cX6_ofTicket 85 = .ok (.getfield 266, 3) := by decide +kernel
theorem dX6_ofTicket_88 : decode cX6_ofTicket 88 = .ok (.ireturn, 1) := by decide +kernel
theorem dX6_ofTicket_89 : decode cX6_ofTicket 89 = .ok (.aload_n 3, 1) := by decide +kernel
theorem dX6_ofTicket_90 : decode cX6_ofTicket 90 = .ok (.getfield 271, 3) := by decide +kernel
theorem dX6_ofTicket_93 : decode cX6_ofTicket 93 = .ok (.ireturn, 1) := by decide +kernel
theorem dX6_ofTicket_94 : decode cX6_ofTicket 94 = .ok (.aload_n 3, 1) := by decide +kernel
theorem dX6_ofTicket_95 : decode cX6_ofTicket 95 = .ok (.getfield 274, 3) := by decide +kernel
theorem dX6_ofTicket_98 : decode cX6_ofTicket 98 = .ok (.ireturn, 1) := by decide +kernel
theorem dX6_ofTicket_99 : decode cX6_ofTicket 99 = .ok (.aload_n 3, 1) := by decide +kernel
theorem dX6_ofTicket_100 : decode cX6_ofTicket 100 = .ok (.getfield 275, 3) := by decide +kernel
theorem dX6_ofTicket_103 : decode cX6_ofTicket 103 = .ok (.ireturn, 1) := by decide +kernel
theorem dX6_ofTicket_104 : decode cX6_ofTicket 104 = .ok (.aload_n 3, 1) := by decide +kernel
theorem dX6_ofTicket_105 : decode cX6_ofTicket 105 = .ok (.getfield 278, 3) := by decide +kernel
theorem dX6_ofTicket_108 : decode cX6_ofTicket 108 = .ok (.ireturn, 1) := by decide +kernel
theorem dX6_ofTicket_109 : decode cX6_ofTicket 109 = .ok (.aload_n 3, 1) := by decide +kernel
theorem dX6_ofTicket_110 : decode cX6_ofTicket 110 = .ok (.getfield 281, 3) := by decide +kernel
theorem dX6_ofTicket_113 : decode cX6_ofTicket 113 = .ok (.ireturn, 1) := by decide +kernel
theorem dX6_ofTicket_114 : decode cX6_ofTicket 114 = .ok (.aload_n 3, 1) := by decide +kernel
theorem dX6_ofTicket_115 : decode cX6_ofTicket 115 = .ok (.getfield 284, 3) := by decide +kernel
theorem dX6_ofTicket_118 : decode cX6_ofTicket 118 = .ok (.ireturn, 1) := by decide +kernel
theorem dX6_owed_0 : decode cX6_owed 0 = .ok (.iload_n 1, 1) := by decide +kernel
theorem dX6_owed_1 : decode cX6_owed 1 = .ok (.iconst 0, 1) := by decide +kernel
theorem dX6_owed_2 : decode cX6_owed 2 = .ok (.iconst 3, 1) := by decide +kernel
theorem dX6_owed_3 : decode cX6_owed 3 = .ok (.invokestatic 30, 3) := by decide +kernel
theorem dX6_owed_6 : decode cX6_owed 6 = .ok (.ifCond .eq 13, 3) := by decide +kernel
theorem dX6_owed_9 : decode cX6_owed 9 = .ok (.new 34, 3) := by decide +kernel
theorem dX6_owed_12 : decode cX6_owed 12 = .ok (.dup, 1) := by decide +kernel
theorem dX6_owed_13 : decode cX6_owed 13 = .ok (.ldc 36, 2) := by decide +kernel
theorem dX6_owed_15 : decode cX6_owed 15 = .ok (.invokespecial 38, 3) := by decide +kernel
theorem dX6_owed_18 : decode cX6_owed 18 = .ok (.athrow, 1) := by decide +kernel
theorem dX6_owed_19 : decode cX6_owed 19 = .ok (.iconst 0, 1) := by decide +kernel
theorem dX6_owed_20 : decode cX6_owed 20 = .ok (.istore_n 3, 1) := by decide +kernel
theorem dX6_owed_21 : decode cX6_owed 21 = .ok (.iconst 0, 1) := by decide +kernel
theorem dX6_owed_22 : decode cX6_owed 22 = .ok (.istore 4, 2) := by decide +kernel
theorem dX6_owed_24 : decode cX6_owed 24 = .ok (.iload 4, 2) := by decide +kernel
theorem dX6_owed_26 : decode cX6_owed 26 = .ok (.aload_n 0, 1) := by decide +kernel
theorem dX6_owed_27 : decode cX6_owed 27 = .ok (.getfield 12, 3) := by decide +kernel
theorem dX6_owed_30 : decode cX6_owed 30 = .ok (.getfield 46, 3) := by decide +kernel
theorem dX6_owed_33 : decode cX6_owed 33 = .ok (.invokevirtual 50, 3) := by decide +kernel
theorem dX6_owed_36 : decode cX6_owed 36 = .ok (.if_icmp .ge 55, 3) := by decide +kernel
theorem dX6_owed_39 : decode cX6_owed 39 = .ok (.aload_n 0, 1) := by decide +kernel
theorem dX6_owed_40 : decode cX6_owed 40 = .ok (.getfield 12, 3) := by decide +kernel
theorem dX6_owed_43 : decode cX6_owed 43 = .ok (.getfield 46, 3) := by decide +kernel
theorem dX6_owed_46 : decode cX6_owed 46 = .ok (.iload 4, 2) := by decide +kernel
theorem dX6_owed_48 : decode cX6_owed 48 = .ok (.invokevirtual 287, 3) := by decide +kernel
theorem dX6_owed_51 : decode cX6_owed 51 = .ok (.checkcast 21, 3) := by decide +kernel
theorem dX6_owed_54 : decode cX6_owed 54 = .ok (.astore 5, 2) := by decide +kernel
theorem dX6_owed_56 : decode cX6_owed 56 = .ok (.aload 5, 2) := by decide +kernel
theorem dX6_owed_58 : decode cX6_owed 58 = .ok (.getfield 209, 3) := by decide +kernel
theorem dX6_owed_61 : decode cX6_owed 61 = .ok (.iload_n 1, 1) := by decide +kernel
theorem dX6_owed_62 : decode cX6_owed 62 = .ok (.if_icmp .ne 23, 3) := by decide +kernel
theorem dX6_owed_65 : decode cX6_owed 65 = .ok (.iload_n 3, 1) := by decide +kernel
theorem dX6_owed_66 : decode cX6_owed 66 = .ok (.iload_n 2, 1) := by decide +kernel
theorem dX6_owed_67 : decode cX6_owed 67 = .ok (.ifCond .eq 11, 3) := by decide +kernel
theorem dX6_owed_70 : decode cX6_owed 70 = .ok (.aload 5, 2) := by decide +kernel
theorem dX6_owed_72 : decode cX6_owed 72 = .ok (.getfield 291, 3) := by decide +kernel
theorem dX6_owed_75 : decode cX6_owed 75 = .ok (.goto 8, 3) := by decide +kernel
theorem dX6_owed_78 : decode cX6_owed 78 = .ok (.aload 5, 2) := by decide +kernel
theorem dX6_owed_80 : decode cX6_owed 80 = .ok (.getfield 294, 3) := by decide +kernel
theorem dX6_owed_83 : decode cX6_owed 83 = .ok (.iadd, 1) := by decide +kernel
theorem dX6_owed_84 : decode cX6_owed 84 = .ok (.istore_n 3, 1) := by decide +kernel
theorem dX6_owed_85 : decode cX6_owed 85 = .ok (.iinc 4 1, 3) := by decide +kernel
theorem dX6_owed_88 : decode cX6_owed 88 = .ok (.goto (-64), 3) := by decide +kernel
theorem dX6_owed_91 : decode cX6_owed 91 = .ok (.iload_n 3, 1) := by decide +kernel
theorem dX6_owed_92 : decode cX6_owed 92 = .ok (.ireturn, 1) := by decide +kernel
theorem dX6_many_0 : decode cX6_many 0 = .ok (.iload_n 1, 1) := by decide +kernel
theorem dX6_many_1 : decode cX6_many 1 = .ok (.iconst 0, 1) := by decide +kernel
theorem dX6_many_2 : decode cX6_many 2 = .ok (.bipush 12, 2) := by decide +kernel
theorem dX6_many_4 : decode cX6_many 4 = .ok (.invokestatic 30, 3) := by decide +kernel
theorem dX6_many_7 : decode cX6_many 7 = .ok (.ifCond .eq 13, 3) := by decide +kernel
theorem dX6_many_10 : decode cX6_many 10 = .ok (.new 41, 3) := by decide +kernel
theorem dX6_many_13 : decode cX6_many 13 = .ok (.dup, 1) := by decide +kernel
theorem dX6_many_14 : decode cX6_many 14 = .ok (.ldc 207, 2) := by decide +kernel
theorem dX6_many_16 : decode cX6_many 16 = .ok (.invokespecial 45, 3) := by decide +kernel
theorem dX6_many_19 : decode cX6_many 19 = .ok (.athrow, 1) := by decide +kernel
theorem dX6_many_20 : decode cX6_many 20 = .ok (.iload_n 1, 1) := by decide +kernel
theorem dX6_many_21 : decode cX6_many 21 = .ok (.tableswitch 174 0 11 #[63, 71, 82, 90, 101, 109, 120, 131, 142, 150, 158, 166], 63) := by decide +kernel
theorem dX6_many_84 : decode cX6_many 84 = .ok (.aload_n 0, 1) := by decide +kernel
theorem dX6_many_85 : decode cX6_many 85 = .ok (.getfield 12, 3) := by decide +kernel
theorem dX6_many_88 : decode cX6_many 88 = .ok (.getfield 196, 3) := by decide +kernel
theorem dX6_many_91 : decode cX6_many 91 = .ok (.ireturn, 1) := by decide +kernel
theorem dX6_many_92 : decode cX6_many 92 = .ok (.aload_n 0, 1) := by decide +kernel
theorem dX6_many_93 : decode cX6_many 93 = .ok (.getfield 12, 3) := by decide +kernel
theorem dX6_many_96 : decode cX6_many 96 = .ok (.getfield 46, 3) := by decide +kernel
theorem dX6_many_99 : decode cX6_many 99 = .ok (.invokevirtual 50, 3) := by decide +kernel
theorem dX6_many_102 : decode cX6_many 102 = .ok (.ireturn, 1) := by decide +kernel
theorem dX6_many_103 : decode cX6_many 103 = .ok (.aload_n 0, 1) := by decide +kernel
theorem dX6_many_104 : decode cX6_many 104 = .ok (.getfield 12, 3) := by decide +kernel
theorem dX6_many_107 : decode cX6_many 107 = .ok (.invokevirtual 297, 3) := by decide +kernel
theorem dX6_many_110 : decode cX6_many 110 = .ok (.ireturn, 1) := by decide +kernel
theorem dX6_many_111 : decode cX6_many 111 = .ok (.aload_n 0, 1) := by decide +kernel
theorem dX6_many_112 : decode cX6_many 112 = .ok (.getfield 12, 3) := by decide +kernel
theorem dX6_many_115 : decode cX6_many 115 = .ok (.getfield 82, 3) := by decide +kernel
theorem dX6_many_118 : decode cX6_many 118 = .ok (.invokevirtual 50, 3) := by decide +kernel
theorem dX6_many_121 : decode cX6_many 121 = .ok (.ireturn, 1) := by decide +kernel
theorem dX6_many_122 : decode cX6_many 122 = .ok (.aload_n 0, 1) := by decide +kernel
theorem dX6_many_123 : decode cX6_many 123 = .ok (.getfield 12, 3) := by decide +kernel
theorem dX6_many_126 : decode cX6_many 126 = .ok (.invokevirtual 300, 3) := by decide +kernel
theorem dX6_many_129 : decode cX6_many 129 = .ok (.ireturn, 1) := by decide +kernel
theorem dX6_many_130 : decode cX6_many 130 = .ok (.aload_n 0, 1) := by decide +kernel
theorem dX6_many_131 : decode cX6_many 131 = .ok (.getfield 12, 3) := by decide +kernel
theorem dX6_many_134 : decode cX6_many 134 = .ok (.getfield 94, 3) := by decide +kernel
theorem dX6_many_137 : decode cX6_many 137 = .ok (.invokevirtual 50, 3) := by decide +kernel
theorem dX6_many_140 : decode cX6_many 140 = .ok (.ireturn, 1) := by decide +kernel
theorem dX6_many_141 : decode cX6_many 141 = .ok (.aload_n 0, 1) := by decide +kernel
theorem dX6_many_142 : decode cX6_many 142 = .ok (.getfield 12, 3) := by decide +kernel
theorem dX6_many_145 : decode cX6_many 145 = .ok (.getfield 110, 3) := by decide +kernel
theorem dX6_many_148 : decode cX6_many 148 = .ok (.invokevirtual 50, 3) := by decide +kernel
theorem dX6_many_151 : decode cX6_many 151 = .ok (.ireturn, 1) := by decide +kernel
theorem dX6_many_152 : decode cX6_many 152 = .ok (.aload_n 0, 1) := by decide +kernel
theorem dX6_many_153 : decode cX6_many 153 = .ok (.getfield 12, 3) := by decide +kernel
theorem dX6_many_156 : decode cX6_many 156 = .ok (.getfield 201, 3) := by decide +kernel
theorem dX6_many_159 : decode cX6_many 159 = .ok (.invokevirtual 50, 3) := by decide +kernel
theorem dX6_many_162 : decode cX6_many 162 = .ok (.ireturn, 1) := by decide +kernel
theorem dX6_many_163 : decode cX6_many 163 = .ok (.aload_n 0, 1) := by decide +kernel
theorem dX6_many_164 : decode cX6_many 164 = .ok (.getfield 12, 3) := by decide +kernel
theorem dX6_many_167 : decode cX6_many 167 = .ok (.getfield 172, 3) := by decide +kernel
theorem dX6_many_170 : decode cX6_many 170 = .ok (.ireturn, 1) := by decide +kernel
theorem dX6_many_171 : decode cX6_many 171 = .ok (.aload_n 0, 1) := by decide +kernel
theorem dX6_many_172 : decode cX6_many 172 = .ok (.getfield 12, 3) := by decide +kernel
theorem dX6_many_175 : decode cX6_many 175 = .ok (.invokevirtual 303, 3) := by decide +kernel
theorem dX6_many_178 : decode cX6_many 178 = .ok (.ireturn, 1) := by decide +kernel
theorem dX6_many_179 : decode cX6_many 179 = .ok (.aload_n 0, 1) := by decide +kernel
theorem dX6_many_180 : decode cX6_many 180 = .ok (.getfield 12, 3) := by decide +kernel
theorem dX6_many_183 : decode cX6_many 183 = .ok (.invokevirtual 306, 3) := by decide +kernel
theorem dX6_many_186 : decode cX6_many 186 = .ok (.ireturn, 1) := by decide +kernel
theorem dX6_many_187 : decode cX6_many 187 = .ok (.aload_n 0, 1) := by decide +kernel
theorem dX6_many_188 : decode cX6_many 188 = .ok (.getfield 12, 3) := by decide +kernel
theorem dX6_many_191 : decode cX6_many 191 = .ok (.invokevirtual 309, 3) := by decide +kernel
theorem dX6_many_194 : decode cX6_many 194 = .ok (.ireturn, 1) := by decide +kernel
theorem dX6_many_195 : decode cX6_many 195 = .ok (.aload_n 0, 1) := by decide +kernel
theorem dX6_many_196 : decode cX6_many 196 = .ok (.getfield 12, 3) := by decide +kernel
theorem dX6_many_199 : decode cX6_many 199 = .ok (.invokevirtual 312, 3) := by decide +kernel
theorem dX6_many_202 : decode cX6_many 202 = .ok (.ireturn, 1) := by decide +kernel
theorem dX6_meanDamp_0 : decode cX6_meanDamp 0 = .ok (.aload_n 0, 1) := by decide +kernel
theorem dX6_meanDamp_1 : decode cX6_meanDamp 1 = .ok (.getfield 12, 3) := by decide +kernel
theorem dX6_meanDamp_4 : decode cX6_meanDamp 4 = .ok (.invokevirtual 297, 3) := by decide +kernel
theorem dX6_meanDamp_7 : decode cX6_meanDamp 7 = .ok (.istore_n 1, 1) := by decide +kernel
theorem dX6_meanDamp_8 : decode cX6_meanDamp 8 = .ok (.iload_n 1, 1) := by decide +kernel
theorem dX6_meanDamp_9 : decode cX6_meanDamp 9 = .ok (.ifCond .ne 5, 3) := by decide +kernel
theorem dX6_meanDamp_12 : decode cX6_meanDamp 12 = .ok (.dconst 0, 1) := by decide +kernel
theorem dX6_meanDamp_13 : decode cX6_meanDamp 13 = .ok (.dreturn, 1) := by decide +kernel
theorem dX6_meanDamp_14 : decode cX6_meanDamp 14 = .ok (.iconst 0, 1) := by decide +kernel
theorem dX6_meanDamp_15 : decode cX6_meanDamp 15 = .ok (.istore_n 2, 1) := by decide +kernel
theorem dX6_meanDamp_16 : decode cX6_meanDamp 16 = .ok (.iconst 0, 1) := by decide +kernel
theorem dX6_meanDamp_17 : decode cX6_meanDamp 17 = .ok (.istore_n 3, 1) := by decide +kernel
theorem dX6_meanDamp_18 : decode cX6_meanDamp 18 = .ok (.iload_n 3, 1) := by decide +kernel
theorem dX6_meanDamp_19 : decode cX6_meanDamp 19 = .ok (.aload_n 0, 1) := by decide +kernel
theorem dX6_meanDamp_20 : decode cX6_meanDamp 20 = .ok (.getfield 12, 3) := by decide +kernel
theorem dX6_meanDamp_23 : decode cX6_meanDamp 23 = .ok (.getfield 46, 3) := by decide +kernel
theorem dX6_meanDamp_26 : decode cX6_meanDamp 26 = .ok (.invokevirtual 50, 3) := by decide +kernel
theorem dX6_meanDamp_29 : decode cX6_meanDamp 29 = .ok (.if_icmp .ge 39, 3) := by decide +kernel
theorem dX6_meanDamp_32 : decode cX6_meanDamp 32 = .ok (.aload_n 0, 1) := by decide +kernel
theorem dX6_meanDamp_33 : decode cX6_meanDamp 33 = .ok (.getfield 12, 3) := by decide +kernel
theorem dX6_meanDamp_36 : decode cX6_meanDamp 36 = .ok (.getfield 46, 3) := by decide +kernel
theorem dX6_meanDamp_39 : decode cX6_meanDamp 39 = .ok (.iload_n 3, 1) := by decide +kernel
theorem dX6_meanDamp_40 : decode cX6_meanDamp 40 = .ok (.invokevirtual 287, 3) := by decide +kernel
theorem dX6_meanDamp_43 : decode cX6_meanDamp 43 = .ok (.checkcast 21, 3) := by decide +kernel
theorem dX6_meanDamp_46 : decode cX6_meanDamp 46 = .ok (.astore 4, 2) := by decide +kernel
theorem dX6_meanDamp_48 : decode cX6_meanDamp 48 = .ok (.iload_n 2, 1) := by decide +kernel
theorem dX6_meanDamp_49 : decode cX6_meanDamp 49 = .ok (.aload 4, 2) := by decide +kernel
theorem dX6_meanDamp_51 : decode cX6_meanDamp 51 = .ok (.getfield 77, 3) := by decide +kernel
theorem dX6_meanDamp_54 : decode cX6_meanDamp 54 = .ok (.aload 4, 2) := by decide +kernel
theorem dX6_meanDamp_56 : decode cX6_meanDamp 56 = .ok (.invokevirtual 315, 3) := by decide +kernel
theorem dX6_meanDamp_59 : decode cX6_meanDamp 59 = .ok (.imul, 1) := by decide +kernel
theorem dX6_meanDamp_60 : decode cX6_meanDamp 60 = .ok (.iadd, 1) := by decide +kernel
theorem dX6_meanDamp_61 : decode cX6_meanDamp 61 = .ok (.istore_n 2, 1) := by decide +kernel
theorem dX6_meanDamp_62 : decode cX6_meanDamp 62 = .ok (.iinc 3 1, 3) := by decide +kernel
theorem dX6_meanDamp_65 : decode cX6_meanDamp 65 = .ok (.goto (-47), 3) := by decide +kernel
theorem dX6_meanDamp_68 : decode cX6_meanDamp 68 = .ok (.iload_n 2, 1) := by decide +kernel
theorem dX6_meanDamp_69 : decode cX6_meanDamp 69 = .ok (.i2d, 1) := by decide +kernel
theorem dX6_meanDamp_70 : decode cX6_meanDamp 70 = .ok (.iload_n 1, 1) := by decide +kernel
theorem dX6_meanDamp_71 : decode cX6_meanDamp 71 = .ok (.i2d, 1) := by decide +kernel
theorem dX6_meanDamp_72 : decode cX6_meanDamp 72 = .ok (.ddiv, 1) := by decide +kernel
theorem dX6_meanDamp_73 : decode cX6_meanDamp 73 = .ok (.dreturn, 1) := by decide +kernel
theorem dX6_readyIn_0 : decode cX6_readyIn 0 = .ok (.aload_n 0, 1) := by decide +kernel
theorem dX6_readyIn_1 : decode cX6_readyIn 1 = .ok (.getfield 12, 3) := by decide +kernel
theorem dX6_readyIn_4 : decode cX6_readyIn 4 = .ok (.iload_n 1, 1) := by decide +kernel
theorem dX6_readyIn_5 : decode cX6_readyIn 5 = .ok (.invokevirtual 65, 3) := by decide +kernel
theorem dX6_readyIn_8 : decode cX6_readyIn 8 = .ok (.astore 4, 2) := by decide +kernel
theorem dX6_readyIn_10 : decode cX6_readyIn 10 = .ok (.aload 4, 2) := by decide +kernel
theorem dX6_readyIn_12 : decode cX6_readyIn 12 = .ok (.ifnonnull 13, 3) := by decide +kernel
theorem dX6_readyIn_15 : decode cX6_readyIn 15 = .ok (.new 34, 3) := by decide +kernel
theorem dX6_readyIn_18 : decode cX6_readyIn 18 = .ok (.dup, 1) := by decide +kernel
theorem dX6_readyIn_19 : decode cX6_readyIn 19 = .ok (.ldc 69, 2) := by decide +kernel
theorem dX6_readyIn_21 : decode cX6_readyIn 21 = .ok (.invokespecial 38, 3) := by decide +kernel
theorem dX6_readyIn_24 : decode cX6_readyIn 24 = .ok (.athrow, 1) := by decide +kernel
theorem dX6_readyIn_25 : decode cX6_readyIn 25 = .ok (.iload_n 2, 1) := by decide +kernel
theorem dX6_readyIn_26 : decode cX6_readyIn 26 = .ok (.iload_n 3, 1) := by decide +kernel
theorem dX6_readyIn_27 : decode cX6_readyIn 27 = .ok (.iconst 0, 1) := by decide +kernel
theorem dX6_readyIn_28 : decode cX6_readyIn 28 = .ok (.invokestatic 318, 3) := by decide +kernel
theorem dX6_readyIn_31 : decode cX6_readyIn 31 = .ok (.ifCond .eq 14, 3) := by decide +kernel
theorem dX6_readyIn_34 : decode cX6_readyIn 34 = .ok (.new 41, 3) := by decide +kernel
theorem dX6_readyIn_37 : decode cX6_readyIn 37 = .ok (.dup, 1) := by decide +kernel
theorem dX6_readyIn_38 : decode cX6_readyIn 38 = .ok (.ldc_w 321, 3) := by decide +kernel
theorem dX6_readyIn_41 : decode cX6_readyIn 41 = .ok (.invokespecial 45, 3) := by decide +kernel
theorem dX6_readyIn_44 : decode cX6_readyIn 44 = .ok (.athrow, 1) := by decide +kernel
theorem dX6_readyIn_45 : decode cX6_readyIn 45 = .ok (.aload_n 0, 1) := by decide +kernel
theorem dX6_readyIn_46 : decode cX6_readyIn 46 = .ok (.getfield 26, 3) := by decide +kernel
theorem dX6_readyIn_49 : decode cX6_readyIn 49 = .ok (.aload 4, 2) := by decide +kernel
theorem dX6_readyIn_51 : decode cX6_readyIn 51 = .ok (.invokevirtual 323, 3) := by decide +kernel
theorem dX6_readyIn_54 : decode cX6_readyIn 54 = .ok (.aload_n 0, 1) := by decide +kernel
theorem dX6_readyIn_55 : decode cX6_readyIn 55 = .ok (.getfield 26, 3) := by decide +kernel
theorem dX6_readyIn_58 : decode cX6_readyIn 58 = .ok (.aload_n 0, 1) := by decide +kernel
theorem dX6_readyIn_59 : decode cX6_readyIn 59 = .ok (.getfield 12, 3) := by decide +kernel
theorem dX6_readyIn_62 : decode cX6_readyIn 62 = .ok (.invokevirtual 327, 3) := by decide +kernel
theorem dX6_readyIn_65 : decode cX6_readyIn 65 = .ok (.invokevirtual 330, 3) := by decide +kernel
theorem dX6_readyIn_68 : decode cX6_readyIn 68 = .ok (.ifCond .eq 5, 3) := by decide +kernel
theorem dX6_readyIn_71 : decode cX6_readyIn 71 = .ok (.iconst 0, 1) := by decide +kernel
theorem dX6_readyIn_72 : decode cX6_readyIn 72 = .ok (.ireturn, 1) := by decide +kernel
theorem dX6_readyIn_73 : decode cX6_readyIn 73 = .ok (.iconst 1, 1) := by decide +kernel
theorem dX6_readyIn_74 : decode cX6_readyIn 74 = .ok (.istore 5, 2) := by decide +kernel
theorem dX6_readyIn_76 : decode cX6_readyIn 76 = .ok (.iload 5, 2) := by decide +kernel
theorem dX6_readyIn_78 : decode cX6_readyIn 78 = .ok (.bipush 96, 2) := by decide +kernel
theorem dX6_readyIn_80 : decode cX6_readyIn 80 = .ok (.if_icmp .gt 51, 3) := by decide +kernel
theorem dX6_readyIn_83 : decode cX6_readyIn 83 = .ok (.aload_n 0, 1) := by decide +kernel
theorem dX6_readyIn_84 : decode cX6_readyIn 84 = .ok (.getfield 12, 3) := by decide +kernel
theorem dX6_readyIn_87 : decode cX6_readyIn 87 = .ok (.getfield 196, 3) := by decide +kernel
theorem dX6_readyIn_90 : decode cX6_readyIn 90 = .ok (.iload 5, 2) := by decide +kernel
theorem dX6_readyIn_92 : decode cX6_readyIn 92 = .ok (.iadd, 1) := by decide +kernel
theorem dX6_readyIn_93 : decode cX6_readyIn 93 = .ok (.bipush 24, 2) := by decide +kernel
theorem dX6_readyIn_95 : decode cX6_readyIn 95 = .ok (.irem, 1) := by decide +kernel
theorem dX6_readyIn_96 : decode cX6_readyIn 96 = .ok (.istore 6, 2) := by decide +kernel
theorem dX6_readyIn_98 : decode cX6_readyIn 98 = .ok (.aload_n 0, 1) := by decide +kernel
theorem dX6_readyIn_99 : decode cX6_readyIn 99 = .ok (.getfield 26, 3) := by decide +kernel
theorem dX6_readyIn_102 : decode cX6_readyIn 102 = .ok (.iload 6, 2) := by decide +kernel
theorem dX6_readyIn_104 : decode cX6_readyIn 104 = .ok (.iload_n 2, 1) := by decide +kernel
theorem dX6_readyIn_105 : decode cX6_readyIn 105 = .ok (.iload_n 3, 1) := by decide +kernel
theorem dX6_readyIn_106 : decode cX6_readyIn 106 = .ok (.iconst 0, 1) := by decide +kernel
theorem dX6_readyIn_107 : decode cX6_readyIn 107 = .ok (.invokevirtual 334, 3) := by decide +kernel
theorem dX6_readyIn_110 : decode cX6_readyIn 110 = .ok (.aload_n 0, 1) := by decide +kernel
theorem dX6_readyIn_111 : decode cX6_readyIn 111 = .ok (.getfield 26, 3) := by decide +kernel
theorem dX6_readyIn_114 : decode cX6_readyIn 114 = .ok (.iload 6, 2) := by decide +kernel
theorem dX6_readyIn_116 : decode cX6_readyIn 116 = .ok (.invokevirtual 330, 3) := by decide +kernel
theorem dX6_readyIn_119 : decode cX6_readyIn 119 = .ok (.ifCond .eq 6, 3) := by decide +kernel
theorem dX6_readyIn_122 : decode cX6_readyIn 122 = .ok (.iload 5, 2) := by decide +kernel
theorem dX6_readyIn_124 : decode cX6_readyIn 124 = .ok (.ireturn, 1) := by decide +kernel
theorem dX6_readyIn_125 : decode cX6_readyIn 125 = .ok (.iinc 5 1, 3) := by decide +kernel
theorem dX6_readyIn_128 : decode cX6_readyIn 128 = .ok (.goto (-52), 3) := by decide +kernel
theorem dX6_readyIn_131 : decode cX6_readyIn 131 = .ok (.iconst (-1), 1) := by decide +kernel
theorem dX6_readyIn_132 : decode cX6_readyIn 132 = .ok (.ireturn, 1) := by decide +kernel
theorem dX6_nextField_0 : decode cX6_nextField 0 = .ok (.aload_n 0, 1) := by decide +kernel
theorem dX6_nextField_1 : decode cX6_nextField 1 = .ok (.getfield 12, 3) := by decide +kernel
theorem dX6_nextField_4 : decode cX6_nextField 4 = .ok (.iload_n 1, 1) := by decide +kernel
theorem dX6_nextField_5 : decode cX6_nextField 5 = .ok (.invokevirtual 125, 3) := by decide +kernel
theorem dX6_nextField_8 : decode cX6_nextField 8 = .ok (.astore 5, 2) := by decide +kernel
theorem dX6_nextField_10 : decode cX6_nextField 10 = .ok (.aload 5, 2) := by decide +kernel
theorem dX6_nextField_12 : decode cX6_nextField 12 = .ok (.ifnonnull 13, 3) := by decide +kernel
theorem dX6_nextField_15 : decode cX6_nextField 15 = .ok (.new 34, 3) := by decide +kernel
theorem dX6_nextField_18 : decode cX6_nextField 18 = .ok (.dup, 1) := by decide +kernel
theorem dX6_nextField_19 : decode cX6_nextField 19 = .ok (.ldc 129, 2) := by decide +kernel
theorem dX6_nextField_21 : decode cX6_nextField 21 = .ok (.invokespecial 38, 3) := by decide +kernel
theorem dX6_nextField_24 : decode cX6_nextField 24 = .ok (.athrow, 1) := by decide +kernel
theorem dX6_nextField_25 : decode cX6_nextField 25 = .ok (.iload_n 2, 1) := by decide +kernel
theorem dX6_nextField_26 : decode cX6_nextField 26 = .ok (.iload_n 3, 1) := by decide +kernel
theorem dX6_nextField_27 : decode cX6_nextField 27 = .ok (.iload 4, 2) := by decide +kernel
theorem dX6_nextField_29 : decode cX6_nextField 29 = .ok (.iconst 0, 1) := by decide +kernel
theorem dX6_nextField_30 : decode cX6_nextField 30 = .ok (.invokestatic 190, 3) := by decide +kernel
theorem dX6_nextField_33 : decode cX6_nextField 33 = .ok (.ifCond .eq 14, 3) := by decide +kernel
theorem dX6_nextField_36 : decode cX6_nextField 36 = .ok (.new 41, 3) := by decide +kernel
theorem dX6_nextField_39 : decode cX6_nextField 39 = .ok (.dup, 1) := by decide +kernel
theorem dX6_nextField_40 : decode cX6_nextField 40 = .ok (.ldc_w 337, 3) := by decide +kernel
theorem dX6_nextField_43 : decode cX6_nextField 43 = .ok (.invokespecial 45, 3) := by decide +kernel
theorem dX6_nextField_46 : decode cX6_nextField 46 = .ok (.athrow, 1) := by decide +kernel
theorem dX6_nextField_47 : decode cX6_nextField 47 = .ok (.iconst (-1), 1) := by decide +kernel
theorem dX6_nextField_48 : decode cX6_nextField 48 = .ok (.istore 6, 2) := by decide +kernel
theorem dX6_nextField_50 : decode cX6_nextField 50 = .ok (.iconst 0, 1) := by decide +kernel
theorem dX6_nextField_51 : decode cX6_nextField 51 = .ok (.istore 7, 2) := by decide +kernel
theorem dX6_nextField_53 : decode cX6_nextField 53 = .ok (.iconst 0, 1) := by decide +kernel
theorem dX6_nextField_54 : decode cX6_nextField 54 = .ok (.istore 8, 2) := by decide +kernel
theorem dX6_nextField_56 : decode cX6_nextField 56 = .ok (.iload 8, 2) := by decide +kernel
theorem dX6_nextField_58 : decode cX6_nextField 58 = .ok (.aload_n 0, 1) := by decide +kernel
theorem dX6_nextField_59 : decode cX6_nextField 59 = .ok (.getfield 12, 3) := by decide +kernel
theorem dX6_nextField_62 : decode cX6_nextField 62 = .ok (.getfield 46, 3) := by decide +kernel
theorem dX6_nextField_65 : decode cX6_nextField 65 = .ok (.invokevirtual 50, 3) := by decide +kernel
theorem dX6_nextField_68 : decode cX6_nextField 68 = .ok (.if_icmp .ge 92, 3) := by decide +kernel
theorem dX6_nextField_71 : decode cX6_nextField 71 = .ok (.aload_n 0, 1) := by decide +kernel
theorem dX6_nextField_72 : decode cX6_nextField 72 = .ok (.getfield 12, 3) := by decide +kernel
theorem dX6_nextField_75 : decode cX6_nextField 75 = .ok (.getfield 46, 3) := by decide +kernel
theorem dX6_nextField_78 : decode cX6_nextField 78 = .ok (.iload 8, 2) := by decide +kernel
theorem dX6_nextField_80 : decode cX6_nextField 80 = .ok (.invokevirtual 287, 3) := by decide +kernel
theorem dX6_nextField_83 : decode cX6_nextField 83 = .ok (.checkcast 21, 3) := by decide +kernel
theorem dX6_nextField_86 : decode cX6_nextField 86 = .ok (.invokevirtual 315, 3) := by decide +kernel
theorem dX6_nextField_89 : decode cX6_nextField 89 = .ok (.ifCond .le 65, 3) := by decide +kernel
theorem dX6_nextField_92 : decode cX6_nextField 92 = .ok (.aload_n 0, 1) := by decide +kernel
theorem dX6_nextField_93 : decode cX6_nextField 93 = .ok (.iload_n 1, 1) := by decide +kernel
theorem dX6_nextField_94 : decode cX6_nextField 94 = .ok (.iload 8, 2) := by decide +kernel
theorem dX6_nextField_96 : decode cX6_nextField 96 = .ok (.iload_n 2, 1) := by decide +kernel
theorem dX6_nextField_97 : decode cX6_nextField 97 = .ok (.iload_n 3, 1) := by decide +kernel
theorem dX6_nextField_98 : decode cX6_nextField 98 = .ok (.iload 4, 2) := by decide +kernel
theorem dX6_nextField_100 : decode cX6_nextField 100 = .ok (.invokevirtual 339, 3) := by decide +kernel
theorem dX6_nextField_103 : decode cX6_nextField 103 = .ok (.istore 9, 2) := by decide +kernel
theorem dX6_nextField_105 : decode cX6_nextField 105 = .ok (.iload 9, 2) := by decide +kernel
theorem dX6_nextField_107 : decode cX6_nextField 107 = .ok (.iload 7, 2) := by decide +kernel
theorem dX6_nextField_109 : decode cX6_nextField 109 = .ok (.if_icmp .ne 22, 3) := by decide +kernel
theorem dX6_nextField_112 : decode cX6_nextField 112 = .ok (.iload 9, 2) := by decide +kernel
theorem dX6_nextField_114 : decode cX6_nextField 114 = .ok (.ifCond .le 17, 3) := by decide +kernel
theorem dX6_nextField_117 : decode cX6_nextField 117 = .ok (.iload 8, 2) := by decide +kernel
theorem dX6_nextField_119 : decode cX6_nextField 119 = .ok (.aload 5, 2) := by decide +kernel
theorem dX6_nextField_121 : decode cX6_nextField 121 = .ok (.getfield 131, 3) := by decide +kernel
theorem dX6_nextField_124 : decode cX6_nextField 124 = .ok (.if_icmp .ne 7, 3) := by decide +kernel
theorem dX6_nextField_127 : decode cX6_nextField 127 = .ok (.iconst 1, 1) := by decide +kernel
theorem dX6_nextField_128 : decode cX6_nextField 128 = .ok (.goto 4, 3) := by decide +kernel
theorem dX6_nextField_131 : decode cX6_nextField 131 = .ok (.iconst 0, 1) := by decide +kernel
theorem dX6_nextField_132 : decode cX6_nextField 132 = .ok (.istore 10, 2) := by decide +kernel
theorem dX6_nextField_134 : decode cX6_nextField 134 = .ok (.iload 9, 2) := by decide +kernel
theorem dX6_nextField_136 : decode cX6_nextField 136 = .ok (.iload 7, 2) := by decide +kernel
theorem dX6_nextField_138 : decode cX6_nextField 138 = .ok (.if_icmp .gt 8, 3) := by decide +kernel
theorem dX6_nextField_141 : decode cX6_nextField 141 = .ok (.iload 10, 2) := by decide +kernel
theorem dX6_nextField_143 : decode cX6_nextField 143 = .ok (.ifCond .eq 11, 3) := by decide +kernel
theorem dX6_nextField_146 : decode cX6_nextField 146 = .ok (.iload 8, 2) := by decide +kernel
theorem dX6_nextField_148 : decode cX6_nextField 148 = .ok (.istore 6, 2) := by decide +kernel
theorem dX6_nextField_150 : decode cX6_nextField 150 = .ok (.iload 9, 2) := by decide +kernel
theorem dX6_nextField_152 : decode cX6_nextField 152 = .ok (.istore 7, 2) := by decide +kernel
theorem dX6_nextField_154 : decode cX6_nextField 154 = .ok (.iinc 8 1, 3) := by decide +kernel
theorem dX6_nextField_157 : decode cX6_nextField 157 = .ok (.goto (-101), 3) := by decide +kernel
theorem dX6_nextField_160 : decode cX6_nextField 160 = .ok (.iload 6, 2) := by decide +kernel
theorem dX6_nextField_162 : decode cX6_nextField 162 = .ok (.ireturn, 1) := by decide +kernel
theorem dX6_waiting_0 : decode cX6_waiting 0 = .ok (.aload_n 0, 1) := by decide +kernel
theorem dX6_waiting_1 : decode cX6_waiting 1 = .ok (.getfield 12, 3) := by decide +kernel
theorem dX6_waiting_4 : decode cX6_waiting 4 = .ok (.iload_n 1, 1) := by decide +kernel
theorem dX6_waiting_5 : decode cX6_waiting 5 = .ok (.invokevirtual 65, 3) := by decide +kernel
theorem dX6_waiting_8 : decode cX6_waiting 8 = .ok (.astore 6, 2) := by decide +kernel
theorem dX6_waiting_10 : decode cX6_waiting 10 = .ok (.aload 6, 2) := by decide +kernel
theorem dX6_waiting_12 : decode cX6_waiting 12 = .ok (.ifnonnull 13, 3) := by decide +kernel
theorem dX6_waiting_15 : decode cX6_waiting 15 = .ok (.new 34, 3) := by decide +kernel
theorem dX6_waiting_18 : decode cX6_waiting 18 = .ok (.dup, 1) := by decide +kernel
theorem dX6_waiting_19 : decode cX6_waiting 19 = .ok (.ldc 69, 2) := by decide +kernel
theorem dX6_waiting_21 : decode cX6_waiting 21 = .ok (.invokespecial 38, 3) := by decide +kernel
theorem dX6_waiting_24 : decode cX6_waiting 24 = .ok (.athrow, 1) := by decide +kernel
theorem dX6_waiting_25 : decode cX6_waiting 25 = .ok (.iload_n 2, 1) := by decide +kernel
theorem dX6_waiting_26 : decode cX6_waiting 26 = .ok (.iload_n 3, 1) := by decide +kernel
theorem dX6_waiting_27 : decode cX6_waiting 27 = .ok (.iload 4, 2) := by decide +kernel
theorem dX6_waiting_29 : decode cX6_waiting 29 = .ok (.iload 5, 2) := by decide +kernel
theorem dX6_waiting_31 : decode cX6_waiting 31 = .ok (.invokestatic 190, 3) := by decide +kernel
theorem dX6_waiting_34 : decode cX6_waiting 34 = .ok (.ifCond .eq 13, 3) := by decide +kernel
theorem dX6_waiting_37 : decode cX6_waiting 37 = .ok (.new 41, 3) := by decide +kernel
theorem dX6_waiting_40 : decode cX6_waiting 40 = .ok (.dup, 1) := by decide +kernel
theorem dX6_waiting_41 : decode cX6_waiting 41 = .ok (.ldc 194, 2) := by decide +kernel
theorem dX6_waiting_43 : decode cX6_waiting 43 = .ok (.invokespecial 45, 3) := by decide +kernel
theorem dX6_waiting_46 : decode cX6_waiting 46 = .ok (.athrow, 1) := by decide +kernel
theorem dX6_waiting_47 : decode cX6_waiting 47 = .ok (.aload_n 0, 1) := by decide +kernel
theorem dX6_waiting_48 : decode cX6_waiting 48 = .ok (.getfield 26, 3) := by decide +kernel
theorem dX6_waiting_51 : decode cX6_waiting 51 = .ok (.aload 6, 2) := by decide +kernel
theorem dX6_waiting_53 : decode cX6_waiting 53 = .ok (.invokevirtual 323, 3) := by decide +kernel
theorem dX6_waiting_56 : decode cX6_waiting 56 = .ok (.iconst 1, 1) := by decide +kernel
theorem dX6_waiting_57 : decode cX6_waiting 57 = .ok (.istore 7, 2) := by decide +kernel
theorem dX6_waiting_59 : decode cX6_waiting 59 = .ok (.iload 7, 2) := by decide +kernel
theorem dX6_waiting_61 : decode cX6_waiting 61 = .ok (.iload_n 2, 1) := by decide +kernel
theorem dX6_waiting_62 : decode cX6_waiting 62 = .ok (.if_icmp .gt 34, 3) := by decide +kernel
theorem dX6_waiting_65 : decode cX6_waiting 65 = .ok (.aload_n 0, 1) := by decide +kernel
theorem dX6_waiting_66 : decode cX6_waiting 66 = .ok (.getfield 26, 3) := by decide +kernel
theorem dX6_waiting_69 : decode cX6_waiting 69 = .ok (.aload_n 0, 1) := by decide +kernel
theorem dX6_waiting_70 : decode cX6_waiting 70 = .ok (.getfield 12, 3) := by decide +kernel
theorem dX6_waiting_73 : decode cX6_waiting 73 = .ok (.getfield 196, 3) := by decide +kernel
theorem dX6_waiting_76 : decode cX6_waiting 76 = .ok (.iload 7, 2) := by decide +kernel
theorem dX6_waiting_78 : decode cX6_waiting 78 = .ok (.iadd, 1) := by decide +kernel
theorem dX6_waiting_79 : decode cX6_waiting 79 = .ok (.bipush 24, 2) := by decide +kernel
theorem dX6_waiting_81 : decode cX6_waiting 81 = .ok (.irem, 1) := by decide +kernel
theorem dX6_waiting_82 : decode cX6_waiting 82 = .ok (.iload_n 3, 1) := by decide +kernel
theorem dX6_waiting_83 : decode cX6_waiting 83 = .ok (.iload 4, 2) := by decide +kernel
theorem dX6_waiting_85 : decode cX6_waiting 85 = .ok (.iload 5, 2) := by decide +kernel
theorem dX6_waiting_87 : decode cX6_waiting 87 = .ok (.invokevirtual 334, 3) := by decide +kernel
theorem dX6_waiting_90 : decode cX6_waiting 90 = .ok (.iinc 7 1, 3) := by decide +kernel
theorem dX6_waiting_93 : decode cX6_waiting 93 = .ok (.goto (-34), 3) := by decide +kernel
theorem dX6_waiting_96 : decode cX6_waiting 96 = .ok (.aload 6, 2) := by decide +kernel
theorem dX6_waiting_98 : decode cX6_waiting 98 = .ok (.invokevirtual 315, 3) := by decide +kernel
theorem dX6_waiting_101 : decode cX6_waiting 101 = .ok (.aload 6, 2) := by decide +kernel
theorem dX6_waiting_103 : decode cX6_waiting 103 = .ok (.invokevirtual 343, 3) := by decide +kernel
theorem dX6_waiting_106 : decode cX6_waiting 106 = .ok (.aload_n 0, 1) := by decide +kernel
theorem dX6_waiting_107 : decode cX6_waiting 107 = .ok (.getfield 26, 3) := by decide +kernel
theorem dX6_waiting_110 : decode cX6_waiting 110 = .ok (.invokevirtual 343, 3) := by decide +kernel
theorem dX6_waiting_113 : decode cX6_waiting 113 = .ok (.isub, 1) := by decide +kernel
theorem dX6_waiting_114 : decode cX6_waiting 114 = .ok (.imul, 1) := by decide +kernel
theorem dX6_waiting_115 : decode cX6_waiting 115 = .ok (.ireturn, 1) := by decide +kernel
theorem dX6_digest_0 : decode cX6_digest 0 = .ok (.ldc2_w 346, 3) := by decide +kernel
theorem dX6_digest_3 : decode cX6_digest 3 = .ok (.lstore_n 1, 1) := by decide +kernel
theorem dX6_digest_4 : decode cX6_digest 4 = .ok (.iconst 0, 1) := by decide +kernel
theorem dX6_digest_5 : decode cX6_digest 5 = .ok (.istore_n 3, 1) := by decide +kernel
theorem dX6_digest_6 : decode cX6_digest 6 = .ok (.iload_n 3, 1) := by decide +kernel
theorem dX6_digest_7 : decode cX6_digest 7 = .ok (.bipush 12, 2) := by decide +kernel
theorem dX6_digest_9 : decode cX6_digest 9 = .ok (.if_icmp .gt 22, 3) := by decide +kernel
theorem dX6_digest_12 : decode cX6_digest 12 = .ok (.lload_n 1, 1) := by decide +kernel
theorem dX6_digest_13 : decode cX6_digest 13 = .ok (.ldc2_w 348, 3) := by decide +kernel
theorem dX6_digest_16 : decode cX6_digest 16 = .ok (.lmul, 1) := by decide +kernel
theorem dX6_digest_17 : decode cX6_digest 17 = .ok (.aload_n 0, 1) := by decide +kernel
theorem dX6_digest_18 : decode cX6_digest 18 = .ok (.iload_n 3, 1) := by decide +kernel
theorem dX6_digest_19 : decode cX6_digest 19 = .ok (.invokevirtual 350, 3) := by decide +kernel
theorem dX6_digest_22 : decode cX6_digest 22 = .ok (.i2l, 1) := by decide +kernel
theorem dX6_digest_23 : decode cX6_digest 23 = .ok (.ladd, 1) := by decide +kernel
theorem dX6_digest_24 : decode cX6_digest 24 = .ok (.lstore_n 1, 1) := by decide +kernel
theorem dX6_digest_25 : decode cX6_digest 25 = .ok (.iinc 3 1, 3) := by decide +kernel
theorem dX6_digest_28 : decode cX6_digest 28 = .ok (.goto (-22), 3) := by decide +kernel
theorem dX6_digest_31 : decode cX6_digest 31 = .ok (.iconst 0, 1) := by decide +kernel
theorem dX6_digest_32 : decode cX6_digest 32 = .ok (.istore_n 3, 1) := by decide +kernel
theorem dX6_digest_33 : decode cX6_digest 33 = .ok (.iload_n 3, 1) := by decide +kernel
theorem dX6_digest_34 : decode cX6_digest 34 = .ok (.aload_n 0, 1) := by decide +kernel
theorem dX6_digest_35 : decode cX6_digest 35 = .ok (.getfield 12, 3) := by decide +kernel
theorem dX6_digest_38 : decode cX6_digest 38 = .ok (.getfield 46, 3) := by decide +kernel
theorem dX6_digest_41 : decode cX6_digest 41 = .ok (.invokevirtual 50, 3) := by decide +kernel
theorem dX6_digest_44 : decode cX6_digest 44 = .ok (.if_icmp .ge 77, 3) := by decide +kernel
theorem dX6_digest_47 : decode cX6_digest 47 = .ok (.iconst 0, 1) := by decide +kernel
theorem dX6_digest_48 : decode cX6_digest 48 = .ok (.istore 4, 2) := by decide +kernel
theorem dX6_digest_50 : decode cX6_digest 50 = .ok (.iload 4, 2) := by decide +kernel
theorem dX6_digest_52 : decode cX6_digest 52 = .ok (.bipush 11, 2) := by decide +kernel
theorem dX6_digest_54 : decode cX6_digest 54 = .ok (.if_icmp .gt 24, 3) := by decide +kernel
theorem dX6_digest_57 : decode cX6_digest 57 = .ok (.lload_n 1, 1) := by decide +kernel
theorem dX6_digest_58 : decode cX6_digest 58 = .ok (.ldc2_w 348, 3) := by decide +kernel
theorem dX6_digest_61 : decode cX6_digest 61 = .ok (.lmul, 1) := by decide +kernel
theorem dX6_digest_62 : decode cX6_digest 62 = .ok (.aload_n 0, 1) := by decide +kernel
theorem dX6_digest_63 : decode cX6_digest 63 = .ok (.iload_n 3, 1) := by decide +kernel
theorem dX6_digest_64 : decode cX6_digest 64 = .ok (.iload 4, 2) := by decide +kernel
theorem dX6_digest_66 : decode cX6_digest 66 = .ok (.invokevirtual 353, 3) := by decide +kernel
theorem dX6_digest_69 : decode cX6_digest 69 = .ok (.i2l, 1) := by decide +kernel
theorem dX6_digest_70 : decode cX6_digest 70 = .ok (.ladd, 1) := by decide +kernel
theorem dX6_digest_71 : decode cX6_digest 71 = .ok (.lstore_n 1, 1) := by decide +kernel
theorem dX6_digest_72 : decode cX6_digest 72 = .ok (.iinc 4 1, 3) := by decide +kernel
theorem dX6_digest_75 : decode cX6_digest 75 = .ok (.goto (-25), 3) := by decide +kernel
theorem dX6_digest_78 : decode cX6_digest 78 = .ok (.lload_n 1, 1) := by decide +kernel
theorem dX6_digest_79 : decode cX6_digest 79 = .ok (.ldc2_w 348, 3) := by decide +kernel
theorem dX6_digest_82 : decode cX6_digest 82 = .ok (.lmul, 1) := by decide +kernel
theorem dX6_digest_83 : decode cX6_digest 83 = .ok (.aload_n 0, 1) := by decide +kernel
theorem dX6_digest_84 : decode cX6_digest 84 = .ok (.iload_n 3, 1) := by decide +kernel
theorem dX6_digest_85 : decode cX6_digest 85 = .ok (.bipush 25, 2) := by decide +kernel
theorem dX6_digest_87 : decode cX6_digest 87 = .ok (.bipush 40, 2) := by decide +kernel
theorem dX6_digest_89 : decode cX6_digest 89 = .ok (.invokevirtual 356, 3) := by decide +kernel
theorem dX6_digest_92 : decode cX6_digest 92 = .ok (.i2l, 1) := by decide +kernel
theorem dX6_digest_93 : decode cX6_digest 93 = .ok (.ladd, 1) := by decide +kernel
theorem dX6_digest_94 : decode cX6_digest 94 = .ok (.lstore_n 1, 1) := by decide +kernel
theorem dX6_digest_95 : decode cX6_digest 95 = .ok (.lload_n 1, 1) := by decide +kernel
theorem dX6_digest_96 : decode cX6_digest 96 = .ok (.ldc2_w 348, 3) := by decide +kernel
theorem dX6_digest_99 : decode cX6_digest 99 = .ok (.lmul, 1) := by decide +kernel
theorem dX6_digest_100 : decode cX6_digest 100 = .ok (.aload_n 0, 1) := by decide +kernel
theorem dX6_digest_101 : decode cX6_digest 101 = .ok (.iload_n 3, 1) := by decide +kernel
theorem dX6_digest_102 : decode cX6_digest 102 = .ok (.bipush 24, 2) := by decide +kernel
theorem dX6_digest_104 : decode cX6_digest 104 = .ok (.bipush 30, 2) := by decide +kernel
theorem dX6_digest_106 : decode cX6_digest 106 = .ok (.bipush 20, 2) := by decide +kernel
theorem dX6_digest_108 : decode cX6_digest 108 = .ok (.iconst 0, 1) := by decide +kernel
theorem dX6_digest_109 : decode cX6_digest 109 = .ok (.invokevirtual 360, 3) := by decide +kernel
theorem dX6_digest_112 : decode cX6_digest 112 = .ok (.i2l, 1) := by decide +kernel
theorem dX6_digest_113 : decode cX6_digest 113 = .ok (.ladd, 1) := by decide +kernel
theorem dX6_digest_114 : decode cX6_digest 114 = .ok (.lstore_n 1, 1) := by decide +kernel
theorem dX6_digest_115 : decode cX6_digest 115 = .ok (.iinc 3 1, 3) := by decide +kernel
theorem dX6_digest_118 : decode cX6_digest 118 = .ok (.goto (-85), 3) := by decide +kernel
theorem dX6_digest_121 : decode cX6_digest 121 = .ok (.iconst 0, 1) := by decide +kernel
theorem dX6_digest_122 : decode cX6_digest 122 = .ok (.istore_n 3, 1) := by decide +kernel
theorem dX6_digest_123 : decode cX6_digest 123 = .ok (.iload_n 3, 1) := by decide +kernel
theorem dX6_digest_124 : decode cX6_digest 124 = .ok (.aload_n 0, 1) := by decide +kernel
theorem dX6_digest_125 : decode cX6_digest 125 = .ok (.getfield 12, 3) := by decide +kernel
theorem dX6_digest_128 : decode cX6_digest 128 = .ok (.getfield 82, 3) := by decide +kernel
theorem dX6_digest_131 : decode cX6_digest 131 = .ok (.invokevirtual 50, 3) := by decide +kernel
theorem dX6_digest_134 : decode cX6_digest 134 = .ok (.if_icmp .ge 59, 3) := by decide +kernel
theorem dX6_digest_137 : decode cX6_digest 137 = .ok (.iconst 0, 1) := by decide +kernel
theorem dX6_digest_138 : decode cX6_digest 138 = .ok (.istore 4, 2) := by decide +kernel
theorem dX6_digest_140 : decode cX6_digest 140 = .ok (.iload 4, 2) := by decide +kernel
theorem dX6_digest_142 : decode cX6_digest 142 = .ok (.bipush 7, 2) := by decide +kernel
theorem dX6_digest_144 : decode cX6_digest 144 = .ok (.if_icmp .gt 24, 3) := by decide +kernel
theorem dX6_digest_147 : decode cX6_digest 147 = .ok (.lload_n 1, 1) := by decide +kernel
theorem dX6_digest_148 : decode cX6_digest 148 = .ok (.ldc2_w 348, 3) := by decide +kernel
theorem dX6_digest_151 : decode cX6_digest 151 = .ok (.lmul, 1) := by decide +kernel
theorem dX6_digest_152 : decode cX6_digest 152 = .ok (.aload_n 0, 1) := by decide +kernel
theorem dX6_digest_153 : decode cX6_digest 153 = .ok (.iload_n 3, 1) := by decide +kernel
theorem dX6_digest_154 : decode cX6_digest 154 = .ok (.iload 4, 2) := by decide +kernel
theorem dX6_digest_156 : decode cX6_digest 156 = .ok (.invokevirtual 363, 3) := by decide +kernel
theorem dX6_digest_159 : decode cX6_digest 159 = .ok (.i2l, 1) := by decide +kernel
theorem dX6_digest_160 : decode cX6_digest 160 = .ok (.ladd, 1) := by decide +kernel
theorem dX6_digest_161 : decode cX6_digest 161 = .ok (.lstore_n 1, 1) := by decide +kernel
theorem dX6_digest_162 : decode cX6_digest 162 = .ok (.iinc 4 1, 3) := by decide +kernel
theorem dX6_digest_165 : decode cX6_digest 165 = .ok (.goto (-25), 3) := by decide +kernel
theorem dX6_digest_168 : decode cX6_digest 168 = .ok (.lload_n 1, 1) := by decide +kernel
theorem dX6_digest_169 : decode cX6_digest 169 = .ok (.ldc2_w 348, 3) := by decide +kernel
theorem dX6_digest_172 : decode cX6_digest 172 = .ok (.lmul, 1) := by decide +kernel
theorem dX6_digest_173 : decode cX6_digest 173 = .ok (.aload_n 0, 1) := by decide +kernel
theorem dX6_digest_174 : decode cX6_digest 174 = .ok (.iload_n 3, 1) := by decide +kernel
theorem dX6_digest_175 : decode cX6_digest 175 = .ok (.bipush 12, 2) := by decide +kernel
theorem dX6_digest_177 : decode cX6_digest 177 = .ok (.bipush 30, 2) := by decide +kernel
theorem dX6_digest_179 : decode cX6_digest 179 = .ok (.bipush 40, 2) := by decide +kernel
theorem dX6_digest_181 : decode cX6_digest 181 = .ok (.invokevirtual 366, 3) := by decide +kernel
theorem dX6_digest_184 : decode cX6_digest 184 = .ok (.i2l, 1) := by decide +kernel
theorem dX6_digest_185 : decode cX6_digest 185 = .ok (.ladd, 1) := by decide +kernel
theorem dX6_digest_186 : decode cX6_digest 186 = .ok (.lstore_n 1, 1) := by decide +kernel
theorem dX6_digest_187 : decode cX6_digest 187 = .ok (.iinc 3 1, 3) := by decide +kernel
theorem dX6_digest_190 : decode cX6_digest 190 = .ok (.goto (-67), 3) := by decide +kernel
theorem dX6_digest_193 : decode cX6_digest 193 = .ok (.iconst 0, 1) := by decide +kernel
theorem dX6_digest_194 : decode cX6_digest 194 = .ok (.istore_n 3, 1) := by decide +kernel
theorem dX6_digest_195 : decode cX6_digest 195 = .ok (.iload_n 3, 1) := by decide +kernel
theorem dX6_digest_196 : decode cX6_digest 196 = .ok (.aload_n 0, 1) := by decide +kernel
theorem dX6_digest_197 : decode cX6_digest 197 = .ok (.getfield 12, 3) := by decide +kernel
theorem dX6_digest_200 : decode cX6_digest 200 = .ok (.getfield 94, 3) := by decide +kernel
theorem dX6_digest_203 : decode cX6_digest 203 = .ok (.invokevirtual 50, 3) := by decide +kernel
theorem dX6_digest_206 : decode cX6_digest 206 = .ok (.if_icmp .ge 40, 3) := by decide +kernel
theorem dX6_digest_209 : decode cX6_digest 209 = .ok (.iconst 0, 1) := by decide +kernel
theorem dX6_digest_210 : decode cX6_digest 210 = .ok (.istore 4, 2) := by decide +kernel
theorem dX6_digest_212 : decode cX6_digest 212 = .ok (.iload 4, 2) := by decide +kernel
theorem dX6_digest_214 : decode cX6_digest 214 = .ok (.bipush 7, 2) := by decide +kernel
theorem dX6_digest_216 : decode cX6_digest 216 = .ok (.if_icmp .gt 24, 3) := by decide +kernel
theorem dX6_digest_219 : decode cX6_digest 219 = .ok (.lload_n 1, 1) := by decide +kernel
theorem dX6_digest_220 : decode cX6_digest 220 = .ok (.ldc2_w 348, 3) := by decide +kernel
theorem dX6_digest_223 : decode cX6_digest 223 = .ok (.lmul, 1) := by decide +kernel
theorem dX6_digest_224 : decode cX6_digest 224 = .ok (.aload_n 0, 1) := by decide +kernel
theorem dX6_digest_225 : decode cX6_digest 225 = .ok (.iload_n 3, 1) := by decide +kernel
theorem dX6_digest_226 : decode cX6_digest 226 = .ok (.iload 4, 2) := by decide +kernel
theorem dX6_digest_228 : decode cX6_digest 228 = .ok (.invokevirtual 370, 3) := by decide +kernel
theorem dX6_digest_231 : decode cX6_digest 231 = .ok (.i2l, 1) := by decide +kernel
theorem dX6_digest_232 : decode cX6_digest 232 = .ok (.ladd, 1) := by decide +kernel
theorem dX6_digest_233 : decode cX6_digest 233 = .ok (.lstore_n 1, 1) := by decide +kernel
theorem dX6_digest_234 : decode cX6_digest 234 = .ok (.iinc 4 1, 3) := by decide +kernel
theorem dX6_digest_237 : decode cX6_digest 237 = .ok (.goto (-25), 3) := by decide +kernel
theorem dX6_digest_240 : decode cX6_digest 240 = .ok (.iinc 3 1, 3) := by decide +kernel
theorem dX6_digest_243 : decode cX6_digest 243 = .ok (.goto (-48), 3) := by decide +kernel
theorem dX6_digest_246 : decode cX6_digest 246 = .ok (.iconst 0, 1) := by decide +kernel
theorem dX6_digest_247 : decode cX6_digest 247 = .ok (.istore_n 3, 1) := by decide +kernel
theorem dX6_digest_248 : decode cX6_digest 248 = .ok (.iload_n 3, 1) := by decide +kernel
theorem dX6_digest_249 : decode cX6_digest 249 = .ok (.aload_n 0, 1) := by decide +kernel
theorem dX6_digest_250 : decode cX6_digest 250 = .ok (.getfield 12, 3) := by decide +kernel
theorem dX6_digest_253 : decode cX6_digest 253 = .ok (.getfield 201, 3) := by decide +kernel
theorem dX6_digest_256 : decode cX6_digest 256 = .ok (.invokevirtual 50, 3) := by decide +kernel
theorem dX6_digest_259 : decode cX6_digest 259 = .ok (.if_icmp .ge 40, 3) := by decide +kernel
theorem dX6_digest_262 : decode cX6_digest 262 = .ok (.iconst 0, 1) := by decide +kernel
theorem dX6_digest_263 : decode cX6_digest 263 = .ok (.istore 4, 2) := by decide +kernel
theorem dX6_digest_265 : decode cX6_digest 265 = .ok (.iload 4, 2) := by decide +kernel
theorem dX6_digest_267 : decode cX6_digest 267 = .ok (.bipush 6, 2) := by decide +kernel
theorem dX6_digest_269 : decode cX6_digest 269 = .ok (.if_icmp .gt 24, 3) := by decide +kernel
theorem dX6_digest_272 : decode cX6_digest 272 = .ok (.lload_n 1, 1) := by decide +kernel
theorem dX6_digest_273 : decode cX6_digest 273 = .ok (.ldc2_w 348, 3) := by decide +kernel
theorem dX6_digest_276 : decode cX6_digest 276 = .ok (.lmul, 1) := by decide +kernel
theorem dX6_digest_277 : decode cX6_digest 277 = .ok (.aload_n 0, 1) := by decide +kernel
theorem dX6_digest_278 : decode cX6_digest 278 = .ok (.iload_n 3, 1) := by decide +kernel
theorem dX6_digest_279 : decode cX6_digest 279 = .ok (.iload 4, 2) := by decide +kernel
theorem dX6_digest_281 : decode cX6_digest 281 = .ok (.invokevirtual 373, 3) := by decide +kernel
theorem dX6_digest_284 : decode cX6_digest 284 = .ok (.i2l, 1) := by decide +kernel
theorem dX6_digest_285 : decode cX6_digest 285 = .ok (.ladd, 1) := by decide +kernel
theorem dX6_digest_286 : decode cX6_digest 286 = .ok (.lstore_n 1, 1) := by decide +kernel
theorem dX6_digest_287 : decode cX6_digest 287 = .ok (.iinc 4 1, 3) := by decide +kernel
theorem dX6_digest_290 : decode cX6_digest 290 = .ok (.goto (-25), 3) := by decide +kernel
theorem dX6_digest_293 : decode cX6_digest 293 = .ok (.iinc 3 1, 3) := by decide +kernel
theorem dX6_digest_296 : decode cX6_digest 296 = .ok (.goto (-48), 3) := by decide +kernel
theorem dX6_digest_299 : decode cX6_digest 299 = .ok (.iconst 0, 1) := by decide +kernel
theorem dX6_digest_300 : decode cX6_digest 300 = .ok (.istore_n 3, 1) := by decide +kernel
theorem dX6_digest_301 : decode cX6_digest 301 = .ok (.iload_n 3, 1) := by decide +kernel
theorem dX6_digest_302 : decode cX6_digest 302 = .ok (.iconst 4, 1) := by decide +kernel
theorem dX6_digest_303 : decode cX6_digest 303 = .ok (.if_icmp .ge 37, 3) := by decide +kernel
theorem dX6_digest_306 : decode cX6_digest 306 = .ok (.lload_n 1, 1) := by decide +kernel
theorem dX6_digest_307 : decode cX6_digest 307 = .ok (.ldc2_w 348, 3) := by decide +kernel
theorem dX6_digest_310 : decode cX6_digest 310 = .ok (.lmul, 1) := by decide +kernel
theorem dX6_digest_311 : decode cX6_digest 311 = .ok (.aload_n 0, 1) := by decide +kernel
theorem dX6_digest_312 : decode cX6_digest 312 = .ok (.iload_n 3, 1) := by decide +kernel
theorem dX6_digest_313 : decode cX6_digest 313 = .ok (.iconst 0, 1) := by decide +kernel
theorem dX6_digest_314 : decode cX6_digest 314 = .ok (.invokevirtual 376, 3) := by decide +kernel
theorem dX6_digest_317 : decode cX6_digest 317 = .ok (.i2l, 1) := by decide +kernel
theorem dX6_digest_318 : decode cX6_digest 318 = .ok (.ladd, 1) := by decide +kernel
theorem dX6_digest_319 : decode cX6_digest 319 = .ok (.lstore_n 1, 1) := by decide +kernel
theorem dX6_digest_320 : decode cX6_digest 320 = .ok (.lload_n 1, 1) := by decide +kernel
theorem dX6_digest_321 : decode cX6_digest 321 = .ok (.ldc2_w 348, 3) := by decide +kernel
theorem dX6_digest_324 : decode cX6_digest 324 = .ok (.lmul, 1) := by decide +kernel
theorem dX6_digest_325 : decode cX6_digest 325 = .ok (.aload_n 0, 1) := by decide +kernel
theorem dX6_digest_326 : decode cX6_digest 326 = .ok (.iload_n 3, 1) := by decide +kernel
theorem dX6_digest_327 : decode cX6_digest 327 = .ok (.iconst 1, 1) := by decide +kernel
theorem dX6_digest_328 : decode cX6_digest 328 = .ok (.invokevirtual 376, 3) := by decide +kernel
theorem dX6_digest_331 : decode cX6_digest 331 = .ok (.i2l, 1) := by decide +kernel
theorem dX6_digest_332 : decode cX6_digest 332 = .ok (.ladd, 1) := by decide +kernel
theorem dX6_digest_333 : decode cX6_digest 333 = .ok (.lstore_n 1, 1) := by decide +kernel
theorem dX6_digest_334 : decode cX6_digest 334 = .ok (.iinc 3 1, 3) := by decide +kernel
theorem dX6_digest_337 : decode cX6_digest 337 = .ok (.goto (-36), 3) := by decide +kernel
theorem dX6_digest_340 : decode cX6_digest 340 = .ok (.lload_n 1, 1) := by decide +kernel
theorem dX6_digest_341 : decode cX6_digest 341 = .ok (.lreturn, 1) := by decide +kernel
theorem dX6_isOutside_0 : decode cX6_isOutside 0 = .ok (.iload_n 0, 1) := by decide +kernel
theorem dX6_isOutside_1 : decode cX6_isOutside 1 = .ok (.iload_n 1, 1) := by decide +kernel
theorem dX6_isOutside_2 : decode cX6_isOutside 2 = .ok (.if_icmp .lt 8, 3) := by decide +kernel
theorem dX6_isOutside_5 : decode cX6_isOutside 5 = .ok (.iload_n 0, 1) := by decide +kernel
theorem dX6_isOutside_6 : decode cX6_isOutside 6 = .ok (.iload_n 2, 1) := by decide +kernel
theorem dX6_isOutside_7 : decode cX6_isOutside 7 = .ok (.if_icmp .le 7, 3) := by decide +kernel
theorem dX6_isOutside_10 : decode cX6_isOutside 10 = .ok (.iconst 1, 1) := by decide +kernel
theorem dX6_isOutside_11 : decode cX6_isOutside 11 = .ok (.goto 4, 3) := by decide +kernel
theorem dX6_isOutside_14 : decode cX6_isOutside 14 = .ok (.iconst 0, 1) := by decide +kernel
theorem dX6_isOutside_15 : decode cX6_isOutside 15 = .ok (.ireturn, 1) := by decide +kernel
theorem dX6_isNoWeather_0 : decode cX6_isNoWeather 0 = .ok (.iload_n 0, 1) := by decide +kernel
theorem dX6_isNoWeather_1 : decode cX6_isNoWeather 1 = .ok (.iconst 0, 1) := by decide +kernel
theorem dX6_isNoWeather_2 : decode cX6_isNoWeather 2 = .ok (.bipush 45, 2) := by decide +kernel
theorem dX6_isNoWeather_4 : decode cX6_isNoWeather 4 = .ok (.invokestatic 30, 3) := by decide +kernel
theorem dX6_isNoWeather_7 : decode cX6_isNoWeather 7 = .ok (.ifCond .ne 23, 3) := by decide +kernel
theorem dX6_isNoWeather_10 : decode cX6_isNoWeather 10 = .ok (.iload_n 1, 1) := by decide +kernel
theorem dX6_isNoWeather_11 : decode cX6_isNoWeather 11 = .ok (.iconst 0, 1) := by decide +kernel
theorem dX6_isNoWeather_12 : decode cX6_isNoWeather 12 = .ok (.bipush 100, 2) := by decide +kernel
theorem dX6_isNoWeather_14 : decode cX6_isNoWeather 14 = .ok (.invokestatic 30, 3) := by decide +kernel
theorem dX6_isNoWeather_17 : decode cX6_isNoWeather 17 = .ok (.ifCond .ne 13, 3) := by decide +kernel
theorem dX6_isNoWeather_20 : decode cX6_isNoWeather 20 = .ok (.iload_n 2, 1) := by decide +kernel
theorem dX6_isNoWeather_21 : decode cX6_isNoWeather 21 = .ok (.iconst 0, 1) := by decide +kernel
theorem dX6_isNoWeather_22 : decode cX6_isNoWeather 22 = .ok (.bipush 20, 2) := by decide +kernel
theorem dX6_isNoWeather_24 : decode cX6_isNoWeather 24 = .ok (.invokestatic 30, 3) := by decide +kernel
theorem dX6_isNoWeather_27 : decode cX6_isNoWeather 27 = .ok (.ifCond .eq 7, 3) := by decide +kernel
theorem dX6_isNoWeather_30 : decode cX6_isNoWeather 30 = .ok (.iconst 1, 1) := by decide +kernel
theorem dX6_isNoWeather_31 : decode cX6_isNoWeather 31 = .ok (.goto 4, 3) := by decide +kernel
theorem dX6_isNoWeather_34 : decode cX6_isNoWeather 34 = .ok (.iconst 0, 1) := by decide +kernel
theorem dX6_isNoWeather_35 : decode cX6_isNoWeather 35 = .ok (.ireturn, 1) := by decide +kernel
theorem dX6_isNoForecast_0 : decode cX6_isNoForecast 0 = .ok (.iload_n 0, 1) := by decide +kernel
theorem dX6_isNoForecast_1 : decode cX6_isNoForecast 1 = .ok (.iconst 1, 1) := by decide +kernel
theorem dX6_isNoForecast_2 : decode cX6_isNoForecast 2 = .ok (.bipush 48, 2) := by decide +kernel
theorem dX6_isNoForecast_4 : decode cX6_isNoForecast 4 = .ok (.invokestatic 30, 3) := by decide +kernel
theorem dX6_isNoForecast_7 : decode cX6_isNoForecast 7 = .ok (.ifCond .ne 12, 3) := by decide +kernel
theorem dX6_isNoForecast_10 : decode cX6_isNoForecast 10 = .ok (.iload_n 1, 1) := by decide +kernel
theorem dX6_isNoForecast_11 : decode cX6_isNoForecast 11 = .ok (.iload_n 2, 1) := by decide +kernel
theorem dX6_isNoForecast_12 : decode cX6_isNoForecast 12 = .ok (.iload_n 3, 1) := by decide +kernel
theorem dX6_isNoForecast_13 : decode cX6_isNoForecast 13 = .ok (.invokestatic 318, 3) := by decide +kernel
theorem dX6_isNoForecast_16 : decode cX6_isNoForecast 16 = .ok (.ifCond .eq 7, 3) := by decide +kernel
theorem dX6_isNoForecast_19 : decode cX6_isNoForecast 19 = .ok (.iconst 1, 1) := by decide +kernel
theorem dX6_isNoForecast_20 : decode cX6_isNoForecast 20 = .ok (.goto 4, 3) := by decide +kernel
theorem dX6_isNoForecast_23 : decode cX6_isNoForecast 23 = .ok (.iconst 0, 1) := by decide +kernel
theorem dX6_isNoForecast_24 : decode cX6_isNoForecast 24 = .ok (.ireturn, 1) := by decide +kernel
theorem dX6_towards_0 : decode cX6_towards 0 = .ok (.iload_n 1, 1) := by decide +kernel
theorem dX6_towards_1 : decode cX6_towards 1 = .ok (.iload_n 0, 1) := by decide +kernel
theorem dX6_towards_2 : decode cX6_towards 2 = .ok (.if_icmp .le 13, 3) := by decide +kernel
theorem dX6_towards_5 : decode cX6_towards 5 = .ok (.iload_n 0, 1) := by decide +kernel
theorem dX6_towards_6 : decode cX6_towards 6 = .ok (.iload_n 2, 1) := by decide +kernel
theorem dX6_towards_7 : decode cX6_towards 7 = .ok (.iadd, 1) := by decide +kernel
theorem dX6_towards_8 : decode cX6_towards 8 = .ok (.iload_n 1, 1) := by decide +kernel
theorem dX6_towards_9 : decode cX6_towards 9 = .ok (.invokestatic 186, 3) := by decide +kernel
theorem dX6_towards_12 : decode cX6_towards 12 = .ok (.goto 10, 3) := by decide +kernel
theorem dX6_towards_15 : decode cX6_towards 15 = .ok (.iload_n 0, 1) := by decide +kernel
theorem dX6_towards_16 : decode cX6_towards 16 = .ok (.iload_n 2, 1) := by decide +kernel
theorem dX6_towards_17 : decode cX6_towards 17 = .ok (.isub, 1) := by decide +kernel
theorem dX6_towards_18 : decode cX6_towards 18 = .ok (.iload_n 1, 1) := by decide +kernel
theorem dX6_towards_19 : decode cX6_towards 19 = .ok (.invokestatic 380, 3) := by decide +kernel
theorem dX6_towards_22 : decode cX6_towards 22 = .ok (.ireturn, 1) := by decide +kernel
theorem dX6_bushelsIfSent_0 : decode cX6_bushelsIfSent 0 = .ok (.aload_n 0, 1) := by decide +kernel
theorem dX6_bushelsIfSent_1 : decode cX6_bushelsIfSent 1 = .ok (.getfield 18, 3) := by decide +kernel
theorem dX6_bushelsIfSent_4 : decode cX6_bushelsIfSent 4 = .ok (.aload_n 0, 1) := by decide +kernel
theorem dX6_bushelsIfSent_5 : decode cX6_bushelsIfSent 5 = .ok (.getfield 12, 3) := by decide +kernel
theorem dX6_bushelsIfSent_8 : decode cX6_bushelsIfSent 8 = .ok (.invokevirtual 383, 3) := by decide +kernel
theorem dX6_bushelsIfSent_11 : decode cX6_bushelsIfSent 11 = .ok (.aload_n 0, 1) := by decide +kernel
theorem dX6_bushelsIfSent_12 : decode cX6_bushelsIfSent 12 = .ok (.getfield 18, 3) := by decide +kernel
theorem dX6_bushelsIfSent_15 : decode cX6_bushelsIfSent 15 = .ok (.iload_n 1, 1) := by decide +kernel
theorem dX6_bushelsIfSent_16 : decode cX6_bushelsIfSent 16 = .ok (.invokevirtual 125, 3) := by decide +kernel
theorem dX6_bushelsIfSent_19 : decode cX6_bushelsIfSent 19 = .ok (.astore 6, 2) := by decide +kernel
theorem dX6_bushelsIfSent_21 : decode cX6_bushelsIfSent 21 = .ok (.aload 6, 2) := by decide +kernel
theorem dX6_bushelsIfSent_23 : decode cX6_bushelsIfSent 23 = .ok (.ifnonnull 5, 3) := by decide +kernel
theorem dX6_bushelsIfSent_26 : decode cX6_bushelsIfSent 26 = .ok (.iconst 0, 1) := by decide +kernel
theorem dX6_bushelsIfSent_27 : decode cX6_bushelsIfSent 27 = .ok (.ireturn, 1) := by decide +kernel
theorem dX6_bushelsIfSent_28 : decode cX6_bushelsIfSent 28 = .ok (.aload 6, 2) := by decide +kernel
theorem dX6_bushelsIfSent_30 : decode cX6_bushelsIfSent 30 = .ok (.getfield 386, 3) := by decide +kernel
theorem dX6_bushelsIfSent_33 : decode cX6_bushelsIfSent 33 = .ok (.istore 7, 2) := by decide +kernel
theorem dX6_bushelsIfSent_35 : decode cX6_bushelsIfSent 35 = .ok (.aload 6, 2) := by decide +kernel
theorem dX6_bushelsIfSent_37 : decode cX6_bushelsIfSent 37 = .ok (.iload_n 2, 1) := by decide +kernel
theorem dX6_bushelsIfSent_38 : decode cX6_bushelsIfSent 38 = .ok (.putfield 131, 3) := by decide +kernel
theorem dX6_bushelsIfSent_41 : decode cX6_bushelsIfSent 41 = .ok (.iconst 0, 1) := by decide +kernel
theorem dX6_bushelsIfSent_42 : decode cX6_bushelsIfSent 42 = .ok (.istore 8, 2) := by decide +kernel
theorem dX6_bushelsIfSent_44 : decode cX6_bushelsIfSent 44 = .ok (.iload 8, 2) := by decide +kernel
theorem dX6_bushelsIfSent_46 : decode cX6_bushelsIfSent 46 = .ok (.iload_n 3, 1) := by decide +kernel
theorem dX6_bushelsIfSent_47 : decode cX6_bushelsIfSent 47 = .ok (.if_icmp .ge 21, 3) := by decide +kernel
theorem dX6_bushelsIfSent_50 : decode cX6_bushelsIfSent 50 = .ok (.aload_n 0, 1) := by decide +kernel
theorem dX6_bushelsIfSent_51 : decode cX6_bushelsIfSent 51 = .ok (.getfield 18, 3) := by decide +kernel
theorem dX6_bushelsIfSent_54 : decode cX6_bushelsIfSent 54 = .ok (.iload 4, 2) := by decide +kernel
theorem dX6_bushelsIfSent_56 : decode cX6_bushelsIfSent 56 = .ok (.iload 5, 2) := by decide +kernel
theorem dX6_bushelsIfSent_58 : decode cX6_bushelsIfSent 58 = .ok (.iconst 0, 1) := by decide +kernel
theorem dX6_bushelsIfSent_59 : decode cX6_bushelsIfSent 59 = .ok (.invokevirtual 204, 3) := by decide +kernel
theorem dX6_bushelsIfSent_62 : decode cX6_bushelsIfSent 62 = .ok (.iinc 8 1, 3) := by decide +kernel
theorem dX6_bushelsIfSent_65 : decode cX6_bushelsIfSent 65 = .ok (.goto (-21), 3) := by decide +kernel
theorem dX6_bushelsIfSent_68 : decode cX6_bushelsIfSent 68 = .ok (.aload 6, 2) := by decide +kernel
theorem dX6_bushelsIfSent_70 : decode cX6_bushelsIfSent 70 = .ok (.getfield 386, 3) := by decide +kernel
theorem dX6_bushelsIfSent_73 : decode cX6_bushelsIfSent 73 = .ok (.iload 7, 2) := by decide +kernel
theorem dX6_bushelsIfSent_75 : decode cX6_bushelsIfSent 75 = .ok (.isub, 1) := by decide +kernel
theorem dX6_bushelsIfSent_76 : decode cX6_bushelsIfSent 76 = .ok (.ireturn, 1) := by decide +kernel
theorem dX7_init_0 : decode cX7_init 0 = .ok (.aload_n 0, 1) := by decide +kernel
theorem dX7_init_1 : decode cX7_init 1 = .ok (.invokespecial 3, 3) := by decide +kernel
theorem dX7_init_4 : decode cX7_init 4 = .ok (.aload_n 0, 1) := by decide +kernel
theorem dX7_init_5 : decode cX7_init 5 = .ok (.bipush 8, 2) := by decide +kernel
theorem dX7_init_7 : decode cX7_init 7 = .ok (.bipush 11, 2) := by decide +kernel
theorem dX7_init_9 : decode cX7_init 9 = .ok (.multianewarray 9 2, 4) := by decide +kernel
theorem dX7_init_13 : decode cX7_init 13 = .ok (.putfield 11, 3) := by decide +kernel
theorem dX7_init_16 : decode cX7_init 16 = .ok (.aload_n 0, 1) := by decide +kernel
theorem dX7_init_17 : decode cX7_init 17 = .ok (.iconst 4, 1) := by decide +kernel
theorem dX7_init_18 : decode cX7_init 18 = .ok (.bipush 11, 2) := by decide +kernel
theorem dX7_init_20 : decode cX7_init 20 = .ok (.multianewarray 9 2, 4) := by decide +kernel
theorem dX7_init_24 : decode cX7_init 24 = .ok (.putfield 16, 3) := by decide +kernel
theorem dX7_init_27 : decode cX7_init 27 = .ok (.aload_n 0, 1) := by decide +kernel
theorem dX7_init_28 : decode cX7_init 28 = .ok (.iconst 4, 1) := by decide +kernel
theorem dX7_init_29 : decode cX7_init 29 = .ok (.bipush 10, 2) := by decide +kernel
theorem dX7_init_31 : decode cX7_init 31 = .ok (.multianewarray 9 2, 4) := by decide +kernel
theorem dX7_init_35 : decode cX7_init 35 = .ok (.putfield 19, 3) := by decide +kernel
theorem dX7_init_38 : decode cX7_init 38 = .ok (.aload_n 0, 1) := by decide +kernel
theorem dX7_init_39 : decode cX7_init 39 = .ok (.iconst 3, 1) := by decide +kernel
theorem dX7_init_40 : decode cX7_init 40 = .ok (.bipush 6, 2) := by decide +kernel
theorem dX7_init_42 : decode cX7_init 42 = .ok (.multianewarray 9 2, 4) := by decide +kernel
theorem dX7_init_46 : decode cX7_init 46 = .ok (.putfield 22, 3) := by decide +kernel
theorem dX7_init_49 : decode cX7_init 49 = .ok (.aload_n 0, 1) := by decide +kernel
theorem dX7_init_50 : decode cX7_init 50 = .ok (.new 25, 3) := by decide +kernel
theorem dX7_init_53 : decode cX7_init 53 = .ok (.dup, 1) := by decide +kernel
theorem dX7_init_54 : decode cX7_init 54 = .ok (.invokespecial 27, 3) := by decide +kernel
theorem dX7_init_57 : decode cX7_init 57 = .ok (.putfield 28, 3) := by decide +kernel
theorem dX7_init_60 : decode cX7_init 60 = .ok (.return_, 1) := by decide +kernel
theorem dX7_copy_0 : decode cX7_copy 0 = .ok (.new 12, 3) := by decide +kernel
theorem dX7_copy_3 : decode cX7_copy 3 = .ok (.dup, 1) := by decide +kernel
theorem dX7_copy_4 : decode cX7_copy 4 = .ok (.invokespecial 32, 3) := by decide +kernel
theorem dX7_copy_7 : decode cX7_copy 7 = .ok (.astore_n 1, 1) := by decide +kernel
theorem dX7_copy_8 : decode cX7_copy 8 = .ok (.iconst 0, 1) := by decide +kernel
theorem dX7_copy_9 : decode cX7_copy 9 = .ok (.istore_n 2, 1) := by decide +kernel
theorem dX7_copy_10 : decode cX7_copy 10 = .ok (.iload_n 2, 1) := by decide +kernel
theorem dX7_copy_11 : decode cX7_copy 11 = .ok (.aload_n 0, 1) := by decide +kernel
theorem dX7_copy_12 : decode cX7_copy 12 = .ok (.getfield 33, 3) := by decide +kernel
theorem dX7_copy_15 : decode cX7_copy 15 = .ok (.if_icmp .ge 28, 3) := by decide +kernel
theorem dX7_copy_18 : decode cX7_copy 18 = .ok (.aload_n 0, 1) := by decide +kernel
theorem dX7_copy_19 : decode cX7_copy 19 = .ok (.getfield 11, 3) := by decide +kernel
theorem dX7_copy_22 : decode cX7_copy 22 = .ok (.iload_n 2, 1) := by decide +kernel
theorem dX7_copy_23 : decode cX7_copy 23 = .ok (.aaload, 1) := by decide +kernel
theorem dX7_copy_24 : decode cX7_copy 24 = .ok (.iconst 0, 1) := by decide +kernel
theorem dX7_copy_25 : decode cX7_copy 25 = .ok (.aload_n 1, 1) := by decide +kernel
theorem dX7_copy_26 : decode cX7_copy 26 = .ok (.getfield 11, 3) := by decide +kernel
theorem dX7_copy_29 : decode cX7_copy 29 = .ok (.iload_n 2, 1) := by decide +kernel
theorem dX7_copy_30 : decode cX7_copy 30 = .ok (.aaload, 1) := by decide +kernel
theorem dX7_copy_31 : decode cX7_copy 31 = .ok (.iconst 0, 1) := by decide +kernel
theorem dX7_copy_32 : decode cX7_copy 32 = .ok (.bipush 11, 2) := by decide +kernel
theorem dX7_copy_34 : decode cX7_copy 34 = .ok (.invokestatic 37, 3) := by decide +kernel
theorem dX7_copy_37 : decode cX7_copy 37 = .ok (.iinc 2 1, 3) := by decide +kernel
theorem dX7_copy_40 : decode cX7_copy 40 = .ok (.goto (-30), 3) := by decide +kernel
theorem dX7_copy_43 : decode cX7_copy 43 = .ok (.iconst 0, 1) := by decide +kernel
theorem dX7_copy_44 : decode cX7_copy 44 = .ok (.istore_n 2, 1) := by decide +kernel
theorem dX7_copy_45 : decode cX7_copy 45 = .ok (.iload_n 2, 1) := by decide +kernel
theorem dX7_copy_46 : decode cX7_copy 46 = .ok (.aload_n 0, 1) := by decide +kernel
theorem dX7_copy_47 : decode cX7_copy 47 = .ok (.getfield 43, 3) := by decide +kernel
theorem dX7_copy_50 : decode cX7_copy 50 = .ok (.if_icmp .ge 28, 3) := by decide +kernel
theorem dX7_copy_53 : decode cX7_copy 53 = .ok (.aload_n 0, 1) := by decide +kernel
theorem dX7_copy_54 : decode cX7_copy 54 = .ok (.getfield 16, 3) := by decide +kernel
theorem dX7_copy_57 : decode cX7_copy 57 = .ok (.iload_n 2, 1) := by decide +kernel
theorem dX7_copy_58 : decode cX7_copy 58 = .ok (.aaload, 1) := by decide +kernel
theorem dX7_copy_59 : decode cX7_copy 59 = .ok (.iconst 0, 1) := by decide +kernel
theorem dX7_copy_60 : decode cX7_copy 60 = .ok (.aload_n 1, 1) := by decide +kernel
theorem dX7_copy_61 : decode cX7_copy 61 = .ok (.getfield 16, 3) := by decide +kernel
theorem dX7_copy_64 : decode cX7_copy 64 = .ok (.iload_n 2, 1) := by decide +kernel
theorem dX7_copy_65 : decode cX7_copy 65 = .ok (.aaload, 1) := by decide +kernel
theorem dX7_copy_66 : decode cX7_copy 66 = .ok (.iconst 0, 1) := by decide +kernel
theorem dX7_copy_67 : decode cX7_copy 67 = .ok (.bipush 11, 2) := by decide +kernel
theorem dX7_copy_69 : decode cX7_copy 69 = .ok (.invokestatic 37, 3) := by decide +kernel
theorem dX7_copy_72 : decode cX7_copy 72 = .ok (.iinc 2 1, 3) := by decide +kernel
theorem dX7_copy_75 : decode cX7_copy 75 = .ok (.goto (-30), 3) := by decide +kernel
theorem dX7_copy_78 : decode cX7_copy 78 = .ok (.iconst 0, 1) := by decide +kernel
theorem dX7_copy_79 : decode cX7_copy 79 = .ok (.istore_n 2, 1) := by decide +kernel
theorem dX7_copy_80 : decode cX7_copy 80 = .ok (.iload_n 2, 1) := by decide +kernel
theorem dX7_copy_81 : decode cX7_copy 81 = .ok (.aload_n 0, 1) := by decide +kernel
theorem dX7_copy_82 : decode cX7_copy 82 = .ok (.getfield 46, 3) := by decide +kernel
theorem dX7_copy_85 : decode cX7_copy 85 = .ok (.if_icmp .ge 28, 3) := by decide +kernel
theorem dX7_copy_88 : decode cX7_copy 88 = .ok (.aload_n 0, 1) := by decide +kernel
theorem dX7_copy_89 : decode cX7_copy 89 = .ok (.getfield 19, 3) := by decide +kernel
theorem dX7_copy_92 : decode cX7_copy 92 = .ok (.iload_n 2, 1) := by decide +kernel
theorem dX7_copy_93 : decode cX7_copy 93 = .ok (.aaload, 1) := by decide +kernel
theorem dX7_copy_94 : decode cX7_copy 94 = .ok (.iconst 0, 1) := by decide +kernel
theorem dX7_copy_95 : decode cX7_copy 95 = .ok (.aload_n 1, 1) := by decide +kernel
theorem dX7_copy_96 : decode cX7_copy 96 = .ok (.getfield 19, 3) := by decide +kernel
theorem dX7_copy_99 : decode cX7_copy 99 = .ok (.iload_n 2, 1) := by decide +kernel
theorem dX7_copy_100 : decode cX7_copy 100 = .ok (.aaload, 1) := by decide +kernel
theorem dX7_copy_101 : decode cX7_copy 101 = .ok (.iconst 0, 1) := by decide +kernel
theorem dX7_copy_102 : decode cX7_copy 102 = .ok (.bipush 10, 2) := by decide +kernel
theorem dX7_copy_104 : decode cX7_copy 104 = .ok (.invokestatic 37, 3) := by decide +kernel
theorem dX7_copy_107 : decode cX7_copy 107 = .ok (.iinc 2 1, 3) := by decide +kernel
theorem dX7_copy_110 : decode cX7_copy 110 = .ok (.goto (-30), 3) := by decide +kernel
theorem dX7_copy_113 : decode cX7_copy 113 = .ok (.iconst 0, 1) := by decide +kernel
theorem dX7_copy_114 : decode cX7_copy 114 = .ok (.istore_n 2, 1) := by decide +kernel
theorem dX7_copy_115 : decode cX7_copy 115 = .ok (.iload_n 2, 1) := by decide +kernel
theorem dX7_copy_116 : decode cX7_copy 116 = .ok (.aload_n 0, 1) := by decide +kernel
theorem dX7_copy_117 : decode cX7_copy 117 = .ok (.getfield 49, 3) := by decide +kernel
theorem dX7_copy_120 : decode cX7_copy 120 = .ok (.if_icmp .ge 28, 3) := by decide +kernel
theorem dX7_copy_123 : decode cX7_copy 123 = .ok (.aload_n 0, 1) := by decide +kernel
theorem dX7_copy_124 : decode cX7_copy 124 = .ok (.getfield 22, 3) := by decide +kernel
theorem dX7_copy_127 : decode cX7_copy 127 = .ok (.iload_n 2, 1) := by decide +kernel
theorem dX7_copy_128 : decode cX7_copy 128 = .ok (.aaload, 1) := by decide +kernel
theorem dX7_copy_129 : decode cX7_copy 129 = .ok (.iconst 0, 1) := by decide +kernel
theorem dX7_copy_130 : decode cX7_copy 130 = .ok (.aload_n 1, 1) := by decide +kernel
theorem dX7_copy_131 : decode cX7_copy 131 = .ok (.getfield 22, 3) := by decide +kernel
theorem dX7_copy_134 : decode cX7_copy 134 = .ok (.iload_n 2, 1) := by decide +kernel
theorem dX7_copy_135 : decode cX7_copy 135 = .ok (.aaload, 1) := by decide +kernel
theorem dX7_copy_136 : decode cX7_copy 136 = .ok (.iconst 0, 1) := by decide +kernel
theorem dX7_copy_137 : decode cX7_copy 137 = .ok (.bipush 6, 2) := by decide +kernel
theorem dX7_copy_139 : decode cX7_copy 139 = .ok (.invokestatic 37, 3) := by decide +kernel
theorem dX7_copy_142 : decode cX7_copy 142 = .ok (.iinc 2 1, 3) := by decide +kernel
theorem dX7_copy_145 : decode cX7_copy 145 = .ok (.goto (-30), 3) := by decide +kernel
theorem dX7_copy_148 : decode cX7_copy 148 = .ok (.aload_n 1, 1) := by decide +kernel
theorem dX7_copy_149 : decode cX7_copy 149 = .ok (.aload_n 0, 1) := by decide +kernel
theorem dX7_copy_150 : decode cX7_copy 150 = .ok (.getfield 52, 3) := by decide +kernel
theorem dX7_copy_153 : decode cX7_copy 153 = .ok (.putfield 52, 3) := by decide +kernel
theorem dX7_copy_156 : decode cX7_copy 156 = .ok (.aload_n 1, 1) := by decide +kernel
theorem dX7_copy_157 : decode cX7_copy 157 = .ok (.aload_n 0, 1) := by decide +kernel
theorem dX7_copy_158 : decode cX7_copy 158 = .ok (.getfield 33, 3) := by decide +kernel
theorem dX7_copy_161 : decode cX7_copy 161 = .ok (.putfield 33, 3) := by decide +kernel
theorem dX7_copy_164 : decode cX7_copy 164 = .ok (.aload_n 1, 1) := by decide +kernel
theorem dX7_copy_165 : decode cX7_copy 165 = .ok (.aload_n 0, 1) := by decide +kernel
theorem dX7_copy_166 : decode cX7_copy 166 = .ok (.getfield 43, 3) := by decide +kernel
theorem dX7_copy_169 : decode cX7_copy 169 = .ok (.putfield 43, 3) := by decide +kernel
theorem dX7_copy_172 : decode cX7_copy 172 = .ok (.aload_n 1, 1) := by decide +kernel
theorem dX7_copy_173 : decode cX7_copy 173 = .ok (.aload_n 0, 1) := by decide +kernel
theorem dX7_copy_174 : decode cX7_copy 174 = .ok (.getfield 46, 3) := by decide +kernel
theorem dX7_copy_177 : decode cX7_copy 177 = .ok (.putfield 46, 3) := by decide +kernel
theorem dX7_copy_180 : decode cX7_copy 180 = .ok (.aload_n 1, 1) := by decide +kernel
theorem dX7_copy_181 : decode cX7_copy 181 = .ok (.aload_n 0, 1) := by decide +kernel
theorem dX7_copy_182 : decode cX7_copy 182 = .ok (.getfield 49, 3) := by decide +kernel
theorem dX7_copy_185 : decode cX7_copy 185 = .ok (.putfield 49, 3) := by decide +kernel
theorem dX7_copy_188 : decode cX7_copy 188 = .ok (.aload_n 1, 1) := by decide +kernel
theorem dX7_copy_189 : decode cX7_copy 189 = .ok (.areturn, 1) := by decide +kernel
theorem dX7_clock_0 : decode cX7_clock 0 = .ok (.aload_n 0, 1) := by decide +kernel
theorem dX7_clock_1 : decode cX7_clock 1 = .ok (.getfield 52, 3) := by decide +kernel
theorem dX7_clock_4 : decode cX7_clock 4 = .ok (.bipush 24, 2) := by decide +kernel
theorem dX7_clock_6 : decode cX7_clock 6 = .ok (.irem, 1) := by decide +kernel
theorem dX7_clock_7 : decode cX7_clock 7 = .ok (.ireturn, 1) := by decide +kernel
theorem dX7_brings_0 : decode cX7_brings 0 = .ok (.aload_n 0, 1) := by decide +kernel
theorem dX7_brings_1 : decode cX7_brings 1 = .ok (.bipush 9, 2) := by decide +kernel
theorem dX7_brings_3 : decode cX7_brings 3 = .ok (.iaload, 1) := by decide +kernel
theorem dX7_brings_4 : decode cX7_brings 4 = .ok (.bipush 100, 2) := by decide +kernel
theorem dX7_brings_6 : decode cX7_brings 6 = .ok (.aload_n 0, 1) := by decide +kernel
theorem dX7_brings_7 : decode cX7_brings 7 = .ok (.bipush 6, 2) := by decide +kernel
theorem dX7_brings_9 : decode cX7_brings 9 = .ok (.iaload, 1) := by decide +kernel
theorem dX7_brings_10 : decode cX7_brings 10 = .ok (.isub, 1) := by decide +kernel
theorem dX7_brings_11 : decode cX7_brings 11 = .ok (.imul, 1) := by decide +kernel
theorem dX7_brings_12 : decode cX7_brings 12 = .ok (.bipush 100, 2) := by decide +kernel
theorem dX7_brings_14 : decode cX7_brings 14 = .ok (.idiv, 1) := by decide +kernel
theorem dX7_brings_15 : decode cX7_brings 15 = .ok (.ireturn, 1) := by decide +kernel
theorem dX7_ripen_0 : decode cX7_ripen 0 = .ok (.aload_n 0, 1) := by decide +kernel
theorem dX7_ripen_1 : decode cX7_ripen 1 = .ok (.iconst 4, 1) := by decide +kernel
theorem dX7_ripen_2 : decode cX7_ripen 2 = .ok (.bipush 100, 2) := by decide +kernel
theorem dX7_ripen_4 : decode cX7_ripen 4 = .ok (.aload_n 0, 1) := by decide +kernel
theorem dX7_ripen_5 : decode cX7_ripen 5 = .ok (.iconst 4, 1) := by decide +kernel
theorem dX7_ripen_6 : decode cX7_ripen 6 = .ok (.iaload, 1) := by decide +kernel
theorem dX7_ripen_7 : decode cX7_ripen 7 = .ok (.iload_n 2, 1) := by decide +kernel
theorem dX7_ripen_8 : decode cX7_ripen 8 = .ok (.bipush 30, 2) := by decide +kernel
theorem dX7_ripen_10 : decode cX7_ripen 10 = .ok (.if_icmp .lt 7, 3) := by decide +kernel
theorem dX7_ripen_13 : decode cX7_ripen 13 = .ok (.iconst 2, 1) := by decide +kernel
theorem dX7_ripen_14 : decode cX7_ripen 14 = .ok (.goto 14, 3) := by decide +kernel
theorem dX7_ripen_17 : decode cX7_ripen 17 = .ok (.iload_n 2, 1) := by decide +kernel
theorem dX7_ripen_18 : decode cX7_ripen 18 = .ok (.bipush 15, 2) := by decide +kernel
theorem dX7_ripen_20 : decode cX7_ripen 20 = .ok (.if_icmp .lt 7, 3) := by decide +kernel
theorem dX7_ripen_23 : decode cX7_ripen 23 = .ok (.iconst 1, 1) := by decide +kernel
theorem dX7_ripen_24 : decode cX7_ripen 24 = .ok (.goto 4, 3) := by decide +kernel
theorem dX7_ripen_27 : decode cX7_ripen 27 = .ok (.iconst 0, 1) := by decide +kernel
theorem dX7_ripen_28 : decode cX7_ripen 28 = .ok (.iadd, 1) := by decide +kernel
theorem dX7_ripen_29 : decode cX7_ripen 29 = .ok (.invokestatic 55, 3) := by decide +kernel
theorem dX7_ripen_32 : decode cX7_ripen 32 = .ok (.iastore, 1) := by decide +kernel
theorem dX7_ripen_33 : decode cX7_ripen 33 = .ok (.iload 4, 2) := by decide +kernel
theorem dX7_ripen_35 : decode cX7_ripen 35 = .ok (.ifCond .le 20, 3) := by decide +kernel
theorem dX7_ripen_38 : decode cX7_ripen 38 = .ok (.aload_n 0, 1) := by decide +kernel
theorem dX7_ripen_39 : decode cX7_ripen 39 = .ok (.iconst 5, 1) := by decide +kernel
theorem dX7_ripen_40 : decode cX7_ripen 40 = .ok (.bipush 40, 2) := by decide +kernel
theorem dX7_ripen_42 : decode cX7_ripen 42 = .ok (.aload_n 0, 1) := by decide +kernel
theorem dX7_ripen_43 : decode cX7_ripen 43 = .ok (.iconst 5, 1) := by decide +kernel
theorem dX7_ripen_44 : decode cX7_ripen 44 = .ok (.iaload, 1) := by decide +kernel
theorem dX7_ripen_45 : decode cX7_ripen 45 = .ok (.iload 4, 2) := by decide +kernel
theorem dX7_ripen_47 : decode cX7_ripen 47 = .ok (.iadd, 1) := by decide +kernel
theorem dX7_ripen_48 : decode cX7_ripen 48 = .ok (.invokestatic 55, 3) := by decide +kernel
theorem dX7_ripen_51 : decode cX7_ripen 51 = .ok (.iastore, 1) := by decide +kernel
theorem dX7_ripen_52 : decode cX7_ripen 52 = .ok (.goto 59, 3) := by decide +kernel
theorem dX7_ripen_55 : decode cX7_ripen 55 = .ok (.aload_n 0, 1) := by decide +kernel
theorem dX7_ripen_56 : decode cX7_ripen 56 = .ok (.iconst 4, 1) := by decide +kernel
theorem dX7_ripen_57 : decode cX7_ripen 57 = .ok (.iaload, 1) := by decide +kernel
theorem dX7_ripen_58 : decode cX7_ripen 58 = .ok (.bipush 60, 2) := by decide +kernel
theorem dX7_ripen_60 : decode cX7_ripen 60 = .ok (.if_icmp .lt 22, 3) := by decide +kernel
theorem dX7_ripen_63 : decode cX7_ripen 63 = .ok (.aload_n 0, 1) := by decide +kernel
theorem dX7_ripen_64 : decode cX7_ripen 64 = .ok (.iconst 5, 1) := by decide +kernel
theorem dX7_ripen_65 : decode cX7_ripen 65 = .ok (.iaload, 1) := by decide +kernel
theorem dX7_ripen_66 : decode cX7_ripen 66 = .ok (.iload_n 3, 1) := by decide +kernel
theorem dX7_ripen_67 : decode cX7_ripen 67 = .ok (.iconst 4, 1) := by decide +kernel
theorem dX7_ripen_68 : decode cX7_ripen 68 = .ok (.idiv, 1) := by decide +kernel
theorem dX7_ripen_69 : decode cX7_ripen 69 = .ok (.if_icmp .ge 13, 3) := by decide +kernel
theorem dX7_ripen_72 : decode cX7_ripen 72 = .ok (.aload_n 0, 1) := by decide +kernel
theorem dX7_ripen_73 : decode cX7_ripen 73 = .ok (.iconst 5, 1) := by decide +kernel
theorem dX7_ripen_74 : decode cX7_ripen 74 = .ok (.dup2, 1) := by decide +kernel
theorem dX7_ripen_75 : decode cX7_ripen 75 = .ok (.iaload, 1) := by decide +kernel
theorem dX7_ripen_76 : decode cX7_ripen 76 = .ok (.iconst 1, 1) := by decide +kernel
theorem dX7_ripen_77 : decode cX7_ripen 77 = .ok (.iadd, 1) := by decide +kernel
theorem dX7_ripen_78 : decode cX7_ripen 78 = .ok (.iastore, 1) := by decide +kernel
theorem dX7_ripen_79 : decode cX7_ripen 79 = .ok (.goto 32, 3) := by decide +kernel
theorem dX7_ripen_82 : decode cX7_ripen 82 = .ok (.aload_n 0, 1) := by decide +kernel
theorem dX7_ripen_83 : decode cX7_ripen 83 = .ok (.iconst 4, 1) := by decide +kernel
theorem dX7_ripen_84 : decode cX7_ripen 84 = .ok (.iaload, 1) := by decide +kernel
theorem dX7_ripen_85 : decode cX7_ripen 85 = .ok (.bipush 60, 2) := by decide +kernel
theorem dX7_ripen_87 : decode cX7_ripen 87 = .ok (.if_icmp .lt 24, 3) := by decide +kernel
theorem dX7_ripen_90 : decode cX7_ripen 90 = .ok (.aload_n 0, 1) := by decide +kernel
theorem dX7_ripen_91 : decode cX7_ripen 91 = .ok (.iconst 5, 1) := by decide +kernel
theorem dX7_ripen_92 : decode cX7_ripen 92 = .ok (.iaload, 1) := by decide +kernel
theorem dX7_ripen_93 : decode cX7_ripen 93 = .ok (.iload_n 3, 1) := by decide +kernel
theorem dX7_ripen_94 : decode cX7_ripen 94 = .ok (.iconst 4, 1) := by decide +kernel
theorem dX7_ripen_95 : decode cX7_ripen 95 = .ok (.idiv, 1) := by decide +kernel
theorem dX7_ripen_96 : decode cX7_ripen 96 = .ok (.if_icmp .le 15, 3) := by decide +kernel
theorem dX7_ripen_99 : decode cX7_ripen 99 = .ok (.aload_n 0, 1) := by decide +kernel
theorem dX7_ripen_100 : decode cX7_ripen 100 = .ok (.iconst 5, 1) := by decide +kernel
theorem dX7_ripen_101 : decode cX7_ripen 101 = .ok (.iconst 5, 1) := by decide +kernel
theorem dX7_ripen_102 : decode cX7_ripen 102 = .ok (.aload_n 0, 1) := by decide +kernel
theorem dX7_ripen_103 : decode cX7_ripen 103 = .ok (.iconst 5, 1) := by decide +kernel
theorem dX7_ripen_104 : decode cX7_ripen 104 = .ok (.iaload, 1) := by decide +kernel
theorem dX7_ripen_105 : decode cX7_ripen 105 = .ok (.iconst 1, 1) := by decide +kernel
theorem dX7_ripen_106 : decode cX7_ripen 106 = .ok (.isub, 1) := by decide +kernel
theorem dX7_ripen_107 : decode cX7_ripen 107 = .ok (.invokestatic 61, 3) := by decide +kernel
theorem dX7_ripen_110 : decode cX7_ripen 110 = .ok (.iastore, 1) := by decide +kernel
theorem dX7_ripen_111 : decode cX7_ripen 111 = .ok (.aload_n 0, 1) := by decide +kernel
theorem dX7_ripen_112 : decode cX7_ripen 112 = .ok (.iconst 4, 1) := by decide +kernel
theorem dX7_ripen_113 : decode cX7_ripen 113 = .ok (.iaload, 1) := by decide +kernel
theorem dX7_ripen_114 : decode cX7_ripen 114 = .ok (.bipush 100, 2) := by decide +kernel
theorem dX7_ripen_116 : decode cX7_ripen 116 = .ok (.if_icmp .ge 4, 3) := by decide +kernel
theorem dX7_ripen_119 : decode cX7_ripen 119 = .ok (.return_, 1) := by decide +kernel
theorem dX7_ripen_120 : decode cX7_ripen 120 = .ok (.iload_n 1, 1) := by decide +kernel
theorem dX7_ripen_121 : decode cX7_ripen 121 = .ok (.bipush 12, 2) := by decide +kernel
theorem dX7_ripen_123 : decode cX7_ripen 123 = .ok (.if_icmp .lt 21, 3) := by decide +kernel
theorem dX7_ripen_126 : decode cX7_ripen 126 = .ok (.iload_n 1, 1) := by decide +kernel
theorem dX7_ripen_127 : decode cX7_ripen 127 = .ok (.bipush 17, 2) := by decide +kernel
theorem dX7_ripen_129 : decode cX7_ripen 129 = .ok (.if_icmp .gt 15, 3) := by decide +kernel
theorem dX7_ripen_132 : decode cX7_ripen 132 = .ok (.aload_n 0, 1) := by decide +kernel
theorem dX7_ripen_133 : decode cX7_ripen 133 = .ok (.iconst 5, 1) := by decide +kernel
theorem dX7_ripen_134 : decode cX7_ripen 134 = .ok (.iaload, 1) := by decide +kernel
theorem dX7_ripen_135 : decode cX7_ripen 135 = .ok (.bipush 14, 2) := by decide +kernel
theorem dX7_ripen_137 : decode cX7_ripen 137 = .ok (.if_icmp .ge 7, 3) := by decide +kernel
theorem dX7_ripen_140 : decode cX7_ripen 140 = .ok (.iconst 1, 1) := by decide +kernel
theorem dX7_ripen_141 : decode cX7_ripen 141 = .ok (.goto 4, 3) := by decide +kernel
theorem dX7_ripen_144 : decode cX7_ripen 144 = .ok (.iconst 0, 1) := by decide +kernel
theorem dX7_ripen_145 : decode cX7_ripen 145 = .ok (.iload 4, 2) := by decide +kernel
theorem dX7_ripen_147 : decode cX7_ripen 147 = .ok (.bipush 10, 2) := by decide +kernel
theorem dX7_ripen_149 : decode cX7_ripen 149 = .ok (.if_icmp .lt 7, 3) := by decide +kernel
theorem dX7_ripen_152 : decode cX7_ripen 152 = .ok (.iconst 5, 1) := by decide +kernel
theorem dX7_ripen_153 : decode cX7_ripen 153 = .ok (.goto 4, 3) := by decide +kernel
theorem dX7_ripen_156 : decode cX7_ripen 156 = .ok (.iconst 0, 1) := by decide +kernel
theorem dX7_ripen_157 : decode cX7_ripen 157 = .ok (.iadd, 1) := by decide +kernel
theorem dX7_ripen_158 : decode cX7_ripen 158 = .ok (.istore 5, 2) := by decide +kernel
theorem dX7_ripen_160 : decode cX7_ripen 160 = .ok (.aload_n 0, 1) := by decide +kernel
theorem dX7_ripen_161 : decode cX7_ripen 161 = .ok (.bipush 6, 2) := by decide +kernel
theorem dX7_ripen_163 : decode cX7_ripen 163 = .ok (.bipush 100, 2) := by decide +kernel
theorem dX7_ripen_165 : decode cX7_ripen 165 = .ok (.aload_n 0, 1) := by decide +kernel
theorem dX7_ripen_166 : decode cX7_ripen 166 = .ok (.bipush 6, 2) := by decide +kernel
theorem dX7_ripen_168 : decode cX7_ripen 168 = .ok (.iaload, 1) := by decide +kernel
theorem dX7_ripen_169 : decode cX7_ripen 169 = .ok (.iload 5, 2) := by decide +kernel
theorem dX7_ripen_171 : decode cX7_ripen 171 = .ok (.iadd, 1) := by decide +kernel
theorem dX7_ripen_172 : decode cX7_ripen 172 = .ok (.invokestatic 55, 3) := by decide +kernel
theorem dX7_ripen_175 : decode cX7_ripen 175 = .ok (.iastore, 1) := by decide +kernel
theorem dX7_ripen_176 : decode cX7_ripen 176 = .ok (.return_, 1) := by decide +kernel
theorem dX7_go_0 : decode cX7_go 0 = .ok (.aload_n 0, 1) := by decide +kernel
theorem dX7_go_1 : decode cX7_go 1 = .ok (.dup, 1) := by decide +kernel
theorem dX7_go_2 : decode cX7_go 2 = .ok (.getfield 52, 3) := by decide +kernel
theorem dX7_go_5 : decode cX7_go 5 = .ok (.iconst 1, 1) := by decide +kernel
theorem dX7_go_6 : decode cX7_go 6 = .ok (.iadd, 1) := by decide +kernel
theorem dX7_go_7 : decode cX7_go 7 = .ok (.putfield 52, 3) := by decide +kernel
theorem dX7_go_10 : decode cX7_go 10 = .ok (.iconst 0, 1) := by decide +kernel
theorem dX7_go_11 : decode cX7_go 11 = .ok (.istore 4, 2) := by decide +kernel
theorem dX7_go_13 : decode cX7_go 13 = .ok (.iload 4, 2) := by decide +kernel
theorem dX7_go_15 : decode cX7_go 15 = .ok (.aload_n 0, 1) := by decide +kernel
theorem dX7_go_16 : decode cX7_go 16 = .ok (.getfield 33, 3) := by decide +kernel
theorem dX7_go_19 : decode cX7_go 19 = .ok (.if_icmp .ge 26, 3) := by decide +kernel
theorem dX7_go_22 : decode cX7_go 22 = .ok (.aload_n 0, 1) := by decide +kernel
theorem dX7_go_23 : decode cX7_go 23 = .ok (.getfield 11, 3) := by decide +kernel
theorem dX7_go_26 : decode cX7_go 26 = .ok (.iload 4, 2) := by decide +kernel
theorem dX7_go_28 : decode cX7_go 28 = .ok (.aaload, 1) := by decide +kernel
theorem dX7_go_29 : decode cX7_go 29 = .ok (.aload_n 0, 1) := by decide +kernel
theorem dX7_go_30 : decode cX7_go 30 = .ok (.invokevirtual 64, 3) := by decide +kernel
theorem dX7_go_33 : decode cX7_go 33 = .ok (.iload_n 1, 1) := by decide +kernel
theorem dX7_go_34 : decode cX7_go 34 = .ok (.iload_n 2, 1) := by decide +kernel
theorem dX7_go_35 : decode cX7_go 35 = .ok (.iload_n 3, 1) := by decide +kernel
theorem dX7_go_36 : decode cX7_go 36 = .ok (.invokestatic 68, 3) := by decide +kernel
theorem dX7_go_39 : decode cX7_go 39 = .ok (.iinc 4 1, 3) := by decide +kernel
theorem dX7_go_42 : decode cX7_go 42 = .ok (.goto (-29), 3) := by decide +kernel
theorem dX7_go_45 : decode cX7_go 45 = .ok (.iconst 0, 1) := by decide +kernel
theorem dX7_go_46 : decode cX7_go 46 = .ok (.istore 4, 2) := by decide +kernel
theorem dX7_go_48 : decode cX7_go 48 = .ok (.iload 4, 2) := by decide +kernel
theorem dX7_go_50 : decode cX7_go 50 = .ok (.aload_n 0, 1) := by decide +kernel
theorem dX7_go_51 : decode cX7_go 51 = .ok (.getfield 43, 3) := by decide +kernel
theorem dX7_go_54 : decode cX7_go 54 = .ok (.if_icmp .ge 23, 3) := by decide +kernel
theorem dX7_go_57 : decode cX7_go 57 = .ok (.aload_n 0, 1) := by decide +kernel
theorem dX7_go_58 : decode cX7_go 58 = .ok (.iload 4, 2) := by decide +kernel
theorem dX7_go_60 : decode cX7_go 60 = .ok (.aload_n 0, 1) := by decide +kernel
theorem dX7_go_61 : decode cX7_go 61 = .ok (.getfield 16, 3) := by decide +kernel
theorem dX7_go_64 : decode cX7_go 64 = .ok (.iload 4, 2) := by decide +kernel
theorem dX7_go_66 : decode cX7_go 66 = .ok (.aaload, 1) := by decide +kernel
theorem dX7_go_67 : decode cX7_go 67 = .ok (.iload_n 3, 1) := by decide +kernel
theorem dX7_go_68 : decode cX7_go 68 = .ok (.invokevirtual 72, 3) := by decide +kernel
theorem dX7_go_71 : decode cX7_go 71 = .ok (.iinc 4 1, 3) := by decide +kernel
theorem dX7_go_74 : decode cX7_go 74 = .ok (.goto (-26), 3) := by decide +kernel
theorem dX7_go_77 : decode cX7_go 77 = .ok (.aload_n 0, 1) := by decide +kernel
theorem dX7_go_78 : decode cX7_go 78 = .ok (.getfield 28, 3) := by decide +kernel
theorem dX7_go_81 : decode cX7_go 81 = .ok (.invokeinterface 76 1, 5) := by decide +kernel
theorem dX7_go_86 : decode cX7_go 86 = .ok (.istore 4, 2) := by decide +kernel
theorem dX7_go_88 : decode cX7_go 88 = .ok (.iconst 0, 1) := by decide +kernel
theorem dX7_go_89 : decode cX7_go 89 = .ok (.istore 5, 2) := by decide +kernel
theorem dX7_go_91 : decode cX7_go 91 = .ok (.iload 5, 2) := by decide +kernel
theorem dX7_go_93 : decode cX7_go 93 = .ok (.aload_n 0, 1) := by decide +kernel
theorem dX7_go_94 : decode cX7_go 94 = .ok (.getfield 46, 3) := by decide +kernel
theorem dX7_go_97 : decode cX7_go 97 = .ok (.if_icmp .ge 20, 3) := by decide +kernel
theorem dX7_go_100 : decode cX7_go 100 = .ok (.aload_n 0, 1) := by decide +kernel
theorem dX7_go_101 : decode cX7_go 101 = .ok (.aload_n 0, 1) := by decide +kernel
theorem dX7_go_102 : decode cX7_go 102 = .ok (.getfield 19, 3) := by decide +kernel
theorem dX7_go_105 : decode cX7_go 105 = .ok (.iload 5, 2) := by decide +kernel
theorem dX7_go_107 : decode cX7_go 107 = .ok (.aaload, 1) := by decide +kernel
theorem dX7_go_108 : decode cX7_go 108 = .ok (.invokevirtual 81, 3) := by decide +kernel
theorem dX7_go_111 : decode cX7_go 111 = .ok (.iinc 5 1, 3) := by decide +kernel
theorem dX7_go_114 : decode cX7_go 114 = .ok (.goto (-23), 3) := by decide +kernel
theorem dX7_go_117 : decode cX7_go 117 = .ok (.aload_n 0, 1) := by decide +kernel
theorem dX7_go_118 : decode cX7_go 118 = .ok (.getfield 28, 3) := by decide +kernel
theorem dX7_go_121 : decode cX7_go 121 = .ok (.invokeinterface 76 1, 5) := by decide +kernel
theorem dX7_go_126 : decode cX7_go 126 = .ok (.iload 4, 2) := by decide +kernel
theorem dX7_go_128 : decode cX7_go 128 = .ok (.isub, 1) := by decide +kernel
theorem dX7_go_129 : decode cX7_go 129 = .ok (.ireturn, 1) := by decide +kernel
theorem dX7_towards_0 : decode cX7_towards 0 = .ok (.aload_n 0, 1) := by decide +kernel
theorem dX7_towards_1 : decode cX7_towards 1 = .ok (.iconst 1, 1) := by decide +kernel
theorem dX7_towards_2 : decode cX7_towards 2 = .ok (.aload_n 0, 1) := by decide +kernel
theorem dX7_towards_3 : decode cX7_towards 3 = .ok (.iconst 1, 1) := by decide +kernel
theorem dX7_towards_4 : decode cX7_towards 4 = .ok (.iaload, 1) := by decide +kernel
theorem dX7_towards_5 : decode cX7_towards 5 = .ok (.iload_n 1, 1) := by decide +kernel
theorem dX7_towards_6 : decode cX7_towards 6 = .ok (.if_icmp .ge 15, 3) := by decide +kernel
theorem dX7_towards_9 : decode cX7_towards 9 = .ok (.iload_n 1, 1) := by decide +kernel
theorem dX7_towards_10 : decode cX7_towards 10 = .ok (.aload_n 0, 1) := by decide +kernel
theorem dX7_towards_11 : decode cX7_towards 11 = .ok (.iconst 1, 1) := by decide +kernel
theorem dX7_towards_12 : decode cX7_towards 12 = .ok (.iaload, 1) := by decide +kernel
theorem dX7_towards_13 : decode cX7_towards 13 = .ok (.iload_n 2, 1) := by decide +kernel
theorem dX7_towards_14 : decode cX7_towards 14 = .ok (.iadd, 1) := by decide +kernel
theorem dX7_towards_15 : decode cX7_towards 15 = .ok (.invokestatic 55, 3) := by decide +kernel
theorem dX7_towards_18 : decode cX7_towards 18 = .ok (.goto 12, 3) := by decide +kernel
theorem dX7_towards_21 : decode cX7_towards 21 = .ok (.iload_n 1, 1) := by decide +kernel
theorem dX7_towards_22 : decode cX7_towards 22 = .ok (.aload_n 0, 1) := by decide +kernel
theorem dX7_towards_23 : decode cX7_towards 23 = .ok (.iconst 1, 1) := by decide +kernel
theorem dX7_towards_24 : decode cX7_towards 24 = .ok (.iaload, 1) := by decide +kernel
theorem dX7_towards_25 : decode cX7_towards 25 = .ok (.iload_n 2, 1) := by decide +kernel
theorem dX7_towards_26 : decode cX7_towards 26 = .ok (.isub, 1) := by decide +kernel
theorem dX7_towards_27 : decode cX7_towards 27 = .ok (.invokestatic 61, 3) := by decide +kernel
theorem dX7_towards_30 : decode cX7_towards 30 = .ok (.iastore, 1) := by decide +kernel
theorem dX7_towards_31 : decode cX7_towards 31 = .ok (.return_, 1) := by decide +kernel
theorem dX7_work_0 : decode cX7_work 0 = .ok (.aload_n 2, 1) := by decide +kernel
theorem dX7_work_1 : decode cX7_work 1 = .ok (.bipush 6, 2) := by decide +kernel
theorem dX7_work_3 : decode cX7_work 3 = .ok (.iaload, 1) := by decide +kernel
theorem dX7_work_4 : decode cX7_work 4 = .ok (.iconst 1, 1) := by decide +kernel
theorem dX7_work_5 : decode cX7_work 5 = .ok (.if_icmp .eq 11, 3) := by decide +kernel
theorem dX7_work_8 : decode cX7_work 8 = .ok (.aload_n 2, 1) := by decide +kernel
theorem dX7_work_9 : decode cX7_work 9 = .ok (.bipush 7, 2) := by decide +kernel
theorem dX7_work_11 : decode cX7_work 11 = .ok (.iaload, 1) := by decide +kernel
theorem dX7_work_12 : decode cX7_work 12 = .ok (.iconst (-1), 1) := by decide +kernel
theorem dX7_work_13 : decode cX7_work 13 = .ok (.if_icmp .ne 4, 3) := by decide +kernel
theorem dX7_work_16 : decode cX7_work 16 = .ok (.return_, 1) := by decide +kernel
theorem dX7_work_17 : decode cX7_work 17 = .ok (.aload_n 0, 1) := by decide +kernel
theorem dX7_work_18 : decode cX7_work 18 = .ok (.getfield 11, 3) := by decide +kernel
theorem dX7_work_21 : decode cX7_work 21 = .ok (.aload_n 2, 1) := by decide +kernel
theorem dX7_work_22 : decode cX7_work 22 = .ok (.bipush 7, 2) := by decide +kernel
theorem dX7_work_24 : decode cX7_work 24 = .ok (.iaload, 1) := by decide +kernel
theorem dX7_work_25 : decode cX7_work 25 = .ok (.aaload, 1) := by decide +kernel
theorem dX7_work_26 : decode cX7_work 26 = .ok (.astore 4, 2) := by decide +kernel
theorem dX7_work_28 : decode cX7_work 28 = .ok (.aload_n 2, 1) := by decide +kernel
theorem dX7_work_29 : decode cX7_work 29 = .ok (.iconst 1, 1) := by decide +kernel
theorem dX7_work_30 : decode cX7_work 30 = .ok (.iaload, 1) := by decide +kernel
theorem dX7_work_31 : decode cX7_work 31 = .ok (.aload 4, 2) := by decide +kernel
theorem dX7_work_33 : decode cX7_work 33 = .ok (.iconst 1, 1) := by decide +kernel
theorem dX7_work_34 : decode cX7_work 34 = .ok (.iaload, 1) := by decide +kernel
theorem dX7_work_35 : decode cX7_work 35 = .ok (.if_icmp .eq 14, 3) := by decide +kernel
theorem dX7_work_38 : decode cX7_work 38 = .ok (.aload_n 2, 1) := by decide +kernel
theorem dX7_work_39 : decode cX7_work 39 = .ok (.aload 4, 2) := by decide +kernel
theorem dX7_work_41 : decode cX7_work 41 = .ok (.iconst 1, 1) := by decide +kernel
theorem dX7_work_42 : decode cX7_work 42 = .ok (.iaload, 1) := by decide +kernel
theorem dX7_work_43 : decode cX7_work 43 = .ok (.bipush 20, 2) := by decide +kernel
theorem dX7_work_45 : decode cX7_work 45 = .ok (.invokestatic 85, 3) := by decide +kernel
theorem dX7_work_48 : decode cX7_work 48 = .ok (.return_, 1) := by decide +kernel
theorem dX7_work_49 : decode cX7_work 49 = .ok (.aload 4, 2) := by decide +kernel
theorem dX7_work_51 : decode cX7_work 51 = .ok (.invokestatic 89, 3) := by decide +kernel
theorem dX7_work_54 : decode cX7_work 54 = .ok (.istore 5, 2) := by decide +kernel
theorem dX7_work_56 : decode cX7_work 56 = .ok (.aload_n 2, 1) := by decide +kernel
theorem dX7_work_57 : decode cX7_work 57 = .ok (.iconst 0, 1) := by decide +kernel
theorem dX7_work_58 : decode cX7_work 58 = .ok (.iaload, 1) := by decide +kernel
theorem dX7_work_59 : decode cX7_work 59 = .ok (.aload 4, 2) := by decide +kernel
theorem dX7_work_61 : decode cX7_work 61 = .ok (.iconst 2, 1) := by decide +kernel
theorem dX7_work_62 : decode cX7_work 62 = .ok (.iaload, 1) := by decide +kernel
theorem dX7_work_63 : decode cX7_work 63 = .ok (.aload 4, 2) := by decide +kernel
theorem dX7_work_65 : decode cX7_work 65 = .ok (.iconst 3, 1) := by decide +kernel
theorem dX7_work_66 : decode cX7_work 66 = .ok (.iaload, 1) := by decide +kernel
theorem dX7_work_67 : decode cX7_work 67 = .ok (.isub, 1) := by decide +kernel
theorem dX7_work_68 : decode cX7_work 68 = .ok (.invokestatic 55, 3) := by decide +kernel
theorem dX7_work_71 : decode cX7_work 71 = .ok (.istore 6, 2) := by decide +kernel
theorem dX7_work_73 : decode cX7_work 73 = .ok (.iload 5, 2) := by decide +kernel
theorem dX7_work_75 : decode cX7_work 75 = .ok (.ifCond .le 20, 3) := by decide +kernel
theorem dX7_work_78 : decode cX7_work 78 = .ok (.iload 6, 2) := by decide +kernel
theorem dX7_work_80 : decode cX7_work 80 = .ok (.sipush 400, 3) := by decide +kernel
theorem dX7_work_83 : decode cX7_work 83 = .ok (.aload_n 2, 1) := by decide +kernel
theorem dX7_work_84 : decode cX7_work 84 = .ok (.iconst 2, 1) := by decide +kernel
theorem dX7_work_85 : decode cX7_work 85 = .ok (.iaload, 1) := by decide +kernel
theorem dX7_work_86 : decode cX7_work 86 = .ok (.isub, 1) := by decide +kernel
theorem dX7_work_87 : decode cX7_work 87 = .ok (.iload 5, 2) := by decide +kernel
theorem dX7_work_89 : decode cX7_work 89 = .ok (.idiv, 1) := by decide +kernel
theorem dX7_work_90 : decode cX7_work 90 = .ok (.invokestatic 55, 3) := by decide +kernel
theorem dX7_work_93 : decode cX7_work 93 = .ok (.istore 6, 2) := by decide +kernel
theorem dX7_work_95 : decode cX7_work 95 = .ok (.iload_n 3, 1) := by decide +kernel
theorem dX7_work_96 : decode cX7_work 96 = .ok (.ifCond .gt 51, 3) := by decide +kernel
theorem dX7_work_99 : decode cX7_work 99 = .ok (.aload 4, 2) := by decide +kernel
theorem dX7_work_101 : decode cX7_work 101 = .ok (.iconst 4, 1) := by decide +kernel
theorem dX7_work_102 : decode cX7_work 102 = .ok (.iaload, 1) := by decide +kernel
theorem dX7_work_103 : decode cX7_work 103 = .ok (.bipush 80, 2) := by decide +kernel
theorem dX7_work_105 : decode cX7_work 105 = .ok (.if_icmp .lt 42, 3) := by decide +kernel
theorem dX7_work_108 : decode cX7_work 108 = .ok (.aload 4, 2) := by decide +kernel
theorem dX7_work_110 : decode cX7_work 110 = .ok (.iconst 5, 1) := by decide +kernel
theorem dX7_work_111 : decode cX7_work 111 = .ok (.iaload, 1) := by decide +kernel
theorem dX7_work_112 : decode cX7_work 112 = .ok (.bipush 20, 2) := by decide +kernel
theorem dX7_work_114 : decode cX7_work 114 = .ok (.if_icmp .ge 33, 3) := by decide +kernel
theorem dX7_work_117 : decode cX7_work 117 = .ok (.aload_n 0, 1) := by decide +kernel
theorem dX7_work_118 : decode cX7_work 118 = .ok (.invokevirtual 64, 3) := by decide +kernel
theorem dX7_work_121 : decode cX7_work 121 = .ok (.bipush 8, 2) := by decide +kernel
theorem dX7_work_123 : decode cX7_work 123 = .ok (.if_icmp .lt 24, 3) := by decide +kernel
theorem dX7_work_126 : decode cX7_work 126 = .ok (.aload_n 2, 1) := by decide +kernel
theorem dX7_work_127 : decode cX7_work 127 = .ok (.iconst 2, 1) := by decide +kernel
theorem dX7_work_128 : decode cX7_work 128 = .ok (.iaload, 1) := by decide +kernel
theorem dX7_work_129 : decode cX7_work 129 = .ok (.ifCond .le 13, 3) := by decide +kernel
theorem dX7_work_132 : decode cX7_work 132 = .ok (.aload_n 2, 1) := by decide +kernel
theorem dX7_work_133 : decode cX7_work 133 = .ok (.iconst 3, 1) := by decide +kernel
theorem dX7_work_134 : decode cX7_work 134 = .ok (.iaload, 1) := by decide +kernel
theorem dX7_work_135 : decode cX7_work 135 = .ok (.aload_n 2, 1) := by decide +kernel
theorem dX7_work_136 : decode cX7_work 136 = .ok (.bipush 7, 2) := by decide +kernel
theorem dX7_work_138 : decode cX7_work 138 = .ok (.iaload, 1) := by decide +kernel
theorem dX7_work_139 : decode cX7_work 139 = .ok (.if_icmp .ne 8, 3) := by decide +kernel
theorem dX7_work_142 : decode cX7_work 142 = .ok (.iload 6, 2) := by decide +kernel
theorem dX7_work_144 : decode cX7_work 144 = .ok (.ifCond .ne 12, 3) := by decide +kernel
theorem dX7_work_147 : decode cX7_work 147 = .ok (.aload_n 2, 1) := by decide +kernel
theorem dX7_work_148 : decode cX7_work 148 = .ok (.bipush 9, 2) := by decide +kernel
theorem dX7_work_150 : decode cX7_work 150 = .ok (.dup2, 1) := by decide +kernel
theorem dX7_work_151 : decode cX7_work 151 = .ok (.iaload, 1) := by decide +kernel
theorem dX7_work_152 : decode cX7_work 152 = .ok (.iconst 1, 1) := by decide +kernel
theorem dX7_work_153 : decode cX7_work 153 = .ok (.iadd, 1) := by decide +kernel
theorem dX7_work_154 : decode cX7_work 154 = .ok (.iastore, 1) := by decide +kernel
theorem dX7_work_155 : decode cX7_work 155 = .ok (.return_, 1) := by decide +kernel
theorem dX7_work_156 : decode cX7_work 156 = .ok (.iload 6, 2) := by decide +kernel
theorem dX7_work_158 : decode cX7_work 158 = .ok (.iload 5, 2) := by decide +kernel
theorem dX7_work_160 : decode cX7_work 160 = .ok (.imul, 1) := by decide +kernel
theorem dX7_work_161 : decode cX7_work 161 = .ok (.istore 7, 2) := by decide +kernel
theorem dX7_work_163 : decode cX7_work 163 = .ok (.aload 4, 2) := by decide +kernel
theorem dX7_work_165 : decode cX7_work 165 = .ok (.iconst 3, 1) := by decide +kernel
theorem dX7_work_166 : decode cX7_work 166 = .ok (.dup2, 1) := by decide +kernel
theorem dX7_work_167 : decode cX7_work 167 = .ok (.iaload, 1) := by decide +kernel
theorem dX7_work_168 : decode cX7_work 168 = .ok (.iload 6, 2) := by decide +kernel
theorem dX7_work_170 : decode cX7_work 170 = .ok (.iadd, 1) := by decide +kernel
theorem dX7_work_171 : decode cX7_work 171 = .ok (.iastore, 1) := by decide +kernel
theorem dX7_work_172 : decode cX7_work 172 = .ok (.aload 4, 2) := by decide +kernel
theorem dX7_work_174 : decode cX7_work 174 = .ok (.bipush 7, 2) := by decide +kernel
theorem dX7_work_176 : decode cX7_work 176 = .ok (.dup2, 1) := by decide +kernel
theorem dX7_work_177 : decode cX7_work 177 = .ok (.iaload, 1) := by decide +kernel
theorem dX7_work_178 : decode cX7_work 178 = .ok (.iload 7, 2) := by decide +kernel
theorem dX7_work_180 : decode cX7_work 180 = .ok (.bipush 96, 2) := by decide +kernel
theorem dX7_work_182 : decode cX7_work 182 = .ok (.iconst 3, 1) := by decide +kernel
theorem dX7_work_183 : decode cX7_work 183 = .ok (.iload_n 1, 1) := by decide +kernel
theorem dX7_work_184 : decode cX7_work 184 = .ok (.imul, 1) := by decide +kernel
theorem dX7_work_185 : decode cX7_work 185 = .ok (.iadd, 1) := by decide +kernel
theorem dX7_work_186 : decode cX7_work 186 = .ok (.aload_n 2, 1) := by decide +kernel
theorem dX7_work_187 : decode cX7_work 187 = .ok (.iconst 5, 1) := by decide +kernel
theorem dX7_work_188 : decode cX7_work 188 = .ok (.iaload, 1) := by decide +kernel
theorem dX7_work_189 : decode cX7_work 189 = .ok (.bipush 20, 2) := by decide +kernel
theorem dX7_work_191 : decode cX7_work 191 = .ok (.idiv, 1) := by decide +kernel
theorem dX7_work_192 : decode cX7_work 192 = .ok (.iadd, 1) := by decide +kernel
theorem dX7_work_193 : decode cX7_work 193 = .ok (.imul, 1) := by decide +kernel
theorem dX7_work_194 : decode cX7_work 194 = .ok (.bipush 100, 2) := by decide +kernel
theorem dX7_work_196 : decode cX7_work 196 = .ok (.idiv, 1) := by decide +kernel
theorem dX7_work_197 : decode cX7_work 197 = .ok (.iadd, 1) := by decide +kernel
theorem dX7_work_198 : decode cX7_work 198 = .ok (.iastore, 1) := by decide +kernel
theorem dX7_work_199 : decode cX7_work 199 = .ok (.iload 7, 2) := by decide +kernel
theorem dX7_work_201 : decode cX7_work 201 = .ok (.ifCond .le 44, 3) := by decide +kernel
theorem dX7_work_204 : decode cX7_work 204 = .ok (.aload_n 2, 1) := by decide +kernel
theorem dX7_work_205 : decode cX7_work 205 = .ok (.iconst 4, 1) := by decide +kernel
theorem dX7_work_206 : decode cX7_work 206 = .ok (.aload_n 2, 1) := by decide +kernel
theorem dX7_work_207 : decode cX7_work 207 = .ok (.iconst 2, 1) := by decide +kernel
theorem dX7_work_208 : decode cX7_work 208 = .ok (.iaload, 1) := by decide +kernel
theorem dX7_work_209 : decode cX7_work 209 = .ok (.ifCond .ne 10, 3) := by decide +kernel
theorem dX7_work_212 : decode cX7_work 212 = .ok (.aload 4, 2) := by decide +kernel
theorem dX7_work_214 : decode cX7_work 214 = .ok (.iconst 5, 1) := by decide +kernel
theorem dX7_work_215 : decode cX7_work 215 = .ok (.iaload, 1) := by decide +kernel
theorem dX7_work_216 : decode cX7_work 216 = .ok (.goto 13, 3) := by decide +kernel
theorem dX7_work_219 : decode cX7_work 219 = .ok (.aload_n 2, 1) := by decide +kernel
theorem dX7_work_220 : decode cX7_work 220 = .ok (.iconst 4, 1) := by decide +kernel
theorem dX7_work_221 : decode cX7_work 221 = .ok (.iaload, 1) := by decide +kernel
theorem dX7_work_222 : decode cX7_work 222 = .ok (.aload 4, 2) := by decide +kernel
theorem dX7_work_224 : decode cX7_work 224 = .ok (.iconst 5, 1) := by decide +kernel
theorem dX7_work_225 : decode cX7_work 225 = .ok (.iaload, 1) := by decide +kernel
theorem dX7_work_226 : decode cX7_work 226 = .ok (.invokestatic 61, 3) := by decide +kernel
theorem dX7_work_229 : decode cX7_work 229 = .ok (.iastore, 1) := by decide +kernel
theorem dX7_work_230 : decode cX7_work 230 = .ok (.aload_n 2, 1) := by decide +kernel
theorem dX7_work_231 : decode cX7_work 231 = .ok (.iconst 2, 1) := by decide +kernel
theorem dX7_work_232 : decode cX7_work 232 = .ok (.dup2, 1) := by decide +kernel
theorem dX7_work_233 : decode cX7_work 233 = .ok (.iaload, 1) := by decide +kernel
theorem dX7_work_234 : decode cX7_work 234 = .ok (.iload 7, 2) := by decide +kernel
theorem dX7_work_236 : decode cX7_work 236 = .ok (.iadd, 1) := by decide +kernel
theorem dX7_work_237 : decode cX7_work 237 = .ok (.iastore, 1) := by decide +kernel
theorem dX7_work_238 : decode cX7_work 238 = .ok (.aload_n 2, 1) := by decide +kernel
theorem dX7_work_239 : decode cX7_work 239 = .ok (.iconst 3, 1) := by decide +kernel
theorem dX7_work_240 : decode cX7_work 240 = .ok (.aload_n 2, 1) := by decide +kernel
theorem dX7_work_241 : decode cX7_work 241 = .ok (.bipush 7, 2) := by decide +kernel
theorem dX7_work_243 : decode cX7_work 243 = .ok (.iaload, 1) := by decide +kernel
theorem dX7_work_244 : decode cX7_work 244 = .ok (.iastore, 1) := by decide +kernel
theorem dX7_work_245 : decode cX7_work 245 = .ok (.aload_n 2, 1) := by decide +kernel
theorem dX7_work_246 : decode cX7_work 246 = .ok (.bipush 10, 2) := by decide +kernel
theorem dX7_work_248 : decode cX7_work 248 = .ok (.dup2, 1) := by decide +kernel
theorem dX7_work_249 : decode cX7_work 249 = .ok (.iaload, 1) := by decide +kernel
theorem dX7_work_250 : decode cX7_work 250 = .ok (.iload 7, 2) := by decide +kernel
theorem dX7_work_252 : decode cX7_work 252 = .ok (.iadd, 1) := by decide +kernel
theorem dX7_work_253 : decode cX7_work 253 = .ok (.iastore, 1) := by decide +kernel
theorem dX7_work_254 : decode cX7_work 254 = .ok (.aload_n 2, 1) := by decide +kernel
theorem dX7_work_255 : decode cX7_work 255 = .ok (.bipush 8, 2) := by decide +kernel
theorem dX7_work_257 : decode cX7_work 257 = .ok (.dup2, 1) := by decide +kernel
theorem dX7_work_258 : decode cX7_work 258 = .ok (.iaload, 1) := by decide +kernel
theorem dX7_work_259 : decode cX7_work 259 = .ok (.iload 6, 2) := by decide +kernel
theorem dX7_work_261 : decode cX7_work 261 = .ok (.iadd, 1) := by decide +kernel
theorem dX7_work_262 : decode cX7_work 262 = .ok (.iastore, 1) := by decide +kernel
theorem dX7_work_263 : decode cX7_work 263 = .ok (.aload_n 2, 1) := by decide +kernel
theorem dX7_work_264 : decode cX7_work 264 = .ok (.iconst 5, 1) := by decide +kernel
theorem dX7_work_265 : decode cX7_work 265 = .ok (.dup2, 1) := by decide +kernel
theorem dX7_work_266 : decode cX7_work 266 = .ok (.iaload, 1) := by decide +kernel
theorem dX7_work_267 : decode cX7_work 267 = .ok (.iload 6, 2) := by decide +kernel
theorem dX7_work_269 : decode cX7_work 269 = .ok (.iadd, 1) := by decide +kernel
theorem dX7_work_270 : decode cX7_work 270 = .ok (.iastore, 1) := by decide +kernel
theorem dX7_work_271 : decode cX7_work 271 = .ok (.aload_n 2, 1) := by decide +kernel
theorem dX7_work_272 : decode cX7_work 272 = .ok (.bipush 6, 2) := by decide +kernel
theorem dX7_work_274 : decode cX7_work 274 = .ok (.aload_n 2, 1) := by decide +kernel
theorem dX7_work_275 : decode cX7_work 275 = .ok (.iconst 5, 1) := by decide +kernel
theorem dX7_work_276 : decode cX7_work 276 = .ok (.iaload, 1) := by decide +kernel
theorem dX7_work_277 : decode cX7_work 277 = .ok (.bipush 100, 2) := by decide +kernel
theorem dX7_work_279 : decode cX7_work 279 = .ok (.if_icmp .lt 7, 3) := by decide +kernel
theorem dX7_work_282 : decode cX7_work 282 = .ok (.iconst 1, 1) := by decide +kernel
theorem dX7_work_283 : decode cX7_work 283 = .ok (.goto 4, 3) := by decide +kernel
theorem dX7_work_286 : decode cX7_work 286 = .ok (.iconst 0, 1) := by decide +kernel
theorem dX7_work_287 : decode cX7_work 287 = .ok (.iastore, 1) := by decide +kernel
theorem dX7_work_288 : decode cX7_work 288 = .ok (.return_, 1) := by decide +kernel
theorem dX7_drive_0 : decode cX7_drive 0 = .ok (.aload_n 1, 1) := by decide +kernel
theorem dX7_drive_1 : decode cX7_drive 1 = .ok (.iconst 5, 1) := by decide +kernel
theorem dX7_drive_2 : decode cX7_drive 2 = .ok (.iaload, 1) := by decide +kernel
theorem dX7_drive_3 : decode cX7_drive 3 = .ok (.bipush 10, 2) := by decide +kernel
theorem dX7_drive_5 : decode cX7_drive 5 = .ok (.if_icmp .ge 15, 3) := by decide +kernel
theorem dX7_drive_8 : decode cX7_drive 8 = .ok (.aload_n 1, 1) := by decide +kernel
theorem dX7_drive_9 : decode cX7_drive 9 = .ok (.iconst 0, 1) := by decide +kernel
theorem dX7_drive_10 : decode cX7_drive 10 = .ok (.iaload, 1) := by decide +kernel
theorem dX7_drive_11 : decode cX7_drive 11 = .ok (.ifCond .ne 33, 3) := by decide +kernel
theorem dX7_drive_14 : decode cX7_drive 14 = .ok (.aload_n 1, 1) := by decide +kernel
theorem dX7_drive_15 : decode cX7_drive 15 = .ok (.iconst 5, 1) := by decide +kernel
theorem dX7_drive_16 : decode cX7_drive 16 = .ok (.iaload, 1) := by decide +kernel
theorem dX7_drive_17 : decode cX7_drive 17 = .ok (.ifCond .le 27, 3) := by decide +kernel
theorem dX7_drive_20 : decode cX7_drive 20 = .ok (.aload_n 1, 1) := by decide +kernel
theorem dX7_drive_21 : decode cX7_drive 21 = .ok (.bipush 6, 2) := by decide +kernel
theorem dX7_drive_23 : decode cX7_drive 23 = .ok (.dup2, 1) := by decide +kernel
theorem dX7_drive_24 : decode cX7_drive 24 = .ok (.iaload, 1) := by decide +kernel
theorem dX7_drive_25 : decode cX7_drive 25 = .ok (.iconst 1, 1) := by decide +kernel
theorem dX7_drive_26 : decode cX7_drive 26 = .ok (.iadd, 1) := by decide +kernel
theorem dX7_drive_27 : decode cX7_drive 27 = .ok (.dup_x2, 1) := by decide +kernel
theorem dX7_drive_28 : decode cX7_drive 28 = .ok (.iastore, 1) := by decide +kernel
theorem dX7_drive_29 : decode cX7_drive 29 = .ok (.bipush 8, 2) := by decide +kernel
theorem dX7_drive_31 : decode cX7_drive 31 = .ok (.if_icmp .ne 12, 3) := by decide +kernel
theorem dX7_drive_34 : decode cX7_drive 34 = .ok (.aload_n 1, 1) := by decide +kernel
theorem dX7_drive_35 : decode cX7_drive 35 = .ok (.iconst 5, 1) := by decide +kernel
theorem dX7_drive_36 : decode cX7_drive 36 = .ok (.aload_n 1, 1) := by decide +kernel
theorem dX7_drive_37 : decode cX7_drive 37 = .ok (.bipush 6, 2) := by decide +kernel
theorem dX7_drive_39 : decode cX7_drive 39 = .ok (.iconst 0, 1) := by decide +kernel
theorem dX7_drive_40 : decode cX7_drive 40 = .ok (.dup_x2, 1) := by decide +kernel
theorem dX7_drive_41 : decode cX7_drive 41 = .ok (.iastore, 1) := by decide +kernel
theorem dX7_drive_42 : decode cX7_drive 42 = .ok (.iastore, 1) := by decide +kernel
theorem dX7_drive_43 : decode cX7_drive 43 = .ok (.return_, 1) := by decide +kernel
theorem dX7_drive_44 : decode cX7_drive 44 = .ok (.aload_n 1, 1) := by decide +kernel
theorem dX7_drive_45 : decode cX7_drive 45 = .ok (.iconst 0, 1) := by decide +kernel
theorem dX7_drive_46 : decode cX7_drive 46 = .ok (.iaload, 1) := by decide +kernel
theorem dX7_drive_47 : decode cX7_drive 47 = .ok (.ifCond .ne 4, 3) := by decide +kernel
theorem dX7_drive_50 : decode cX7_drive 50 = .ok (.return_, 1) := by decide +kernel
theorem dX7_drive_51 : decode cX7_drive 51 = .ok (.aload_n 1, 1) := by decide +kernel
theorem dX7_drive_52 : decode cX7_drive 52 = .ok (.iconst 0, 1) := by decide +kernel
theorem dX7_drive_53 : decode cX7_drive 53 = .ok (.iaload, 1) := by decide +kernel
theorem dX7_drive_54 : decode cX7_drive 54 = .ok (.iconst 1, 1) := by decide +kernel
theorem dX7_drive_55 : decode cX7_drive 55 = .ok (.if_icmp .ne 17, 3) := by decide +kernel
theorem dX7_drive_58 : decode cX7_drive 58 = .ok (.aload_n 0, 1) := by decide +kernel
theorem dX7_drive_59 : decode cX7_drive 59 = .ok (.getfield 16, 3) := by decide +kernel
theorem dX7_drive_62 : decode cX7_drive 62 = .ok (.aload_n 1, 1) := by decide +kernel
theorem dX7_drive_63 : decode cX7_drive 63 = .ok (.bipush 7, 2) := by decide +kernel
theorem dX7_drive_65 : decode cX7_drive 65 = .ok (.iaload, 1) := by decide +kernel
theorem dX7_drive_66 : decode cX7_drive 66 = .ok (.aaload, 1) := by decide +kernel
theorem dX7_drive_67 : decode cX7_drive 67 = .ok (.iconst 1, 1) := by decide +kernel
theorem dX7_drive_68 : decode cX7_drive 68 = .ok (.iaload, 1) := by decide +kernel
theorem dX7_drive_69 : decode cX7_drive 69 = .ok (.goto 14, 3) := by decide +kernel
theorem dX7_drive_72 : decode cX7_drive 72 = .ok (.aload_n 0, 1) := by decide +kernel
theorem dX7_drive_73 : decode cX7_drive 73 = .ok (.getfield 22, 3) := by decide +kernel
theorem dX7_drive_76 : decode cX7_drive 76 = .ok (.aload_n 1, 1) := by decide +kernel
theorem dX7_drive_77 : decode cX7_drive 77 = .ok (.bipush 7, 2) := by decide +kernel
theorem dX7_drive_79 : decode cX7_drive 79 = .ok (.iaload, 1) := by decide +kernel
theorem dX7_drive_80 : decode cX7_drive 80 = .ok (.aaload, 1) := by decide +kernel
theorem dX7_drive_81 : decode cX7_drive 81 = .ok (.iconst 1, 1) := by decide +kernel
theorem dX7_drive_82 : decode cX7_drive 82 = .ok (.iaload, 1) := by decide +kernel
theorem dX7_drive_83 : decode cX7_drive 83 = .ok (.istore_n 2, 1) := by decide +kernel
theorem dX7_drive_84 : decode cX7_drive 84 = .ok (.aload_n 1, 1) := by decide +kernel
theorem dX7_drive_85 : decode cX7_drive 85 = .ok (.iconst 1, 1) := by decide +kernel
theorem dX7_drive_86 : decode cX7_drive 86 = .ok (.iaload, 1) := by decide +kernel
theorem dX7_drive_87 : decode cX7_drive 87 = .ok (.iload_n 2, 1) := by decide +kernel
theorem dX7_drive_88 : decode cX7_drive 88 = .ok (.if_icmp .eq 44, 3) := by decide +kernel
theorem dX7_drive_91 : decode cX7_drive 91 = .ok (.aload_n 1, 1) := by decide +kernel
theorem dX7_drive_92 : decode cX7_drive 92 = .ok (.iconst 1, 1) := by decide +kernel
theorem dX7_drive_93 : decode cX7_drive 93 = .ok (.iaload, 1) := by decide +kernel
theorem dX7_drive_94 : decode cX7_drive 94 = .ok (.istore_n 3, 1) := by decide +kernel
theorem dX7_drive_95 : decode cX7_drive 95 = .ok (.aload_n 1, 1) := by decide +kernel
theorem dX7_drive_96 : decode cX7_drive 96 = .ok (.iload_n 2, 1) := by decide +kernel
theorem dX7_drive_97 : decode cX7_drive 97 = .ok (.bipush 50, 2) := by decide +kernel
theorem dX7_drive_99 : decode cX7_drive 99 = .ok (.invokestatic 85, 3) := by decide +kernel
theorem dX7_drive_102 : decode cX7_drive 102 = .ok (.aload_n 1, 1) := by decide +kernel
theorem dX7_drive_103 : decode cX7_drive 103 = .ok (.bipush 9, 2) := by decide +kernel
theorem dX7_drive_105 : decode cX7_drive 105 = .ok (.dup2, 1) := by decide +kernel
theorem dX7_drive_106 : decode cX7_drive 106 = .ok (.iaload, 1) := by decide +kernel
theorem dX7_drive_107 : decode cX7_drive 107 = .ok (.aload_n 1, 1) := by decide +kernel
theorem dX7_drive_108 : decode cX7_drive 108 = .ok (.iconst 1, 1) := by decide +kernel
theorem dX7_drive_109 : decode cX7_drive 109 = .ok (.iaload, 1) := by decide +kernel
theorem dX7_drive_110 : decode cX7_drive 110 = .ok (.iload_n 3, 1) := by decide +kernel
theorem dX7_drive_111 : decode cX7_drive 111 = .ok (.isub, 1) := by decide +kernel
theorem dX7_drive_112 : decode cX7_drive 112 = .ok (.invokestatic 93, 3) := by decide +kernel
theorem dX7_drive_115 : decode cX7_drive 115 = .ok (.iadd, 1) := by decide +kernel
theorem dX7_drive_116 : decode cX7_drive 116 = .ok (.iastore, 1) := by decide +kernel
theorem dX7_drive_117 : decode cX7_drive 117 = .ok (.aload_n 1, 1) := by decide +kernel
theorem dX7_drive_118 : decode cX7_drive 118 = .ok (.iconst 5, 1) := by decide +kernel
theorem dX7_drive_119 : decode cX7_drive 119 = .ok (.dup2, 1) := by decide +kernel
theorem dX7_drive_120 : decode cX7_drive 120 = .ok (.iaload, 1) := by decide +kernel
theorem dX7_drive_121 : decode cX7_drive 121 = .ok (.iconst 1, 1) := by decide +kernel
theorem dX7_drive_122 : decode cX7_drive 122 = .ok (.iadd, 1) := by decide +kernel
theorem dX7_drive_123 : decode cX7_drive 123 = .ok (.iastore, 1) := by decide +kernel
theorem dX7_drive_124 : decode cX7_drive 124 = .ok (.aload_n 1, 1) := by decide +kernel
theorem dX7_drive_125 : decode cX7_drive 125 = .ok (.bipush 6, 2) := by decide +kernel
theorem dX7_drive_127 : decode cX7_drive 127 = .ok (.iconst 0, 1) := by decide +kernel
theorem dX7_drive_128 : decode cX7_drive 128 = .ok (.iastore, 1) := by decide +kernel
theorem dX7_drive_129 : decode cX7_drive 129 = .ok (.goto 46, 3) := by decide +kernel
theorem dX7_drive_132 : decode cX7_drive 132 = .ok (.aload_n 1, 1) := by decide +kernel
theorem dX7_drive_133 : decode cX7_drive 133 = .ok (.iconst 0, 1) := by decide +kernel
theorem dX7_drive_134 : decode cX7_drive 134 = .ok (.iaload, 1) := by decide +kernel
theorem dX7_drive_135 : decode cX7_drive 135 = .ok (.iconst 1, 1) := by decide +kernel
theorem dX7_drive_136 : decode cX7_drive 136 = .ok (.if_icmp .ne 19, 3) := by decide +kernel
theorem dX7_drive_139 : decode cX7_drive 139 = .ok (.aload_n 1, 1) := by decide +kernel
theorem dX7_drive_140 : decode cX7_drive 140 = .ok (.aload_n 0, 1) := by decide +kernel
theorem dX7_drive_141 : decode cX7_drive 141 = .ok (.getfield 16, 3) := by decide +kernel
theorem dX7_drive_144 : decode cX7_drive 144 = .ok (.aload_n 1, 1) := by decide +kernel
theorem dX7_drive_145 : decode cX7_drive 145 = .ok (.bipush 7, 2) := by decide +kernel
theorem dX7_drive_147 : decode cX7_drive 147 = .ok (.iaload, 1) := by decide +kernel
theorem dX7_drive_148 : decode cX7_drive 148 = .ok (.aaload, 1) := by decide +kernel
theorem dX7_drive_149 : decode cX7_drive 149 = .ok (.invokestatic 97, 3) := by decide +kernel
theorem dX7_drive_152 : decode cX7_drive 152 = .ok (.goto 23, 3) := by decide +kernel
theorem dX7_drive_155 : decode cX7_drive 155 = .ok (.aload_n 1, 1) := by decide +kernel
theorem dX7_drive_156 : decode cX7_drive 156 = .ok (.iconst 2, 1) := by decide +kernel
theorem dX7_drive_157 : decode cX7_drive 157 = .ok (.iaload, 1) := by decide +kernel
theorem dX7_drive_158 : decode cX7_drive 158 = .ok (.ifCond .le 17, 3) := by decide +kernel
theorem dX7_drive_161 : decode cX7_drive 161 = .ok (.aload_n 0, 1) := by decide +kernel
theorem dX7_drive_162 : decode cX7_drive 162 = .ok (.aload_n 1, 1) := by decide +kernel
theorem dX7_drive_163 : decode cX7_drive 163 = .ok (.aload_n 0, 1) := by decide +kernel
theorem dX7_drive_164 : decode cX7_drive 164 = .ok (.getfield 22, 3) := by decide +kernel
theorem dX7_drive_167 : decode cX7_drive 167 = .ok (.aload_n 1, 1) := by decide +kernel
theorem dX7_drive_168 : decode cX7_drive 168 = .ok (.bipush 7, 2) := by decide +kernel
theorem dX7_drive_170 : decode cX7_drive 170 = .ok (.iaload, 1) := by decide +kernel
theorem dX7_drive_171 : decode cX7_drive 171 = .ok (.aaload, 1) := by decide +kernel
theorem dX7_drive_172 : decode cX7_drive 172 = .ok (.invokevirtual 101, 3) := by decide +kernel
theorem dX7_drive_175 : decode cX7_drive 175 = .ok (.return_, 1) := by decide +kernel
theorem dX7_load_0 : decode cX7_load 0 = .ok (.sipush 800, 3) := by decide +kernel
theorem dX7_load_3 : decode cX7_load 3 = .ok (.aload_n 0, 1) := by decide +kernel
theorem dX7_load_4 : decode cX7_load 4 = .ok (.iconst 2, 1) := by decide +kernel
theorem dX7_load_5 : decode cX7_load 5 = .ok (.iaload, 1) := by decide +kernel
theorem dX7_load_6 : decode cX7_load 6 = .ok (.isub, 1) := by decide +kernel
theorem dX7_load_7 : decode cX7_load 7 = .ok (.aload_n 1, 1) := by decide +kernel
theorem dX7_load_8 : decode cX7_load 8 = .ok (.iconst 2, 1) := by decide +kernel
theorem dX7_load_9 : decode cX7_load 9 = .ok (.iaload, 1) := by decide +kernel
theorem dX7_load_10 : decode cX7_load 10 = .ok (.invokestatic 55, 3) := by decide +kernel
theorem dX7_load_13 : decode cX7_load 13 = .ok (.istore_n 2, 1) := by decide +kernel
theorem dX7_load_14 : decode cX7_load 14 = .ok (.iload_n 2, 1) := by decide +kernel
theorem dX7_load_15 : decode cX7_load 15 = .ok (.ifCond .eq 18, 3) := by decide +kernel
theorem dX7_load_18 : decode cX7_load 18 = .ok (.aload_n 0, 1) := by decide +kernel
theorem dX7_load_19 : decode cX7_load 19 = .ok (.iconst 2, 1) := by decide +kernel
theorem dX7_load_20 : decode cX7_load 20 = .ok (.iaload, 1) := by decide +kernel
theorem dX7_load_21 : decode cX7_load 21 = .ok (.ifCond .le 13, 3) := by decide +kernel
theorem dX7_load_24 : decode cX7_load 24 = .ok (.aload_n 0, 1) := by decide +kernel
theorem dX7_load_25 : decode cX7_load 25 = .ok (.iconst 3, 1) := by decide +kernel
theorem dX7_load_26 : decode cX7_load 26 = .ok (.iaload, 1) := by decide +kernel
theorem dX7_load_27 : decode cX7_load 27 = .ok (.aload_n 1, 1) := by decide +kernel
theorem dX7_load_28 : decode cX7_load 28 = .ok (.iconst 3, 1) := by decide +kernel
theorem dX7_load_29 : decode cX7_load 29 = .ok (.iaload, 1) := by decide +kernel
theorem dX7_load_30 : decode cX7_load 30 = .ok (.if_icmp .eq 4, 3) := by decide +kernel
theorem dX7_load_33 : decode cX7_load 33 = .ok (.return_, 1) := by decide +kernel
theorem dX7_load_34 : decode cX7_load 34 = .ok (.aload_n 0, 1) := by decide +kernel
theorem dX7_load_35 : decode cX7_load 35 = .ok (.iconst 4, 1) := by decide +kernel
theorem dX7_load_36 : decode cX7_load 36 = .ok (.aload_n 0, 1) := by decide +kernel
theorem dX7_load_37 : decode cX7_load 37 = .ok (.iconst 2, 1) := by decide +kernel
theorem dX7_load_38 : decode cX7_load 38 = .ok (.iaload, 1) := by decide +kernel
theorem dX7_load_39 : decode cX7_load 39 = .ok (.ifCond .ne 9, 3) := by decide +kernel
theorem dX7_load_42 : decode cX7_load 42 = .ok (.aload_n 1, 1) := by decide +kernel
theorem dX7_load_43 : decode cX7_load 43 = .ok (.iconst 4, 1) := by decide +kernel
theorem dX7_load_44 : decode cX7_load 44 = .ok (.iaload, 1) := by decide +kernel
theorem dX7_load_45 : decode cX7_load 45 = .ok (.goto 12, 3) := by decide +kernel
theorem dX7_load_48 : decode cX7_load 48 = .ok (.aload_n 0, 1) := by decide +kernel
theorem dX7_load_49 : decode cX7_load 49 = .ok (.iconst 4, 1) := by decide +kernel
theorem dX7_load_50 : decode cX7_load 50 = .ok (.iaload, 1) := by decide +kernel
theorem dX7_load_51 : decode cX7_load 51 = .ok (.aload_n 1, 1) := by decide +kernel
theorem dX7_load_52 : decode cX7_load 52 = .ok (.iconst 4, 1) := by decide +kernel
theorem dX7_load_53 : decode cX7_load 53 = .ok (.iaload, 1) := by decide +kernel
theorem dX7_load_54 : decode cX7_load 54 = .ok (.invokestatic 61, 3) := by decide +kernel
theorem dX7_load_57 : decode cX7_load 57 = .ok (.iastore, 1) := by decide +kernel
theorem dX7_load_58 : decode cX7_load 58 = .ok (.aload_n 0, 1) := by decide +kernel
theorem dX7_load_59 : decode cX7_load 59 = .ok (.iconst 3, 1) := by decide +kernel
theorem dX7_load_60 : decode cX7_load 60 = .ok (.aload_n 1, 1) := by decide +kernel
theorem dX7_load_61 : decode cX7_load 61 = .ok (.iconst 3, 1) := by decide +kernel
theorem dX7_load_62 : decode cX7_load 62 = .ok (.iaload, 1) := by decide +kernel
theorem dX7_load_63 : decode cX7_load 63 = .ok (.iastore, 1) := by decide +kernel
theorem dX7_load_64 : decode cX7_load 64 = .ok (.aload_n 0, 1) := by decide +kernel
theorem dX7_load_65 : decode cX7_load 65 = .ok (.iconst 2, 1) := by decide +kernel
theorem dX7_load_66 : decode cX7_load 66 = .ok (.dup2, 1) := by decide +kernel
theorem dX7_load_67 : decode cX7_load 67 = .ok (.iaload, 1) := by decide +kernel
theorem dX7_load_68 : decode cX7_load 68 = .ok (.iload_n 2, 1) := by decide +kernel
theorem dX7_load_69 : decode cX7_load 69 = .ok (.iadd, 1) := by decide +kernel
theorem dX7_load_70 : decode cX7_load 70 = .ok (.iastore, 1) := by decide +kernel
theorem dX7_load_71 : decode cX7_load 71 = .ok (.aload_n 1, 1) := by decide +kernel
theorem dX7_load_72 : decode cX7_load 72 = .ok (.iconst 2, 1) := by decide +kernel
theorem dX7_load_73 : decode cX7_load 73 = .ok (.dup2, 1) := by decide +kernel
theorem dX7_load_74 : decode cX7_load 74 = .ok (.iaload, 1) := by decide +kernel
theorem dX7_load_75 : decode cX7_load 75 = .ok (.iload_n 2, 1) := by decide +kernel
theorem dX7_load_76 : decode cX7_load 76 = .ok (.isub, 1) := by decide +kernel
theorem dX7_load_77 : decode cX7_load 77 = .ok (.iastore, 1) := by decide +kernel
theorem dX7_load_78 : decode cX7_load 78 = .ok (.return_, 1) := by decide +kernel
theorem dX7_isOpen_0 : decode cX7_isOpen 0 = .ok (.aload_n 1, 1) := by decide +kernel
theorem dX7_isOpen_1 : decode cX7_isOpen 1 = .ok (.iconst 0, 1) := by decide +kernel
theorem dX7_isOpen_2 : decode cX7_isOpen 2 = .ok (.iaload, 1) := by decide +kernel
theorem dX7_isOpen_3 : decode cX7_isOpen 3 = .ok (.aload_n 1, 1) := by decide +kernel
theorem dX7_isOpen_4 : decode cX7_isOpen 4 = .ok (.iconst 2, 1) := by decide +kernel
theorem dX7_isOpen_5 : decode cX7_isOpen 5 = .ok (.iaload, 1) := by decide +kernel
theorem dX7_isOpen_6 : decode cX7_isOpen 6 = .ok (.if_icmp .ge 31, 3) := by decide +kernel
theorem dX7_isOpen_9 : decode cX7_isOpen 9 = .ok (.aload_n 0, 1) := by decide +kernel
theorem dX7_isOpen_10 : decode cX7_isOpen 10 = .ok (.invokevirtual 64, 3) := by decide +kernel
theorem dX7_isOpen_13 : decode cX7_isOpen 13 = .ok (.aload_n 1, 1) := by decide +kernel
theorem dX7_isOpen_14 : decode cX7_isOpen 14 = .ok (.iconst 0, 1) := by decide +kernel
theorem dX7_isOpen_15 : decode cX7_isOpen 15 = .ok (.iaload, 1) := by decide +kernel
theorem dX7_isOpen_16 : decode cX7_isOpen 16 = .ok (.if_icmp .lt 17, 3) := by decide +kernel
theorem dX7_isOpen_19 : decode cX7_isOpen 19 = .ok (.aload_n 0, 1) := by decide +kernel
theorem dX7_isOpen_20 : decode cX7_isOpen 20 = .ok (.invokevirtual 64, 3) := by decide +kernel
theorem dX7_isOpen_23 : decode cX7_isOpen 23 = .ok (.aload_n 1, 1) := by decide +kernel
theorem dX7_isOpen_24 : decode cX7_isOpen 24 = .ok (.iconst 2, 1) := by decide +kernel
theorem dX7_isOpen_25 : decode cX7_isOpen 25 = .ok (.iaload, 1) := by decide +kernel
theorem dX7_isOpen_26 : decode cX7_isOpen 26 = .ok (.if_icmp .ge 7, 3) := by decide +kernel
theorem dX7_isOpen_29 : decode cX7_isOpen 29 = .ok (.iconst 1, 1) := by decide +kernel
theorem dX7_isOpen_30 : decode cX7_isOpen 30 = .ok (.goto 32, 3) := by decide +kernel
theorem dX7_isOpen_33 : decode cX7_isOpen 33 = .ok (.iconst 0, 1) := by decide +kernel
theorem dX7_isOpen_34 : decode cX7_isOpen 34 = .ok (.goto 28, 3) := by decide +kernel
theorem dX7_isOpen_37 : decode cX7_isOpen 37 = .ok (.aload_n 0, 1) := by decide +kernel
theorem dX7_isOpen_38 : decode cX7_isOpen 38 = .ok (.invokevirtual 64, 3) := by decide +kernel
theorem dX7_isOpen_41 : decode cX7_isOpen 41 = .ok (.aload_n 1, 1) := by decide +kernel
theorem dX7_isOpen_42 : decode cX7_isOpen 42 = .ok (.iconst 0, 1) := by decide +kernel
theorem dX7_isOpen_43 : decode cX7_isOpen 43 = .ok (.iaload, 1) := by decide +kernel
theorem dX7_isOpen_44 : decode cX7_isOpen 44 = .ok (.if_icmp .ge 13, 3) := by decide +kernel
theorem dX7_isOpen_47 : decode cX7_isOpen 47 = .ok (.aload_n 0, 1) := by decide +kernel
theorem dX7_isOpen_48 : decode cX7_isOpen 48 = .ok (.invokevirtual 64, 3) := by decide +kernel
theorem dX7_isOpen_51 : decode cX7_isOpen 51 = .ok (.aload_n 1, 1) := by decide +kernel
theorem dX7_isOpen_52 : decode cX7_isOpen 52 = .ok (.iconst 2, 1) := by decide +kernel
theorem dX7_isOpen_53 : decode cX7_isOpen 53 = .ok (.iaload, 1) := by decide +kernel
theorem dX7_isOpen_54 : decode cX7_isOpen 54 = .ok (.if_icmp .ge 7, 3) := by decide +kernel
theorem dX7_isOpen_57 : decode cX7_isOpen 57 = .ok (.iconst 1, 1) := by decide +kernel
theorem dX7_isOpen_58 : decode cX7_isOpen 58 = .ok (.goto 4, 3) := by decide +kernel
theorem dX7_isOpen_61 : decode cX7_isOpen 61 = .ok (.iconst 0, 1) := by decide +kernel
theorem dX7_isOpen_62 : decode cX7_isOpen 62 = .ok (.ireturn, 1) := by decide +kernel
theorem dX7_sell_0 : decode cX7_sell 0 = .ok (.aload_n 0, 1) := by decide +kernel
theorem dX7_sell_1 : decode cX7_sell 1 = .ok (.aload_n 2, 1) := by decide +kernel
theorem dX7_sell_2 : decode cX7_sell 2 = .ok (.invokevirtual 104, 3) := by decide +kernel
theorem dX7_sell_5 : decode cX7_sell 5 = .ok (.ifCond .eq 21, 3) := by decide +kernel
theorem dX7_sell_8 : decode cX7_sell 8 = .ok (.aload_n 2, 1) := by decide +kernel
theorem dX7_sell_9 : decode cX7_sell 9 = .ok (.iconst 5, 1) := by decide +kernel
theorem dX7_sell_10 : decode cX7_sell 10 = .ok (.iaload, 1) := by decide +kernel
theorem dX7_sell_11 : decode cX7_sell 11 = .ok (.aload_n 1, 1) := by decide +kernel
theorem dX7_sell_12 : decode cX7_sell 12 = .ok (.iconst 4, 1) := by decide +kernel
theorem dX7_sell_13 : decode cX7_sell 13 = .ok (.iaload, 1) := by decide +kernel
theorem dX7_sell_14 : decode cX7_sell 14 = .ok (.if_icmp .lt 12, 3) := by decide +kernel
theorem dX7_sell_17 : decode cX7_sell 17 = .ok (.aload_n 2, 1) := by decide +kernel
theorem dX7_sell_18 : decode cX7_sell 18 = .ok (.iconst 3, 1) := by decide +kernel
theorem dX7_sell_19 : decode cX7_sell 19 = .ok (.iaload, 1) := by decide +kernel
theorem dX7_sell_20 : decode cX7_sell 20 = .ok (.aload_n 1, 1) := by decide +kernel
theorem dX7_sell_21 : decode cX7_sell 21 = .ok (.iconst 2, 1) := by decide +kernel
theorem dX7_sell_22 : decode cX7_sell 22 = .ok (.iaload, 1) := by decide +kernel
theorem dX7_sell_23 : decode cX7_sell 23 = .ok (.if_icmp .ge 12, 3) := by decide +kernel
theorem dX7_sell_26 : decode cX7_sell 26 = .ok (.aload_n 1, 1) := by decide +kernel
theorem dX7_sell_27 : decode cX7_sell 27 = .ok (.bipush 8, 2) := by decide +kernel
theorem dX7_sell_29 : decode cX7_sell 29 = .ok (.dup2, 1) := by decide +kernel
theorem dX7_sell_30 : decode cX7_sell 30 = .ok (.iaload, 1) := by decide +kernel
theorem dX7_sell_31 : decode cX7_sell 31 = .ok (.iconst 1, 1) := by decide +kernel
theorem dX7_sell_32 : decode cX7_sell 32 = .ok (.iadd, 1) := by decide +kernel
theorem dX7_sell_33 : decode cX7_sell 33 = .ok (.iastore, 1) := by decide +kernel
theorem dX7_sell_34 : decode cX7_sell 34 = .ok (.return_, 1) := by decide +kernel
theorem dX7_sell_35 : decode cX7_sell 35 = .ok (.bipush 7, 2) := by decide +kernel
theorem dX7_sell_37 : decode cX7_sell 37 = .ok (.newarray .int, 2) := by decide +kernel
theorem dX7_sell_39 : decode cX7_sell 39 = .ok (.dup, 1) := by decide +kernel
theorem dX7_sell_40 : decode cX7_sell 40 = .ok (.iconst 0, 1) := by decide +kernel
theorem dX7_sell_41 : decode cX7_sell 41 = .ok (.aload_n 1, 1) := by decide +kernel
theorem dX7_sell_42 : decode cX7_sell 42 = .ok (.iconst 3, 1) := by decide +kernel
theorem dX7_sell_43 : decode cX7_sell 43 = .ok (.iaload, 1) := by decide +kernel
theorem dX7_sell_44 : decode cX7_sell 44 = .ok (.iastore, 1) := by decide +kernel
theorem dX7_sell_45 : decode cX7_sell 45 = .ok (.dup, 1) := by decide +kernel
theorem dX7_sell_46 : decode cX7_sell 46 = .ok (.iconst 1, 1) := by decide +kernel
theorem dX7_sell_47 : decode cX7_sell 47 = .ok (.aload_n 1, 1) := by decide +kernel
theorem dX7_sell_48 : decode cX7_sell 48 = .ok (.iconst 2, 1) := by decide +kernel
theorem dX7_sell_49 : decode cX7_sell 49 = .ok (.iaload, 1) := by decide +kernel
theorem dX7_sell_50 : decode cX7_sell 50 = .ok (.iastore, 1) := by decide +kernel
theorem dX7_sell_51 : decode cX7_sell 51 = .ok (.dup, 1) := by decide +kernel
theorem dX7_sell_52 : decode cX7_sell 52 = .ok (.iconst 2, 1) := by decide +kernel
theorem dX7_sell_53 : decode cX7_sell 53 = .ok (.aload_n 1, 1) := by decide +kernel
theorem dX7_sell_54 : decode cX7_sell 54 = .ok (.iconst 4, 1) := by decide +kernel
theorem dX7_sell_55 : decode cX7_sell 55 = .ok (.iaload, 1) := by decide +kernel
theorem dX7_sell_56 : decode cX7_sell 56 = .ok (.iastore, 1) := by decide +kernel
theorem dX7_sell_57 : decode cX7_sell 57 = .ok (.dup, 1) := by decide +kernel
theorem dX7_sell_58 : decode cX7_sell 58 = .ok (.iconst 3, 1) := by decide +kernel
theorem dX7_sell_59 : decode cX7_sell 59 = .ok (.iconst 2, 1) := by decide +kernel
theorem dX7_sell_60 : decode cX7_sell 60 = .ok (.iconst 0, 1) := by decide +kernel
theorem dX7_sell_61 : decode cX7_sell 61 = .ok (.aload_n 1, 1) := by decide +kernel
theorem dX7_sell_62 : decode cX7_sell 62 = .ok (.iconst 4, 1) := by decide +kernel
theorem dX7_sell_63 : decode cX7_sell 63 = .ok (.iaload, 1) := by decide +kernel
theorem dX7_sell_64 : decode cX7_sell 64 = .ok (.aload_n 2, 1) := by decide +kernel
theorem dX7_sell_65 : decode cX7_sell 65 = .ok (.iconst 4, 1) := by decide +kernel
theorem dX7_sell_66 : decode cX7_sell 66 = .ok (.iaload, 1) := by decide +kernel
theorem dX7_sell_67 : decode cX7_sell 67 = .ok (.isub, 1) := by decide +kernel
theorem dX7_sell_68 : decode cX7_sell 68 = .ok (.invokestatic 61, 3) := by decide +kernel
theorem dX7_sell_71 : decode cX7_sell 71 = .ok (.imul, 1) := by decide +kernel
theorem dX7_sell_72 : decode cX7_sell 72 = .ok (.iastore, 1) := by decide +kernel
theorem dX7_sell_73 : decode cX7_sell 73 = .ok (.dup, 1) := by decide +kernel
theorem dX7_sell_74 : decode cX7_sell 74 = .ok (.iconst 4, 1) := by decide +kernel
theorem dX7_sell_75 : decode cX7_sell 75 = .ok (.aload_n 1, 1) := by decide +kernel
theorem dX7_sell_76 : decode cX7_sell 76 = .ok (.bipush 7, 2) := by decide +kernel
theorem dX7_sell_78 : decode cX7_sell 78 = .ok (.iaload, 1) := by decide +kernel
theorem dX7_sell_79 : decode cX7_sell 79 = .ok (.iastore, 1) := by decide +kernel
theorem dX7_sell_80 : decode cX7_sell 80 = .ok (.dup, 1) := by decide +kernel
theorem dX7_sell_81 : decode cX7_sell 81 = .ok (.iconst 5, 1) := by decide +kernel
theorem dX7_sell_82 : decode cX7_sell 82 = .ok (.aload_n 0, 1) := by decide +kernel
theorem dX7_sell_83 : decode cX7_sell 83 = .ok (.getfield 52, 3) := by decide +kernel
theorem dX7_sell_86 : decode cX7_sell 86 = .ok (.iastore, 1) := by decide +kernel
theorem dX7_sell_87 : decode cX7_sell 87 = .ok (.dup, 1) := by decide +kernel
theorem dX7_sell_88 : decode cX7_sell 88 = .ok (.bipush 6, 2) := by decide +kernel
theorem dX7_sell_90 : decode cX7_sell 90 = .ok (.iconst 0, 1) := by decide +kernel
theorem dX7_sell_91 : decode cX7_sell 91 = .ok (.iastore, 1) := by decide +kernel
