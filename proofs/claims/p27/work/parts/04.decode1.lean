theorem dX0_init_0 : decode cX0_init 0 = .ok (.aload_n 0, 1) := by decide +kernel
theorem dX0_init_1 : decode cX0_init 1 = .ok (.invokespecial 3, 3) := by decide +kernel
theorem dX0_init_4 : decode cX0_init 4 = .ok (.aload_n 0, 1) := by decide +kernel
theorem dX0_init_5 : decode cX0_init 5 = .ok (.iconst (-1), 1) := by decide +kernel
theorem dX0_init_6 : decode cX0_init 6 = .ok (.putfield 9, 3) := by decide +kernel
theorem dX0_init_9 : decode cX0_init 9 = .ok (.aload_n 0, 1) := by decide +kernel
theorem dX0_init_10 : decode cX0_init 10 = .ok (.iconst (-1), 1) := by decide +kernel
theorem dX0_init_11 : decode cX0_init 11 = .ok (.putfield 15, 3) := by decide +kernel
theorem dX0_init_14 : decode cX0_init 14 = .ok (.aload_n 0, 1) := by decide +kernel
theorem dX0_init_15 : decode cX0_init 15 = .ok (.iload_n 1, 1) := by decide +kernel
theorem dX0_init_16 : decode cX0_init 16 = .ok (.putfield 18, 3) := by decide +kernel
theorem dX0_init_19 : decode cX0_init 19 = .ok (.aload_n 0, 1) := by decide +kernel
theorem dX0_init_20 : decode cX0_init 20 = .ok (.iload_n 2, 1) := by decide +kernel
theorem dX0_init_21 : decode cX0_init 21 = .ok (.putfield 21, 3) := by decide +kernel
theorem dX0_init_24 : decode cX0_init 24 = .ok (.aload_n 0, 1) := by decide +kernel
theorem dX0_init_25 : decode cX0_init 25 = .ok (.iload_n 3, 1) := by decide +kernel
theorem dX0_init_26 : decode cX0_init 26 = .ok (.putfield 24, 3) := by decide +kernel
theorem dX0_init_29 : decode cX0_init 29 = .ok (.return_, 1) := by decide +kernel
theorem dX0_copyFrom_0 : decode cX0_copyFrom 0 = .ok (.aload_n 0, 1) := by decide +kernel
theorem dX0_copyFrom_1 : decode cX0_copyFrom 1 = .ok (.aload_n 1, 1) := by decide +kernel
theorem dX0_copyFrom_2 : decode cX0_copyFrom 2 = .ok (.getfield 18, 3) := by decide +kernel
theorem dX0_copyFrom_5 : decode cX0_copyFrom 5 = .ok (.putfield 18, 3) := by decide +kernel
theorem dX0_copyFrom_8 : decode cX0_copyFrom 8 = .ok (.aload_n 0, 1) := by decide +kernel
theorem dX0_copyFrom_9 : decode cX0_copyFrom 9 = .ok (.aload_n 1, 1) := by decide +kernel
theorem dX0_copyFrom_10 : decode cX0_copyFrom 10 = .ok (.getfield 21, 3) := by decide +kernel
theorem dX0_copyFrom_13 : decode cX0_copyFrom 13 = .ok (.putfield 21, 3) := by decide +kernel
theorem dX0_copyFrom_16 : decode cX0_copyFrom 16 = .ok (.aload_n 0, 1) := by decide +kernel
theorem dX0_copyFrom_17 : decode cX0_copyFrom 17 = .ok (.aload_n 1, 1) := by decide +kernel
theorem dX0_copyFrom_18 : decode cX0_copyFrom 18 = .ok (.getfield 24, 3) := by decide +kernel
theorem dX0_copyFrom_21 : decode cX0_copyFrom 21 = .ok (.putfield 24, 3) := by decide +kernel
theorem dX0_copyFrom_24 : decode cX0_copyFrom 24 = .ok (.aload_n 0, 1) := by decide +kernel
theorem dX0_copyFrom_25 : decode cX0_copyFrom 25 = .ok (.aload_n 1, 1) := by decide +kernel
theorem dX0_copyFrom_26 : decode cX0_copyFrom 26 = .ok (.getfield 27, 3) := by decide +kernel
theorem dX0_copyFrom_29 : decode cX0_copyFrom 29 = .ok (.putfield 27, 3) := by decide +kernel
theorem dX0_copyFrom_32 : decode cX0_copyFrom 32 = .ok (.aload_n 0, 1) := by decide +kernel
theorem dX0_copyFrom_33 : decode cX0_copyFrom 33 = .ok (.aload_n 1, 1) := by decide +kernel
theorem dX0_copyFrom_34 : decode cX0_copyFrom 34 = .ok (.getfield 9, 3) := by decide +kernel
theorem dX0_copyFrom_37 : decode cX0_copyFrom 37 = .ok (.putfield 9, 3) := by decide +kernel
theorem dX0_copyFrom_40 : decode cX0_copyFrom 40 = .ok (.aload_n 0, 1) := by decide +kernel
theorem dX0_copyFrom_41 : decode cX0_copyFrom 41 = .ok (.aload_n 1, 1) := by decide +kernel
theorem dX0_copyFrom_42 : decode cX0_copyFrom 42 = .ok (.getfield 30, 3) := by decide +kernel
theorem dX0_copyFrom_45 : decode cX0_copyFrom 45 = .ok (.putfield 30, 3) := by decide +kernel
theorem dX0_copyFrom_48 : decode cX0_copyFrom 48 = .ok (.aload_n 0, 1) := by decide +kernel
theorem dX0_copyFrom_49 : decode cX0_copyFrom 49 = .ok (.aload_n 1, 1) := by decide +kernel
theorem dX0_copyFrom_50 : decode cX0_copyFrom 50 = .ok (.getfield 33, 3) := by decide +kernel
theorem dX0_copyFrom_53 : decode cX0_copyFrom 53 = .ok (.putfield 33, 3) := by decide +kernel
theorem dX0_copyFrom_56 : decode cX0_copyFrom 56 = .ok (.aload_n 0, 1) := by decide +kernel
theorem dX0_copyFrom_57 : decode cX0_copyFrom 57 = .ok (.aload_n 1, 1) := by decide +kernel
theorem dX0_copyFrom_58 : decode cX0_copyFrom 58 = .ok (.getfield 36, 3) := by decide +kernel
theorem dX0_copyFrom_61 : decode cX0_copyFrom 61 = .ok (.putfield 36, 3) := by decide +kernel
theorem dX0_copyFrom_64 : decode cX0_copyFrom 64 = .ok (.aload_n 0, 1) := by decide +kernel
theorem dX0_copyFrom_65 : decode cX0_copyFrom 65 = .ok (.aload_n 1, 1) := by decide +kernel
theorem dX0_copyFrom_66 : decode cX0_copyFrom 66 = .ok (.getfield 40, 3) := by decide +kernel
theorem dX0_copyFrom_69 : decode cX0_copyFrom 69 = .ok (.putfield 40, 3) := by decide +kernel
theorem dX0_copyFrom_72 : decode cX0_copyFrom 72 = .ok (.aload_n 0, 1) := by decide +kernel
theorem dX0_copyFrom_73 : decode cX0_copyFrom 73 = .ok (.aload_n 1, 1) := by decide +kernel
theorem dX0_copyFrom_74 : decode cX0_copyFrom 74 = .ok (.getfield 15, 3) := by decide +kernel
theorem dX0_copyFrom_77 : decode cX0_copyFrom 77 = .ok (.putfield 15, 3) := by decide +kernel
theorem dX0_copyFrom_80 : decode cX0_copyFrom 80 = .ok (.aload_n 0, 1) := by decide +kernel
theorem dX0_copyFrom_81 : decode cX0_copyFrom 81 = .ok (.aload_n 1, 1) := by decide +kernel
theorem dX0_copyFrom_82 : decode cX0_copyFrom 82 = .ok (.getfield 43, 3) := by decide +kernel
theorem dX0_copyFrom_85 : decode cX0_copyFrom 85 = .ok (.putfield 43, 3) := by decide +kernel
theorem dX0_copyFrom_88 : decode cX0_copyFrom 88 = .ok (.aload_n 0, 1) := by decide +kernel
theorem dX0_copyFrom_89 : decode cX0_copyFrom 89 = .ok (.aload_n 1, 1) := by decide +kernel
theorem dX0_copyFrom_90 : decode cX0_copyFrom 90 = .ok (.getfield 46, 3) := by decide +kernel
theorem dX0_copyFrom_93 : decode cX0_copyFrom 93 = .ok (.putfield 46, 3) := by decide +kernel
theorem dX0_copyFrom_96 : decode cX0_copyFrom 96 = .ok (.return_, 1) := by decide +kernel
theorem dX0_passHour_0 : decode cX0_passHour 0 = .ok (.aload_n 0, 1) := by decide +kernel
theorem dX0_passHour_1 : decode cX0_passHour 1 = .ok (.getfield 36, 3) := by decide +kernel
theorem dX0_passHour_4 : decode cX0_passHour 4 = .ok (.ifCond .ne 7, 3) := by decide +kernel
theorem dX0_passHour_7 : decode cX0_passHour 7 = .ok (.aload_n 1, 1) := by decide +kernel
theorem dX0_passHour_8 : decode cX0_passHour 8 = .ok (.ifnonnull 4, 3) := by decide +kernel
theorem dX0_passHour_11 : decode cX0_passHour 11 = .ok (.return_, 1) := by decide +kernel
theorem dX0_passHour_12 : decode cX0_passHour 12 = .ok (.aload_n 0, 1) := by decide +kernel
theorem dX0_passHour_13 : decode cX0_passHour 13 = .ok (.getfield 21, 3) := by decide +kernel
theorem dX0_passHour_16 : decode cX0_passHour 16 = .ok (.aload_n 1, 1) := by decide +kernel
theorem dX0_passHour_17 : decode cX0_passHour 17 = .ok (.getfield 49, 3) := by decide +kernel
theorem dX0_passHour_20 : decode cX0_passHour 20 = .ok (.if_icmp .eq 21, 3) := by decide +kernel
theorem dX0_passHour_23 : decode cX0_passHour 23 = .ok (.aload_n 0, 1) := by decide +kernel
theorem dX0_passHour_24 : decode cX0_passHour 24 = .ok (.aload_n 0, 1) := by decide +kernel
theorem dX0_passHour_25 : decode cX0_passHour 25 = .ok (.getfield 21, 3) := by decide +kernel
theorem dX0_passHour_28 : decode cX0_passHour 28 = .ok (.aload_n 1, 1) := by decide +kernel
theorem dX0_passHour_29 : decode cX0_passHour 29 = .ok (.getfield 49, 3) := by decide +kernel
theorem dX0_passHour_32 : decode cX0_passHour 32 = .ok (.bipush 20, 2) := by decide +kernel
theorem dX0_passHour_34 : decode cX0_passHour 34 = .ok (.invokestatic 52, 3) := by decide +kernel
theorem dX0_passHour_37 : decode cX0_passHour 37 = .ok (.putfield 21, 3) := by decide +kernel
theorem dX0_passHour_40 : decode cX0_passHour 40 = .ok (.return_, 1) := by decide +kernel
theorem dX0_passHour_41 : decode cX0_passHour 41 = .ok (.aload_n 0, 1) := by decide +kernel
theorem dX0_passHour_42 : decode cX0_passHour 42 = .ok (.aload_n 1, 1) := by decide +kernel
theorem dX0_passHour_43 : decode cX0_passHour 43 = .ok (.invokevirtual 56, 3) := by decide +kernel
theorem dX0_passHour_46 : decode cX0_passHour 46 = .ok (.istore 4, 2) := by decide +kernel
theorem dX0_passHour_48 : decode cX0_passHour 48 = .ok (.iload_n 3, 1) := by decide +kernel
theorem dX0_passHour_49 : decode cX0_passHour 49 = .ok (.ifCond .gt 23, 3) := by decide +kernel
theorem dX0_passHour_52 : decode cX0_passHour 52 = .ok (.aload_n 1, 1) := by decide +kernel
theorem dX0_passHour_53 : decode cX0_passHour 53 = .ok (.iload_n 2, 1) := by decide +kernel
theorem dX0_passHour_54 : decode cX0_passHour 54 = .ok (.invokevirtual 60, 3) := by decide +kernel
theorem dX0_passHour_57 : decode cX0_passHour 57 = .ok (.ifCond .eq 15, 3) := by decide +kernel
theorem dX0_passHour_60 : decode cX0_passHour 60 = .ok (.aload_n 0, 1) := by decide +kernel
theorem dX0_passHour_61 : decode cX0_passHour 61 = .ok (.invokevirtual 64, 3) := by decide +kernel
theorem dX0_passHour_64 : decode cX0_passHour 64 = .ok (.ifCond .ne 8, 3) := by decide +kernel
theorem dX0_passHour_67 : decode cX0_passHour 67 = .ok (.iload 4, 2) := by decide +kernel
theorem dX0_passHour_69 : decode cX0_passHour 69 = .ok (.ifCond .ne 16, 3) := by decide +kernel
theorem dX0_passHour_72 : decode cX0_passHour 72 = .ok (.aload_n 0, 1) := by decide +kernel
theorem dX0_passHour_73 : decode cX0_passHour 73 = .ok (.dup, 1) := by decide +kernel
theorem dX0_passHour_74 : decode cX0_passHour 74 = .ok (.getfield 40, 3) := by decide +kernel
theorem dX0_passHour_77 : decode cX0_passHour 77 = .ok (.iconst 1, 1) := by decide +kernel
theorem dX0_passHour_78 : decode cX0_passHour 78 = .ok (.iadd, 1) := by decide +kernel
theorem dX0_passHour_79 : decode cX0_passHour 79 = .ok (.putfield 40, 3) := by decide +kernel
theorem dX0_passHour_82 : decode cX0_passHour 82 = .ok (.goto 10, 3) := by decide +kernel
theorem dX0_passHour_85 : decode cX0_passHour 85 = .ok (.aload_n 0, 1) := by decide +kernel
theorem dX0_passHour_86 : decode cX0_passHour 86 = .ok (.aload_n 1, 1) := by decide +kernel
theorem dX0_passHour_87 : decode cX0_passHour 87 = .ok (.iload 4, 2) := by decide +kernel
theorem dX0_passHour_89 : decode cX0_passHour 89 = .ok (.invokevirtual 68, 3) := by decide +kernel
theorem dX0_passHour_92 : decode cX0_passHour 92 = .ok (.return_, 1) := by decide +kernel
theorem dX0_holdsAnother_0 : decode cX0_holdsAnother 0 = .ok (.aload_n 0, 1) := by decide +kernel
theorem dX0_holdsAnother_1 : decode cX0_holdsAnother 1 = .ok (.getfield 27, 3) := by decide +kernel
theorem dX0_holdsAnother_4 : decode cX0_holdsAnother 4 = .ok (.ifCond .le 18, 3) := by decide +kernel
theorem dX0_holdsAnother_7 : decode cX0_holdsAnother 7 = .ok (.aload_n 0, 1) := by decide +kernel
theorem dX0_holdsAnother_8 : decode cX0_holdsAnother 8 = .ok (.getfield 9, 3) := by decide +kernel
theorem dX0_holdsAnother_11 : decode cX0_holdsAnother 11 = .ok (.aload_n 0, 1) := by decide +kernel
theorem dX0_holdsAnother_12 : decode cX0_holdsAnother 12 = .ok (.getfield 15, 3) := by decide +kernel
theorem dX0_holdsAnother_15 : decode cX0_holdsAnother 15 = .ok (.if_icmp .eq 7, 3) := by decide +kernel
theorem dX0_holdsAnother_18 : decode cX0_holdsAnother 18 = .ok (.iconst 1, 1) := by decide +kernel
theorem dX0_holdsAnother_19 : decode cX0_holdsAnother 19 = .ok (.goto 4, 3) := by decide +kernel
theorem dX0_holdsAnother_22 : decode cX0_holdsAnother 22 = .ok (.iconst 0, 1) := by decide +kernel
theorem dX0_holdsAnother_23 : decode cX0_holdsAnother 23 = .ok (.ireturn, 1) := by decide +kernel
theorem dX0_acresAtOnce_0 : decode cX0_acresAtOnce 0 = .ok (.aload_n 0, 1) := by decide +kernel
theorem dX0_acresAtOnce_1 : decode cX0_acresAtOnce 1 = .ok (.getfield 24, 3) := by decide +kernel
theorem dX0_acresAtOnce_4 : decode cX0_acresAtOnce 4 = .ok (.aload_n 1, 1) := by decide +kernel
theorem dX0_acresAtOnce_5 : decode cX0_acresAtOnce 5 = .ok (.invokevirtual 72, 3) := by decide +kernel
theorem dX0_acresAtOnce_8 : decode cX0_acresAtOnce 8 = .ok (.invokestatic 76, 3) := by decide +kernel
theorem dX0_acresAtOnce_11 : decode cX0_acresAtOnce 11 = .ok (.istore_n 2, 1) := by decide +kernel
theorem dX0_acresAtOnce_12 : decode cX0_acresAtOnce 12 = .ok (.aload_n 1, 1) := by decide +kernel
theorem dX0_acresAtOnce_13 : decode cX0_acresAtOnce 13 = .ok (.invokevirtual 82, 3) := by decide +kernel
theorem dX0_acresAtOnce_16 : decode cX0_acresAtOnce 16 = .ok (.istore_n 3, 1) := by decide +kernel
theorem dX0_acresAtOnce_17 : decode cX0_acresAtOnce 17 = .ok (.iload_n 3, 1) := by decide +kernel
theorem dX0_acresAtOnce_18 : decode cX0_acresAtOnce 18 = .ok (.ifCond .le 20, 3) := by decide +kernel
theorem dX0_acresAtOnce_21 : decode cX0_acresAtOnce 21 = .ok (.iload_n 2, 1) := by decide +kernel
theorem dX0_acresAtOnce_22 : decode cX0_acresAtOnce 22 = .ok (.sipush 400, 3) := by decide +kernel
theorem dX0_acresAtOnce_25 : decode cX0_acresAtOnce 25 = .ok (.aload_n 0, 1) := by decide +kernel
theorem dX0_acresAtOnce_26 : decode cX0_acresAtOnce 26 = .ok (.getfield 27, 3) := by decide +kernel
theorem dX0_acresAtOnce_29 : decode cX0_acresAtOnce 29 = .ok (.isub, 1) := by decide +kernel
theorem dX0_acresAtOnce_30 : decode cX0_acresAtOnce 30 = .ok (.iload_n 3, 1) := by decide +kernel
theorem dX0_acresAtOnce_31 : decode cX0_acresAtOnce 31 = .ok (.idiv, 1) := by decide +kernel
theorem dX0_acresAtOnce_32 : decode cX0_acresAtOnce 32 = .ok (.invokestatic 76, 3) := by decide +kernel
theorem dX0_acresAtOnce_35 : decode cX0_acresAtOnce 35 = .ok (.goto 4, 3) := by decide +kernel
theorem dX0_acresAtOnce_38 : decode cX0_acresAtOnce 38 = .ok (.iload_n 2, 1) := by decide +kernel
theorem dX0_acresAtOnce_39 : decode cX0_acresAtOnce 39 = .ok (.ireturn, 1) := by decide +kernel
theorem dX0_harvest_0 : decode cX0_harvest 0 = .ok (.iload_n 2, 1) := by decide +kernel
theorem dX0_harvest_1 : decode cX0_harvest 1 = .ok (.aload_n 1, 1) := by decide +kernel
theorem dX0_harvest_2 : decode cX0_harvest 2 = .ok (.invokevirtual 82, 3) := by decide +kernel
theorem dX0_harvest_5 : decode cX0_harvest 5 = .ok (.imul, 1) := by decide +kernel
theorem dX0_harvest_6 : decode cX0_harvest 6 = .ok (.istore_n 3, 1) := by decide +kernel
theorem dX0_harvest_7 : decode cX0_harvest 7 = .ok (.aload_n 1, 1) := by decide +kernel
theorem dX0_harvest_8 : decode cX0_harvest 8 = .ok (.dup, 1) := by decide +kernel
theorem dX0_harvest_9 : decode cX0_harvest 9 = .ok (.getfield 85, 3) := by decide +kernel
theorem dX0_harvest_12 : decode cX0_harvest 12 = .ok (.iload_n 2, 1) := by decide +kernel
theorem dX0_harvest_13 : decode cX0_harvest 13 = .ok (.iadd, 1) := by decide +kernel
theorem dX0_harvest_14 : decode cX0_harvest 14 = .ok (.putfield 85, 3) := by decide +kernel
theorem dX0_harvest_17 : decode cX0_harvest 17 = .ok (.aload_n 1, 1) := by decide +kernel
theorem dX0_harvest_18 : decode cX0_harvest 18 = .ok (.dup, 1) := by decide +kernel
theorem dX0_harvest_19 : decode cX0_harvest 19 = .ok (.getfield 86, 3) := by decide +kernel
theorem dX0_harvest_22 : decode cX0_harvest 22 = .ok (.aload_n 0, 1) := by decide +kernel
theorem dX0_harvest_23 : decode cX0_harvest 23 = .ok (.iload_n 3, 1) := by decide +kernel
theorem dX0_harvest_24 : decode cX0_harvest 24 = .ok (.invokevirtual 89, 3) := by decide +kernel
theorem dX0_harvest_27 : decode cX0_harvest 27 = .ok (.iadd, 1) := by decide +kernel
theorem dX0_harvest_28 : decode cX0_harvest 28 = .ok (.putfield 86, 3) := by decide +kernel
theorem dX0_harvest_31 : decode cX0_harvest 31 = .ok (.iload_n 3, 1) := by decide +kernel
theorem dX0_harvest_32 : decode cX0_harvest 32 = .ok (.ifCond .le 50, 3) := by decide +kernel
theorem dX0_harvest_35 : decode cX0_harvest 35 = .ok (.aload_n 0, 1) := by decide +kernel
theorem dX0_harvest_36 : decode cX0_harvest 36 = .ok (.aload_n 0, 1) := by decide +kernel
theorem dX0_harvest_37 : decode cX0_harvest 37 = .ok (.getfield 27, 3) := by decide +kernel
theorem dX0_harvest_40 : decode cX0_harvest 40 = .ok (.ifCond .le 17, 3) := by decide +kernel
theorem dX0_harvest_43 : decode cX0_harvest 43 = .ok (.aload_n 0, 1) := by decide +kernel
theorem dX0_harvest_44 : decode cX0_harvest 44 = .ok (.getfield 30, 3) := by decide +kernel
theorem dX0_harvest_47 : decode cX0_harvest 47 = .ok (.aload_n 1, 1) := by decide +kernel
theorem dX0_harvest_48 : decode cX0_harvest 48 = .ok (.getfield 93, 3) := by decide +kernel
theorem dX0_harvest_51 : decode cX0_harvest 51 = .ok (.invokestatic 96, 3) := by decide +kernel
theorem dX0_harvest_54 : decode cX0_harvest 54 = .ok (.goto 7, 3) := by decide +kernel
theorem dX0_harvest_57 : decode cX0_harvest 57 = .ok (.aload_n 1, 1) := by decide +kernel
theorem dX0_harvest_58 : decode cX0_harvest 58 = .ok (.getfield 93, 3) := by decide +kernel
theorem dX0_harvest_61 : decode cX0_harvest 61 = .ok (.putfield 30, 3) := by decide +kernel
theorem dX0_harvest_64 : decode cX0_harvest 64 = .ok (.aload_n 0, 1) := by decide +kernel
theorem dX0_harvest_65 : decode cX0_harvest 65 = .ok (.aload_n 0, 1) := by decide +kernel
theorem dX0_harvest_66 : decode cX0_harvest 66 = .ok (.getfield 15, 3) := by decide +kernel
theorem dX0_harvest_69 : decode cX0_harvest 69 = .ok (.putfield 9, 3) := by decide +kernel
theorem dX0_harvest_72 : decode cX0_harvest 72 = .ok (.aload_n 0, 1) := by decide +kernel
theorem dX0_harvest_73 : decode cX0_harvest 73 = .ok (.dup, 1) := by decide +kernel
theorem dX0_harvest_74 : decode cX0_harvest 74 = .ok (.getfield 27, 3) := by decide +kernel
theorem dX0_harvest_77 : decode cX0_harvest 77 = .ok (.iload_n 3, 1) := by decide +kernel
theorem dX0_harvest_78 : decode cX0_harvest 78 = .ok (.iadd, 1) := by decide +kernel
theorem dX0_harvest_79 : decode cX0_harvest 79 = .ok (.putfield 27, 3) := by decide +kernel
theorem dX0_harvest_82 : decode cX0_harvest 82 = .ok (.aload_n 0, 1) := by decide +kernel
theorem dX0_harvest_83 : decode cX0_harvest 83 = .ok (.dup, 1) := by decide +kernel
theorem dX0_harvest_84 : decode cX0_harvest 84 = .ok (.getfield 43, 3) := by decide +kernel
theorem dX0_harvest_87 : decode cX0_harvest 87 = .ok (.iload_n 2, 1) := by decide +kernel
theorem dX0_harvest_88 : decode cX0_harvest 88 = .ok (.iadd, 1) := by decide +kernel
theorem dX0_harvest_89 : decode cX0_harvest 89 = .ok (.putfield 43, 3) := by decide +kernel
theorem dX0_harvest_92 : decode cX0_harvest 92 = .ok (.aload_n 0, 1) := by decide +kernel
theorem dX0_harvest_93 : decode cX0_harvest 93 = .ok (.dup, 1) := by decide +kernel
theorem dX0_harvest_94 : decode cX0_harvest 94 = .ok (.getfield 46, 3) := by decide +kernel
theorem dX0_harvest_97 : decode cX0_harvest 97 = .ok (.iload_n 3, 1) := by decide +kernel
theorem dX0_harvest_98 : decode cX0_harvest 98 = .ok (.iadd, 1) := by decide +kernel
theorem dX0_harvest_99 : decode cX0_harvest 99 = .ok (.putfield 46, 3) := by decide +kernel
theorem dX0_harvest_102 : decode cX0_harvest 102 = .ok (.aload_n 0, 1) := by decide +kernel
theorem dX0_harvest_103 : decode cX0_harvest 103 = .ok (.dup, 1) := by decide +kernel
theorem dX0_harvest_104 : decode cX0_harvest 104 = .ok (.getfield 33, 3) := by decide +kernel
theorem dX0_harvest_107 : decode cX0_harvest 107 = .ok (.iload_n 2, 1) := by decide +kernel
theorem dX0_harvest_108 : decode cX0_harvest 108 = .ok (.iadd, 1) := by decide +kernel
theorem dX0_harvest_109 : decode cX0_harvest 109 = .ok (.putfield 33, 3) := by decide +kernel
theorem dX0_harvest_112 : decode cX0_harvest 112 = .ok (.aload_n 0, 1) := by decide +kernel
theorem dX0_harvest_113 : decode cX0_harvest 113 = .ok (.aload_n 0, 1) := by decide +kernel
theorem dX0_harvest_114 : decode cX0_harvest 114 = .ok (.getfield 33, 3) := by decide +kernel
theorem dX0_harvest_117 : decode cX0_harvest 117 = .ok (.bipush 100, 2) := by decide +kernel
theorem dX0_harvest_119 : decode cX0_harvest 119 = .ok (.if_icmp .lt 7, 3) := by decide +kernel
theorem dX0_harvest_122 : decode cX0_harvest 122 = .ok (.iconst 1, 1) := by decide +kernel
theorem dX0_harvest_123 : decode cX0_harvest 123 = .ok (.goto 4, 3) := by decide +kernel
theorem dX0_harvest_126 : decode cX0_harvest 126 = .ok (.iconst 0, 1) := by decide +kernel
theorem dX0_harvest_127 : decode cX0_harvest 127 = .ok (.putfield 36, 3) := by decide +kernel
theorem dX0_harvest_130 : decode cX0_harvest 130 = .ok (.return_, 1) := by decide +kernel
theorem dX0_metered_0 : decode cX0_metered 0 = .ok (.iconst 3, 1) := by decide +kernel
theorem dX0_metered_1 : decode cX0_metered 1 = .ok (.aload_n 0, 1) := by decide +kernel
theorem dX0_metered_2 : decode cX0_metered 2 = .ok (.getfield 18, 3) := by decide +kernel
theorem dX0_metered_5 : decode cX0_metered 5 = .ok (.imul, 1) := by decide +kernel
theorem dX0_metered_6 : decode cX0_metered 6 = .ok (.aload_n 0, 1) := by decide +kernel
theorem dX0_metered_7 : decode cX0_metered 7 = .ok (.getfield 33, 3) := by decide +kernel
theorem dX0_metered_10 : decode cX0_metered 10 = .ok (.bipush 20, 2) := by decide +kernel
theorem dX0_metered_12 : decode cX0_metered 12 = .ok (.idiv, 1) := by decide +kernel
theorem dX0_metered_13 : decode cX0_metered 13 = .ok (.iadd, 1) := by decide +kernel
theorem dX0_metered_14 : decode cX0_metered 14 = .ok (.iconst 4, 1) := by decide +kernel
theorem dX0_metered_15 : decode cX0_metered 15 = .ok (.isub, 1) := by decide +kernel
theorem dX0_metered_16 : decode cX0_metered 16 = .ok (.istore_n 2, 1) := by decide +kernel
theorem dX0_metered_17 : decode cX0_metered 17 = .ok (.iload_n 1, 1) := by decide +kernel
theorem dX0_metered_18 : decode cX0_metered 18 = .ok (.bipush 100, 2) := by decide +kernel
theorem dX0_metered_20 : decode cX0_metered 20 = .ok (.iload_n 2, 1) := by decide +kernel
theorem dX0_metered_21 : decode cX0_metered 21 = .ok (.iadd, 1) := by decide +kernel
theorem dX0_metered_22 : decode cX0_metered 22 = .ok (.imul, 1) := by decide +kernel
theorem dX0_metered_23 : decode cX0_metered 23 = .ok (.bipush 100, 2) := by decide +kernel
theorem dX0_metered_25 : decode cX0_metered 25 = .ok (.idiv, 1) := by decide +kernel
theorem dX0_metered_26 : decode cX0_metered 26 = .ok (.ireturn, 1) := by decide +kernel
theorem dX1_init_0 : decode cX1_init 0 = .ok (.aload_n 0, 1) := by decide +kernel
theorem dX1_init_1 : decode cX1_init 1 = .ok (.invokespecial 1, 3) := by decide +kernel
theorem dX1_init_4 : decode cX1_init 4 = .ok (.aload_n 0, 1) := by decide +kernel
theorem dX1_init_5 : decode cX1_init 5 = .ok (.iload_n 1, 1) := by decide +kernel
theorem dX1_init_6 : decode cX1_init 6 = .ok (.putfield 7, 3) := by decide +kernel
theorem dX1_init_9 : decode cX1_init 9 = .ok (.aload_n 0, 1) := by decide +kernel
theorem dX1_init_10 : decode cX1_init 10 = .ok (.iload_n 2, 1) := by decide +kernel
theorem dX1_init_11 : decode cX1_init 11 = .ok (.putfield 13, 3) := by decide +kernel
theorem dX1_init_14 : decode cX1_init 14 = .ok (.aload_n 0, 1) := by decide +kernel
theorem dX1_init_15 : decode cX1_init 15 = .ok (.iload_n 3, 1) := by decide +kernel
theorem dX1_init_16 : decode cX1_init 16 = .ok (.putfield 16, 3) := by decide +kernel
theorem dX1_init_19 : decode cX1_init 19 = .ok (.aload_n 0, 1) := by decide +kernel
theorem dX1_init_20 : decode cX1_init 20 = .ok (.iload 4, 2) := by decide +kernel
theorem dX1_init_22 : decode cX1_init 22 = .ok (.putfield 19, 3) := by decide +kernel
theorem dX1_init_25 : decode cX1_init 25 = .ok (.aload_n 0, 1) := by decide +kernel
theorem dX1_init_26 : decode cX1_init 26 = .ok (.iload 5, 2) := by decide +kernel
theorem dX1_init_28 : decode cX1_init 28 = .ok (.putfield 22, 3) := by decide +kernel
theorem dX1_init_31 : decode cX1_init 31 = .ok (.aload_n 0, 1) := by decide +kernel
theorem dX1_init_32 : decode cX1_init 32 = .ok (.iload 6, 2) := by decide +kernel
theorem dX1_init_34 : decode cX1_init 34 = .ok (.putfield 25, 3) := by decide +kernel
theorem dX1_init_37 : decode cX1_init 37 = .ok (.return_, 1) := by decide +kernel
theorem dX1_copyFrom_0 : decode cX1_copyFrom 0 = .ok (.aload_n 0, 1) := by decide +kernel
theorem dX1_copyFrom_1 : decode cX1_copyFrom 1 = .ok (.aload_n 1, 1) := by decide +kernel
theorem dX1_copyFrom_2 : decode cX1_copyFrom 2 = .ok (.getfield 7, 3) := by decide +kernel
theorem dX1_copyFrom_5 : decode cX1_copyFrom 5 = .ok (.putfield 7, 3) := by decide +kernel
theorem dX1_copyFrom_8 : decode cX1_copyFrom 8 = .ok (.aload_n 0, 1) := by decide +kernel
theorem dX1_copyFrom_9 : decode cX1_copyFrom 9 = .ok (.aload_n 1, 1) := by decide +kernel
theorem dX1_copyFrom_10 : decode cX1_copyFrom 10 = .ok (.getfield 13, 3) := by decide +kernel
theorem dX1_copyFrom_13 : decode cX1_copyFrom 13 = .ok (.putfield 13, 3) := by decide +kernel
theorem dX1_copyFrom_16 : decode cX1_copyFrom 16 = .ok (.aload_n 0, 1) := by decide +kernel
theorem dX1_copyFrom_17 : decode cX1_copyFrom 17 = .ok (.aload_n 1, 1) := by decide +kernel
theorem dX1_copyFrom_18 : decode cX1_copyFrom 18 = .ok (.getfield 16, 3) := by decide +kernel
theorem dX1_copyFrom_21 : decode cX1_copyFrom 21 = .ok (.putfield 16, 3) := by decide +kernel
theorem dX1_copyFrom_24 : decode cX1_copyFrom 24 = .ok (.aload_n 0, 1) := by decide +kernel
theorem dX1_copyFrom_25 : decode cX1_copyFrom 25 = .ok (.aload_n 1, 1) := by decide +kernel
theorem dX1_copyFrom_26 : decode cX1_copyFrom 26 = .ok (.getfield 19, 3) := by decide +kernel
theorem dX1_copyFrom_29 : decode cX1_copyFrom 29 = .ok (.putfield 19, 3) := by decide +kernel
theorem dX1_copyFrom_32 : decode cX1_copyFrom 32 = .ok (.aload_n 0, 1) := by decide +kernel
theorem dX1_copyFrom_33 : decode cX1_copyFrom 33 = .ok (.aload_n 1, 1) := by decide +kernel
theorem dX1_copyFrom_34 : decode cX1_copyFrom 34 = .ok (.getfield 22, 3) := by decide +kernel
theorem dX1_copyFrom_37 : decode cX1_copyFrom 37 = .ok (.putfield 22, 3) := by decide +kernel
theorem dX1_copyFrom_40 : decode cX1_copyFrom 40 = .ok (.aload_n 0, 1) := by decide +kernel
theorem dX1_copyFrom_41 : decode cX1_copyFrom 41 = .ok (.aload_n 1, 1) := by decide +kernel
theorem dX1_copyFrom_42 : decode cX1_copyFrom 42 = .ok (.getfield 25, 3) := by decide +kernel
theorem dX1_copyFrom_45 : decode cX1_copyFrom 45 = .ok (.putfield 25, 3) := by decide +kernel
theorem dX1_copyFrom_48 : decode cX1_copyFrom 48 = .ok (.return_, 1) := by decide +kernel
theorem dX1_takes_0 : decode cX1_takes 0 = .ok (.aload_n 0, 1) := by decide +kernel
theorem dX1_takes_1 : decode cX1_takes 1 = .ok (.iload_n 2, 1) := by decide +kernel
theorem dX1_takes_2 : decode cX1_takes 2 = .ok (.invokevirtual 28, 3) := by decide +kernel
theorem dX1_takes_5 : decode cX1_takes 5 = .ok (.ifCond .eq 29, 3) := by decide +kernel
theorem dX1_takes_8 : decode cX1_takes 8 = .ok (.aload_n 0, 1) := by decide +kernel
theorem dX1_takes_9 : decode cX1_takes 9 = .ok (.getfield 25, 3) := by decide +kernel
theorem dX1_takes_12 : decode cX1_takes 12 = .ok (.aload_n 1, 1) := by decide +kernel
theorem dX1_takes_13 : decode cX1_takes 13 = .ok (.getfield 32, 3) := by decide +kernel
theorem dX1_takes_16 : decode cX1_takes 16 = .ok (.if_icmp .lt 18, 3) := by decide +kernel
theorem dX1_takes_19 : decode cX1_takes 19 = .ok (.aload_n 0, 1) := by decide +kernel
theorem dX1_takes_20 : decode cX1_takes 20 = .ok (.getfield 13, 3) := by decide +kernel
theorem dX1_takes_23 : decode cX1_takes 23 = .ok (.aload_n 1, 1) := by decide +kernel
theorem dX1_takes_24 : decode cX1_takes 24 = .ok (.getfield 37, 3) := by decide +kernel
theorem dX1_takes_27 : decode cX1_takes 27 = .ok (.if_icmp .lt 7, 3) := by decide +kernel
theorem dX1_takes_30 : decode cX1_takes 30 = .ok (.iconst 1, 1) := by decide +kernel
theorem dX1_takes_31 : decode cX1_takes 31 = .ok (.goto 4, 3) := by decide +kernel
theorem dX1_takes_34 : decode cX1_takes 34 = .ok (.iconst 0, 1) := by decide +kernel
theorem dX1_takes_35 : decode cX1_takes 35 = .ok (.ireturn, 1) := by decide +kernel
theorem dX1_isOpen_0 : decode cX1_isOpen 0 = .ok (.aload_n 0, 1) := by decide +kernel
theorem dX1_isOpen_1 : decode cX1_isOpen 1 = .ok (.getfield 16, 3) := by decide +kernel
theorem dX1_isOpen_4 : decode cX1_isOpen 4 = .ok (.aload_n 0, 1) := by decide +kernel
theorem dX1_isOpen_5 : decode cX1_isOpen 5 = .ok (.getfield 19, 3) := by decide +kernel
theorem dX1_isOpen_8 : decode cX1_isOpen 8 = .ok (.if_icmp .ge 27, 3) := by decide +kernel
theorem dX1_isOpen_11 : decode cX1_isOpen 11 = .ok (.iload_n 1, 1) := by decide +kernel
theorem dX1_isOpen_12 : decode cX1_isOpen 12 = .ok (.aload_n 0, 1) := by decide +kernel
theorem dX1_isOpen_13 : decode cX1_isOpen 13 = .ok (.getfield 16, 3) := by decide +kernel
theorem dX1_isOpen_16 : decode cX1_isOpen 16 = .ok (.if_icmp .lt 15, 3) := by decide +kernel
theorem dX1_isOpen_19 : decode cX1_isOpen 19 = .ok (.iload_n 1, 1) := by decide +kernel
theorem dX1_isOpen_20 : decode cX1_isOpen 20 = .ok (.aload_n 0, 1) := by decide +kernel
theorem dX1_isOpen_21 : decode cX1_isOpen 21 = .ok (.getfield 19, 3) := by decide +kernel
theorem dX1_isOpen_24 : decode cX1_isOpen 24 = .ok (.if_icmp .ge 7, 3) := by decide +kernel
theorem dX1_isOpen_27 : decode cX1_isOpen 27 = .ok (.iconst 1, 1) := by decide +kernel
theorem dX1_isOpen_28 : decode cX1_isOpen 28 = .ok (.goto 28, 3) := by decide +kernel
theorem dX1_isOpen_31 : decode cX1_isOpen 31 = .ok (.iconst 0, 1) := by decide +kernel
theorem dX1_isOpen_32 : decode cX1_isOpen 32 = .ok (.goto 24, 3) := by decide +kernel
theorem dX1_isOpen_35 : decode cX1_isOpen 35 = .ok (.iload_n 1, 1) := by decide +kernel
theorem dX1_isOpen_36 : decode cX1_isOpen 36 = .ok (.aload_n 0, 1) := by decide +kernel
theorem dX1_isOpen_37 : decode cX1_isOpen 37 = .ok (.getfield 16, 3) := by decide +kernel
theorem dX1_isOpen_40 : decode cX1_isOpen 40 = .ok (.if_icmp .ge 11, 3) := by decide +kernel
theorem dX1_isOpen_43 : decode cX1_isOpen 43 = .ok (.iload_n 1, 1) := by decide +kernel
theorem dX1_isOpen_44 : decode cX1_isOpen 44 = .ok (.aload_n 0, 1) := by decide +kernel
theorem dX1_isOpen_45 : decode cX1_isOpen 45 = .ok (.getfield 19, 3) := by decide +kernel
theorem dX1_isOpen_48 : decode cX1_isOpen 48 = .ok (.if_icmp .ge 7, 3) := by decide +kernel
theorem dX1_isOpen_51 : decode cX1_isOpen 51 = .ok (.iconst 1, 1) := by decide +kernel
theorem dX1_isOpen_52 : decode cX1_isOpen 52 = .ok (.goto 4, 3) := by decide +kernel
theorem dX1_isOpen_55 : decode cX1_isOpen 55 = .ok (.iconst 0, 1) := by decide +kernel
theorem dX1_isOpen_56 : decode cX1_isOpen 56 = .ok (.ireturn, 1) := by decide +kernel
theorem dX1_discount_0 : decode cX1_discount 0 = .ok (.iconst 2, 1) := by decide +kernel
theorem dX1_discount_1 : decode cX1_discount 1 = .ok (.iload_n 1, 1) := by decide +kernel
theorem dX1_discount_2 : decode cX1_discount 2 = .ok (.aload_n 0, 1) := by decide +kernel
theorem dX1_discount_3 : decode cX1_discount 3 = .ok (.getfield 22, 3) := by decide +kernel
theorem dX1_discount_6 : decode cX1_discount 6 = .ok (.isub, 1) := by decide +kernel
theorem dX1_discount_7 : decode cX1_discount 7 = .ok (.iconst 0, 1) := by decide +kernel
theorem dX1_discount_8 : decode cX1_discount 8 = .ok (.invokestatic 40, 3) := by decide +kernel
theorem dX1_discount_11 : decode cX1_discount 11 = .ok (.imul, 1) := by decide +kernel
theorem dX1_discount_12 : decode cX1_discount 12 = .ok (.ireturn, 1) := by decide +kernel
theorem dX2_init_0 : decode cX2_init 0 = .ok (.aload_n 0, 1) := by decide +kernel
theorem dX2_init_1 : decode cX2_init 1 = .ok (.invokespecial 3, 3) := by decide +kernel
theorem dX2_init_4 : decode cX2_init 4 = .ok (.aload_n 0, 1) := by decide +kernel
theorem dX2_init_5 : decode cX2_init 5 = .ok (.bipush 30, 2) := by decide +kernel
theorem dX2_init_7 : decode cX2_init 7 = .ok (.putfield 9, 3) := by decide +kernel
theorem dX2_init_10 : decode cX2_init 10 = .ok (.aload_n 0, 1) := by decide +kernel
theorem dX2_init_11 : decode cX2_init 11 = .ok (.iload_n 1, 1) := by decide +kernel
theorem dX2_init_12 : decode cX2_init 12 = .ok (.putfield 15, 3) := by decide +kernel
theorem dX2_init_15 : decode cX2_init 15 = .ok (.aload_n 0, 1) := by decide +kernel
theorem dX2_init_16 : decode cX2_init 16 = .ok (.iload_n 2, 1) := by decide +kernel
theorem dX2_init_17 : decode cX2_init 17 = .ok (.putfield 18, 3) := by decide +kernel
theorem dX2_init_20 : decode cX2_init 20 = .ok (.aload_n 0, 1) := by decide +kernel
theorem dX2_init_21 : decode cX2_init 21 = .ok (.iload_n 3, 1) := by decide +kernel
theorem dX2_init_22 : decode cX2_init 22 = .ok (.putfield 21, 3) := by decide +kernel
theorem dX2_init_25 : decode cX2_init 25 = .ok (.aload_n 0, 1) := by decide +kernel
theorem dX2_init_26 : decode cX2_init 26 = .ok (.iload 4, 2) := by decide +kernel
theorem dX2_init_28 : decode cX2_init 28 = .ok (.putfield 24, 3) := by decide +kernel
theorem dX2_init_31 : decode cX2_init 31 = .ok (.aload_n 0, 1) := by decide +kernel
theorem dX2_init_32 : decode cX2_init 32 = .ok (.iload 5, 2) := by decide +kernel
theorem dX2_init_34 : decode cX2_init 34 = .ok (.putfield 27, 3) := by decide +kernel
theorem dX2_init_37 : decode cX2_init 37 = .ok (.return_, 1) := by decide +kernel
theorem dX2_copyFrom_0 : decode cX2_copyFrom 0 = .ok (.aload_n 0, 1) := by decide +kernel
theorem dX2_copyFrom_1 : decode cX2_copyFrom 1 = .ok (.aload_n 1, 1) := by decide +kernel
theorem dX2_copyFrom_2 : decode cX2_copyFrom 2 = .ok (.getfield 15, 3) := by decide +kernel
theorem dX2_copyFrom_5 : decode cX2_copyFrom 5 = .ok (.putfield 15, 3) := by decide +kernel
theorem dX2_copyFrom_8 : decode cX2_copyFrom 8 = .ok (.aload_n 0, 1) := by decide +kernel
theorem dX2_copyFrom_9 : decode cX2_copyFrom 9 = .ok (.aload_n 1, 1) := by decide +kernel
theorem dX2_copyFrom_10 : decode cX2_copyFrom 10 = .ok (.getfield 18, 3) := by decide +kernel
theorem dX2_copyFrom_13 : decode cX2_copyFrom 13 = .ok (.putfield 18, 3) := by decide +kernel
theorem dX2_copyFrom_16 : decode cX2_copyFrom 16 = .ok (.aload_n 0, 1) := by decide +kernel
theorem dX2_copyFrom_17 : decode cX2_copyFrom 17 = .ok (.aload_n 1, 1) := by decide +kernel
theorem dX2_copyFrom_18 : decode cX2_copyFrom 18 = .ok (.getfield 21, 3) := by decide +kernel
theorem dX2_copyFrom_21 : decode cX2_copyFrom 21 = .ok (.putfield 21, 3) := by decide +kernel
theorem dX2_copyFrom_24 : decode cX2_copyFrom 24 = .ok (.aload_n 0, 1) := by decide +kernel
theorem dX2_copyFrom_25 : decode cX2_copyFrom 25 = .ok (.aload_n 1, 1) := by decide +kernel
theorem dX2_copyFrom_26 : decode cX2_copyFrom 26 = .ok (.getfield 24, 3) := by decide +kernel
theorem dX2_copyFrom_29 : decode cX2_copyFrom 29 = .ok (.putfield 24, 3) := by decide +kernel
theorem dX2_copyFrom_32 : decode cX2_copyFrom 32 = .ok (.aload_n 0, 1) := by decide +kernel
theorem dX2_copyFrom_33 : decode cX2_copyFrom 33 = .ok (.aload_n 1, 1) := by decide +kernel
theorem dX2_copyFrom_34 : decode cX2_copyFrom 34 = .ok (.getfield 27, 3) := by decide +kernel
theorem dX2_copyFrom_37 : decode cX2_copyFrom 37 = .ok (.putfield 27, 3) := by decide +kernel
theorem dX2_copyFrom_40 : decode cX2_copyFrom 40 = .ok (.aload_n 0, 1) := by decide +kernel
theorem dX2_copyFrom_41 : decode cX2_copyFrom 41 = .ok (.aload_n 1, 1) := by decide +kernel
theorem dX2_copyFrom_42 : decode cX2_copyFrom 42 = .ok (.getfield 30, 3) := by decide +kernel
theorem dX2_copyFrom_45 : decode cX2_copyFrom 45 = .ok (.putfield 30, 3) := by decide +kernel
theorem dX2_copyFrom_48 : decode cX2_copyFrom 48 = .ok (.aload_n 0, 1) := by decide +kernel
theorem dX2_copyFrom_49 : decode cX2_copyFrom 49 = .ok (.aload_n 1, 1) := by decide +kernel
theorem dX2_copyFrom_50 : decode cX2_copyFrom 50 = .ok (.getfield 33, 3) := by decide +kernel
theorem dX2_copyFrom_53 : decode cX2_copyFrom 53 = .ok (.putfield 33, 3) := by decide +kernel
theorem dX2_copyFrom_56 : decode cX2_copyFrom 56 = .ok (.aload_n 0, 1) := by decide +kernel
theorem dX2_copyFrom_57 : decode cX2_copyFrom 57 = .ok (.aload_n 1, 1) := by decide +kernel
theorem dX2_copyFrom_58 : decode cX2_copyFrom 58 = .ok (.getfield 9, 3) := by decide +kernel
theorem dX2_copyFrom_61 : decode cX2_copyFrom 61 = .ok (.putfield 9, 3) := by decide +kernel
theorem dX2_copyFrom_64 : decode cX2_copyFrom 64 = .ok (.aload_n 0, 1) := by decide +kernel
theorem dX2_copyFrom_65 : decode cX2_copyFrom 65 = .ok (.aload_n 1, 1) := by decide +kernel
theorem dX2_copyFrom_66 : decode cX2_copyFrom 66 = .ok (.getfield 36, 3) := by decide +kernel
theorem dX2_copyFrom_69 : decode cX2_copyFrom 69 = .ok (.putfield 36, 3) := by decide +kernel
theorem dX2_copyFrom_72 : decode cX2_copyFrom 72 = .ok (.aload_n 0, 1) := by decide +kernel
theorem dX2_copyFrom_73 : decode cX2_copyFrom 73 = .ok (.aload_n 1, 1) := by decide +kernel
theorem dX2_copyFrom_74 : decode cX2_copyFrom 74 = .ok (.getfield 39, 3) := by decide +kernel
theorem dX2_copyFrom_77 : decode cX2_copyFrom 77 = .ok (.putfield 39, 3) := by decide +kernel
theorem dX2_copyFrom_80 : decode cX2_copyFrom 80 = .ok (.aload_n 0, 1) := by decide +kernel
theorem dX2_copyFrom_81 : decode cX2_copyFrom 81 = .ok (.aload_n 1, 1) := by decide +kernel
theorem dX2_copyFrom_82 : decode cX2_copyFrom 82 = .ok (.getfield 42, 3) := by decide +kernel
theorem dX2_copyFrom_85 : decode cX2_copyFrom 85 = .ok (.putfield 42, 3) := by decide +kernel
theorem dX2_copyFrom_88 : decode cX2_copyFrom 88 = .ok (.aload_n 0, 1) := by decide +kernel
theorem dX2_copyFrom_89 : decode cX2_copyFrom 89 = .ok (.aload_n 1, 1) := by decide +kernel
theorem dX2_copyFrom_90 : decode cX2_copyFrom 90 = .ok (.getfield 45, 3) := by decide +kernel
theorem dX2_copyFrom_93 : decode cX2_copyFrom 93 = .ok (.putfield 45, 3) := by decide +kernel
theorem dX2_copyFrom_96 : decode cX2_copyFrom 96 = .ok (.aload_n 0, 1) := by decide +kernel
theorem dX2_copyFrom_97 : decode cX2_copyFrom 97 = .ok (.aload_n 1, 1) := by decide +kernel
theorem dX2_copyFrom_98 : decode cX2_copyFrom 98 = .ok (.getfield 48, 3) := by decide +kernel
theorem dX2_copyFrom_101 : decode cX2_copyFrom 101 = .ok (.putfield 48, 3) := by decide +kernel
theorem dX2_copyFrom_104 : decode cX2_copyFrom 104 = .ok (.return_, 1) := by decide +kernel
theorem dX2_passHour_0 : decode cX2_passHour 0 = .ok (.aload_n 0, 1) := by decide +kernel
theorem dX2_passHour_1 : decode cX2_passHour 1 = .ok (.iload_n 2, 1) := by decide +kernel
theorem dX2_passHour_2 : decode cX2_passHour 2 = .ok (.invokevirtual 51, 3) := by decide +kernel
theorem dX2_passHour_5 : decode cX2_passHour 5 = .ok (.aload_n 0, 1) := by decide +kernel
theorem dX2_passHour_6 : decode cX2_passHour 6 = .ok (.iload_n 3, 1) := by decide +kernel
theorem dX2_passHour_7 : decode cX2_passHour 7 = .ok (.iload 4, 2) := by decide +kernel
theorem dX2_passHour_9 : decode cX2_passHour 9 = .ok (.invokevirtual 55, 3) := by decide +kernel
theorem dX2_passHour_12 : decode cX2_passHour 12 = .ok (.aload_n 0, 1) := by decide +kernel
theorem dX2_passHour_13 : decode cX2_passHour 13 = .ok (.iload_n 1, 1) := by decide +kernel
theorem dX2_passHour_14 : decode cX2_passHour 14 = .ok (.iload 4, 2) := by decide +kernel
theorem dX2_passHour_16 : decode cX2_passHour 16 = .ok (.invokevirtual 59, 3) := by decide +kernel
theorem dX2_passHour_19 : decode cX2_passHour 19 = .ok (.return_, 1) := by decide +kernel
theorem dX2_ripen_0 : decode cX2_ripen 0 = .ok (.iload_n 1, 1) := by decide +kernel
theorem dX2_ripen_1 : decode cX2_ripen 1 = .ok (.bipush 30, 2) := by decide +kernel
theorem dX2_ripen_3 : decode cX2_ripen 3 = .ok (.if_icmp .lt 7, 3) := by decide +kernel
theorem dX2_ripen_6 : decode cX2_ripen 6 = .ok (.iconst 2, 1) := by decide +kernel
theorem dX2_ripen_7 : decode cX2_ripen 7 = .ok (.goto 14, 3) := by decide +kernel
theorem dX2_ripen_10 : decode cX2_ripen 10 = .ok (.iload_n 1, 1) := by decide +kernel
theorem dX2_ripen_11 : decode cX2_ripen 11 = .ok (.bipush 15, 2) := by decide +kernel
theorem dX2_ripen_13 : decode cX2_ripen 13 = .ok (.if_icmp .lt 7, 3) := by decide +kernel
theorem dX2_ripen_16 : decode cX2_ripen 16 = .ok (.iconst 1, 1) := by decide +kernel
theorem dX2_ripen_17 : decode cX2_ripen 17 = .ok (.goto 4, 3) := by decide +kernel
theorem dX2_ripen_20 : decode cX2_ripen 20 = .ok (.iconst 0, 1) := by decide +kernel
theorem dX2_ripen_21 : decode cX2_ripen 21 = .ok (.istore_n 2, 1) := by decide +kernel
theorem dX2_ripen_22 : decode cX2_ripen 22 = .ok (.aload_n 0, 1) := by decide +kernel
theorem dX2_ripen_23 : decode cX2_ripen 23 = .ok (.aload_n 0, 1) := by decide +kernel
theorem dX2_ripen_24 : decode cX2_ripen 24 = .ok (.getfield 33, 3) := by decide +kernel
theorem dX2_ripen_27 : decode cX2_ripen 27 = .ok (.iload_n 2, 1) := by decide +kernel
theorem dX2_ripen_28 : decode cX2_ripen 28 = .ok (.iadd, 1) := by decide +kernel
theorem dX2_ripen_29 : decode cX2_ripen 29 = .ok (.bipush 100, 2) := by decide +kernel
theorem dX2_ripen_31 : decode cX2_ripen 31 = .ok (.invokestatic 62, 3) := by decide +kernel
theorem dX2_ripen_34 : decode cX2_ripen 34 = .ok (.putfield 33, 3) := by decide +kernel
theorem dX2_ripen_37 : decode cX2_ripen 37 = .ok (.return_, 1) := by decide +kernel
theorem dX2_soakOrDry_0 : decode cX2_soakOrDry 0 = .ok (.iload_n 2, 1) := by decide +kernel
theorem dX2_soakOrDry_1 : decode cX2_soakOrDry 1 = .ok (.ifCond .le 21, 3) := by decide +kernel
theorem dX2_soakOrDry_4 : decode cX2_soakOrDry 4 = .ok (.aload_n 0, 1) := by decide +kernel
theorem dX2_soakOrDry_5 : decode cX2_soakOrDry 5 = .ok (.aload_n 0, 1) := by decide +kernel
theorem dX2_soakOrDry_6 : decode cX2_soakOrDry 6 = .ok (.getfield 9, 3) := by decide +kernel
theorem dX2_soakOrDry_9 : decode cX2_soakOrDry 9 = .ok (.iload_n 2, 1) := by decide +kernel
theorem dX2_soakOrDry_10 : decode cX2_soakOrDry 10 = .ok (.iadd, 1) := by decide +kernel
theorem dX2_soakOrDry_11 : decode cX2_soakOrDry 11 = .ok (.bipush 40, 2) := by decide +kernel
theorem dX2_soakOrDry_13 : decode cX2_soakOrDry 13 = .ok (.invokestatic 62, 3) := by decide +kernel
theorem dX2_soakOrDry_16 : decode cX2_soakOrDry 16 = .ok (.putfield 9, 3) := by decide +kernel
theorem dX2_soakOrDry_19 : decode cX2_soakOrDry 19 = .ok (.goto 59, 3) := by decide +kernel
theorem dX2_soakOrDry_22 : decode cX2_soakOrDry 22 = .ok (.aload_n 0, 1) := by decide +kernel
theorem dX2_soakOrDry_23 : decode cX2_soakOrDry 23 = .ok (.getfield 33, 3) := by decide +kernel
theorem dX2_soakOrDry_26 : decode cX2_soakOrDry 26 = .ok (.bipush 60, 2) := by decide +kernel
theorem dX2_soakOrDry_28 : decode cX2_soakOrDry 28 = .ok (.if_icmp .lt 50, 3) := by decide +kernel
theorem dX2_soakOrDry_31 : decode cX2_soakOrDry 31 = .ok (.aload_n 0, 1) := by decide +kernel
theorem dX2_soakOrDry_32 : decode cX2_soakOrDry 32 = .ok (.getfield 9, 3) := by decide +kernel
theorem dX2_soakOrDry_35 : decode cX2_soakOrDry 35 = .ok (.iload_n 1, 1) := by decide +kernel
theorem dX2_soakOrDry_36 : decode cX2_soakOrDry 36 = .ok (.iconst 4, 1) := by decide +kernel
theorem dX2_soakOrDry_37 : decode cX2_soakOrDry 37 = .ok (.idiv, 1) := by decide +kernel
theorem dX2_soakOrDry_38 : decode cX2_soakOrDry 38 = .ok (.if_icmp .ge 16, 3) := by decide +kernel
theorem dX2_soakOrDry_41 : decode cX2_soakOrDry 41 = .ok (.aload_n 0, 1) := by decide +kernel
theorem dX2_soakOrDry_42 : decode cX2_soakOrDry 42 = .ok (.dup, 1) := by decide +kernel
theorem dX2_soakOrDry_43 : decode cX2_soakOrDry 43 = .ok (.getfield 9, 3) := by decide +kernel
theorem dX2_soakOrDry_46 : decode cX2_soakOrDry 46 = .ok (.iconst 1, 1) := by decide +kernel
theorem dX2_soakOrDry_47 : decode cX2_soakOrDry 47 = .ok (.iadd, 1) := by decide +kernel
theorem dX2_soakOrDry_48 : decode cX2_soakOrDry 48 = .ok (.putfield 9, 3) := by decide +kernel
theorem dX2_soakOrDry_51 : decode cX2_soakOrDry 51 = .ok (.goto 27, 3) := by decide +kernel
theorem dX2_soakOrDry_54 : decode cX2_soakOrDry 54 = .ok (.aload_n 0, 1) := by decide +kernel
theorem dX2_soakOrDry_55 : decode cX2_soakOrDry 55 = .ok (.getfield 9, 3) := by decide +kernel
theorem dX2_soakOrDry_58 : decode cX2_soakOrDry 58 = .ok (.iload_n 1, 1) := by decide +kernel
theorem dX2_soakOrDry_59 : decode cX2_soakOrDry 59 = .ok (.iconst 4, 1) := by decide +kernel
theorem dX2_soakOrDry_60 : decode cX2_soakOrDry 60 = .ok (.idiv, 1) := by decide +kernel
theorem dX2_soakOrDry_61 : decode cX2_soakOrDry 61 = .ok (.if_icmp .le 17, 3) := by decide +kernel
theorem dX2_soakOrDry_64 : decode cX2_soakOrDry 64 = .ok (.aload_n 0, 1) := by decide +kernel
theorem dX2_soakOrDry_65 : decode cX2_soakOrDry 65 = .ok (.aload_n 0, 1) := by decide +kernel
theorem dX2_soakOrDry_66 : decode cX2_soakOrDry 66 = .ok (.getfield 9, 3) := by decide +kernel
theorem dX2_soakOrDry_69 : decode cX2_soakOrDry 69 = .ok (.iconst 1, 1) := by decide +kernel
theorem dX2_soakOrDry_70 : decode cX2_soakOrDry 70 = .ok (.isub, 1) := by decide +kernel
theorem dX2_soakOrDry_71 : decode cX2_soakOrDry 71 = .ok (.iconst 5, 1) := by decide +kernel
theorem dX2_soakOrDry_72 : decode cX2_soakOrDry 72 = .ok (.invokestatic 68, 3) := by decide +kernel
theorem dX2_soakOrDry_75 : decode cX2_soakOrDry 75 = .ok (.putfield 9, 3) := by decide +kernel
theorem dX2_soakOrDry_78 : decode cX2_soakOrDry 78 = .ok (.return_, 1) := by decide +kernel
theorem dX2_shatter_0 : decode cX2_shatter 0 = .ok (.aload_n 0, 1) := by decide +kernel
theorem dX2_shatter_1 : decode cX2_shatter 1 = .ok (.getfield 33, 3) := by decide +kernel
theorem dX2_shatter_4 : decode cX2_shatter 4 = .ok (.bipush 100, 2) := by decide +kernel
theorem dX2_shatter_6 : decode cX2_shatter 6 = .ok (.if_icmp .ge 4, 3) := by decide +kernel
theorem dX2_shatter_9 : decode cX2_shatter 9 = .ok (.return_, 1) := by decide +kernel
theorem dX2_shatter_10 : decode cX2_shatter 10 = .ok (.iload_n 1, 1) := by decide +kernel
theorem dX2_shatter_11 : decode cX2_shatter 11 = .ok (.bipush 12, 2) := by decide +kernel
theorem dX2_shatter_13 : decode cX2_shatter 13 = .ok (.if_icmp .lt 28, 3) := by decide +kernel
theorem dX2_shatter_16 : decode cX2_shatter 16 = .ok (.iload_n 1, 1) := by decide +kernel
theorem dX2_shatter_17 : decode cX2_shatter 17 = .ok (.bipush 17, 2) := by decide +kernel
theorem dX2_shatter_19 : decode cX2_shatter 19 = .ok (.if_icmp .gt 22, 3) := by decide +kernel
theorem dX2_shatter_22 : decode cX2_shatter 22 = .ok (.aload_n 0, 1) := by decide +kernel
theorem dX2_shatter_23 : decode cX2_shatter 23 = .ok (.getfield 9, 3) := by decide +kernel
theorem dX2_shatter_26 : decode cX2_shatter 26 = .ok (.bipush 14, 2) := by decide +kernel
theorem dX2_shatter_28 : decode cX2_shatter 28 = .ok (.if_icmp .ge 13, 3) := by decide +kernel
theorem dX2_shatter_31 : decode cX2_shatter 31 = .ok (.aload_n 0, 1) := by decide +kernel
theorem dX2_shatter_32 : decode cX2_shatter 32 = .ok (.dup, 1) := by decide +kernel
theorem dX2_shatter_33 : decode cX2_shatter 33 = .ok (.getfield 36, 3) := by decide +kernel
theorem dX2_shatter_36 : decode cX2_shatter 36 = .ok (.iconst 1, 1) := by decide +kernel
theorem dX2_shatter_37 : decode cX2_shatter 37 = .ok (.iadd, 1) := by decide +kernel
theorem dX2_shatter_38 : decode cX2_shatter 38 = .ok (.putfield 36, 3) := by decide +kernel
theorem dX2_shatter_41 : decode cX2_shatter 41 = .ok (.iload_n 2, 1) := by decide +kernel
theorem dX2_shatter_42 : decode cX2_shatter 42 = .ok (.bipush 10, 2) := by decide +kernel
theorem dX2_shatter_44 : decode cX2_shatter 44 = .ok (.if_icmp .lt 13, 3) := by decide +kernel
theorem dX2_shatter_47 : decode cX2_shatter 47 = .ok (.aload_n 0, 1) := by decide +kernel
theorem dX2_shatter_48 : decode cX2_shatter 48 = .ok (.dup, 1) := by decide +kernel
theorem dX2_shatter_49 : decode cX2_shatter 49 = .ok (.getfield 36, 3) := by decide +kernel
theorem dX2_shatter_52 : decode cX2_shatter 52 = .ok (.iconst 5, 1) := by decide +kernel
theorem dX2_shatter_53 : decode cX2_shatter 53 = .ok (.iadd, 1) := by decide +kernel
theorem dX2_shatter_54 : decode cX2_shatter 54 = .ok (.putfield 36, 3) := by decide +kernel
theorem dX2_shatter_57 : decode cX2_shatter 57 = .ok (.aload_n 0, 1) := by decide +kernel
theorem dX2_shatter_58 : decode cX2_shatter 58 = .ok (.aload_n 0, 1) := by decide +kernel
theorem dX2_shatter_59 : decode cX2_shatter 59 = .ok (.getfield 36, 3) := by decide +kernel
theorem dX2_shatter_62 : decode cX2_shatter 62 = .ok (.bipush 100, 2) := by decide +kernel
theorem dX2_shatter_64 : decode cX2_shatter 64 = .ok (.invokestatic 62, 3) := by decide +kernel
theorem dX2_shatter_67 : decode cX2_shatter 67 = .ok (.putfield 36, 3) := by decide +kernel
theorem dX2_shatter_70 : decode cX2_shatter 70 = .ok (.return_, 1) := by decide +kernel
theorem dX2_isFit_0 : decode cX2_isFit 0 = .ok (.aload_n 0, 1) := by decide +kernel
theorem dX2_isFit_1 : decode cX2_isFit 1 = .ok (.getfield 33, 3) := by decide +kernel
theorem dX2_isFit_4 : decode cX2_isFit 4 = .ok (.bipush 80, 2) := by decide +kernel
theorem dX2_isFit_6 : decode cX2_isFit 6 = .ok (.if_icmp .lt 22, 3) := by decide +kernel
theorem dX2_isFit_9 : decode cX2_isFit 9 = .ok (.aload_n 0, 1) := by decide +kernel
theorem dX2_isFit_10 : decode cX2_isFit 10 = .ok (.getfield 9, 3) := by decide +kernel
theorem dX2_isFit_13 : decode cX2_isFit 13 = .ok (.bipush 20, 2) := by decide +kernel
theorem dX2_isFit_15 : decode cX2_isFit 15 = .ok (.if_icmp .ge 13, 3) := by decide +kernel
theorem dX2_isFit_18 : decode cX2_isFit 18 = .ok (.iload_n 1, 1) := by decide +kernel
theorem dX2_isFit_19 : decode cX2_isFit 19 = .ok (.bipush 8, 2) := by decide +kernel
theorem dX2_isFit_21 : decode cX2_isFit 21 = .ok (.if_icmp .lt 7, 3) := by decide +kernel
theorem dX2_isFit_24 : decode cX2_isFit 24 = .ok (.iconst 1, 1) := by decide +kernel
theorem dX2_isFit_25 : decode cX2_isFit 25 = .ok (.goto 4, 3) := by decide +kernel
theorem dX2_isFit_28 : decode cX2_isFit 28 = .ok (.iconst 0, 1) := by decide +kernel
theorem dX2_isFit_29 : decode cX2_isFit 29 = .ok (.ireturn, 1) := by decide +kernel
theorem dX2_uncut_0 : decode cX2_uncut 0 = .ok (.aload_n 0, 1) := by decide +kernel
theorem dX2_uncut_1 : decode cX2_uncut 1 = .ok (.getfield 21, 3) := by decide +kernel
theorem dX2_uncut_4 : decode cX2_uncut 4 = .ok (.aload_n 0, 1) := by decide +kernel
theorem dX2_uncut_5 : decode cX2_uncut 5 = .ok (.getfield 30, 3) := by decide +kernel
theorem dX2_uncut_8 : decode cX2_uncut 8 = .ok (.isub, 1) := by decide +kernel
theorem dX2_uncut_9 : decode cX2_uncut 9 = .ok (.ireturn, 1) := by decide +kernel
theorem dX2_brings_0 : decode cX2_brings 0 = .ok (.aload_n 0, 1) := by decide +kernel
theorem dX2_brings_1 : decode cX2_brings 1 = .ok (.getfield 24, 3) := by decide +kernel
theorem dX2_brings_4 : decode cX2_brings 4 = .ok (.bipush 100, 2) := by decide +kernel
theorem dX2_brings_6 : decode cX2_brings 6 = .ok (.aload_n 0, 1) := by decide +kernel
theorem dX2_brings_7 : decode cX2_brings 7 = .ok (.getfield 36, 3) := by decide +kernel
theorem dX2_brings_10 : decode cX2_brings 10 = .ok (.isub, 1) := by decide +kernel
theorem dX2_brings_11 : decode cX2_brings 11 = .ok (.imul, 1) := by decide +kernel
theorem dX2_brings_12 : decode cX2_brings 12 = .ok (.bipush 100, 2) := by decide +kernel
theorem dX2_brings_14 : decode cX2_brings 14 = .ok (.idiv, 1) := by decide +kernel
theorem dX2_brings_15 : decode cX2_brings 15 = .ok (.ireturn, 1) := by decide +kernel
theorem dX2_correction_0 : decode cX2_correction 0 = .ok (.aload_n 0, 1) := by decide +kernel
theorem dX2_correction_1 : decode cX2_correction 1 = .ok (.getfield 39, 3) := by decide +kernel
theorem dX2_correction_4 : decode cX2_correction 4 = .ok (.ifCond .eq 7, 3) := by decide +kernel
theorem dX2_correction_7 : decode cX2_correction 7 = .ok (.iload_n 1, 1) := by decide +kernel
theorem dX2_correction_8 : decode cX2_correction 8 = .ok (.ifCond .le 7, 3) := by decide +kernel
theorem dX2_correction_11 : decode cX2_correction 11 = .ok (.iconst (-1), 1) := by decide +kernel
theorem dX2_correction_12 : decode cX2_correction 12 = .ok (.goto 16, 3) := by decide +kernel
theorem dX2_correction_15 : decode cX2_correction 15 = .ok (.aload_n 0, 1) := by decide +kernel
theorem dX2_correction_16 : decode cX2_correction 16 = .ok (.getfield 42, 3) := by decide +kernel
theorem dX2_correction_19 : decode cX2_correction 19 = .ok (.sipush 1000, 3) := by decide +kernel
theorem dX2_correction_22 : decode cX2_correction 22 = .ok (.imul, 1) := by decide +kernel
theorem dX2_correction_23 : decode cX2_correction 23 = .ok (.aload_n 0, 1) := by decide +kernel
theorem dX2_correction_24 : decode cX2_correction 24 = .ok (.getfield 39, 3) := by decide +kernel
theorem dX2_correction_27 : decode cX2_correction 27 = .ok (.idiv, 1) := by decide +kernel
theorem dX2_correction_28 : decode cX2_correction 28 = .ok (.ireturn, 1) := by decide +kernel
theorem dX2_credit_0 : decode cX2_credit 0 = .ok (.iload_n 2, 1) := by decide +kernel
theorem dX2_credit_1 : decode cX2_credit 1 = .ok (.aload_n 0, 1) := by decide +kernel
theorem dX2_credit_2 : decode cX2_credit 2 = .ok (.getfield 27, 3) := by decide +kernel
theorem dX2_credit_5 : decode cX2_credit 5 = .ok (.imul, 1) := by decide +kernel
theorem dX2_credit_6 : decode cX2_credit 6 = .ok (.bipush 100, 2) := by decide +kernel
theorem dX2_credit_8 : decode cX2_credit 8 = .ok (.idiv, 1) := by decide +kernel
theorem dX2_credit_9 : decode cX2_credit 9 = .ok (.istore_n 3, 1) := by decide +kernel
theorem dX2_credit_10 : decode cX2_credit 10 = .ok (.aload_n 0, 1) := by decide +kernel
theorem dX2_credit_11 : decode cX2_credit 11 = .ok (.dup, 1) := by decide +kernel
theorem dX2_credit_12 : decode cX2_credit 12 = .ok (.getfield 42, 3) := by decide +kernel
theorem dX2_credit_15 : decode cX2_credit 15 = .ok (.iload_n 1, 1) := by decide +kernel
theorem dX2_credit_16 : decode cX2_credit 16 = .ok (.iadd, 1) := by decide +kernel
theorem dX2_credit_17 : decode cX2_credit 17 = .ok (.putfield 42, 3) := by decide +kernel
theorem dX2_credit_20 : decode cX2_credit 20 = .ok (.aload_n 0, 1) := by decide +kernel
theorem dX2_credit_21 : decode cX2_credit 21 = .ok (.dup, 1) := by decide +kernel
theorem dX2_credit_22 : decode cX2_credit 22 = .ok (.getfield 48, 3) := by decide +kernel
theorem dX2_credit_25 : decode cX2_credit 25 = .ok (.iload_n 3, 1) := by decide +kernel
theorem dX2_credit_26 : decode cX2_credit 26 = .ok (.iadd, 1) := by decide +kernel
theorem dX2_credit_27 : decode cX2_credit 27 = .ok (.putfield 48, 3) := by decide +kernel
theorem dX2_credit_30 : decode cX2_credit 30 = .ok (.aload_n 0, 1) := by decide +kernel
theorem dX2_credit_31 : decode cX2_credit 31 = .ok (.dup, 1) := by decide +kernel
theorem dX2_credit_32 : decode cX2_credit 32 = .ok (.getfield 45, 3) := by decide +kernel
theorem dX2_credit_35 : decode cX2_credit 35 = .ok (.iload_n 2, 1) := by decide +kernel
theorem dX2_credit_36 : decode cX2_credit 36 = .ok (.iload_n 3, 1) := by decide +kernel
theorem dX2_credit_37 : decode cX2_credit 37 = .ok (.isub, 1) := by decide +kernel
theorem dX2_credit_38 : decode cX2_credit 38 = .ok (.iadd, 1) := by decide +kernel
theorem dX2_credit_39 : decode cX2_credit 39 = .ok (.putfield 45, 3) := by decide +kernel
theorem dX2_credit_42 : decode cX2_credit 42 = .ok (.return_, 1) := by decide +kernel
theorem dX3_init_0 : decode cX3_init 0 = .ok (.aload_n 0, 1) := by decide +kernel
theorem dX3_init_1 : decode cX3_init 1 = .ok (.invokespecial 3, 3) := by decide +kernel
theorem dX3_init_4 : decode cX3_init 4 = .ok (.aload_n 0, 1) := by decide +kernel
theorem dX3_init_5 : decode cX3_init 5 = .ok (.new 9, 3) := by decide +kernel
theorem dX3_init_8 : decode cX3_init 8 = .ok (.dup, 1) := by decide +kernel
theorem dX3_init_9 : decode cX3_init 9 = .ok (.invokespecial 11, 3) := by decide +kernel
theorem dX3_init_12 : decode cX3_init 12 = .ok (.putfield 12, 3) := by decide +kernel
theorem dX3_init_15 : decode cX3_init 15 = .ok (.aload_n 0, 1) := by decide +kernel
theorem dX3_init_16 : decode cX3_init 16 = .ok (.new 9, 3) := by decide +kernel
theorem dX3_init_19 : decode cX3_init 19 = .ok (.dup, 1) := by decide +kernel
theorem dX3_init_20 : decode cX3_init 20 = .ok (.invokespecial 11, 3) := by decide +kernel
theorem dX3_init_23 : decode cX3_init 23 = .ok (.putfield 18, 3) := by decide +kernel
theorem dX3_init_26 : decode cX3_init 26 = .ok (.aload_n 0, 1) := by decide +kernel
theorem dX3_init_27 : decode cX3_init 27 = .ok (.new 9, 3) := by decide +kernel
theorem dX3_init_30 : decode cX3_init 30 = .ok (.dup, 1) := by decide +kernel
theorem dX3_init_31 : decode cX3_init 31 = .ok (.invokespecial 11, 3) := by decide +kernel
theorem dX3_init_34 : decode cX3_init 34 = .ok (.putfield 21, 3) := by decide +kernel
theorem dX3_init_37 : decode cX3_init 37 = .ok (.aload_n 0, 1) := by decide +kernel
theorem dX3_init_38 : decode cX3_init 38 = .ok (.new 9, 3) := by decide +kernel
theorem dX3_init_41 : decode cX3_init 41 = .ok (.dup, 1) := by decide +kernel
theorem dX3_init_42 : decode cX3_init 42 = .ok (.invokespecial 11, 3) := by decide +kernel
theorem dX3_init_45 : decode cX3_init 45 = .ok (.putfield 24, 3) := by decide +kernel
theorem dX3_init_48 : decode cX3_init 48 = .ok (.aload_n 0, 1) := by decide +kernel
theorem dX3_init_49 : decode cX3_init 49 = .ok (.new 9, 3) := by decide +kernel
theorem dX3_init_52 : decode cX3_init 52 = .ok (.dup, 1) := by decide +kernel
theorem dX3_init_53 : decode cX3_init 53 = .ok (.invokespecial 11, 3) := by decide +kernel
theorem dX3_init_56 : decode cX3_init 56 = .ok (.putfield 27, 3) := by decide +kernel
theorem dX3_init_59 : decode cX3_init 59 = .ok (.aload_n 0, 1) := by decide +kernel
theorem dX3_init_60 : decode cX3_init 60 = .ok (.sipush 400, 3) := by decide +kernel
theorem dX3_init_63 : decode cX3_init 63 = .ok (.putfield 30, 3) := by decide +kernel
theorem dX3_init_66 : decode cX3_init 66 = .ok (.aload_n 0, 1) := by decide +kernel
theorem dX3_init_67 : decode cX3_init 67 = .ok (.sipush 1000, 3) := by decide +kernel
theorem dX3_init_70 : decode cX3_init 70 = .ok (.putfield 34, 3) := by decide +kernel
theorem dX3_init_73 : decode cX3_init 73 = .ok (.aload_n 0, 1) := by decide +kernel
theorem dX3_init_74 : decode cX3_init 74 = .ok (.iload_n 1, 1) := by decide +kernel
theorem dX3_init_75 : decode cX3_init 75 = .ok (.putfield 37, 3) := by decide +kernel
theorem dX3_init_78 : decode cX3_init 78 = .ok (.return_, 1) := by decide +kernel
theorem dX3_copyFrom_0 : decode cX3_copyFrom 0 = .ok (.aload_n 0, 1) := by decide +kernel
theorem dX3_copyFrom_1 : decode cX3_copyFrom 1 = .ok (.aload_n 1, 1) := by decide +kernel
theorem dX3_copyFrom_2 : decode cX3_copyFrom 2 = .ok (.getfield 41, 3) := by decide +kernel
theorem dX3_copyFrom_5 : decode cX3_copyFrom 5 = .ok (.putfield 41, 3) := by decide +kernel
theorem dX3_copyFrom_8 : decode cX3_copyFrom 8 = .ok (.aload_n 0, 1) := by decide +kernel
theorem dX3_copyFrom_9 : decode cX3_copyFrom 9 = .ok (.aload_n 1, 1) := by decide +kernel
theorem dX3_copyFrom_10 : decode cX3_copyFrom 10 = .ok (.getfield 30, 3) := by decide +kernel
theorem dX3_copyFrom_13 : decode cX3_copyFrom 13 = .ok (.putfield 30, 3) := by decide +kernel
theorem dX3_copyFrom_16 : decode cX3_copyFrom 16 = .ok (.aload_n 0, 1) := by decide +kernel
theorem dX3_copyFrom_17 : decode cX3_copyFrom 17 = .ok (.aload_n 1, 1) := by decide +kernel
theorem dX3_copyFrom_18 : decode cX3_copyFrom 18 = .ok (.getfield 34, 3) := by decide +kernel
theorem dX3_copyFrom_21 : decode cX3_copyFrom 21 = .ok (.putfield 34, 3) := by decide +kernel
theorem dX3_copyFrom_24 : decode cX3_copyFrom 24 = .ok (.aload_n 0, 1) := by decide +kernel
theorem dX3_copyFrom_25 : decode cX3_copyFrom 25 = .ok (.aload_n 1, 1) := by decide +kernel
theorem dX3_copyFrom_26 : decode cX3_copyFrom 26 = .ok (.invokevirtual 44, 3) := by decide +kernel
theorem dX3_copyFrom_29 : decode cX3_copyFrom 29 = .ok (.iconst 0, 1) := by decide +kernel
theorem dX3_copyFrom_30 : decode cX3_copyFrom 30 = .ok (.istore_n 2, 1) := by decide +kernel
theorem dX3_copyFrom_31 : decode cX3_copyFrom 31 = .ok (.iload_n 2, 1) := by decide +kernel
theorem dX3_copyFrom_32 : decode cX3_copyFrom 32 = .ok (.aload_n 1, 1) := by decide +kernel
theorem dX3_copyFrom_33 : decode cX3_copyFrom 33 = .ok (.getfield 12, 3) := by decide +kernel
theorem dX3_copyFrom_36 : decode cX3_copyFrom 36 = .ok (.invokevirtual 48, 3) := by decide +kernel
theorem dX3_copyFrom_39 : decode cX3_copyFrom 39 = .ok (.if_icmp .ge 45, 3) := by decide +kernel
theorem dX3_copyFrom_42 : decode cX3_copyFrom 42 = .ok (.iload_n 2, 1) := by decide +kernel
theorem dX3_copyFrom_43 : decode cX3_copyFrom 43 = .ok (.aload_n 0, 1) := by decide +kernel
theorem dX3_copyFrom_44 : decode cX3_copyFrom 44 = .ok (.getfield 12, 3) := by decide +kernel
theorem dX3_copyFrom_47 : decode cX3_copyFrom 47 = .ok (.invokevirtual 48, 3) := by decide +kernel
theorem dX3_copyFrom_50 : decode cX3_copyFrom 50 = .ok (.if_icmp .ge 34, 3) := by decide +kernel
theorem dX3_copyFrom_53 : decode cX3_copyFrom 53 = .ok (.aload_n 0, 1) := by decide +kernel
theorem dX3_copyFrom_54 : decode cX3_copyFrom 54 = .ok (.getfield 12, 3) := by decide +kernel
theorem dX3_copyFrom_57 : decode cX3_copyFrom 57 = .ok (.iload_n 2, 1) := by decide +kernel
theorem dX3_copyFrom_58 : decode cX3_copyFrom 58 = .ok (.invokevirtual 52, 3) := by decide +kernel
theorem dX3_copyFrom_61 : decode cX3_copyFrom 61 = .ok (.checkcast 56, 3) := by decide +kernel
theorem dX3_copyFrom_64 : decode cX3_copyFrom 64 = .ok (.aload_n 1, 1) := by decide +kernel
theorem dX3_copyFrom_65 : decode cX3_copyFrom 65 = .ok (.getfield 12, 3) := by decide +kernel
theorem dX3_copyFrom_68 : decode cX3_copyFrom 68 = .ok (.iload_n 2, 1) := by decide +kernel
theorem dX3_copyFrom_69 : decode cX3_copyFrom 69 = .ok (.invokevirtual 52, 3) := by decide +kernel
theorem dX3_copyFrom_72 : decode cX3_copyFrom 72 = .ok (.checkcast 56, 3) := by decide +kernel
theorem dX3_copyFrom_75 : decode cX3_copyFrom 75 = .ok (.invokevirtual 58, 3) := by decide +kernel
theorem dX3_copyFrom_78 : decode cX3_copyFrom 78 = .ok (.iinc 2 1, 3) := by decide +kernel
theorem dX3_copyFrom_81 : decode cX3_copyFrom 81 = .ok (.goto (-50), 3) := by decide +kernel
theorem dX3_copyFrom_84 : decode cX3_copyFrom 84 = .ok (.iconst 0, 1) := by decide +kernel
theorem dX3_copyFrom_85 : decode cX3_copyFrom 85 = .ok (.istore_n 2, 1) := by decide +kernel
theorem dX3_copyFrom_86 : decode cX3_copyFrom 86 = .ok (.iload_n 2, 1) := by decide +kernel
theorem dX3_copyFrom_87 : decode cX3_copyFrom 87 = .ok (.aload_n 1, 1) := by decide +kernel
theorem dX3_copyFrom_88 : decode cX3_copyFrom 88 = .ok (.getfield 18, 3) := by decide +kernel
theorem dX3_copyFrom_91 : decode cX3_copyFrom 91 = .ok (.invokevirtual 48, 3) := by decide +kernel
theorem dX3_copyFrom_94 : decode cX3_copyFrom 94 = .ok (.if_icmp .ge 45, 3) := by decide +kernel
theorem dX3_copyFrom_97 : decode cX3_copyFrom 97 = .ok (.iload_n 2, 1) := by decide +kernel
theorem dX3_copyFrom_98 : decode cX3_copyFrom 98 = .ok (.aload_n 0, 1) := by decide +kernel
theorem dX3_copyFrom_99 : decode cX3_copyFrom 99 = .ok (.getfield 18, 3) := by decide +kernel
theorem dX3_copyFrom_102 : decode cX3_copyFrom 102 = .ok (.invokevirtual 48, 3) := by decide +kernel
theorem dX3_copyFrom_105 : decode cX3_copyFrom 105 = .ok (.if_icmp .ge 34, 3) := by decide +kernel
theorem dX3_copyFrom_108 : decode cX3_copyFrom 108 = .ok (.aload_n 0, 1) := by decide +kernel
theorem dX3_copyFrom_109 : decode cX3_copyFrom 109 = .ok (.getfield 18, 3) := by decide +kernel
theorem dX3_copyFrom_112 : decode cX3_copyFrom 112 = .ok (.iload_n 2, 1) := by decide +kernel
theorem dX3_copyFrom_113 : decode cX3_copyFrom 113 = .ok (.invokevirtual 52, 3) := by decide +kernel
theorem dX3_copyFrom_116 : decode cX3_copyFrom 116 = .ok (.checkcast 62, 3) := by decide +kernel
theorem dX3_copyFrom_119 : decode cX3_copyFrom 119 = .ok (.aload_n 1, 1) := by decide +kernel
theorem dX3_copyFrom_120 : decode cX3_copyFrom 120 = .ok (.getfield 18, 3) := by decide +kernel
theorem dX3_copyFrom_123 : decode cX3_copyFrom 123 = .ok (.iload_n 2, 1) := by decide +kernel
theorem dX3_copyFrom_124 : decode cX3_copyFrom 124 = .ok (.invokevirtual 52, 3) := by decide +kernel
theorem dX3_copyFrom_127 : decode cX3_copyFrom 127 = .ok (.checkcast 62, 3) := by decide +kernel
theorem dX3_copyFrom_130 : decode cX3_copyFrom 130 = .ok (.invokevirtual 64, 3) := by decide +kernel
theorem dX3_copyFrom_133 : decode cX3_copyFrom 133 = .ok (.iinc 2 1, 3) := by decide +kernel
theorem dX3_copyFrom_136 : decode cX3_copyFrom 136 = .ok (.goto (-50), 3) := by decide +kernel
theorem dX3_copyFrom_139 : decode cX3_copyFrom 139 = .ok (.iconst 0, 1) := by decide +kernel
theorem dX3_copyFrom_140 : decode cX3_copyFrom 140 = .ok (.istore_n 2, 1) := by decide +kernel
theorem dX3_copyFrom_141 : decode cX3_copyFrom 141 = .ok (.iload_n 2, 1) := by decide +kernel
theorem dX3_copyFrom_142 : decode cX3_copyFrom 142 = .ok (.aload_n 1, 1) := by decide +kernel
theorem dX3_copyFrom_143 : decode cX3_copyFrom 143 = .ok (.getfield 21, 3) := by decide +kernel
theorem dX3_copyFrom_146 : decode cX3_copyFrom 146 = .ok (.invokevirtual 48, 3) := by decide +kernel
theorem dX3_copyFrom_149 : decode cX3_copyFrom 149 = .ok (.if_icmp .ge 45, 3) := by decide +kernel
theorem dX3_copyFrom_152 : decode cX3_copyFrom 152 = .ok (.iload_n 2, 1) := by decide +kernel
theorem dX3_copyFrom_153 : decode cX3_copyFrom 153 = .ok (.aload_n 0, 1) := by decide +kernel
theorem dX3_copyFrom_154 : decode cX3_copyFrom 154 = .ok (.getfield 21, 3) := by decide +kernel
theorem dX3_copyFrom_157 : decode cX3_copyFrom 157 = .ok (.invokevirtual 48, 3) := by decide +kernel
theorem dX3_copyFrom_160 : decode cX3_copyFrom 160 = .ok (.if_icmp .ge 34, 3) := by decide +kernel
theorem dX3_copyFrom_163 : decode cX3_copyFrom 163 = .ok (.aload_n 0, 1) := by decide +kernel
theorem dX3_copyFrom_164 : decode cX3_copyFrom 164 = .ok (.getfield 21, 3) := by decide +kernel
theorem dX3_copyFrom_167 : decode cX3_copyFrom 167 = .ok (.iload_n 2, 1) := by decide +kernel
theorem dX3_copyFrom_168 : decode cX3_copyFrom 168 = .ok (.invokevirtual 52, 3) := by decide +kernel
theorem dX3_copyFrom_171 : decode cX3_copyFrom 171 = .ok (.checkcast 67, 3) := by decide +kernel
theorem dX3_copyFrom_174 : decode cX3_copyFrom 174 = .ok (.aload_n 1, 1) := by decide +kernel
theorem dX3_copyFrom_175 : decode cX3_copyFrom 175 = .ok (.getfield 21, 3) := by decide +kernel
theorem dX3_copyFrom_178 : decode cX3_copyFrom 178 = .ok (.iload_n 2, 1) := by decide +kernel
theorem dX3_copyFrom_179 : decode cX3_copyFrom 179 = .ok (.invokevirtual 52, 3) := by decide +kernel
theorem dX3_copyFrom_182 : decode cX3_copyFrom 182 = .ok (.checkcast 67, 3) := by decide +kernel
theorem dX3_copyFrom_185 : decode cX3_copyFrom 185 = .ok (.invokevirtual 69, 3) := by decide +kernel
theorem dX3_copyFrom_188 : decode cX3_copyFrom 188 = .ok (.iinc 2 1, 3) := by decide +kernel
theorem dX3_copyFrom_191 : decode cX3_copyFrom 191 = .ok (.goto (-50), 3) := by decide +kernel
theorem dX3_copyFrom_194 : decode cX3_copyFrom 194 = .ok (.iconst 0, 1) := by decide +kernel
theorem dX3_copyFrom_195 : decode cX3_copyFrom 195 = .ok (.istore_n 2, 1) := by decide +kernel
theorem dX3_copyFrom_196 : decode cX3_copyFrom 196 = .ok (.iload_n 2, 1) := by decide +kernel
theorem dX3_copyFrom_197 : decode cX3_copyFrom 197 = .ok (.aload_n 1, 1) := by decide +kernel
theorem dX3_copyFrom_198 : decode cX3_copyFrom 198 = .ok (.getfield 24, 3) := by decide +kernel
theorem dX3_copyFrom_201 : decode cX3_copyFrom 201 = .ok (.invokevirtual 48, 3) := by decide +kernel
theorem dX3_copyFrom_204 : decode cX3_copyFrom 204 = .ok (.if_icmp .ge 45, 3) := by decide +kernel
theorem dX3_copyFrom_207 : decode cX3_copyFrom 207 = .ok (.iload_n 2, 1) := by decide +kernel
theorem dX3_copyFrom_208 : decode cX3_copyFrom 208 = .ok (.aload_n 0, 1) := by decide +kernel
theorem dX3_copyFrom_209 : decode cX3_copyFrom 209 = .ok (.getfield 24, 3) := by decide +kernel
theorem dX3_copyFrom_212 : decode cX3_copyFrom 212 = .ok (.invokevirtual 48, 3) := by decide +kernel
theorem dX3_copyFrom_215 : decode cX3_copyFrom 215 = .ok (.if_icmp .ge 34, 3) := by decide +kernel
theorem dX3_copyFrom_218 : decode cX3_copyFrom 218 = .ok (.aload_n 0, 1) := by decide +kernel
theorem dX3_copyFrom_219 : decode cX3_copyFrom 219 = .ok (.getfield 24, 3) := by decide +kernel
theorem dX3_copyFrom_222 : decode cX3_copyFrom 222 = .ok (.iload_n 2, 1) := by decide +kernel
theorem dX3_copyFrom_223 : decode cX3_copyFrom 223 = .ok (.invokevirtual 52, 3) := by decide +kernel
theorem dX3_copyFrom_226 : decode cX3_copyFrom 226 = .ok (.checkcast 72, 3) := by decide +kernel
theorem dX3_copyFrom_229 : decode cX3_copyFrom 229 = .ok (.aload_n 1, 1) := by decide +kernel
theorem dX3_copyFrom_230 : decode cX3_copyFrom 230 = .ok (.getfield 24, 3) := by decide +kernel
theorem dX3_copyFrom_233 : decode cX3_copyFrom 233 = .ok (.iload_n 2, 1) := by decide +kernel
theorem dX3_copyFrom_234 : decode cX3_copyFrom 234 = .ok (.invokevirtual 52, 3) := by decide +kernel
theorem dX3_copyFrom_237 : decode cX3_copyFrom 237 = .ok (.checkcast 72, 3) := by decide +kernel
theorem dX3_copyFrom_240 : decode cX3_copyFrom 240 = .ok (.invokevirtual 74, 3) := by decide +kernel
theorem dX3_copyFrom_243 : decode cX3_copyFrom 243 = .ok (.iinc 2 1, 3) := by decide +kernel
theorem dX3_copyFrom_246 : decode cX3_copyFrom 246 = .ok (.goto (-50), 3) := by decide +kernel
theorem dX3_copyFrom_249 : decode cX3_copyFrom 249 = .ok (.return_, 1) := by decide +kernel
theorem dX3_addRowsAs_0 : decode cX3_addRowsAs 0 = .ok (.aload_n 0, 1) := by decide +kernel
theorem dX3_addRowsAs_1 : decode cX3_addRowsAs 1 = .ok (.getfield 12, 3) := by decide +kernel
theorem dX3_addRowsAs_4 : decode cX3_addRowsAs 4 = .ok (.invokevirtual 48, 3) := by decide +kernel
theorem dX3_addRowsAs_7 : decode cX3_addRowsAs 7 = .ok (.istore_n 2, 1) := by decide +kernel
theorem dX3_addRowsAs_8 : decode cX3_addRowsAs 8 = .ok (.iload_n 2, 1) := by decide +kernel
theorem dX3_addRowsAs_9 : decode cX3_addRowsAs 9 = .ok (.aload_n 1, 1) := by decide +kernel
theorem dX3_addRowsAs_10 : decode cX3_addRowsAs 10 = .ok (.getfield 12, 3) := by decide +kernel
theorem dX3_addRowsAs_13 : decode cX3_addRowsAs 13 = .ok (.invokevirtual 48, 3) := by decide +kernel
theorem dX3_addRowsAs_16 : decode cX3_addRowsAs 16 = .ok (.if_icmp .ge 29, 3) := by decide +kernel
theorem dX3_addRowsAs_19 : decode cX3_addRowsAs 19 = .ok (.aload_n 0, 1) := by decide +kernel
theorem dX3_addRowsAs_20 : decode cX3_addRowsAs 20 = .ok (.getfield 12, 3) := by decide +kernel
theorem dX3_addRowsAs_23 : decode cX3_addRowsAs 23 = .ok (.new 56, 3) := by decide +kernel
theorem dX3_addRowsAs_26 : decode cX3_addRowsAs 26 = .ok (.dup, 1) := by decide +kernel
theorem dX3_addRowsAs_27 : decode cX3_addRowsAs 27 = .ok (.iconst 0, 1) := by decide +kernel
theorem dX3_addRowsAs_28 : decode cX3_addRowsAs 28 = .ok (.iconst 0, 1) := by decide +kernel
theorem dX3_addRowsAs_29 : decode cX3_addRowsAs 29 = .ok (.iconst 0, 1) := by decide +kernel
theorem dX3_addRowsAs_30 : decode cX3_addRowsAs 30 = .ok (.iconst 0, 1) := by decide +kernel
theorem dX3_addRowsAs_31 : decode cX3_addRowsAs 31 = .ok (.iconst 0, 1) := by decide +kernel
theorem dX3_addRowsAs_32 : decode cX3_addRowsAs 32 = .ok (.invokespecial 77, 3) := by decide +kernel
theorem dX3_addRowsAs_35 : decode cX3_addRowsAs 35 = .ok (.invokevirtual 80, 3) := by decide +kernel
theorem dX3_addRowsAs_38 : decode cX3_addRowsAs 38 = .ok (.pop, 1) := by decide +kernel
theorem dX3_addRowsAs_39 : decode cX3_addRowsAs 39 = .ok (.iinc 2 1, 3) := by decide +kernel
theorem dX3_addRowsAs_42 : decode cX3_addRowsAs 42 = .ok (.goto (-34), 3) := by decide +kernel
theorem dX3_addRowsAs_45 : decode cX3_addRowsAs 45 = .ok (.aload_n 0, 1) := by decide +kernel
theorem dX3_addRowsAs_46 : decode cX3_addRowsAs 46 = .ok (.getfield 18, 3) := by decide +kernel
theorem dX3_addRowsAs_49 : decode cX3_addRowsAs 49 = .ok (.invokevirtual 48, 3) := by decide +kernel
theorem dX3_addRowsAs_52 : decode cX3_addRowsAs 52 = .ok (.istore_n 2, 1) := by decide +kernel
theorem dX3_addRowsAs_53 : decode cX3_addRowsAs 53 = .ok (.iload_n 2, 1) := by decide +kernel
theorem dX3_addRowsAs_54 : decode cX3_addRowsAs 54 = .ok (.aload_n 1, 1) := by decide +kernel
theorem dX3_addRowsAs_55 : decode cX3_addRowsAs 55 = .ok (.getfield 18, 3) := by decide +kernel
theorem dX3_addRowsAs_58 : decode cX3_addRowsAs 58 = .ok (.invokevirtual 48, 3) := by decide +kernel
theorem dX3_addRowsAs_61 : decode cX3_addRowsAs 61 = .ok (.if_icmp .ge 27, 3) := by decide +kernel
theorem dX3_addRowsAs_64 : decode cX3_addRowsAs 64 = .ok (.aload_n 0, 1) := by decide +kernel
theorem dX3_addRowsAs_65 : decode cX3_addRowsAs 65 = .ok (.getfield 18, 3) := by decide +kernel
theorem dX3_addRowsAs_68 : decode cX3_addRowsAs 68 = .ok (.new 62, 3) := by decide +kernel
theorem dX3_addRowsAs_71 : decode cX3_addRowsAs 71 = .ok (.dup, 1) := by decide +kernel
theorem dX3_addRowsAs_72 : decode cX3_addRowsAs 72 = .ok (.iconst 0, 1) := by decide +kernel
theorem dX3_addRowsAs_73 : decode cX3_addRowsAs 73 = .ok (.iconst 0, 1) := by decide +kernel
theorem dX3_addRowsAs_74 : decode cX3_addRowsAs 74 = .ok (.iconst 0, 1) := by decide +kernel
theorem dX3_addRowsAs_75 : decode cX3_addRowsAs 75 = .ok (.invokespecial 84, 3) := by decide +kernel
theorem dX3_addRowsAs_78 : decode cX3_addRowsAs 78 = .ok (.invokevirtual 80, 3) := by decide +kernel
theorem dX3_addRowsAs_81 : decode cX3_addRowsAs 81 = .ok (.pop, 1) := by decide +kernel
theorem dX3_addRowsAs_82 : decode cX3_addRowsAs 82 = .ok (.iinc 2 1, 3) := by decide +kernel
theorem dX3_addRowsAs_85 : decode cX3_addRowsAs 85 = .ok (.goto (-32), 3) := by decide +kernel
theorem dX3_addRowsAs_88 : decode cX3_addRowsAs 88 = .ok (.aload_n 0, 1) := by decide +kernel
theorem dX3_addRowsAs_89 : decode cX3_addRowsAs 89 = .ok (.getfield 21, 3) := by decide +kernel
theorem dX3_addRowsAs_92 : decode cX3_addRowsAs 92 = .ok (.invokevirtual 48, 3) := by decide +kernel
theorem dX3_addRowsAs_95 : decode cX3_addRowsAs 95 = .ok (.istore_n 2, 1) := by decide +kernel
theorem dX3_addRowsAs_96 : decode cX3_addRowsAs 96 = .ok (.iload_n 2, 1) := by decide +kernel
theorem dX3_addRowsAs_97 : decode cX3_addRowsAs 97 = .ok (.aload_n 1, 1) := by decide +kernel
theorem dX3_addRowsAs_98 : decode cX3_addRowsAs 98 = .ok (.getfield 21, 3) := by decide +kernel
theorem dX3_addRowsAs_101 : decode cX3_addRowsAs 101 = .ok (.invokevirtual 48, 3) := by decide +kernel
theorem dX3_addRowsAs_104 : decode cX3_addRowsAs 104 = .ok (.if_icmp .ge 25, 3) := by decide +kernel
theorem dX3_addRowsAs_107 : decode cX3_addRowsAs 107 = .ok (.aload_n 0, 1) := by decide +kernel
theorem dX3_addRowsAs_108 : decode cX3_addRowsAs 108 = .ok (.getfield 21, 3) := by decide +kernel
theorem dX3_addRowsAs_111 : decode cX3_addRowsAs 111 = .ok (.new 67, 3) := by decide +kernel
theorem dX3_addRowsAs_114 : decode cX3_addRowsAs 114 = .ok (.dup, 1) := by decide +kernel
theorem dX3_addRowsAs_115 : decode cX3_addRowsAs 115 = .ok (.iconst 0, 1) := by decide +kernel
theorem dX3_addRowsAs_116 : decode cX3_addRowsAs 116 = .ok (.invokespecial 87, 3) := by decide +kernel
theorem dX3_addRowsAs_119 : decode cX3_addRowsAs 119 = .ok (.invokevirtual 80, 3) := by decide +kernel
theorem dX3_addRowsAs_122 : decode cX3_addRowsAs 122 = .ok (.pop, 1) := by decide +kernel
theorem dX3_addRowsAs_123 : decode cX3_addRowsAs 123 = .ok (.iinc 2 1, 3) := by decide +kernel
theorem dX3_addRowsAs_126 : decode cX3_addRowsAs 126 = .ok (.goto (-30), 3) := by decide +kernel
theorem dX3_addRowsAs_129 : decode cX3_addRowsAs 129 = .ok (.aload_n 0, 1) := by decide +kernel
theorem dX3_addRowsAs_130 : decode cX3_addRowsAs 130 = .ok (.getfield 24, 3) := by decide +kernel
theorem dX3_addRowsAs_133 : decode cX3_addRowsAs 133 = .ok (.invokevirtual 48, 3) := by decide +kernel
theorem dX3_addRowsAs_136 : decode cX3_addRowsAs 136 = .ok (.istore_n 2, 1) := by decide +kernel
theorem dX3_addRowsAs_137 : decode cX3_addRowsAs 137 = .ok (.iload_n 2, 1) := by decide +kernel
theorem dX3_addRowsAs_138 : decode cX3_addRowsAs 138 = .ok (.aload_n 1, 1) := by decide +kernel
theorem dX3_addRowsAs_139 : decode cX3_addRowsAs 139 = .ok (.getfield 24, 3) := by decide +kernel
theorem dX3_addRowsAs_142 : decode cX3_addRowsAs 142 = .ok (.invokevirtual 48, 3) := by decide +kernel
theorem dX3_addRowsAs_145 : decode cX3_addRowsAs 145 = .ok (.if_icmp .ge 30, 3) := by decide +kernel
theorem dX3_addRowsAs_148 : decode cX3_addRowsAs 148 = .ok (.aload_n 0, 1) := by decide +kernel
theorem dX3_addRowsAs_149 : decode cX3_addRowsAs 149 = .ok (.getfield 24, 3) := by decide +kernel
theorem dX3_addRowsAs_152 : decode cX3_addRowsAs 152 = .ok (.new 72, 3) := by decide +kernel
theorem dX3_addRowsAs_155 : decode cX3_addRowsAs 155 = .ok (.dup, 1) := by decide +kernel
theorem dX3_addRowsAs_156 : decode cX3_addRowsAs 156 = .ok (.iconst 0, 1) := by decide +kernel
theorem dX3_addRowsAs_157 : decode cX3_addRowsAs 157 = .ok (.iconst 0, 1) := by decide +kernel
theorem dX3_addRowsAs_158 : decode cX3_addRowsAs 158 = .ok (.iconst 0, 1) := by decide +kernel
theorem dX3_addRowsAs_159 : decode cX3_addRowsAs 159 = .ok (.iconst 0, 1) := by decide +kernel
theorem dX3_addRowsAs_160 : decode cX3_addRowsAs 160 = .ok (.iconst 0, 1) := by decide +kernel
theorem dX3_addRowsAs_161 : decode cX3_addRowsAs 161 = .ok (.iconst 0, 1) := by decide +kernel
theorem dX3_addRowsAs_162 : decode cX3_addRowsAs 162 = .ok (.invokespecial 90, 3) := by decide +kernel
theorem dX3_addRowsAs_165 : decode cX3_addRowsAs 165 = .ok (.invokevirtual 80, 3) := by decide +kernel
theorem dX3_addRowsAs_168 : decode cX3_addRowsAs 168 = .ok (.pop, 1) := by decide +kernel
theorem dX3_addRowsAs_169 : decode cX3_addRowsAs 169 = .ok (.iinc 2 1, 3) := by decide +kernel
theorem dX3_addRowsAs_172 : decode cX3_addRowsAs 172 = .ok (.goto (-35), 3) := by decide +kernel
theorem dX3_addRowsAs_175 : decode cX3_addRowsAs 175 = .ok (.return_, 1) := by decide +kernel
theorem dX3_fieldAt_0 : decode cX3_fieldAt 0 = .ok (.iload_n 1, 1) := by decide +kernel
theorem dX3_fieldAt_1 : decode cX3_fieldAt 1 = .ok (.ifCond .lt 28, 3) := by decide +kernel
theorem dX3_fieldAt_4 : decode cX3_fieldAt 4 = .ok (.iload_n 1, 1) := by decide +kernel
theorem dX3_fieldAt_5 : decode cX3_fieldAt 5 = .ok (.aload_n 0, 1) := by decide +kernel
theorem dX3_fieldAt_6 : decode cX3_fieldAt 6 = .ok (.getfield 12, 3) := by decide +kernel
theorem dX3_fieldAt_9 : decode cX3_fieldAt 9 = .ok (.invokevirtual 48, 3) := by decide +kernel
theorem dX3_fieldAt_12 : decode cX3_fieldAt 12 = .ok (.if_icmp .ge 17, 3) := by decide +kernel
theorem dX3_fieldAt_15 : decode cX3_fieldAt 15 = .ok (.aload_n 0, 1) := by decide +kernel
theorem dX3_fieldAt_16 : decode cX3_fieldAt 16 = .ok (.getfield 12, 3) := by decide +kernel
theorem dX3_fieldAt_19 : decode cX3_fieldAt 19 = .ok (.iload_n 1, 1) := by decide +kernel
theorem dX3_fieldAt_20 : decode cX3_fieldAt 20 = .ok (.invokevirtual 52, 3) := by decide +kernel
theorem dX3_fieldAt_23 : decode cX3_fieldAt 23 = .ok (.checkcast 56, 3) := by decide +kernel
theorem dX3_fieldAt_26 : decode cX3_fieldAt 26 = .ok (.goto 4, 3) := by decide +kernel
theorem dX3_fieldAt_29 : decode cX3_fieldAt 29 = .ok (.aconst_null, 1) := by decide +kernel
theorem dX3_fieldAt_30 : decode cX3_fieldAt 30 = .ok (.areturn, 1) := by decide +kernel
theorem dX3_combineAt_0 : decode cX3_combineAt 0 = .ok (.iload_n 1, 1) := by decide +kernel
theorem dX3_combineAt_1 : decode cX3_combineAt 1 = .ok (.ifCond .lt 28, 3) := by decide +kernel
theorem dX3_combineAt_4 : decode cX3_combineAt 4 = .ok (.iload_n 1, 1) := by decide +kernel
theorem dX3_combineAt_5 : decode cX3_combineAt 5 = .ok (.aload_n 0, 1) := by decide +kernel
theorem dX3_combineAt_6 : decode cX3_combineAt 6 = .ok (.getfield 18, 3) := by decide +kernel
theorem dX3_combineAt_9 : decode cX3_combineAt 9 = .ok (.invokevirtual 48, 3) := by decide +kernel
theorem dX3_combineAt_12 : decode cX3_combineAt 12 = .ok (.if_icmp .ge 17, 3) := by decide +kernel
theorem dX3_combineAt_15 : decode cX3_combineAt 15 = .ok (.aload_n 0, 1) := by decide +kernel
theorem dX3_combineAt_16 : decode cX3_combineAt 16 = .ok (.getfield 18, 3) := by decide +kernel
theorem dX3_combineAt_19 : decode cX3_combineAt 19 = .ok (.iload_n 1, 1) := by decide +kernel
theorem dX3_combineAt_20 : decode cX3_combineAt 20 = .ok (.invokevirtual 52, 3) := by decide +kernel
theorem dX3_combineAt_23 : decode cX3_combineAt 23 = .ok (.checkcast 62, 3) := by decide +kernel
theorem dX3_combineAt_26 : decode cX3_combineAt 26 = .ok (.goto 4, 3) := by decide +kernel
theorem dX3_combineAt_29 : decode cX3_combineAt 29 = .ok (.aconst_null, 1) := by decide +kernel
theorem dX3_combineAt_30 : decode cX3_combineAt 30 = .ok (.areturn, 1) := by decide +kernel
theorem dX3_truckAt_0 : decode cX3_truckAt 0 = .ok (.iload_n 1, 1) := by decide +kernel
theorem dX3_truckAt_1 : decode cX3_truckAt 1 = .ok (.ifCond .lt 28, 3) := by decide +kernel
theorem dX3_truckAt_4 : decode cX3_truckAt 4 = .ok (.iload_n 1, 1) := by decide +kernel
theorem dX3_truckAt_5 : decode cX3_truckAt 5 = .ok (.aload_n 0, 1) := by decide +kernel
theorem dX3_truckAt_6 : decode cX3_truckAt 6 = .ok (.getfield 21, 3) := by decide +kernel
theorem dX3_truckAt_9 : decode cX3_truckAt 9 = .ok (.invokevirtual 48, 3) := by decide +kernel
theorem dX3_truckAt_12 : decode cX3_truckAt 12 = .ok (.if_icmp .ge 17, 3) := by decide +kernel
theorem dX3_truckAt_15 : decode cX3_truckAt 15 = .ok (.aload_n 0, 1) := by decide +kernel
theorem dX3_truckAt_16 : decode cX3_truckAt 16 = .ok (.getfield 21, 3) := by decide +kernel
theorem dX3_truckAt_19 : decode cX3_truckAt 19 = .ok (.iload_n 1, 1) := by decide +kernel
theorem dX3_truckAt_20 : decode cX3_truckAt 20 = .ok (.invokevirtual 52, 3) := by decide +kernel
theorem dX3_truckAt_23 : decode cX3_truckAt 23 = .ok (.checkcast 67, 3) := by decide +kernel
theorem dX3_truckAt_26 : decode cX3_truckAt 26 = .ok (.goto 4, 3) := by decide +kernel
theorem dX3_truckAt_29 : decode cX3_truckAt 29 = .ok (.aconst_null, 1) := by decide +kernel
theorem dX3_truckAt_30 : decode cX3_truckAt 30 = .ok (.areturn, 1) := by decide +kernel
theorem dX3_elevatorAt_0 : decode cX3_elevatorAt 0 = .ok (.iload_n 1, 1) := by decide +kernel
theorem dX3_elevatorAt_1 : decode cX3_elevatorAt 1 = .ok (.ifCond .lt 28, 3) := by decide +kernel
theorem dX3_elevatorAt_4 : decode cX3_elevatorAt 4 = .ok (.iload_n 1, 1) := by decide +kernel
theorem dX3_elevatorAt_5 : decode cX3_elevatorAt 5 = .ok (.aload_n 0, 1) := by decide +kernel
theorem dX3_elevatorAt_6 : decode cX3_elevatorAt 6 = .ok (.getfield 24, 3) := by decide +kernel
theorem dX3_elevatorAt_9 : decode cX3_elevatorAt 9 = .ok (.invokevirtual 48, 3) := by decide +kernel
theorem dX3_elevatorAt_12 : decode cX3_elevatorAt 12 = .ok (.if_icmp .ge 17, 3) := by decide +kernel
theorem dX3_elevatorAt_15 : decode cX3_elevatorAt 15 = .ok (.aload_n 0, 1) := by decide +kernel
theorem dX3_elevatorAt_16 : decode cX3_elevatorAt 16 = .ok (.getfield 24, 3) := by decide +kernel
theorem dX3_elevatorAt_19 : decode cX3_elevatorAt 19 = .ok (.iload_n 1, 1) := by decide +kernel
theorem dX3_elevatorAt_20 : decode cX3_elevatorAt 20 = .ok (.invokevirtual 52, 3) := by decide +kernel
theorem dX3_elevatorAt_23 : decode cX3_elevatorAt 23 = .ok (.checkcast 72, 3) := by decide +kernel
theorem dX3_elevatorAt_26 : decode cX3_elevatorAt 26 = .ok (.goto 4, 3) := by decide +kernel
theorem dX3_elevatorAt_29 : decode cX3_elevatorAt 29 = .ok (.aconst_null, 1) := by decide +kernel
theorem dX3_elevatorAt_30 : decode cX3_elevatorAt 30 = .ok (.areturn, 1) := by decide +kernel
theorem dX3_ticketAt_0 : decode cX3_ticketAt 0 = .ok (.iload_n 1, 1) := by decide +kernel
theorem dX3_ticketAt_1 : decode cX3_ticketAt 1 = .ok (.ifCond .lt 28, 3) := by decide +kernel
theorem dX3_ticketAt_4 : decode cX3_ticketAt 4 = .ok (.iload_n 1, 1) := by decide +kernel
theorem dX3_ticketAt_5 : decode cX3_ticketAt 5 = .ok (.aload_n 0, 1) := by decide +kernel
theorem dX3_ticketAt_6 : decode cX3_ticketAt 6 = .ok (.getfield 27, 3) := by decide +kernel
theorem dX3_ticketAt_9 : decode cX3_ticketAt 9 = .ok (.invokevirtual 48, 3) := by decide +kernel
theorem dX3_ticketAt_12 : decode cX3_ticketAt 12 = .ok (.if_icmp .ge 17, 3) := by decide +kernel
theorem dX3_ticketAt_15 : decode cX3_ticketAt 15 = .ok (.aload_n 0, 1) := by decide +kernel
theorem dX3_ticketAt_16 : decode cX3_ticketAt 16 = .ok (.getfield 27, 3) := by decide +kernel
theorem dX3_ticketAt_19 : decode cX3_ticketAt 19 = .ok (.iload_n 1, 1) := by decide +kernel
theorem dX3_ticketAt_20 : decode cX3_ticketAt 20 = .ok (.invokevirtual 52, 3) := by decide +kernel
theorem dX3_ticketAt_23 : decode cX3_ticketAt 23 = .ok (.checkcast 93, 3) := by decide +kernel
theorem dX3_ticketAt_26 : decode cX3_ticketAt 26 = .ok (.goto 4, 3) := by decide +kernel
theorem dX3_ticketAt_29 : decode cX3_ticketAt 29 = .ok (.aconst_null, 1) := by decide +kernel
theorem dX3_ticketAt_30 : decode cX3_ticketAt 30 = .ok (.areturn, 1) := by decide +kernel
theorem dX3_clock_0 : decode cX3_clock 0 = .ok (.aload_n 0, 1) := by decide +kernel
theorem dX3_clock_1 : decode cX3_clock 1 = .ok (.getfield 41, 3) := by decide +kernel
theorem dX3_clock_4 : decode cX3_clock 4 = .ok (.bipush 24, 2) := by decide +kernel
theorem dX3_clock_6 : decode cX3_clock 6 = .ok (.irem, 1) := by decide +kernel
theorem dX3_clock_7 : decode cX3_clock 7 = .ok (.ireturn, 1) := by decide +kernel
theorem dX3_passHour_0 : decode cX3_passHour 0 = .ok (.aload_n 0, 1) := by decide +kernel
theorem dX3_passHour_1 : decode cX3_passHour 1 = .ok (.dup, 1) := by decide +kernel
theorem dX3_passHour_2 : decode cX3_passHour 2 = .ok (.getfield 41, 3) := by decide +kernel
theorem dX3_passHour_5 : decode cX3_passHour 5 = .ok (.iconst 1, 1) := by decide +kernel
theorem dX3_passHour_6 : decode cX3_passHour 6 = .ok (.iadd, 1) := by decide +kernel
theorem dX3_passHour_7 : decode cX3_passHour 7 = .ok (.putfield 41, 3) := by decide +kernel
theorem dX3_passHour_10 : decode cX3_passHour 10 = .ok (.iconst 0, 1) := by decide +kernel
theorem dX3_passHour_11 : decode cX3_passHour 11 = .ok (.istore 4, 2) := by decide +kernel
theorem dX3_passHour_13 : decode cX3_passHour 13 = .ok (.iload 4, 2) := by decide +kernel
theorem dX3_passHour_15 : decode cX3_passHour 15 = .ok (.aload_n 0, 1) := by decide +kernel
theorem dX3_passHour_16 : decode cX3_passHour 16 = .ok (.getfield 12, 3) := by decide +kernel
theorem dX3_passHour_19 : decode cX3_passHour 19 = .ok (.invokevirtual 48, 3) := by decide +kernel
theorem dX3_passHour_22 : decode cX3_passHour 22 = .ok (.if_icmp .ge 31, 3) := by decide +kernel
theorem dX3_passHour_25 : decode cX3_passHour 25 = .ok (.aload_n 0, 1) := by decide +kernel
theorem dX3_passHour_26 : decode cX3_passHour 26 = .ok (.getfield 12, 3) := by decide +kernel
theorem dX3_passHour_29 : decode cX3_passHour 29 = .ok (.iload 4, 2) := by decide +kernel
theorem dX3_passHour_31 : decode cX3_passHour 31 = .ok (.invokevirtual 52, 3) := by decide +kernel
theorem dX3_passHour_34 : decode cX3_passHour 34 = .ok (.checkcast 56, 3) := by decide +kernel
theorem dX3_passHour_37 : decode cX3_passHour 37 = .ok (.aload_n 0, 1) := by decide +kernel
theorem dX3_passHour_38 : decode cX3_passHour 38 = .ok (.invokevirtual 95, 3) := by decide +kernel
theorem dX3_passHour_41 : decode cX3_passHour 41 = .ok (.iload_n 1, 1) := by decide +kernel
theorem dX3_passHour_42 : decode cX3_passHour 42 = .ok (.iload_n 2, 1) := by decide +kernel
theorem dX3_passHour_43 : decode cX3_passHour 43 = .ok (.iload_n 3, 1) := by decide +kernel
theorem dX3_passHour_44 : decode cX3_passHour 44 = .ok (.invokevirtual 98, 3) := by decide +kernel
theorem dX3_passHour_47 : decode cX3_passHour 47 = .ok (.iinc 4 1, 3) := by decide +kernel
theorem dX3_passHour_50 : decode cX3_passHour 50 = .ok (.goto (-37), 3) := by decide +kernel
theorem dX3_passHour_53 : decode cX3_passHour 53 = .ok (.iconst 0, 1) := by decide +kernel
theorem dX3_passHour_54 : decode cX3_passHour 54 = .ok (.istore 4, 2) := by decide +kernel
theorem dX3_passHour_56 : decode cX3_passHour 56 = .ok (.iload 4, 2) := by decide +kernel
theorem dX3_passHour_58 : decode cX3_passHour 58 = .ok (.aload_n 0, 1) := by decide +kernel
theorem dX3_passHour_59 : decode cX3_passHour 59 = .ok (.getfield 18, 3) := by decide +kernel
theorem dX3_passHour_62 : decode cX3_passHour 62 = .ok (.invokevirtual 48, 3) := by decide +kernel
theorem dX3_passHour_65 : decode cX3_passHour 65 = .ok (.if_icmp .ge 42, 3) := by decide +kernel
theorem dX3_passHour_68 : decode cX3_passHour 68 = .ok (.aload_n 0, 1) := by decide +kernel
theorem dX3_passHour_69 : decode cX3_passHour 69 = .ok (.getfield 18, 3) := by decide +kernel
theorem dX3_passHour_72 : decode cX3_passHour 72 = .ok (.iload 4, 2) := by decide +kernel
theorem dX3_passHour_74 : decode cX3_passHour 74 = .ok (.invokevirtual 52, 3) := by decide +kernel
theorem dX3_passHour_77 : decode cX3_passHour 77 = .ok (.checkcast 62, 3) := by decide +kernel
theorem dX3_passHour_80 : decode cX3_passHour 80 = .ok (.astore 5, 2) := by decide +kernel
theorem dX3_passHour_82 : decode cX3_passHour 82 = .ok (.aload 5, 2) := by decide +kernel
theorem dX3_passHour_84 : decode cX3_passHour 84 = .ok (.aload_n 0, 1) := by decide +kernel
theorem dX3_passHour_85 : decode cX3_passHour 85 = .ok (.aload 5, 2) := by decide +kernel
theorem dX3_passHour_87 : decode cX3_passHour 87 = .ok (.getfield 102, 3) := by decide +kernel
theorem dX3_passHour_90 : decode cX3_passHour 90 = .ok (.invokevirtual 105, 3) := by decide +kernel
theorem dX3_passHour_93 : decode cX3_passHour 93 = .ok (.aload_n 0, 1) := by decide +kernel
theorem dX3_passHour_94 : decode cX3_passHour 94 = .ok (.invokevirtual 95, 3) := by decide +kernel
theorem dX3_passHour_97 : decode cX3_passHour 97 = .ok (.iload_n 3, 1) := by decide +kernel
theorem dX3_passHour_98 : decode cX3_passHour 98 = .ok (.invokevirtual 109, 3) := by decide +kernel
theorem dX3_passHour_101 : decode cX3_passHour 101 = .ok (.iinc 4 1, 3) := by decide +kernel
theorem dX3_passHour_104 : decode cX3_passHour 104 = .ok (.goto (-48), 3) := by decide +kernel
theorem dX3_passHour_107 : decode cX3_passHour 107 = .ok (.iconst 0, 1) := by decide +kernel
theorem dX3_passHour_108 : decode cX3_passHour 108 = .ok (.istore 4, 2) := by decide +kernel
theorem dX3_passHour_110 : decode cX3_passHour 110 = .ok (.iload 4, 2) := by decide +kernel
theorem dX3_passHour_112 : decode cX3_passHour 112 = .ok (.aload_n 0, 1) := by decide +kernel
theorem dX3_passHour_113 : decode cX3_passHour 113 = .ok (.getfield 21, 3) := by decide +kernel
theorem dX3_passHour_116 : decode cX3_passHour 116 = .ok (.invokevirtual 48, 3) := by decide +kernel
theorem dX3_passHour_119 : decode cX3_passHour 119 = .ok (.if_icmp .ge 25, 3) := by decide +kernel
theorem dX3_passHour_122 : decode cX3_passHour 122 = .ok (.aload_n 0, 1) := by decide +kernel
theorem dX3_passHour_123 : decode cX3_passHour 123 = .ok (.aload_n 0, 1) := by decide +kernel
theorem dX3_passHour_124 : decode cX3_passHour 124 = .ok (.getfield 21, 3) := by decide +kernel
theorem dX3_passHour_127 : decode cX3_passHour 127 = .ok (.iload 4, 2) := by decide +kernel
theorem dX3_passHour_129 : decode cX3_passHour 129 = .ok (.invokevirtual 52, 3) := by decide +kernel
