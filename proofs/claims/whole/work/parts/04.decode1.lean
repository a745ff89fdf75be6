theorem dX0_init_0 : decode cX0_init 0 = .ok (.aload_n 0, 1) := by decide +kernel
theorem dX0_init_1 : decode cX0_init 1 = .ok (.invokespecial 3, 3) := by decide +kernel
theorem dX0_init_4 : decode cX0_init 4 = .ok (.aload_n 0, 1) := by decide +kernel
theorem dX0_init_5 : decode cX0_init 5 = .ok (.iconst (-1), 1) := by decide +kernel
theorem dX0_init_6 : decode cX0_init 6 = .ok (.putfield 9, 3) := by decide +kernel
theorem dX0_init_9 : decode cX0_init 9 = .ok (.aload_n 0, 1) := by decide +kernel
theorem dX0_init_10 : decode cX0_init 10 = .ok (.iconst (-1), 1) := by decide +kernel
theorem dX0_init_11 : decode cX0_init 11 = .ok (.putfield 15, 3) := by decide +kernel
theorem dX0_init_14 : decode cX0_init 14 = .ok (.aload_n 0, 1) := by decide +kernel
theorem dX0_init_15 : decode cX0_init 15 = .ok (.iload_n 1, 1) := by decide +kernel
theorem dX0_init_16 : decode cX0_init 16 = .ok (.putfield 18, 3) := by decide +kernel
theorem dX0_init_19 : decode cX0_init 19 = .ok (.aload_n 0, 1) := by decide +kernel
theorem dX0_init_20 : decode cX0_init 20 = .ok (.iload_n 2, 1) := by decide +kernel
theorem dX0_init_21 : decode cX0_init 21 = .ok (.putfield 21, 3) := by decide +kernel
theorem dX0_init_24 : decode cX0_init 24 = .ok (.aload_n 0, 1) := by decide +kernel
theorem dX0_init_25 : decode cX0_init 25 = .ok (.iload_n 3, 1) := by decide +kernel
theorem dX0_init_26 : decode cX0_init 26 = .ok (.putfield 24, 3) := by decide +kernel
theorem dX0_init_29 : decode cX0_init 29 = .ok (.return_, 1) := by decide +kernel
theorem dX0_copyFrom_0 : decode cX0_copyFrom 0 = .ok (.aload_n 0, 1) := by decide +kernel
theorem dX0_copyFrom_1 : decode cX0_copyFrom 1 = .ok (.aload_n 1, 1) := by decide +kernel
theorem dX0_copyFrom_2 : decode cX0_copyFrom 2 = .ok (.getfield 18, 3) := by decide +kernel
theorem dX0_copyFrom_5 : decode cX0_copyFrom 5 = .ok (.putfield 18, 3) := by decide +kernel
theorem dX0_copyFrom_8 : decode cX0_copyFrom 8 = .ok (.aload_n 0, 1) := by decide +kernel
theorem dX0_copyFrom_9 : decode cX0_copyFrom 9 = .ok (.aload_n 1, 1) := by decide +kernel
theorem dX0_copyFrom_10 : decode cX0_copyFrom 10 = .ok (.getfield 21, 3) := by decide +kernel
theorem dX0_copyFrom_13 : decode cX0_copyFrom 13 = .ok (.putfield 21, 3) := by decide +kernel
theorem dX0_copyFrom_16 : decode cX0_copyFrom 16 = .ok (.aload_n 0, 1) := by decide +kernel
theorem dX0_copyFrom_17 : decode cX0_copyFrom 17 = .ok (.aload_n 1, 1) := by decide +kernel
theorem dX0_copyFrom_18 : decode cX0_copyFrom 18 = .ok (.getfield 24, 3) := by decide +kernel
theorem dX0_copyFrom_21 : decode cX0_copyFrom 21 = .ok (.putfield 24, 3) := by decide +kernel
theorem dX0_copyFrom_24 : decode cX0_copyFrom 24 = .ok (.aload_n 0, 1) := by decide +kernel
theorem dX0_copyFrom_25 : decode cX0_copyFrom 25 = .ok (.aload_n 1, 1) := by decide +kernel
theorem dX0_copyFrom_26 : decode cX0_copyFrom 26 = .ok (.getfield 27, 3) := by decide +kernel
theorem dX0_copyFrom_29 : decode cX0_copyFrom 29 = .ok (.putfield 27, 3) := by decide +kernel
theorem dX0_copyFrom_32 : decode cX0_copyFrom 32 = .ok (.aload_n 0, 1) := by decide +kernel
theorem dX0_copyFrom_33 : decode cX0_copyFrom 33 = .ok (.aload_n 1, 1) := by decide +kernel
theorem dX0_copyFrom_34 : decode cX0_copyFrom 34 = .ok (.getfield 9, 3) := by decide +kernel
theorem dX0_copyFrom_37 : decode cX0_copyFrom 37 = .ok (.putfield 9, 3) := by decide +kernel
theorem dX0_copyFrom_40 : decode cX0_copyFrom 40 = .ok (.aload_n 0, 1) := by decide +kernel
theorem dX0_copyFrom_41 : decode cX0_copyFrom 41 = .ok (.aload_n 1, 1) := by decide +kernel
theorem dX0_copyFrom_42 : decode cX0_copyFrom 42 = .ok (.getfield 30, 3) := by decide +kernel
theorem dX0_copyFrom_45 : decode cX0_copyFrom 45 = .ok (.putfield 30, 3) := by decide +kernel
theorem dX0_copyFrom_48 : decode cX0_copyFrom 48 = .ok (.aload_n 0, 1) := by decide +kernel
theorem dX0_copyFrom_49 : decode cX0_copyFrom 49 = .ok (.aload_n 1, 1) := by decide +kernel
theorem dX0_copyFrom_50 : decode cX0_copyFrom 50 = .ok (.getfield 33, 3) := by decide +kernel
theorem dX0_copyFrom_53 : decode cX0_copyFrom 53 = .ok (.putfield 33, 3) := by decide +kernel
theorem dX0_copyFrom_56 : decode cX0_copyFrom 56 = .ok (.aload_n 0, 1) := by decide +kernel
theorem dX0_copyFrom_57 : decode cX0_copyFrom 57 = .ok (.aload_n 1, 1) := by decide +kernel
theorem dX0_copyFrom_58 : decode cX0_copyFrom 58 = .ok (.getfield 36, 3) := by decide +kernel
theorem dX0_copyFrom_61 : decode cX0_copyFrom 61 = .ok (.putfield 36, 3) := by decide +kernel
theorem dX0_copyFrom_64 : decode cX0_copyFrom 64 = .ok (.aload_n 0, 1) := by decide +kernel
theorem dX0_copyFrom_65 : decode cX0_copyFrom 65 = .ok (.aload_n 1, 1) := by decide +kernel
theorem dX0_copyFrom_66 : decode cX0_copyFrom 66 = .ok (.getfield 40, 3) := by decide +kernel
theorem dX0_copyFrom_69 : decode cX0_copyFrom 69 = .ok (.putfield 40, 3) := by decide +kernel
theorem dX0_copyFrom_72 : decode cX0_copyFrom 72 = .ok (.aload_n 0, 1) := by decide +kernel
theorem dX0_copyFrom_73 : decode cX0_copyFrom 73 = .ok (.aload_n 1, 1) := by decide +kernel
theorem dX0_copyFrom_74 : decode cX0_copyFrom 74 = .ok (.getfield 15, 3) := by decide +kernel
theorem dX0_copyFrom_77 : decode cX0_copyFrom 77 = .ok (.putfield 15, 3) := by decide +kernel
theorem dX0_copyFrom_80 : decode cX0_copyFrom 80 = .ok (.aload_n 0, 1) := by decide +kernel
theorem dX0_copyFrom_81 : decode cX0_copyFrom 81 = .ok (.aload_n 1, 1) := by decide +kernel
theorem dX0_copyFrom_82 : decode cX0_copyFrom 82 = .ok (.getfield 43, 3) := by decide +kernel
theorem dX0_copyFrom_85 : decode cX0_copyFrom 85 = .ok (.putfield 43, 3) := by decide +kernel
theorem dX0_copyFrom_88 : decode cX0_copyFrom 88 = .ok (.aload_n 0, 1) := by decide +kernel
theorem dX0_copyFrom_89 : decode cX0_copyFrom 89 = .ok (.aload_n 1, 1) := by decide +kernel
theorem dX0_copyFrom_90 : decode cX0_copyFrom 90 = .ok (.getfield 46, 3) := by decide +kernel
theorem dX0_copyFrom_93 : decode cX0_copyFrom 93 = .ok (.putfield 46, 3) := by decide +kernel
theorem dX0_copyFrom_96 : decode cX0_copyFrom 96 = .ok (.return_, 1) := by decide +kernel
theorem dX0_passHour_0 : decode cX0_passHour 0 = .ok (.aload_n 0, 1) := by decide +kernel
theorem dX0_passHour_1 : decode cX0_passHour 1 = .ok (.getfield 36, 3) := by decide +kernel
theorem dX0_passHour_4 : decode cX0_passHour 4 = .ok (.ifCond .ne 7, 3) := by decide +kernel
theorem dX0_passHour_7 : decode cX0_passHour 7 = .ok (.aload_n 1, 1) := by decide +kernel
theorem dX0_passHour_8 : decode cX0_passHour 8 = .ok (.ifnonnull 4, 3) := by decide +kernel
theorem dX0_passHour_11 : decode cX0_passHour 11 = .ok (.return_, 1) := by decide +kernel
theorem dX0_passHour_12 : decode cX0_passHour 12 = .ok (.aload_n 0, 1) := by decide +kernel
theorem dX0_passHour_13 : decode cX0_passHour 13 = .ok (.getfield 21, 3) := by decide +kernel
theorem dX0_passHour_16 : decode cX0_passHour 16 = .ok (.aload_n 1, 1) := by decide +kernel
theorem dX0_passHour_17 : decode cX0_passHour 17 = .ok (.getfield 49, 3) := by decide +kernel
theorem dX0_passHour_20 : decode cX0_passHour 20 = .ok (.if_icmp .eq 21, 3) := by decide +kernel
theorem dX0_passHour_23 : decode cX0_passHour 23 = .ok (.aload_n 0, 1) := by decide +kernel
theorem dX0_passHour_24 : decode cX0_passHour 24 = .ok (.aload_n 0, 1) := by decide +kernel
theorem dX0_passHour_25 : decode cX0_passHour 25 = .ok (.getfield 21, 3) := by decide +kernel
theorem dX0_passHour_28 : decode cX0_passHour 28 = .ok (.aload_n 1, 1) := by decide +kernel
theorem dX0_passHour_29 : decode cX0_passHour 29 = .ok (.getfield 49, 3) := by decide +kernel
theorem dX0_passHour_32 : decode cX0_passHour 32 = .ok (.bipush 20, 2) := by decide +kernel
theorem dX0_passHour_34 : decode cX0_passHour 34 = .ok (.invokestatic 52, 3) := by decide +kernel
theorem dX0_passHour_37 : decode cX0_passHour 37 = .ok (.putfield 21, 3) := by decide +kernel
theorem dX0_passHour_40 : decode cX0_passHour 40 = .ok (.return_, 1) := by decide +kernel
theorem dX0_passHour_41 : decode cX0_passHour 41 = .ok (.aload_n 0, 1) := by decide +kernel
theorem dX0_passHour_42 : decode cX0_passHour 42 = .ok (.aload_n 1, 1) := by decide +kernel
theorem dX0_passHour_43 : decode cX0_passHour 43 = .ok (.invokevirtual 56, 3) := by decide +kernel
theorem dX0_passHour_46 : decode cX0_passHour 46 = .ok (.istore 4, 2) := by decide +kernel
theorem dX0_passHour_48 : decode cX0_passHour 48 = .ok (.iload_n 3, 1) := by decide +kernel
theorem dX0_passHour_49 : decode cX0_passHour 49 = .ok (.ifCond .gt 23, 3) := by decide +kernel
theorem dX0_passHour_52 : decode cX0_passHour 52 = .ok (.aload_n 1, 1) := by decide +kernel
theorem dX0_passHour_53 : decode cX0_passHour 53 = .ok (.iload_n 2, 1) := by decide +kernel
theorem dX0_passHour_54 : decode cX0_passHour 54 = .ok (.invokevirtual 60, 3) := by decide +kernel
theorem dX0_passHour_57 : decode cX0_passHour 57 = .ok (.ifCond .eq 15, 3) := by decide +kernel
theorem dX0_passHour_60 : decode cX0_passHour 60 = .ok (.aload_n 0, 1) := by decide +kernel
theorem dX0_passHour_61 : decode cX0_passHour 61 = .ok (.invokevirtual 64, 3) := by decide +kernel
theorem dX0_passHour_64 : decode cX0_passHour 64 = .ok (.ifCond .ne 8, 3) := by decide +kernel
theorem dX0_passHour_67 : decode cX0_passHour 67 = .ok (.iload 4, 2) := by decide +kernel
theorem dX0_passHour_69 : decode cX0_passHour 69 = .ok (.ifCond .ne 16, 3) := by decide +kernel
theorem dX0_passHour_72 : decode cX0_passHour 72 = .ok (.aload_n 0, 1) := by decide +kernel
theorem dX0_passHour_73 : decode cX0_passHour 73 = .ok (.dup, 1) := by decide +kernel
theorem dX0_passHour_74 : decode cX0_passHour 74 = .ok (.getfield 40, 3) := by decide +kernel
theorem dX0_passHour_77 : decode cX0_passHour 77 = .ok (.iconst 1, 1) := by decide +kernel
theorem dX0_passHour_78 : decode cX0_passHour 78 = .ok (.iadd, 1) := by decide +kernel
theorem dX0_passHour_79 : decode cX0_passHour 79 = .ok (.putfield 40, 3) := by decide +kernel
theorem dX0_passHour_82 : decode cX0_passHour 82 = .ok (.goto 10, 3) := by decide +kernel
theorem dX0_passHour_85 : decode cX0_passHour 85 = .ok (.aload_n 0, 1) := by decide +kernel
theorem dX0_passHour_86 : decode cX0_passHour 86 = .ok (.aload_n 1, 1) := by decide +kernel
theorem dX0_passHour_87 : decode cX0_passHour 87 = .ok (.iload 4, 2) := by decide +kernel
theorem dX0_passHour_89 : decode cX0_passHour 89 = .ok (.invokevirtual 68, 3) := by decide +kernel
theorem dX0_passHour_92 : decode cX0_passHour 92 = .ok (.return_, 1) := by decide +kernel
theorem dX0_holdsAnother_0 : decode cX0_holdsAnother 0 = .ok (.aload_n 0, 1) := by decide +kernel
theorem dX0_holdsAnother_1 : decode cX0_holdsAnother 1 = .ok (.getfield 27, 3) := by decide +kernel
theorem dX0_holdsAnother_4 : decode cX0_holdsAnother 4 = .ok (.ifCond .le 18, 3) := by decide +kernel
theorem dX0_holdsAnother_7 : decode cX0_holdsAnother 7 = .ok (.aload_n 0, 1) := by decide +kernel
theorem dX0_holdsAnother_8 : decode cX0_holdsAnother 8 = .ok (.getfield 9, 3) := by decide +kernel
theorem dX0_holdsAnother_11 : decode cX0_holdsAnother 11 = .ok (.aload_n 0, 1) := by decide +kernel
theorem dX0_holdsAnother_12 : decode cX0_holdsAnother 12 = .ok (.getfield 15, 3) := by decide +kernel
theorem dX0_holdsAnother_15 : decode cX0_holdsAnother 15 = .ok (.if_icmp .eq 7, 3) := by decide +kernel
theorem dX0_holdsAnother_18 : decode cX0_holdsAnother 18 = .ok (.iconst 1, 1) := by decide +kernel
theorem dX0_holdsAnother_19 : decode cX0_holdsAnother 19 = .ok (.goto 4, 3) := by decide +kernel
theorem dX0_holdsAnother_22 : decode cX0_holdsAnother 22 = .ok (.iconst 0, 1) := by decide +kernel
theorem dX0_holdsAnother_23 : decode cX0_holdsAnother 23 = .ok (.ireturn, 1) := by decide +kernel
theorem dX0_acresAtOnce_0 : decode cX0_acresAtOnce 0 = .ok (.aload_n 0, 1) := by decide +kernel
theorem dX0_acresAtOnce_1 : decode cX0_acresAtOnce 1 = .ok (.getfield 24, 3) := by decide +kernel
theorem dX0_acresAtOnce_4 : decode cX0_acresAtOnce 4 = .ok (.aload_n 1, 1) := by decide +kernel
theorem dX0_acresAtOnce_5 : decode cX0_acresAtOnce 5 = .ok (.invokevirtual 72, 3) := by decide +kernel
theorem dX0_acresAtOnce_8 : decode cX0_acresAtOnce 8 = .ok (.invokestatic 76, 3) := by decide +kernel
theorem dX0_acresAtOnce_11 : decode cX0_acresAtOnce 11 = .ok (.istore_n 2, 1) := by decide +kernel
theorem dX0_acresAtOnce_12 : decode cX0_acresAtOnce 12 = .ok (.aload_n 1, 1) := by decide +kernel
theorem dX0_acresAtOnce_13 : decode cX0_acresAtOnce 13 = .ok (.invokevirtual 82, 3) := by decide +kernel
theorem dX0_acresAtOnce_16 : decode cX0_acresAtOnce 16 = .ok (.istore_n 3, 1) := by decide +kernel
theorem dX0_acresAtOnce_17 : decode cX0_acresAtOnce 17 = .ok (.iload_n 3, 1) := by decide +kernel
theorem dX0_acresAtOnce_18 : decode cX0_acresAtOnce 18 = .ok (.ifCond .le 20, 3) := by decide +kernel
theorem dX0_acresAtOnce_21 : decode cX0_acresAtOnce 21 = .ok (.iload_n 2, 1) := by decide +kernel
theorem dX0_acresAtOnce_22 : decode cX0_acresAtOnce 22 = .ok (.sipush 400, 3) := by decide +kernel
theorem dX0_acresAtOnce_25 : decode cX0_acresAtOnce 25 = .ok (.aload_n 0, 1) := by decide +kernel
theorem dX0_acresAtOnce_26 : decode cX0_acresAtOnce 26 = .ok (.getfield 27, 3) := by decide +kernel
theorem dX0_acresAtOnce_29 : decode cX0_acresAtOnce 29 = .ok (.isub, 1) := by decide +kernel
theorem dX0_acresAtOnce_30 : decode cX0_acresAtOnce 30 = .ok (.iload_n 3, 1) := by decide +kernel
theorem dX0_acresAtOnce_31 : decode cX0_acresAtOnce 31 = .ok (.idiv, 1) := by decide +kernel
theorem dX0_acresAtOnce_32 : decode cX0_acresAtOnce 32 = .ok (.invokestatic 76, 3) := by decide +kernel
theorem dX0_acresAtOnce_35 : decode cX0_acresAtOnce 35 = .ok (.goto 4, 3) := by decide +kernel
theorem dX0_acresAtOnce_38 : decode cX0_acresAtOnce 38 = .ok (.iload_n 2, 1) := by decide +kernel
theorem dX0_acresAtOnce_39 : decode cX0_acresAtOnce 39 = .ok (.ireturn, 1) := by decide +kernel
theorem dX0_harvest_0 : decode cX0_harvest 0 = .ok (.iload_n 2, 1) := by decide +kernel
theorem dX0_harvest_1 : decode cX0_harvest 1 = .ok (.aload_n 1, 1) := by decide +kernel
theorem dX0_harvest_2 : decode cX0_harvest 2 = .ok (.invokevirtual 82, 3) := by decide +kernel
theorem dX0_harvest_5 : decode cX0_harvest 5 = .ok (.imul, 1) := by decide +kernel
theorem dX0_harvest_6 : decode cX0_harvest 6 = .ok (.istore_n 3, 1) := by decide +kernel
theorem dX0_harvest_7 : decode cX0_harvest 7 = .ok (.aload_n 1, 1) := by decide +kernel
theorem dX0_harvest_8 : decode cX0_harvest 8 = .ok (.dup, 1) := by decide +kernel
theorem dX0_harvest_9 : decode cX0_harvest 9 = .ok (.getfield 85, 3) := by decide +kernel
theorem dX0_harvest_12 : decode cX0_harvest 12 = .ok (.iload_n 2, 1) := by decide +kernel
theorem dX0_harvest_13 : decode cX0_harvest 13 = .ok (.iadd, 1) := by decide +kernel
theorem dX0_harvest_14 : decode cX0_harvest 14 = .ok (.putfield 85, 3) := by decide +kernel
theorem dX0_harvest_17 : decode cX0_harvest 17 = .ok (.aload_n 1, 1) := by decide +kernel
theorem dX0_harvest_18 : decode cX0_harvest 18 = .ok (.dup, 1) := by decide +kernel
theorem dX0_harvest_19 : decode cX0_harvest 19 = .ok (.getfield 86, 3) := by decide +kernel
theorem dX0_harvest_22 : decode cX0_harvest 22 = .ok (.aload_n 0, 1) := by decide +kernel
theorem dX0_harvest_23 : decode cX0_harvest 23 = .ok (.iload_n 3, 1) := by decide +kernel
theorem dX0_harvest_24 : decode cX0_harvest 24 = .ok (.invokevirtual 89, 3) := by decide +kernel
theorem dX0_harvest_27 : decode cX0_harvest 27 = .ok (.iadd, 1) := by decide +kernel
theorem dX0_harvest_28 : decode cX0_harvest 28 = .ok (.putfield 86, 3) := by decide +kernel
theorem dX0_harvest_31 : decode cX0_harvest 31 = .ok (.iload_n 3, 1) := by decide +kernel
theorem dX0_harvest_32 : decode cX0_harvest 32 = .ok (.ifCond .le 50, 3) := by decide +kernel
theorem dX0_harvest_35 : decode cX0_harvest 35 = .ok (.aload_n 0, 1) := by decide +kernel
theorem dX0_harvest_36 : decode cX0_harvest 36 = .ok (.aload_n 0, 1) := by decide +kernel
theorem dX0_harvest_37 : decode cX0_harvest 37 = .ok (.getfield 27, 3) := by decide +kernel
theorem dX0_harvest_40 : decode cX0_harvest 40 = .ok (.ifCond .le 17, 3) := by decide +kernel
theorem dX0_harvest_43 : decode cX0_harvest 43 = .ok (.aload_n 0, 1) := by decide +kernel
theorem dX0_harvest_44 : decode cX0_harvest 44 = .ok (.getfield 30, 3) := by decide +kernel
theorem dX0_harvest_47 : decode cX0_harvest 47 = .ok (.aload_n 1, 1) := by decide +kernel
theorem dX0_harvest_48 : decode cX0_harvest 48 = .ok (.getfield 93, 3) := by decide +kernel
theorem dX0_harvest_51 : decode cX0_harvest 51 = .ok (.invokestatic 96, 3) := by decide +kernel
theorem dX0_harvest_54 : decode cX0_harvest 54 = .ok (.goto 7, 3) := by decide +kernel
theorem dX0_harvest_57 : decode cX0_harvest 57 = .ok (.aload_n 1, 1) := by decide +kernel
theorem dX0_harvest_58 : decode cX0_harvest 58 = .ok (.getfield 93, 3) := by decide +kernel
theorem dX0_harvest_61 : decode cX0_harvest 61 = .ok (.putfield 30, 3) := by decide +kernel
theorem dX0_harvest_64 : decode cX0_harvest 64 = .ok (.aload_n 0, 1) := by decide +kernel
theorem dX0_harvest_65 : decode cX0_harvest 65 = .ok (.aload_n 0, 1) := by decide +kernel
theorem dX0_harvest_66 : decode cX0_harvest 66 = .ok (.getfield 15, 3) := by decide +kernel
theorem dX0_harvest_69 : decode cX0_harvest 69 = .ok (.putfield 9, 3) := by decide +kernel
theorem dX0_harvest_72 : decode cX0_harvest 72 = .ok (.aload_n 0, 1) := by decide +kernel
theorem dX0_harvest_73 : decode cX0_harvest 73 = .ok (.dup, 1) := by decide +kernel
theorem dX0_harvest_74 : decode cX0_harvest 74 = .ok (.getfield 27, 3) := by decide +kernel
theorem dX0_harvest_77 : decode cX0_harvest 77 = .ok (.iload_n 3, 1) := by decide +kernel
theorem dX0_harvest_78 : decode cX0_harvest 78 = .ok (.iadd, 1) := by decide +kernel
theorem dX0_harvest_79 : decode cX0_harvest 79 = .ok (.putfield 27, 3) := by decide +kernel
theorem dX0_harvest_82 : decode cX0_harvest 82 = .ok (.aload_n 0, 1) := by decide +kernel
theorem dX0_harvest_83 : decode cX0_harvest 83 = .ok (.dup, 1) := by decide +kernel
theorem dX0_harvest_84 : decode cX0_harvest 84 = .ok (.getfield 43, 3) := by decide +kernel
theorem dX0_harvest_87 : decode cX0_harvest 87 = .ok (.iload_n 2, 1) := by decide +kernel
theorem dX0_harvest_88 : decode cX0_harvest 88 = .ok (.iadd, 1) := by decide +kernel
theorem dX0_harvest_89 : decode cX0_harvest 89 = .ok (.putfield 43, 3) := by decide +kernel
theorem dX0_harvest_92 : decode cX0_harvest 92 = .ok (.aload_n 0, 1) := by decide +kernel
theorem dX0_harvest_93 : decode cX0_harvest 93 = .ok (.dup, 1) := by decide +kernel
theorem dX0_harvest_94 : decode cX0_harvest 94 = .ok (.getfield 46, 3) := by decide +kernel
theorem dX0_harvest_97 : decode cX0_harvest 97 = .ok (.iload_n 3, 1) := by decide +kernel
theorem dX0_harvest_98 : decode cX0_harvest 98 = .ok (.iadd, 1) := by decide +kernel
theorem dX0_harvest_99 : decode cX0_harvest 99 = .ok (.putfield 46, 3) := by decide +kernel
theorem dX0_harvest_102 : decode cX0_harvest 102 = .ok (.aload_n 0, 1) := by decide +kernel
theorem dX0_harvest_103 : decode cX0_harvest 103 = .ok (.dup, 1) := by decide +kernel
theorem dX0_harvest_104 : decode cX0_harvest 104 = .ok (.getfield 33, 3) := by decide +kernel
theorem dX0_harvest_107 : decode cX0_harvest 107 = .ok (.iload_n 2, 1) := by decide +kernel
theorem dX0_harvest_108 : decode cX0_harvest 108 = .ok (.iadd, 1) := by decide +kernel
theorem dX0_harvest_109 : decode cX0_harvest 109 = .ok (.putfield 33, 3) := by decide +kernel
theorem dX0_harvest_112 : decode cX0_harvest 112 = .ok (.aload_n 0, 1) := by decide +kernel
theorem dX0_harvest_113 : decode cX0_harvest 113 = .ok (.aload_n 0, 1) := by decide +kernel
theorem dX0_harvest_114 : decode cX0_harvest 114 = .ok (.getfield 33, 3) := by decide +kernel
theorem dX0_harvest_117 : decode cX0_harvest 117 = .ok (.bipush 100, 2) := by decide +kernel
theorem dX0_harvest_119 : decode cX0_harvest 119 = .ok (.if_icmp .lt 7, 3) := by decide +kernel
theorem dX0_harvest_122 : decode cX0_harvest 122 = .ok (.iconst 1, 1) := by decide +kernel
theorem dX0_harvest_123 : decode cX0_harvest 123 = .ok (.goto 4, 3) := by decide +kernel
theorem dX0_harvest_126 : decode cX0_harvest 126 = .ok (.iconst 0, 1) := by decide +kernel
theorem dX0_harvest_127 : decode cX0_harvest 127 = .ok (.putfield 36, 3) := by decide +kernel
theorem dX0_harvest_130 : decode cX0_harvest 130 = .ok (.return_, 1) := by decide +kernel
theorem dX0_metered_0 : decode cX0_metered 0 = .ok (.iconst 3, 1) := by decide +kernel
theorem dX0_metered_1 : decode cX0_metered 1 = .ok (.aload_n 0, 1) := by decide +kernel
theorem dX0_metered_2 : decode cX0_metered 2 = .ok (.getfield 18, 3) := by decide +kernel
theorem dX0_metered_5 : decode cX0_metered 5 = .ok (.imul, 1) := by decide +kernel
theorem dX0_metered_6 : decode cX0_metered 6 = .ok (.aload_n 0, 1) := by decide +kernel
theorem dX0_metered_7 : decode cX0_metered 7 = .ok (.getfield 33, 3) := by decide +kernel
theorem dX0_metered_10 : decode cX0_metered 10 = .ok (.bipush 20, 2) := by decide +kernel
theorem dX0_metered_12 : decode cX0_metered 12 = .ok (.idiv, 1) := by decide +kernel
theorem dX0_metered_13 : decode cX0_metered 13 = .ok (.iadd, 1) := by decide +kernel
theorem dX0_metered_14 : decode cX0_metered 14 = .ok (.iconst 4, 1) := by decide +kernel
theorem dX0_metered_15 : decode cX0_metered 15 = .ok (.isub, 1) := by decide +kernel
theorem dX0_metered_16 : decode cX0_metered 16 = .ok (.istore_n 2, 1) := by decide +kernel
theorem dX0_metered_17 : decode cX0_metered 17 = .ok (.iload_n 1, 1) := by decide +kernel
theorem dX0_metered_18 : decode cX0_metered 18 = .ok (.bipush 100, 2) := by decide +kernel
theorem dX0_metered_20 : decode cX0_metered 20 = .ok (.iload_n 2, 1) := by decide +kernel
theorem dX0_metered_21 : decode cX0_metered 21 = .ok (.iadd, 1) := by decide +kernel
theorem dX0_metered_22 : decode cX0_metered 22 = .ok (.imul, 1) := by decide +kernel
theorem dX0_metered_23 : decode cX0_metered 23 = .ok (.bipush 100, 2) := by decide +kernel
theorem dX0_metered_25 : decode cX0_metered 25 = .ok (.idiv, 1) := by decide +kernel
theorem dX0_metered_26 : decode cX0_metered 26 = .ok (.ireturn, 1) := by decide +kernel
theorem dX1_init_0 : decode cX1_init 0 = .ok (.aload_n 0, 1) := by decide +kernel
theorem dX1_init_1 : decode cX1_init 1 = .ok (.invokespecial 1, 3) := by decide +kernel
theorem dX1_init_4 : decode cX1_init 4 = .ok (.aload_n 0, 1) := by decide +kernel
theorem dX1_init_5 : decode cX1_init 5 = .ok (.iload_n 1, 1) := by decide +kernel
theorem dX1_init_6 : decode cX1_init 6 = .ok (.putfield 7, 3) := by decide +kernel
theorem dX1_init_9 : decode cX1_init 9 = .ok (.aload_n 0, 1) := by decide +kernel
theorem dX1_init_10 : decode cX1_init 10 = .ok (.iload_n 2, 1) := by decide +kernel
theorem dX1_init_11 : decode cX1_init 11 = .ok (.putfield 13, 3) := by decide +kernel
theorem dX1_init_14 : decode cX1_init 14 = .ok (.aload_n 0, 1) := by decide +kernel
theorem dX1_init_15 : decode cX1_init 15 = .ok (.iload_n 3, 1) := by decide +kernel
theorem dX1_init_16 : decode cX1_init 16 = .ok (.putfield 16, 3) := by decide +kernel
theorem dX1_init_19 : decode cX1_init 19 = .ok (.aload_n 0, 1) := by decide +kernel
theorem dX1_init_20 : decode cX1_init 20 = .ok (.iload 4, 2) := by decide +kernel
theorem dX1_init_22 : decode cX1_init 22 = .ok (.putfield 19, 3) := by decide +kernel
theorem dX1_init_25 : decode cX1_init 25 = .ok (.aload_n 0, 1) := by decide +kernel
theorem dX1_init_26 : decode cX1_init 26 = .ok (.iload 5, 2) := by decide +kernel
theorem dX1_init_28 : decode cX1_init 28 = .ok (.putfield 22, 3) := by decide +kernel
theorem dX1_init_31 : decode cX1_init 31 = .ok (.aload_n 0, 1) := by decide +kernel
theorem dX1_init_32 : decode cX1_init 32 = .ok (.iload 6, 2) := by decide +kernel
theorem dX1_init_34 : decode cX1_init 34 = .ok (.putfield 25, 3) := by decide +kernel
theorem dX1_init_37 : decode cX1_init 37 = .ok (.return_, 1) := by decide +kernel
theorem dX1_copyFrom_0 : decode cX1_copyFrom 0 = .ok (.aload_n 0, 1) := by decide +kernel
theorem dX1_copyFrom_1 : decode cX1_copyFrom 1 = .ok (.aload_n 1, 1) := by decide +kernel
theorem dX1_copyFrom_2 : decode cX1_copyFrom 2 = .ok (.getfield 7, 3) := by decide +kernel
theorem dX1_copyFrom_5 : decode cX1_copyFrom 5 = .ok (.putfield 7, 3) := by decide +kernel
theorem dX1_copyFrom_8 : decode cX1_copyFrom 8 = .ok (.aload_n 0, 1) := by decide +kernel
theorem dX1_copyFrom_9 : decode cX1_copyFrom 9 = .ok (.aload_n 1, 1) := by decide +kernel
theorem dX1_copyFrom_10 : decode cX1_copyFrom 10 = .ok (.getfield 13, 3) := by decide +kernel
theorem dX1_copyFrom_13 : decode cX1_copyFrom 13 = .ok (.putfield 13, 3) := by decide +kernel
theorem dX1_copyFrom_16 : decode cX1_copyFrom 16 = .ok (.aload_n 0, 1) := by decide +kernel
theorem dX1_copyFrom_17 : decode cX1_copyFrom 17 = .ok (.aload_n 1, 1) := by decide +kernel
theorem dX1_copyFrom_18 : decode cX1_copyFrom 18 = .ok (.getfield 16, 3) := by decide +kernel
theorem dX1_copyFrom_21 : decode cX1_copyFrom 21 = .ok (.putfield 16, 3) := by decide +kernel
theorem dX1_copyFrom_24 : decode cX1_copyFrom 24 = .ok (.aload_n 0, 1) := by decide +kernel
theorem dX1_copyFrom_25 : decode cX1_copyFrom 25 = .ok (.aload_n 1, 1) := by decide +kernel
theorem dX1_copyFrom_26 : decode cX1_copyFrom 26 = .ok (.getfield 19, 3) := by decide +kernel
theorem dX1_copyFrom_29 : decode cX1_copyFrom 29 = .ok (.putfield 19, 3) := by decide +kernel
theorem dX1_copyFrom_32 : decode cX1_copyFrom 32 = .ok (.aload_n 0, 1) := by decide +kernel
theorem dX1_copyFrom_33 : decode cX1_copyFrom 33 = .ok (.aload_n 1, 1) := by decide +kernel
theorem dX1_copyFrom_34 : decode cX1_copyFrom 34 = .ok (.getfield 22, 3) := by decide +kernel
theorem dX1_copyFrom_37 : decode cX1_copyFrom 37 = .ok (.putfield 22, 3) := by decide +kernel
theorem dX1_copyFrom_40 : decode cX1_copyFrom 40 = .ok (.aload_n 0, 1) := by decide +kernel
theorem dX1_copyFrom_41 : decode cX1_copyFrom 41 = .ok (.aload_n 1, 1) := by decide +kernel
theorem dX1_copyFrom_42 : decode cX1_copyFrom 42 = .ok (.getfield 25, 3) := by decide +kernel
theorem dX1_copyFrom_45 : decode cX1_copyFrom 45 = .ok (.putfield 25, 3) := by decide +kernel
theorem dX1_copyFrom_48 : decode cX1_copyFrom 48 = .ok (.return_, 1) := by decide +kernel
theorem dX1_takes_0 : decode cX1_takes 0 = .ok (.aload_n 0, 1) := by decide +kernel
theorem dX1_takes_1 : decode cX1_takes 1 = .ok (.iload_n 2, 1) := by decide +kernel
theorem dX1_takes_2 : decode cX1_takes 2 = .ok (.invokevirtual 28, 3) := by decide +kernel
theorem dX1_takes_5 : decode cX1_takes 5 = .ok (.ifCond .eq 29, 3) := by decide +kernel
theorem dX1_takes_8 : decode cX1_takes 8 = .ok (.aload_n 0, 1) := by decide +kernel
theorem dX1_takes_9 : decode cX1_takes 9 = .ok (.getfield 25, 3) := by decide +kernel
theorem dX1_takes_12 : decode cX1_takes 12 = .ok (.aload_n 1, 1) := by decide +kernel
theorem dX1_takes_13 : decode cX1_takes 13 = .ok (.getfield 32, 3) := by decide +kernel
theorem dX1_takes_16 : decode cX1_takes 16 = .ok (.if_icmp .lt 18, 3) := by decide +kernel
theorem dX1_takes_19 : decode cX1_takes 19 = .ok (.aload_n 0, 1) := by decide +kernel
theorem dX1_takes_20 : decode cX1_takes 20 = .ok (.getfield 13, 3) := by decide +kernel
theorem dX1_takes_23 : decode cX1_takes 23 = .ok (.aload_n 1, 1) := by decide +kernel
theorem dX1_takes_24 : decode cX1_takes 24 = .ok (.getfield 37, 3) := by decide +kernel
theorem dX1_takes_27 : decode cX1_takes 27 = .ok (.if_icmp .lt 7, 3) := by decide +kernel
theorem dX1_takes_30 : decode cX1_takes 30 = .ok (.iconst 1, 1) := by decide +kernel
theorem dX1_takes_31 : decode cX1_takes 31 = .ok (.goto 4, 3) := by decide +kernel
theorem dX1_takes_34 : decode cX1_takes 34 = .ok (.iconst 0, 1) := by decide +kernel
theorem dX1_takes_35 : decode cX1_takes 35 = .ok (.ireturn, 1) := by decide +kernel
theorem dX1_isOpen_0 : decode cX1_isOpen 0 = .ok (.aload_n 0, 1) := by decide +kernel
theorem dX1_isOpen_1 : decode cX1_isOpen 1 = .ok (.getfield 16, 3) := by decide +kernel
theorem dX1_isOpen_4 : decode cX1_isOpen 4 = .ok (.aload_n 0, 1) := by decide +kernel
theorem dX1_isOpen_5 : decode cX1_isOpen 5 = .ok (.getfield 19, 3) := by decide +kernel
theorem dX1_isOpen_8 : decode cX1_isOpen 8 = .ok (.if_icmp .ge 27, 3) := by decide +kernel
theorem dX1_isOpen_11 : decode cX1_isOpen 11 = .ok (.iload_n 1, 1) := by decide +kernel
theorem dX1_isOpen_12 : decode cX1_isOpen 12 = .ok (.aload_n 0, 1) := by decide +kernel
theorem dX1_isOpen_13 : decode cX1_isOpen 13 = .ok (.getfield 16, 3) := by decide +kernel
theorem dX1_isOpen_16 : decode cX1_isOpen 16 = .ok (.if_icmp .lt 15, 3) := by decide +kernel
theorem dX1_isOpen_19 : decode cX1_isOpen 19 = .ok (.iload_n 1, 1) := by decide +kernel
theorem dX1_isOpen_20 : decode cX1_isOpen 20 = .ok (.aload_n 0, 1) := by decide +kernel
theorem dX1_isOpen_21 : decode cX1_isOpen 21 = .ok (.getfield 19, 3) := by decide +kernel
theorem dX1_isOpen_24 : decode cX1_isOpen 24 = .ok (.if_icmp .ge 7, 3) := by decide +kernel
theorem dX1_isOpen_27 : decode cX1_isOpen 27 = .ok (.iconst 1, 1) := by decide +kernel
theorem dX1_isOpen_28 : decode cX1_isOpen 28 = .ok (.goto 28, 3) := by decide +kernel
theorem dX1_isOpen_31 : decode cX1_isOpen 31 = .ok (.iconst 0, 1) := by decide +kernel
theorem dX1_isOpen_32 : decode cX1_isOpen 32 = .ok (.goto 24, 3) := by decide +kernel
theorem dX1_isOpen_35 : decode cX1_isOpen 35 = .ok (.iload_n 1, 1) := by decide +kernel
theorem dX1_isOpen_36 : decode cX1_isOpen 36 = .ok (.aload_n 0, 1) := by decide +kernel
theorem dX1_isOpen_37 : decode cX1_isOpen 37 = .ok (.getfield 16, 3) := by decide +kernel
theorem dX1_isOpen_40 : decode cX1_isOpen 40 = .ok (.if_icmp .ge 11, 3) := by decide +kernel
theorem dX1_isOpen_43 : decode cX1_isOpen 43 = .ok (.iload_n 1, 1) := by decide +kernel
theorem dX1_isOpen_44 : decode cX1_isOpen 44 = .ok (.aload_n 0, 1) := by decide +kernel
theorem dX1_isOpen_45 : decode cX1_isOpen 45 = .ok (.getfield 19, 3) := by decide +kernel
theorem dX1_isOpen_48 : decode cX1_isOpen 48 = .ok (.if_icmp .ge 7, 3) := by decide +kernel
theorem dX1_isOpen_51 : decode cX1_isOpen 51 = .ok (.iconst 1, 1) := by decide +kernel
theorem dX1_isOpen_52 : decode cX1_isOpen 52 = .ok (.goto 4, 3) := by decide +kernel
theorem dX1_isOpen_55 : decode cX1_isOpen 55 = .ok (.iconst 0, 1) := by decide +kernel
theorem dX1_isOpen_56 : decode cX1_isOpen 56 = .ok (.ireturn, 1) := by decide +kernel
theorem dX1_discount_0 : decode cX1_discount 0 = .ok (.iconst 2, 1) := by decide +kernel
theorem dX1_discount_1 : decode cX1_discount 1 = .ok (.iload_n 1, 1) := by decide +kernel
theorem dX1_discount_2 : decode cX1_discount 2 = .ok (.aload_n 0, 1) := by decide +kernel
theorem dX1_discount_3 : decode cX1_discount 3 = .ok (.getfield 22, 3) := by decide +kernel
theorem dX1_discount_6 : decode cX1_discount 6 = .ok (.isub, 1) := by decide +kernel
theorem dX1_discount_7 : decode cX1_discount 7 = .ok (.iconst 0, 1) := by decide +kernel
theorem dX1_discount_8 : decode cX1_discount 8 = .ok (.invokestatic 40, 3) := by decide +kernel
theorem dX1_discount_11 : decode cX1_discount 11 = .ok (.imul, 1) := by decide +kernel
theorem dX1_discount_12 : decode cX1_discount 12 = .ok (.ireturn, 1) := by decide +kernel
theorem dX2_init_0 : decode cX2_init 0 = .ok (.aload_n 0, 1) := by decide +kernel
theorem dX2_init_1 : decode cX2_init 1 = .ok (.invokespecial 3, 3) := by decide +kernel
theorem dX2_init_4 : decode cX2_init 4 = .ok (.aload_n 0, 1) := by decide +kernel
theorem dX2_init_5 : decode cX2_init 5 = .ok (.bipush 30, 2) := by decide +kernel
theorem dX2_init_7 : decode cX2_init 7 = .ok (.putfield 9, 3) := by decide +kernel
theorem dX2_init_10 : decode cX2_init 10 = .ok (.aload_n 0, 1) := by decide +kernel
theorem dX2_init_11 : decode cX2_init 11 = .ok (.iload_n 1, 1) := by decide +kernel
theorem dX2_init_12 : decode cX2_init 12 = .ok (.putfield 15, 3) := by decide +kernel
theorem dX2_init_15 : decode cX2_init 15 = .ok (.aload_n 0, 1) := by decide +kernel
theorem dX2_init_16 : decode cX2_init 16 = .ok (.iload_n 2, 1) := by decide +kernel
theorem dX2_init_17 : decode cX2_init 17 = .ok (.putfield 18, 3) := by decide +kernel
theorem dX2_init_20 : decode cX2_init 20 = .ok (.aload_n 0, 1) := by decide +kernel
theorem dX2_init_21 : decode cX2_init 21 = .ok (.iload_n 3, 1) := by decide +kernel
theorem dX2_init_22 : decode cX2_init 22 = .ok (.putfield 21, 3) := by decide +kernel
theorem dX2_init_25 : decode cX2_init 25 = .ok (.aload_n 0, 1) := by decide +kernel
theorem dX2_init_26 : decode cX2_init 26 = .ok (.iload 4, 2) := by decide +kernel
theorem dX2_init_28 : decode cX2_init 28 = .ok (.putfield 24, 3) := by decide +kernel
theorem dX2_init_31 : decode cX2_init 31 = .ok (.aload_n 0, 1) := by decide +kernel
theorem dX2_init_32 : decode cX2_init 32 = .ok (.iload 5, 2) := by decide +kernel
theorem dX2_init_34 : decode cX2_init 34 = .ok (.putfield 27, 3) := by decide +kernel
theorem dX2_init_37 : decode cX2_init 37 = .ok (.return_, 1) := by decide +kernel
theorem dX2_copyFrom_0 : decode cX2_copyFrom 0 = .ok (.aload_n 0, 1) := by decide +kernel
theorem dX2_copyFrom_1 : decode cX2_copyFrom 1 = .ok (.aload_n 1, 1) := by decide +kernel
theorem dX2_copyFrom_2 : decode cX2_copyFrom 2 = .ok (.getfield 15, 3) := by decide +kernel
theorem dX2_copyFrom_5 : decode cX2_copyFrom 5 = .ok (.putfield 15, 3) := by decide +kernel
theorem dX2_copyFrom_8 : decode cX2_copyFrom 8 = .ok (.aload_n 0, 1) := by decide +kernel
theorem dX2_copyFrom_9 : decode cX2_copyFrom 9 = .ok (.aload_n 1, 1) := by decide +kernel
theorem dX2_copyFrom_10 : decode cX2_copyFrom 10 = .ok (.getfield 18, 3) := by decide +kernel
theorem dX2_copyFrom_13 : decode cX2_copyFrom 13 = .ok (.putfield 18, 3) := by decide +kernel
theorem dX2_copyFrom_16 : decode cX2_copyFrom 16 = .ok (.aload_n 0, 1) := by decide +kernel
theorem dX2_copyFrom_17 : decode cX2_copyFrom 17 = .ok (.aload_n 1, 1) := by decide +kernel
theorem dX2_copyFrom_18 : decode cX2_copyFrom 18 = .ok (.getfield 21, 3) := by decide +kernel
theorem dX2_copyFrom_21 : decode cX2_copyFrom 21 = .ok (.putfield 21, 3) := by decide +kernel
theorem dX2_copyFrom_24 : decode cX2_copyFrom 24 = .ok (.aload_n 0, 1) := by decide +kernel
theorem dX2_copyFrom_25 : decode cX2_copyFrom 25 = .ok (.aload_n 1, 1) := by decide +kernel
theorem dX2_copyFrom_26 : decode cX2_copyFrom 26 = .ok (.getfield 24, 3) := by decide +kernel
theorem dX2_copyFrom_29 : decode cX2_copyFrom 29 = .ok (.putfield 24, 3) := by decide +kernel
theorem dX2_copyFrom_32 : decode cX2_copyFrom 32 = .ok (.aload_n 0, 1) := by decide +kernel
theorem dX2_copyFrom_33 : decode cX2_copyFrom 33 = .ok (.aload_n 1, 1) := by decide +kernel
theorem dX2_copyFrom_34 : decode cX2_copyFrom 34 = .ok (.getfield 27, 3) := by decide +kernel
theorem dX2_copyFrom_37 : decode cX2_copyFrom 37 = .ok (.putfield 27, 3) := by decide +kernel
theorem dX2_copyFrom_40 : decode cX2_copyFrom 40 = .ok (.aload_n 0, 1) := by decide +kernel
theorem dX2_copyFrom_41 : decode cX2_copyFrom 41 = .ok (.aload_n 1, 1) := by decide +kernel
theorem dX2_copyFrom_42 : decode cX2_copyFrom 42 = .ok (.getfield 30, 3) := by decide +kernel
theorem dX2_copyFrom_45 : decode cX2_copyFrom 45 = .ok (.putfield 30, 3) := by decide +kernel
theorem dX2_copyFrom_48 : decode cX2_copyFrom 48 = .ok (.aload_n 0, 1) := by decide +kernel
theorem dX2_copyFrom_49 : decode cX2_copyFrom 49 = .ok (.aload_n 1, 1) := by decide +kernel
theorem dX2_copyFrom_50 : decode cX2_copyFrom 50 = .ok (.getfield 33, 3) := by decide +kernel
theorem dX2_copyFrom_53 : decode cX2_copyFrom 53 = .ok (.putfield 33, 3) := by decide +kernel
theorem dX2_copyFrom_56 : decode cX2_copyFrom 56 = .ok (.aload_n 0, 1) := by decide +kernel
theorem dX2_copyFrom_57 : decode cX2_copyFrom 57 = .ok (.aload_n 1, 1) := by decide +kernel
theorem dX2_copyFrom_58 : decode cX2_copyFrom 58 = .ok (.getfield 9, 3) := by decide +kernel
theorem dX2_copyFrom_61 : decode cX2_copyFrom 61 = .ok (.putfield 9, 3) := by decide +kernel
theorem dX2_copyFrom_64 : decode cX2_copyFrom 64 = .ok (.aload_n 0, 1) := by decide +kernel
theorem dX2_copyFrom_65 : decode cX2_copyFrom 65 = .ok (.aload_n 1, 1) := by decide +kernel
theorem dX2_copyFrom_66 : decode cX2_copyFrom 66 = .ok (.getfield 36, 3) := by decide +kernel
theorem dX2_copyFrom_69 : decode cX2_copyFrom 69 = .ok (.putfield 36, 3) := by decide +kernel
theorem dX2_copyFrom_72 : decode cX2_copyFrom 72 = .ok (.aload_n 0, 1) := by decide +kernel
theorem dX2_copyFrom_73 : decode cX2_copyFrom 73 = .ok (.aload_n 1, 1) := by decide +kernel
theorem dX2_copyFrom_74 : decode cX2_copyFrom 74 = .ok (.getfield 39, 3) := by decide +kernel
theorem dX2_copyFrom_77 : decode cX2_copyFrom 77 = .ok (.putfield 39, 3) := by decide +kernel
theorem dX2_copyFrom_80 : decode cX2_copyFrom 80 = .ok (.aload_n 0, 1) := by decide +kernel
theorem dX2_copyFrom_81 : decode cX2_copyFrom 81 = .ok (.aload_n 1, 1) := by decide +kernel
theorem dX2_copyFrom_82 : decode cX2_copyFrom 82 = .ok (.getfield 42, 3) := by decide +kernel
theorem dX2_copyFrom_85 : decode cX2_copyFrom 85 = .ok (.putfield 42, 3) := by decide +kernel
theorem dX2_copyFrom_88 : decode cX2_copyFrom 88 = .ok (.aload_n 0, 1) := by decide +kernel
theorem dX2_copyFrom_89 : decode cX2_copyFrom 89 = .ok (.aload_n 1, 1) := by decide +kernel
theorem dX2_copyFrom_90 : decode cX2_copyFrom 90 = .ok (.getfield 45, 3) := by decide +kernel
theorem dX2_copyFrom_93 : decode cX2_copyFrom 93 = .ok (.putfield 45, 3) := by decide +kernel
theorem dX2_copyFrom_96 : decode cX2_copyFrom 96 = .ok (.aload_n 0, 1) := by decide +kernel
theorem dX2_copyFrom_97 : decode cX2_copyFrom 97 = .ok (.aload_n 1, 1) := by decide +kernel
theorem dX2_copyFrom_98 : decode cX2_copyFrom 98 = .ok (.getfield 48, 3) := by decide +kernel
theorem dX2_copyFrom_101 : decode cX2_copyFrom 101 = .ok (.putfield 48, 3) := by decide +kernel
theorem dX2_copyFrom_104 : decode cX2_copyFrom 104 = .ok (.return_, 1) := by decide +kernel
theorem dX2_passHour_0 : decode cX2_passHour 0 = .ok (.aload_n 0, 1) := by decide +kernel
theorem dX2_passHour_1 : decode cX2_passHour 1 = .ok (.iload_n 2, 1) := by decide +kernel
theorem dX2_passHour_2 : decode cX2_passHour 2 = .ok (.invokevirtual 51, 3) := by decide +kernel
theorem dX2_passHour_5 : decode cX2_passHour 5 = .ok (.aload_n 0, 1) := by decide +kernel
theorem dX2_passHour_6 : decode cX2_passHour 6 = .ok (.iload_n 3, 1) := by decide +kernel
theorem dX2_passHour_7 : decode cX2_passHour 7 = .ok (.iload 4, 2) := by decide +kernel
theorem dX2_passHour_9 : decode cX2_passHour 9 = .ok (.invokevirtual 55, 3) := by decide +kernel
theorem dX2_passHour_12 : decode cX2_passHour 12 = .ok (.aload_n 0, 1) := by decide +kernel
theorem dX2_passHour_13 : decode cX2_passHour 13 = .ok (.iload_n 1, 1) := by decide +kernel
theorem dX2_passHour_14 : decode cX2_passHour 14 = .ok (.iload 4, 2) := by decide +kernel
theorem dX2_passHour_16 : decode cX2_passHour 16 = .ok (.invokevirtual 59, 3) := by decide +kernel
theorem dX2_passHour_19 : decode cX2_passHour 19 = .ok (.return_, 1) := by decide +kernel
theorem dX2_ripen_0 : decode cX2_ripen 0 = .ok (.iload_n 1, 1) := by decide +kernel
theorem dX2_ripen_1 : decode cX2_ripen 1 = .ok (.bipush 30, 2) := by decide +kernel
theorem dX2_ripen_3 : decode cX2_ripen 3 = .ok (.if_icmp .lt 7, 3) := by decide +kernel
theorem dX2_ripen_6 : decode cX2_ripen 6 = .ok (.iconst 2, 1) := by decide +kernel
theorem dX2_ripen_7 : decode cX2_ripen 7 = .ok (.goto 14, 3) := by decide +kernel
theorem dX2_ripen_10 : decode cX2_ripen 10 = .ok (.iload_n 1, 1) := by decide +kernel
theorem dX2_ripen_11 : decode cX2_ripen 11 = .ok (.bipush 15, 2) := by decide +kernel
theorem dX2_ripen_13 : decode cX2_ripen 13 = .ok (.if_icmp .lt 7, 3) := by decide +kernel
theorem dX2_ripen_16 : decode cX2_ripen 16 = .ok (.iconst 1, 1) := by decide +kernel
theorem dX2_ripen_17 : decode cX2_ripen 17 = .ok (.goto 4, 3) := by decide +kernel
theorem dX2_ripen_20 : decode cX2_ripen 20 = .ok (.iconst 0, 1) := by decide +kernel
theorem dX2_ripen_21 : decode cX2_ripen 21 = .ok (.istore_n 2, 1) := by decide +kernel
theorem dX2_ripen_22 : decode cX2_ripen 22 = .ok (.aload_n 0, 1) := by decide +kernel
theorem dX2_ripen_23 : decode cX2_ripen 23 = .ok (.aload_n 0, 1) := by decide +kernel
theorem dX2_ripen_24 : decode cX2_ripen 24 = .ok (.getfield 33, 3) := by decide +kernel
theorem dX2_ripen_27 : decode cX2_ripen 27 = .ok (.iload_n 2, 1) := by decide +kernel
theorem dX2_ripen_28 : decode cX2_ripen 28 = .ok (.iadd, 1) := by decide +kernel
theorem dX2_ripen_29 : decode cX2_ripen 29 = .ok (.bipush 100, 2) := by decide +kernel
theorem dX2_ripen_31 : decode cX2_ripen 31 = .ok (.invokestatic 62, 3) := by decide +kernel
theorem dX2_ripen_34 : decode cX2_ripen 34 = .ok (.putfield 33, 3) := by decide +kernel
theorem dX2_ripen_37 : decode cX2_ripen 37 = .ok (.return_, 1) := by decide +kernel
theorem dX2_soakOrDry_0 : decode cX2_soakOrDry 0 = .ok (.iload_n 2, 1) := by decide +kernel
theorem dX2_soakOrDry_1 : decode cX2_soakOrDry 1 = .ok (.ifCond .le 21, 3) := by decide +kernel
theorem dX2_soakOrDry_4 : decode cX2_soakOrDry 4 = .ok (.aload_n 0, 1) := by decide +kernel
theorem dX2_soakOrDry_5 : decode cX2_soakOrDry 5 = .ok (.aload_n 0, 1) := by decide +kernel
theorem dX2_soakOrDry_6 : decode cX2_soakOrDry 6 = .ok (.getfield 9, 3) := by decide +kernel
theorem dX2_soakOrDry_9 : decode cX2_soakOrDry 9 = .ok (.iload_n 2, 1) := by decide +kernel
theorem dX2_soakOrDry_10 : decode cX2_soakOrDry 10 = .ok (.iadd, 1) := by decide +kernel
theorem dX2_soakOrDry_11 : decode cX2_soakOrDry 11 = .ok (.bipush 40, 2) := by decide +kernel
theorem dX2_soakOrDry_13 : decode cX2_soakOrDry 13 = .ok (.invokestatic 62, 3) := by decide +kernel
theorem dX2_soakOrDry_16 : decode cX2_soakOrDry 16 = .ok (.putfield 9, 3) := by decide +kernel
theorem dX2_soakOrDry_19 : decode cX2_soakOrDry 19 = .ok (.goto 59, 3) := by decide +kernel
theorem dX2_soakOrDry_22 : decode cX2_soakOrDry 22 = .ok (.aload_n 0, 1) := by decide +kernel
theorem dX2_soakOrDry_23 : decode cX2_soakOrDry 23 = .ok (.getfield 33, 3) := by decide +kernel
theorem dX2_soakOrDry_26 : decode cX2_soakOrDry 26 = .ok (.bipush 60, 2) := by decide +kernel
theorem dX2_soakOrDry_28 : decode cX2_soakOrDry 28 = .ok (.if_icmp .lt 50, 3) := by decide +kernel
theorem dX2_soakOrDry_31 : decode cX2_soakOrDry 31 = .ok (.aload_n 0, 1) := by decide +kernel
theorem dX2_soakOrDry_32 : decode cX2_soakOrDry 32 = .ok (.getfield 9, 3) := by decide +kernel
theorem dX2_soakOrDry_35 : decode cX2_soakOrDry 35 = .ok (.iload_n 1, 1) := by decide +kernel
theorem dX2_soakOrDry_36 : decode cX2_soakOrDry 36 = .ok (.iconst 4, 1) := by decide +kernel
theorem dX2_soakOrDry_37 : decode cX2_soakOrDry 37 = .ok (.idiv, 1) := by decide +kernel
theorem dX2_soakOrDry_38 : decode cX2_soakOrDry 38 = .ok (.if_icmp .ge 16, 3) := by decide +kernel
theorem dX2_soakOrDry_41 : decode cX2_soakOrDry 41 = .ok (.aload_n 0, 1) := by decide +kernel
theorem dX2_soakOrDry_42 : decode cX2_soakOrDry 42 = .ok (.dup, 1) := by decide +kernel
theorem dX2_soakOrDry_43 : decode cX2_soakOrDry 43 = .ok (.getfield 9, 3) := by decide +kernel
theorem dX2_soakOrDry_46 : decode cX2_soakOrDry 46 = .ok (.iconst 1, 1) := by decide +kernel
theorem dX2_soakOrDry_47 : decode cX2_soakOrDry 47 = .ok (.iadd, 1) := by decide +kernel
theorem dX2_soakOrDry_48 : decode cX2_soakOrDry 48 = .ok (.putfield 9, 3) := by decide +kernel
theorem dX2_soakOrDry_51 : decode cX2_soakOrDry 51 = .ok (.goto 27, 3) := by decide +kernel
theorem dX2_soakOrDry_54 : decode cX2_soakOrDry 54 = .ok (.aload_n 0, 1) := by decide +kernel
theorem dX2_soakOrDry_55 : decode cX2_soakOrDry 55 = .ok (.getfield 9, 3) := by decide +kernel
theorem dX2_soakOrDry_58 : decode cX2_soakOrDry 58 = .ok (.iload_n 1, 1) := by decide +kernel
theorem dX2_soakOrDry_59 : decode cX2_soakOrDry 59 = .ok (.iconst 4, 1) := by decide +kernel
theorem dX2_soakOrDry_60 : decode cX2_soakOrDry 60 = .ok (.idiv, 1) := by decide +kernel
theorem dX2_soakOrDry_61 : decode cX2_soakOrDry 61 = .ok (.if_icmp .le 17, 3) := by decide +kernel
theorem dX2_soakOrDry_64 : decode cX2_soakOrDry 64 = .ok (.aload_n 0, 1) := by decide +kernel
theorem dX2_soakOrDry_65 : decode cX2_soakOrDry 65 = .ok (.aload_n 0, 1) := by decide +kernel
theorem dX2_soakOrDry_66 : decode cX2_soakOrDry 66 = .ok (.getfield 9, 3) := by decide +kernel
theorem dX2_soakOrDry_69 : decode cX2_soakOrDry 69 = .ok (.iconst 1, 1) := by decide +kernel
theorem dX2_soakOrDry_70 : decode cX2_soakOrDry 70 = .ok (.isub, 1) := by decide +kernel
theorem dX2_soakOrDry_71 : decode cX2_soakOrDry 71 = .ok (.iconst 5, 1) := by decide +kernel
theorem dX2_soakOrDry_72 : decode cX2_soakOrDry 72 = .ok (.invokestatic 68, 3) := by decide +kernel
theorem dX2_soakOrDry_75 : decode cX2_soakOrDry 75 = .ok (.putfield 9, 3) := by decide +kernel
theorem dX2_soakOrDry_78 : decode cX2_soakOrDry 78 = .ok (.return_, 1) := by decide +kernel
theorem dX2_shatter_0 : decode cX2_shatter 0 = .ok (.aload_n 0, 1) := by decide +kernel
theorem dX2_shatter_1 : decode cX2_shatter 1 = .ok (.getfield 33, 3) := by decide +kernel
theorem dX2_shatter_4 : decode cX2_shatter 4 = .ok (.bipush 100, 2) := by decide +kernel
theorem dX2_shatter_6 : decode cX2_shatter 6 = .ok (.if_icmp .ge 4, 3) := by decide +kernel
theorem dX2_shatter_9 : decode cX2_shatter 9 = .ok (.return_, 1) := by decide +kernel
theorem dX2_shatter_10 : decode cX2_shatter 10 = .ok (.iload_n 1, 1) := by decide +kernel
theorem dX2_shatter_11 : decode cX2_shatter 11 = .ok (.bipush 12, 2) := by decide +kernel
theorem dX2_shatter_13 : decode cX2_shatter 13 = .ok (.if_icmp .lt 28, 3) := by decide +kernel
theorem dX2_shatter_16 : decode cX2_shatter 16 = .ok (.iload_n 1, 1) := by decide +kernel
theorem dX2_shatter_17 : decode cX2_shatter 17 = .ok (.bipush 17, 2) := by decide +kernel
theorem dX2_shatter_19 : decode cX2_shatter 19 = .ok (.if_icmp .gt 22, 3) := by decide +kernel
theorem dX2_shatter_22 : decode cX2_shatter 22 = .ok (.aload_n 0, 1) := by decide +kernel
theorem dX2_shatter_23 : decode cX2_shatter 23 = .ok (.getfield 9, 3) := by decide +kernel
theorem dX2_shatter_26 : decode cX2_shatter 26 = .ok (.bipush 14, 2) := by decide +kernel
theorem dX2_shatter_28 : decode cX2_shatter 28 = .ok (.if_icmp .ge 13, 3) := by decide +kernel
theorem dX2_shatter_31 : decode cX2_shatter 31 = .ok (.aload_n 0, 1) := by decide +kernel
theorem dX2_shatter_32 : decode cX2_shatter 32 = .ok (.dup, 1) := by decide +kernel
theorem dX2_shatter_33 : decode cX2_shatter 33 = .ok (.getfield 36, 3) := by decide +kernel
theorem dX2_shatter_36 : decode cX2_shatter 36 = .ok (.iconst 1, 1) := by decide +kernel
theorem dX2_shatter_37 : decode cX2_shatter 37 = .ok (.iadd, 1) := by decide +kernel
theorem dX2_shatter_38 : decode cX2_shatter 38 = .ok (.putfield 36, 3) := by decide +kernel
theorem dX2_shatter_41 : decode cX2_shatter 41 = .ok (.iload_n 2, 1) := by decide +kernel
theorem dX2_shatter_42 : decode cX2_shatter 42 = .ok (.bipush 10, 2) := by decide +kernel
theorem dX2_shatter_44 : decode cX2_shatter 44 = .ok (.if_icmp .lt 13, 3) := by decide +kernel
theorem dX2_shatter_47 : decode cX2_shatter 47 = .ok (.aload_n 0, 1) := by decide +kernel
theorem dX2_shatter_48 : decode cX2_shatter 48 = .ok (.dup, 1) := by decide +kernel
theorem dX2_shatter_49 : decode cX2_shatter 49 = .ok (.getfield 36, 3) := by decide +kernel
theorem dX2_shatter_52 : decode cX2_shatter 52 = .ok (.iconst 5, 1) := by decide +kernel
theorem dX2_shatter_53 : decode cX2_shatter 53 = .ok (.iadd, 1) := by decide +kernel
theorem dX2_shatter_54 : decode cX2_shatter 54 = .ok (.putfield 36, 3) := by decide +kernel
theorem dX2_shatter_57 : decode cX2_shatter 57 = .ok (.aload_n 0, 1) := by decide +kernel
theorem dX2_shatter_58 : decode cX2_shatter 58 = .ok (.aload_n 0, 1) := by decide +kernel
theorem dX2_shatter_59 : decode cX2_shatter 59 = .ok (.getfield 36, 3) := by decide +kernel
theorem dX2_shatter_62 : decode cX2_shatter 62 = .ok (.bipush 100, 2) := by decide +kernel
theorem dX2_shatter_64 : decode cX2_shatter 64 = .ok (.invokestatic 62, 3) := by decide +kernel
theorem dX2_shatter_67 : decode cX2_shatter 67 = .ok (.putfield 36, 3) := by decide +kernel
theorem dX2_shatter_70 : decode cX2_shatter 70 = .ok (.return_, 1) := by decide +kernel
theorem dX2_isFit_0 : decode cX2_isFit 0 = .ok (.aload_n 0, 1) := by decide +kernel
theorem dX2_isFit_1 : decode cX2_isFit 1 = .ok (.getfield 33, 3) := by decide +kernel
theorem dX2_isFit_4 : decode cX2_isFit 4 = .ok (.bipush 80, 2) := by decide +kernel
theorem dX2_isFit_6 : decode cX2_isFit 6 = .ok (.if_icmp .lt 22, 3) := by decide +kernel
theorem dX2_isFit_9 : decode cX2_isFit 9 = .ok (.aload_n 0, 1) := by decide +kernel
theorem dX2_isFit_10 : decode cX2_isFit 10 = .ok (.getfield 9, 3) := by decide +kernel
theorem dX2_isFit_13 : decode cX2_isFit 13 = .ok (.bipush 20, 2) := by decide +kernel
theorem dX2_isFit_15 : decode cX2_isFit 15 = .ok (.if_icmp .ge 13, 3) := by decide +kernel
theorem dX2_isFit_18 : decode cX2_isFit 18 = .ok (.iload_n 1, 1) := by decide +kernel
theorem dX2_isFit_19 : decode cX2_isFit 19 = .ok (.bipush 8, 2) := by decide +kernel
theorem dX2_isFit_21 : decode cX2_isFit 21 = .ok (.if_icmp .lt 7, 3) := by decide +kernel
theorem dX2_isFit_24 : decode cX2_isFit 24 = .ok (.iconst 1, 1) := by decide +kernel
theorem dX2_isFit_25 : decode cX2_isFit 25 = .ok (.goto 4, 3) := by decide +kernel
theorem dX2_isFit_28 : decode cX2_isFit 28 = .ok (.iconst 0, 1) := by decide +kernel
theorem dX2_isFit_29 : decode cX2_isFit 29 = .ok (.ireturn, 1) := by decide +kernel
theorem dX2_uncut_0 : decode cX2_uncut 0 = .ok (.aload_n 0, 1) := by decide +kernel
theorem dX2_uncut_1 : decode cX2_uncut 1 = .ok (.getfield 21, 3) := by decide +kernel
theorem dX2_uncut_4 : decode cX2_uncut 4 = .ok (.aload_n 0, 1) := by decide +kernel
theorem dX2_uncut_5 : decode cX2_uncut 5 = .ok (.getfield 30, 3) := by decide +kernel
theorem dX2_uncut_8 : decode cX2_uncut 8 = .ok (.isub, 1) := by decide +kernel
theorem dX2_uncut_9 : decode cX2_uncut 9 = .ok (.ireturn, 1) := by decide +kernel
theorem dX2_brings_0 : decode cX2_brings 0 = .ok (.aload_n 0, 1) := by decide +kernel
theorem dX2_brings_1 : decode cX2_brings 1 = .ok (.getfield 24, 3) := by decide +kernel
theorem dX2_brings_4 : decode cX2_brings 4 = .ok (.bipush 100, 2) := by decide +kernel
theorem dX2_brings_6 : decode cX2_brings 6 = .ok (.aload_n 0, 1) := by decide +kernel
theorem dX2_brings_7 : decode cX2_brings 7 = .ok (.getfield 36, 3) := by decide +kernel
theorem dX2_brings_10 : decode cX2_brings 10 = .ok (.isub, 1) := by decide +kernel
theorem dX2_brings_11 : decode cX2_brings 11 = .ok (.imul, 1) := by decide +kernel
theorem dX2_brings_12 : decode cX2_brings 12 = .ok (.bipush 100, 2) := by decide +kernel
theorem dX2_brings_14 : decode cX2_brings 14 = .ok (.idiv, 1) := by decide +kernel
theorem dX2_brings_15 : decode cX2_brings 15 = .ok (.ireturn, 1) := by decide +kernel
theorem dX2_correction_0 : decode cX2_correction 0 = .ok (.aload_n 0, 1) := by decide +kernel
theorem dX2_correction_1 : decode cX2_correction 1 = .ok (.getfield 39, 3) := by decide +kernel
theorem dX2_correction_4 : decode cX2_correction 4 = .ok (.ifCond .eq 7, 3) := by decide +kernel
theorem dX2_correction_7 : decode cX2_correction 7 = .ok (.iload_n 1, 1) := by decide +kernel
theorem dX2_correction_8 : decode cX2_correction 8 = .ok (.ifCond .le 7, 3) := by decide +kernel
theorem dX2_correction_11 : decode cX2_correction 11 = .ok (.iconst (-1), 1) := by decide +kernel
theorem dX2_correction_12 : decode cX2_correction 12 = .ok (.goto 16, 3) := by decide +kernel
theorem dX2_correction_15 : decode cX2_correction 15 = .ok (.aload_n 0, 1) := by decide +kernel
theorem dX2_correction_16 : decode cX2_correction 16 = .ok (.getfield 42, 3) := by decide +kernel
theorem dX2_correction_19 : decode cX2_correction 19 = .ok (.sipush 1000, 3) := by decide +kernel
theorem dX2_correction_22 : decode cX2_correction 22 = .ok (.imul, 1) := by decide +kernel
theorem dX2_correction_23 : decode cX2_correction 23 = .ok (.aload_n 0, 1) := by decide +kernel
theorem dX2_correction_24 : decode cX2_correction 24 = .ok (.getfield 39, 3) := by decide +kernel
theorem dX2_correction_27 : decode cX2_correction 27 = .ok (.idiv, 1) := by decide +kernel
theorem dX2_correction_28 : decode cX2_correction 28 = .ok (.ireturn, 1) := by decide +kernel
theorem dX2_credit_0 : decode cX2_credit 0 = .ok (.iload_n 2, 1) := by decide +kernel
theorem dX2_credit_1 : decode cX2_credit 1 = .ok (.aload_n 0, 1) := by decide +kernel
theorem dX2_credit_2 : decode cX2_credit 2 = .ok (.getfield 27, 3) := by decide +kernel
theorem dX2_credit_5 : decode cX2_credit 5 = .ok (.imul, 1) := by decide +kernel
theorem dX2_credit_6 : decode cX2_credit 6 = .ok (.bipush 100, 2) := by decide +kernel
theorem dX2_credit_8 : decode cX2_credit 8 = .ok (.idiv, 1) := by decide +kernel
theorem dX2_credit_9 : decode cX2_credit 9 = .ok (.istore_n 3, 1) := by decide +kernel
theorem dX2_credit_10 : decode cX2_credit 10 = .ok (.aload_n 0, 1) := by decide +kernel
theorem dX2_credit_11 : decode cX2_credit 11 = .ok (.dup, 1) := by decide +kernel
theorem dX2_credit_12 : decode cX2_credit 12 = .ok (.getfield 42, 3) := by decide +kernel
theorem dX2_credit_15 : decode cX2_credit 15 = .ok (.iload_n 1, 1) := by decide +kernel
theorem dX2_credit_16 : decode cX2_credit 16 = .ok (.iadd, 1) := by decide +kernel
theorem dX2_credit_17 : decode cX2_credit 17 = .ok (.putfield 42, 3) := by decide +kernel
theorem dX2_credit_20 : decode cX2_credit 20 = .ok (.aload_n 0, 1) := by decide +kernel
theorem dX2_credit_21 : decode cX2_credit 21 = .ok (.dup, 1) := by decide +kernel
theorem dX2_credit_22 : decode cX2_credit 22 = .ok (.getfield 48, 3) := by decide +kernel
theorem dX2_credit_25 : decode cX2_credit 25 = .ok (.iload_n 3, 1) := by decide +kernel
theorem dX2_credit_26 : decode cX2_credit 26 = .ok (.iadd, 1) := by decide +kernel
theorem dX2_credit_27 : decode cX2_credit 27 = .ok (.putfield 48, 3) := by decide +kernel
theorem dX2_credit_30 : decode cX2_credit 30 = .ok (.aload_n 0, 1) := by decide +kernel
theorem dX2_credit_31 : decode cX2_credit 31 = .ok (.dup, 1) := by decide +kernel
theorem dX2_credit_32 : decode cX2_credit 32 = .ok (.getfield 45, 3) := by decide +kernel
theorem dX2_credit_35 : decode cX2_credit 35 = .ok (.iload_n 2, 1) := by decide +kernel
theorem dX2_credit_36 : decode cX2_credit 36 = .ok (.iload_n 3, 1) := by decide +kernel
theorem dX2_credit_37 : decode cX2_credit 37 = .ok (.isub, 1) := by decide +kernel
theorem dX2_credit_38 : decode cX2_credit 38 = .ok (.iadd, 1) := by decide +kernel
theorem dX2_credit_39 : decode cX2_credit 39 = .ok (.putfield 45, 3) := by decide +kernel
theorem dX2_credit_42 : decode cX2_credit 42 = .ok (.return_, 1) := by decide +kernel
theorem dX3_init_0 : decode cX3_init 0 = .ok (.aload_n 0, 1) := by decide +kernel
theorem dX3_init_1 : decode cX3_init 1 = .ok (.invokespecial 3, 3) := by decide +kernel
theorem dX3_init_4 : decode cX3_init 4 = .ok (.aload_n 0, 1) := by decide +kernel
theorem dX3_init_5 : decode cX3_init 5 = .ok (.new 9, 3) := by decide +kernel
theorem dX3_init_8 : decode cX3_init 8 = .ok (.dup, 1) := by decide +kernel
theorem dX3_init_9 : decode cX3_init 9 = .ok (.invokespecial 11, 3) := by decide +kernel
theorem dX3_init_12 : decode cX3_init 12 = .ok (.putfield 12, 3) := by decide +kernel
theorem dX3_init_15 : decode cX3_init 15 = .ok (.aload_n 0, 1) := by decide +kernel
theorem dX3_init_16 : decode cX3_init 16 = .ok (.new 9, 3) := by decide +kernel
theorem dX3_init_19 : decode cX3_init 19 = .ok (.dup, 1) := by decide +kernel
theorem dX3_init_20 : decode cX3_init 20 = .ok (.invokespecial 11, 3) := by decide +kernel
theorem dX3_init_23 : decode cX3_init 23 = .ok (.putfield 18, 3) := by decide +kernel
theorem dX3_init_26 : decode cX3_init 26 = .ok (.aload_n 0, 1) := by decide +kernel
theorem dX3_init_27 : decode cX3_init 27 = .ok (.new 9, 3) := by decide +kernel
theorem dX3_init_30 : decode cX3_init 30 = .ok (.dup, 1) := by decide +kernel
theorem dX3_init_31 : decode cX3_init 31 = .ok (.invokespecial 11, 3) := by decide +kernel
theorem dX3_init_34 : decode cX3_init 34 = .ok (.putfield 21, 3) := by decide +kernel
theorem dX3_init_37 : decode cX3_init 37 = .ok (.aload_n 0, 1) := by decide +kernel
theorem dX3_init_38 : decode cX3_init 38 = .ok (.new 9, 3) := by decide +kernel
theorem dX3_init_41 : decode cX3_init 41 = .ok (.dup, 1) := by decide +kernel
theorem dX3_init_42 : decode cX3_init 42 = .ok (.invokespecial 11, 3) := by decide +kernel
theorem dX3_init_45 : decode cX3_init 45 = .ok (.putfield 24, 3) := by decide +kernel
theorem dX3_init_48 : decode cX3_init 48 = .ok (.aload_n 0, 1) := by decide +kernel
theorem dX3_init_49 : decode cX3_init 49 = .ok (.new 9, 3) := by decide +kernel
theorem dX3_init_52 : decode cX3_init 52 = .ok (.dup, 1) := by decide +kernel
theorem dX3_init_53 : decode cX3_init 53 = .ok (.invokespecial 11, 3) := by decide +kernel
theorem dX3_init_56 : decode cX3_init 56 = .ok (.putfield 27, 3) := by decide +kernel
theorem dX3_init_59 : decode cX3_init 59 = .ok (.aload_n 0, 1) := by decide +kernel
theorem dX3_init_60 : decode cX3_init 60 = .ok (.sipush 400, 3) := by decide +kernel
theorem dX3_init_63 : decode cX3_init 63 = .ok (.putfield 30, 3) := by decide +kernel
theorem dX3_init_66 : decode cX3_init 66 = .ok (.aload_n 0, 1) := by decide +kernel
theorem dX3_init_67 : decode cX3_init 67 = .ok (.sipush 1000, 3) := by decide +kernel
theorem dX3_init_70 : decode cX3_init 70 = .ok (.putfield 34, 3) := by decide +kernel
theorem dX3_init_73 : decode cX3_init 73 = .ok (.aload_n 0, 1) := by decide +kernel
theorem dX3_init_74 : decode cX3_init 74 = .ok (.iload_n 1, 1) := by decide +kernel
theorem dX3_init_75 : decode cX3_init 75 = .ok (.putfield 37, 3) := by decide +kernel
theorem dX3_init_78 : decode cX3_init 78 = .ok (.return_, 1) := by decide +kernel
theorem dX3_copyFrom_0 : decode cX3_copyFrom 0 = .ok (.aload_n 0, 1) := by decide +kernel
theorem dX3_copyFrom_1 : decode cX3_copyFrom 1 = .ok (.aload_n 1, 1) := by decide +kernel
theorem dX3_copyFrom_2 : decode cX3_copyFrom 2 = .ok (.getfield 41, 3) := by decide +kernel
theorem dX3_copyFrom_5 : decode cX3_copyFrom 5 = .ok (.putfield 41, 3) := by decide +kernel
theorem dX3_copyFrom_8 : decode cX3_copyFrom 8 = .ok (.aload_n 0, 1) := by decide +kernel
theorem dX3_copyFrom_9 : decode cX3_copyFrom 9 = .ok (.aload_n 1, 1) := by decide +kernel
theorem dX3_copyFrom_10 : decode cX3_copyFrom 10 = .ok (.getfield 30, 3) := by decide +kernel
theorem dX3_copyFrom_13 : decode cX3_copyFrom 13 = .ok (.putfield 30, 3) := by decide +kernel
theorem dX3_copyFrom_16 : decode cX3_copyFrom 16 = .ok (.aload_n 0, 1) := by decide +kernel
theorem dX3_copyFrom_17 : decode cX3_copyFrom 17 = .ok (.aload_n 1, 1) := by decide +kernel
theorem dX3_copyFrom_18 : decode cX3_copyFrom 18 = .ok (.getfield 34, 3) := by decide +kernel
theorem dX3_copyFrom_21 : decode cX3_copyFrom 21 = .ok (.putfield 34, 3) := by decide +kernel
theorem dX3_copyFrom_24 : decode cX3_copyFrom 24 = .ok (.aload_n 0, 1) := by decide +kernel
theorem dX3_copyFrom_25 : decode cX3_copyFrom 25 = .ok (.aload_n 1, 1) := by decide +kernel
theorem dX3_copyFrom_26 : decode cX3_copyFrom 26 = .ok (.invokevirtual 44, 3) := by decide +kernel
theorem dX3_copyFrom_29 : decode cX3_copyFrom 29 = .ok (.iconst 0, 1) := by decide +kernel
theorem dX3_copyFrom_30 : decode cX3_copyFrom 30 = .ok (.istore_n 2, 1) := by decide +kernel
theorem dX3_copyFrom_31 : decode cX3_copyFrom 31 = .ok (.iload_n 2, 1) := by decide +kernel
theorem dX3_copyFrom_32 : decode cX3_copyFrom 32 = .ok (.aload_n 1, 1) := by decide +kernel
theorem dX3_copyFrom_33 : decode cX3_copyFrom 33 = .ok (.getfield 12, 3) := by decide +kernel
theorem dX3_copyFrom_36 : decode cX3_copyFrom 36 = .ok (.invokevirtual 48, 3) := by decide +kernel
theorem dX3_copyFrom_39 : decode cX3_copyFrom 39 = .ok (.if_icmp .ge 45, 3) := by decide +kernel
theorem dX3_copyFrom_42 : decode cX3_copyFrom 42 = .ok (.iload_n 2, 1) := by decide +kernel
theorem dX3_copyFrom_43 : decode cX3_copyFrom 43 = .ok (.aload_n 0, 1) := by decide +kernel
theorem dX3_copyFrom_44 : decode cX3_copyFrom 44 = .ok (.getfield 12, 3) := by decide +kernel
theorem dX3_copyFrom_47 : decode cX3_copyFrom 47 = .ok (.invokevirtual 48, 3) := by decide +kernel
theorem dX3_copyFrom_50 : decode cX3_copyFrom 50 = .ok (.if_icmp .ge 34, 3) := by decide +kernel
theorem dX3_copyFrom_53 : decode cX3_copyFrom 53 = .ok (.aload_n 0, 1) := by decide +kernel
theorem dX3_copyFrom_54 : decode cX3_copyFrom 54 = .ok (.getfield 12, 3) := by decide +kernel
theorem dX3_copyFrom_57 : decode cX3_copyFrom 57 = .ok (.iload_n 2, 1) := by decide +kernel
theorem dX3_copyFrom_58 : decode cX3_copyFrom 58 = .ok (.invokevirtual 52, 3) := by decide +kernel
theorem dX3_copyFrom_61 : decode cX3_copyFrom 61 = .ok (.checkcast 56, 3) := by decide +kernel
theorem dX3_copyFrom_64 : decode cX3_copyFrom 64 = .ok (.aload_n 1, 1) := by decide +kernel
theorem dX3_copyFrom_65 : decode cX3_copyFrom 65 = .ok (.getfield 12, 3) := by decide +kernel
theorem dX3_copyFrom_68 : decode cX3_copyFrom 68 = .ok (.iload_n 2, 1) := by decide +kernel
theorem dX3_copyFrom_69 : decode cX3_copyFrom 69 = .ok (.invokevirtual 52, 3) := by decide +kernel
theorem dX3_copyFrom_72 : decode cX3_copyFrom 72 = .ok (.checkcast 56, 3) := by decide +kernel
theorem dX3_copyFrom_75 : decode cX3_copyFrom 75 = .ok (.invokevirtual 58, 3) := by decide +kernel
theorem dX3_copyFrom_78 : decode cX3_copyFrom 78 = .ok (.iinc 2 1, 3) := by decide +kernel
theorem dX3_copyFrom_81 : decode cX3_copyFrom 81 = .ok (.goto (-50), 3) := by decide +kernel
theorem dX3_copyFrom_84 : decode cX3_copyFrom 84 = .ok (.iconst 0, 1) := by decide +kernel
theorem dX3_copyFrom_85 : decode cX3_copyFrom 85 = .ok (.istore_n 2, 1) := by decide +kernel
theorem dX3_copyFrom_86 : decode cX3_copyFrom 86 = .ok (.iload_n 2, 1) := by decide +kernel
theorem dX3_copyFrom_87 : decode cX3_copyFrom 87 = .ok (.aload_n 1, 1) := by decide +kernel
theorem dX3_copyFrom_88 : decode cX3_copyFrom 88 = .ok (.getfield 18, 3) := by decide +kernel
theorem dX3_copyFrom_91 : decode cX3_copyFrom 91 = .ok (.invokevirtual 48, 3) := by decide +kernel
theorem dX3_copyFrom_94 : decode cX3_copyFrom 94 = .ok (.if_icmp .ge 45, 3) := by decide +kernel
theorem dX3_copyFrom_97 : decode cX3_copyFrom 97 = .ok (.iload_n 2, 1) := by decide +kernel
theorem dX3_copyFrom_98 : decode cX3_copyFrom 98 = .ok (.aload_n 0, 1) := by decide +kernel
theorem dX3_copyFrom_99 : decode cX3_copyFrom 99 = .ok (.getfield 18, 3) := by decide +kernel
theorem dX3_copyFrom_102 : decode cX3_copyFrom 102 = .ok (.invokevirtual 48, 3) := by decide +kernel
theorem dX3_copyFrom_105 : decode cX3_copyFrom 105 = .ok (.if_icmp .ge 34, 3) := by decide +kernel
theorem dX3_copyFrom_108 : decode cX3_copyFrom 108 = .ok (.aload_n 0, 1) := by decide +kernel
theorem dX3_copyFrom_109 : decode cX3_copyFrom 109 = .ok (.getfield 18, 3) := by decide +kernel
theorem dX3_copyFrom_112 : decode cX3_copyFrom 112 = .ok (.iload_n 2, 1) := by decide +kernel
theorem dX3_copyFrom_113 : decode cX3_copyFrom 113 = .ok (.invokevirtual 52, 3) := by decide +kernel
theorem dX3_copyFrom_116 : decode cX3_copyFrom 116 = .ok (.checkcast 62, 3) := by decide +kernel
theorem dX3_copyFrom_119 : decode cX3_copyFrom 119 = .ok (.aload_n 1, 1) := by decide +kernel
theorem dX3_copyFrom_120 : decode cX3_copyFrom 120 = .ok (.getfield 18, 3) := by decide +kernel
theorem dX3_copyFrom_123 : decode cX3_copyFrom 123 = .ok (.iload_n 2, 1) := by decide +kernel
theorem dX3_copyFrom_124 : decode cX3_copyFrom 124 = .ok (.invokevirtual 52, 3) := by decide +kernel
theorem dX3_copyFrom_127 : decode cX3_copyFrom 127 = .ok (.checkcast 62, 3) := by decide +kernel
theorem dX3_copyFrom_130 : decode cX3_copyFrom 130 = .ok (.invokevirtual 64, 3) := by decide +kernel
theorem dX3_copyFrom_133 : decode cX3_copyFrom 133 = .ok (.iinc 2 1, 3) := by decide +kernel
theorem dX3_copyFrom_136 : decode cX3_copyFrom 136 = .ok (.goto (-50), 3) := by decide +kernel
theorem dX3_copyFrom_139 : decode cX3_copyFrom 139 = .ok (.iconst 0, 1) := by decide +kernel
theorem dX3_copyFrom_140 : decode cX3_copyFrom 140 = .ok (.istore_n 2, 1) := by decide +kernel
theorem dX3_copyFrom_141 : decode cX3_copyFrom 141 = .ok (.iload_n 2, 1) := by decide +kernel
theorem dX3_copyFrom_142 : decode cX3_copyFrom 142 = .ok (.aload_n 1, 1) := by decide +kernel
theorem dX3_copyFrom_143 : decode cX3_copyFrom 143 = .ok (.getfield 21, 3) := by decide +kernel
theorem dX3_copyFrom_146 : decode cX3_copyFrom 146 = .ok (.invokevirtual 48, 3) := by decide +kernel
theorem dX3_copyFrom_149 : decode cX3_copyFrom 149 = .ok (.if_icmp .ge 45, 3) := by decide +kernel
theorem dX3_copyFrom_152 : decode cX3_copyFrom 152 = .ok (.iload_n 2, 1) := by decide +kernel
theorem dX3_copyFrom_153 : decode cX3_copyFrom 153 = .ok (.aload_n 0, 1) := by decide +kernel
theorem dX3_copyFrom_154 : decode cX3_copyFrom 154 = .ok (.getfield 21, 3) := by decide +kernel
theorem dX3_copyFrom_157 : decode cX3_copyFrom 157 = .ok (.invokevirtual 48, 3) := by decide +kernel
theorem dX3_copyFrom_160 : decode cX3_copyFrom 160 = .ok (.if_icmp .ge 34, 3) := by decide +kernel
theorem dX3_copyFrom_163 : decode cX3_copyFrom 163 = .ok (.aload_n 0, 1) := by decide +kernel
theorem dX3_copyFrom_164 : decode cX3_copyFrom 164 = .ok (.getfield 21, 3) := by decide +kernel
theorem dX3_copyFrom_167 : decode cX3_copyFrom 167 = .ok (.iload_n 2, 1) := by decide +kernel
theorem dX3_copyFrom_168 : decode cX3_copyFrom 168 = .ok (.invokevirtual 52, 3) := by decide +kernel
theorem dX3_copyFrom_171 : decode cX3_copyFrom 171 = .ok (.checkcast 67, 3) := by decide +kernel
theorem dX3_copyFrom_174 : decode cX3_copyFrom 174 = .ok (.aload_n 1, 1) := by decide +kernel
theorem dX3_copyFrom_175 : decode cX3_copyFrom 175 = .ok (.getfield 21, 3) := by decide +kernel
theorem dX3_copyFrom_178 : decode cX3_copyFrom 178 = .ok (.iload_n 2, 1) := by decide +kernel
theorem dX3_copyFrom_179 : decode cX3_copyFrom 179 = .ok (.invokevirtual 52, 3) := by decide +kernel
theorem dX3_copyFrom_182 : decode cX3_copyFrom 182 = .ok (.checkcast 67, 3) := by decide +kernel
theorem dX3_copyFrom_185 : decode cX3_copyFrom 185 = .ok (.invokevirtual 69, 3) := by decide +kernel
theorem dX3_copyFrom_188 : decode cX3_copyFrom 188 = .ok (.iinc 2 1, 3) := by decide +kernel
theorem dX3_copyFrom_191 : decode cX3_copyFrom 191 = .ok (.goto (-50), 3) := by decide +kernel
theorem dX3_copyFrom_194 : decode cX3_copyFrom 194 = .ok (.iconst 0, 1) := by decide +kernel
theorem dX3_copyFrom_195 : decode cX3_copyFrom 195 = .ok (.istore_n 2, 1) := by decide +kernel
theorem dX3_copyFrom_196 : decode cX3_copyFrom 196 = .ok (.iload_n 2, 1) := by decide +kernel
theorem dX3_copyFrom_197 : decode cX3_copyFrom 197 = .ok (.aload_n 1, 1) := by decide +kernel
theorem dX3_copyFrom_198 : decode cX3_copyFrom 198 = .ok (.getfield 24, 3) := by decide +kernel
theorem dX3_copyFrom_201 : decode cX3_copyFrom 201 = .ok (.invokevirtual 48, 3) := by decide +kernel
theorem dX3_copyFrom_204 : decode cX3_copyFrom 204 = .ok (.if_icmp .ge 45, 3) := by decide +kernel
theorem dX3_copyFrom_207 : decode cX3_copyFrom 207 = .ok (.iload_n 2, 1) := by decide +kernel
theorem dX3_copyFrom_208 : decode cX3_copyFrom 208 = .ok (.aload_n 0, 1) := by decide +kernel
theorem dX3_copyFrom_209 : decode cX3_copyFrom 209 = .ok (.getfield 24, 3) := by decide +kernel
theorem dX3_copyFrom_212 : decode cX3_copyFrom 212 = .ok (.invokevirtual 48, 3) := by decide +kernel
theorem dX3_copyFrom_215 : decode cX3_copyFrom 215 = .ok (.if_icmp .ge 34, 3) := by decide +kernel
theorem dX3_copyFrom_218 : decode cX3_copyFrom 218 = .ok (.aload_n 0, 1) := by decide +kernel
theorem dX3_copyFrom_219 : decode cX3_copyFrom 219 = .ok (.getfield 24, 3) := by decide +kernel
theorem dX3_copyFrom_222 : decode cX3_copyFrom 222 = .ok (.iload_n 2, 1) := by decide +kernel
theorem dX3_copyFrom_223 : decode cX3_copyFrom 223 = .ok (.invokevirtual 52, 3) := by decide +kernel
theorem dX3_copyFrom_226 : decode cX3_copyFrom 226 = .ok (.checkcast 72, 3) := by decide +kernel
theorem dX3_copyFrom_229 : decode cX3_copyFrom 229 = .ok (.aload_n 1, 1) := by decide +kernel
theorem dX3_copyFrom_230 : decode cX3_copyFrom 230 = .ok (.getfield 24, 3) := by decide +kernel
theorem dX3_copyFrom_233 : decode cX3_copyFrom 233 = .ok (.iload_n 2, 1) := by decide +kernel
theorem dX3_copyFrom_234 : decode cX3_copyFrom 234 = .ok (.invokevirtual 52, 3) := by decide +kernel
theorem dX3_copyFrom_237 : decode cX3_copyFrom 237 = .ok (.checkcast 72, 3) := by decide +kernel
theorem dX3_copyFrom_240 : decode cX3_copyFrom 240 = .ok (.invokevirtual 74, 3) := by decide +kernel
theorem dX3_copyFrom_243 : decode cX3_copyFrom 243 = .ok (.iinc 2 1, 3) := by decide +kernel
theorem dX3_copyFrom_246 : decode cX3_copyFrom 246 = .ok (.goto (-50), 3) := by decide +kernel
theorem dX3_copyFrom_249 : decode cX3_copyFrom 249 = .ok (.return_, 1) := by decide +kernel
theorem dX3_addRowsAs_0 : decode cX3_addRowsAs 0 = .ok (.aload_n 0, 1) := by decide +kernel
theorem dX3_addRowsAs_1 : decode cX3_addRowsAs 1 = .ok (.getfield 12, 3) := by decide +kernel
theorem dX3_addRowsAs_4 : decode cX3_addRowsAs 4 = .ok (.invokevirtual 48, 3) := by decide +kernel
theorem dX3_addRowsAs_7 : decode cX3_addRowsAs 7 = .ok (.istore_n 2, 1) := by decide +kernel
theorem dX3_addRowsAs_8 : decode cX3_addRowsAs 8 = .ok (.iload_n 2, 1) := by decide +kernel
theorem dX3_addRowsAs_9 : decode cX3_addRowsAs 9 = .ok (.aload_n 1, 1) := by decide +kernel
theorem dX3_addRowsAs_10 : decode cX3_addRowsAs 10 = .ok (.getfield 12, 3) := by decide +kernel
theorem dX3_addRowsAs_13 : decode cX3_addRowsAs 13 = .ok (.invokevirtual 48, 3) := by decide +kernel
theorem dX3_addRowsAs_16 : decode cX3_addRowsAs 16 = .ok (.if_icmp .ge 29, 3) := by decide +kernel
theorem dX3_addRowsAs_19 : decode cX3_addRowsAs 19 = .ok (.aload_n 0, 1) := by decide +kernel
theorem dX3_addRowsAs_20 : decode cX3_addRowsAs 20 = .ok (.getfield 12, 3) := by decide +kernel
theorem dX3_addRowsAs_23 : decode cX3_addRowsAs 23 = .ok (.new 56, 3) := by decide +kernel
theorem dX3_addRowsAs_26 : decode cX3_addRowsAs 26 = .ok (.dup, 1) := by decide +kernel
theorem dX3_addRowsAs_27 : decode cX3_addRowsAs 27 = .ok (.iconst 0, 1) := by decide +kernel
theorem dX3_addRowsAs_28 : decode cX3_addRowsAs 28 = .ok (.iconst 0, 1) := by decide +kernel
theorem dX3_addRowsAs_29 : decode cX3_addRowsAs 29 = .ok (.iconst 0, 1) := by decide +kernel
theorem dX3_addRowsAs_30 : decode cX3_addRowsAs 30 = .ok (.iconst 0, 1) := by decide +kernel
theorem dX3_addRowsAs_31 : decode cX3_addRowsAs 31 = .ok (.iconst 0, 1) := by decide +kernel
theorem dX3_addRowsAs_32 : decode cX3_addRowsAs 32 = .ok (.invokespecial 77, 3) := by decide +kernel
theorem dX3_addRowsAs_35 : decode cX3_addRowsAs 35 = .ok (.invokevirtual 80, 3) := by decide +kernel
theorem dX3_addRowsAs_38 : decode cX3_addRowsAs 38 = .ok (.pop, 1) := by decide +kernel
theorem dX3_addRowsAs_39 : decode cX3_addRowsAs 39 = .ok (.iinc 2 1, 3) := by decide +kernel
theorem dX3_addRowsAs_42 : decode cX3_addRowsAs 42 = .ok (.goto (-34), 3) := by decide +kernel
theorem dX3_addRowsAs_45 : decode cX3_addRowsAs 45 = .ok (.aload_n 0, 1) := by decide +kernel
theorem dX3_addRowsAs_46 : decode cX3_addRowsAs 46 = .ok (.getfield 18, 3) := by decide +kernel
theorem dX3_addRowsAs_49 : decode cX3_addRowsAs 49 = .ok (.invokevirtual 48, 3) := by decide +kernel
theorem dX3_addRowsAs_52 : decode cX3_addRowsAs 52 = .ok (.istore_n 2, 1) := by decide +kernel
theorem dX3_addRowsAs_53 : decode cX3_addRowsAs 53 = .ok (.iload_n 2, 1) := by decide +kernel
theorem dX3_addRowsAs_54 : decode cX3_addRowsAs 54 = .ok (.aload_n 1, 1) := by decide +kernel
theorem dX3_addRowsAs_55 : decode cX3_addRowsAs 55 = .ok (.getfield 18, 3) := by decide +kernel
theorem dX3_addRowsAs_58 : decode cX3_addRowsAs 58 = .ok (.invokevirtual 48, 3) := by decide +kernel
theorem dX3_addRowsAs_61 : decode cX3_addRowsAs 61 = .ok (.if_icmp .ge 27, 3) := by decide +kernel
theorem dX3_addRowsAs_64 : decode cX3_addRowsAs 64 = .ok (.aload_n 0, 1) := by decide +kernel
theorem dX3_addRowsAs_65 : decode cX3_addRowsAs 65 = .ok (.getfield 18, 3) := by decide +kernel
theorem dX3_addRowsAs_68 : decode cX3_addRowsAs 68 = .ok (.new 62, 3) := by decide +kernel
theorem dX3_addRowsAs_71 : decode cX3_addRowsAs 71 = .ok (.dup, 1) := by decide +kernel
theorem dX3_addRowsAs_72 : decode cX3_addRowsAs 72 = .ok (.iconst 0, 1) := by decide +kernel
theorem dX3_addRowsAs_73 : decode cX3_addRowsAs 73 = .ok (.iconst 0, 1) := by decide +kernel
theorem dX3_addRowsAs_74 : decode cX3_addRowsAs 74 = .ok (.iconst 0, 1) := by decide +kernel
theorem dX3_addRowsAs_75 : decode cX3_addRowsAs 75 = .ok (.invokespecial 84, 3) := by decide +kernel
theorem dX3_addRowsAs_78 : decode cX3_addRowsAs 78 = .ok (.invokevirtual 80, 3) := by decide +kernel
theorem dX3_addRowsAs_81 : decode cX3_addRowsAs 81 = .ok (.pop, 1) := by decide +kernel
theorem dX3_addRowsAs_82 : decode cX3_addRowsAs 82 = .ok (.iinc 2 1, 3) := by decide +kernel
theorem dX3_addRowsAs_85 : decode cX3_addRowsAs 85 = .ok (.goto (-32), 3) := by decide +kernel
theorem dX3_addRowsAs_88 : decode cX3_addRowsAs 88 = .ok (.aload_n 0, 1) := by decide +kernel
theorem dX3_addRowsAs_89 : decode cX3_addRowsAs 89 = .ok (.getfield 21, 3) := by decide +kernel
theorem dX3_addRowsAs_92 : decode cX3_addRowsAs 92 = .ok (.invokevirtual 48, 3) := by decide +kernel
theorem dX3_addRowsAs_95 : decode cX3_addRowsAs 95 = .ok (.istore_n 2, 1) := by decide +kernel
theorem dX3_addRowsAs_96 : decode cX3_addRowsAs 96 = .ok (.iload_n 2, 1) := by decide +kernel
theorem dX3_addRowsAs_97 : decode cX3_addRowsAs 97 = .ok (.aload_n 1, 1) := by decide +kernel
theorem dX3_addRowsAs_98 : decode cX3_addRowsAs 98 = .ok (.getfield 21, 3) := by decide +kernel
theorem dX3_addRowsAs_101 : decode cX3_addRowsAs 101 = .ok (.invokevirtual 48, 3) := by decide +kernel
theorem dX3_addRowsAs_104 : decode cX3_addRowsAs 104 = .ok (.if_icmp .ge 25, 3) := by decide +kernel
theorem dX3_addRowsAs_107 : decode cX3_addRowsAs 107 = .ok (.aload_n 0, 1) := by decide +kernel
theorem dX3_addRowsAs_108 : decode cX3_addRowsAs 108 = .ok (.getfield 21, 3) := by decide +kernel
theorem dX3_addRowsAs_111 : decode cX3_addRowsAs 111 = .ok (.new 67, 3) := by decide +kernel
theorem dX3_addRowsAs_114 : decode cX3_addRowsAs 114 = .ok (.dup, 1) := by decide +kernel
theorem dX3_addRowsAs_115 : decode cX3_addRowsAs 115 = .ok (.iconst 0, 1) := by decide +kernel
theorem dX3_addRowsAs_116 : decode cX3_addRowsAs 116 = .ok (.invokespecial 87, 3) := by decide +kernel
theorem dX3_addRowsAs_119 : decode cX3_addRowsAs 119 = .ok (.invokevirtual 80, 3) := by decide +kernel
theorem dX3_addRowsAs_122 : decode cX3_addRowsAs 122 = .ok (.pop, 1) := by decide +kernel
theorem dX3_addRowsAs_123 : decode cX3_addRowsAs 123 = .ok (.iinc 2 1, 3) := by decide +kernel
theorem dX3_addRowsAs_126 : decode cX3_addRowsAs 126 = .ok (.goto (-30), 3) := by decide +kernel
theorem dX3_addRowsAs_129 : decode cX3_addRowsAs 129 = .ok (.aload_n 0, 1) := by decide +kernel
theorem dX3_addRowsAs_130 : decode cX3_addRowsAs 130 = .ok (.getfield 24, 3) := by decide +kernel
theorem dX3_addRowsAs_133 : decode cX3_addRowsAs 133 = .ok (.invokevirtual 48, 3) := by decide +kernel
theorem dX3_addRowsAs_136 : decode cX3_addRowsAs 136 = .ok (.istore_n 2, 1) := by decide +kernel
theorem dX3_addRowsAs_137 : decode cX3_addRowsAs 137 = .ok (.iload_n 2, 1) := by decide +kernel
theorem dX3_addRowsAs_138 : decode cX3_addRowsAs 138 = .ok (.aload_n 1, 1) := by decide +kernel
theorem dX3_addRowsAs_139 : decode cX3_addRowsAs 139 = .ok (.getfield 24, 3) := by decide +kernel
theorem dX3_addRowsAs_142 : decode cX3_addRowsAs 142 = .ok (.invokevirtual 48, 3) := by decide +kernel
theorem dX3_addRowsAs_145 : decode cX3_addRowsAs 145 = .ok (.if_icmp .ge 30, 3) := by decide +kernel
theorem dX3_addRowsAs_148 : decode cX3_addRowsAs 148 = .ok (.aload_n 0, 1) := by decide +kernel
theorem dX3_addRowsAs_149 : decode cX3_addRowsAs 149 = .ok (.getfield 24, 3) := by decide +kernel
theorem dX3_addRowsAs_152 : decode cX3_addRowsAs 152 = .ok (.new 72, 3) := by decide +kernel
theorem dX3_addRowsAs_155 : decode cX3_addRowsAs 155 = .ok (.dup, 1) := by decide +kernel
theorem dX3_addRowsAs_156 : decode cX3_addRowsAs 156 = .ok (.iconst 0, 1) := by decide +kernel
theorem dX3_addRowsAs_157 : decode cX3_addRowsAs 157 = .ok (.iconst 0, 1) := by decide +kernel
theorem dX3_addRowsAs_158 : decode cX3_addRowsAs 158 = .ok (.iconst 0, 1) := by decide +kernel
theorem dX3_addRowsAs_159 : decode cX3_addRowsAs 159 = .ok (.iconst 0, 1) := by decide +kernel
theorem dX3_addRowsAs_160 : decode cX3_addRowsAs 160 = .ok (.iconst 0, 1) := by decide +kernel
theorem dX3_addRowsAs_161 : decode cX3_addRowsAs 161 = .ok (.iconst 0, 1) := by decide +kernel
theorem dX3_addRowsAs_162 : decode cX3_addRowsAs 162 = .ok (.invokespecial 90, 3) := by decide +kernel
theorem dX3_addRowsAs_165 : decode cX3_addRowsAs 165 = .ok (.invokevirtual 80, 3) := by decide +kernel
theorem dX3_addRowsAs_168 : decode cX3_addRowsAs 168 = .ok (.pop, 1) := by decide +kernel
theorem dX3_addRowsAs_169 : decode cX3_addRowsAs 169 = .ok (.iinc 2 1, 3) := by decide +kernel
theorem dX3_addRowsAs_172 : decode cX3_addRowsAs 172 = .ok (.goto (-35), 3) := by decide +kernel
theorem dX3_addRowsAs_175 : decode cX3_addRowsAs 175 = .ok (.return_, 1) := by decide +kernel
theorem dX3_fieldAt_0 : decode cX3_fieldAt 0 = .ok (.iload_n 1, 1) := by decide +kernel
theorem dX3_fieldAt_1 : decode cX3_fieldAt 1 = .ok (.ifCond .lt 28, 3) := by decide +kernel
theorem dX3_fieldAt_4 : decode cX3_fieldAt 4 = .ok (.iload_n 1, 1) := by decide +kernel
theorem dX3_fieldAt_5 : decode cX3_fieldAt 5 = .ok (.aload_n 0, 1) := by decide +kernel
theorem dX3_fieldAt_6 : decode cX3_fieldAt 6 = .ok (.getfield 12, 3) := by decide +kernel
theorem dX3_fieldAt_9 : decode cX3_fieldAt 9 = .ok (.invokevirtual 48, 3) := by decide +kernel
theorem dX3_fieldAt_12 : decode cX3_fieldAt 12 = .ok (.if_icmp .ge 17, 3) := by decide +kernel
theorem dX3_fieldAt_15 : decode cX3_fieldAt 15 = .ok (.aload_n 0, 1) := by decide +kernel
theorem dX3_fieldAt_16 : decode cX3_fieldAt 16 = .ok (.getfield 12, 3) := by decide +kernel
theorem dX3_fieldAt_19 : decode cX3_fieldAt 19 = .ok (.iload_n 1, 1) := by decide +kernel
theorem dX3_fieldAt_20 : decode cX3_fieldAt 20 = .ok (.invokevirtual 52, 3) := by decide +kernel
theorem dX3_fieldAt_23 : decode cX3_fieldAt 23 = .ok (.checkcast 56, 3) := by decide +kernel
theorem dX3_fieldAt_26 : decode cX3_fieldAt 26 = .ok (.goto 4, 3) := by decide +kernel
theorem dX3_fieldAt_29 : decode cX3_fieldAt 29 = .ok (.aconst_null, 1) := by decide +kernel
theorem dX3_fieldAt_30 : decode cX3_fieldAt 30 = .ok (.areturn, 1) := by decide +kernel
theorem dX3_combineAt_0 : decode cX3_combineAt 0 = .ok (.iload_n 1, 1) := by decide +kernel
theorem dX3_combineAt_1 : decode cX3_combineAt 1 = .ok (.ifCond .lt 28, 3) := by decide +kernel
theorem dX3_combineAt_4 : decode cX3_combineAt 4 = .ok (.iload_n 1, 1) := by decide +kernel
theorem dX3_combineAt_5 : decode cX3_combineAt 5 = .ok (.aload_n 0, 1) := by decide +kernel
theorem dX3_combineAt_6 : decode cX3_combineAt 6 = .ok (.getfield 18, 3) := by decide +kernel
theorem dX3_combineAt_9 : decode cX3_combineAt 9 = .ok (.invokevirtual 48, 3) := by decide +kernel
theorem dX3_combineAt_12 : decode cX3_combineAt 12 = .ok (.if_icmp .ge 17, 3) := by decide +kernel
theorem dX3_combineAt_15 : decode cX3_combineAt 15 = .ok (.aload_n 0, 1) := by decide +kernel
theorem dX3_combineAt_16 : decode cX3_combineAt 16 = .ok (.getfield 18, 3) := by decide +kernel
theorem dX3_combineAt_19 : decode cX3_combineAt 19 = .ok (.iload_n 1, 1) := by decide +kernel
theorem dX3_combineAt_20 : decode cX3_combineAt 20 = .ok (.invokevirtual 52, 3) := by decide +kernel
theorem dX3_combineAt_23 : decode cX3_combineAt 23 = .ok (.checkcast 62, 3) := by decide +kernel
theorem dX3_combineAt_26 : decode cX3_combineAt 26 = .ok (.goto 4, 3) := by decide +kernel
theorem dX3_combineAt_29 : decode cX3_combineAt 29 = .ok (.aconst_null, 1) := by decide +kernel
theorem dX3_combineAt_30 : decode cX3_combineAt 30 = .ok (.areturn, 1) := by decide +kernel
theorem dX3_truckAt_0 : decode cX3_truckAt 0 = .ok (.iload_n 1, 1) := by decide +kernel
theorem dX3_truckAt_1 : decode cX3_truckAt 1 = .ok (.ifCond .lt 28, 3) := by decide +kernel
theorem dX3_truckAt_4 : decode cX3_truckAt 4 = .ok (.iload_n 1, 1) := by decide +kernel
theorem dX3_truckAt_5 : decode cX3_truckAt 5 = .ok (.aload_n 0, 1) := by decide +kernel
theorem dX3_truckAt_6 : decode cX3_truckAt 6 = .ok (.getfield 21, 3) := by decide +kernel
theorem dX3_truckAt_9 : decode cX3_truckAt 9 = .ok (.invokevirtual 48, 3) := by decide +kernel
theorem dX3_truckAt_12 : decode cX3_truckAt 12 = .ok (.if_icmp .ge 17, 3) := by decide +kernel
theorem dX3_truckAt_15 : decode cX3_truckAt 15 = .ok (.aload_n 0, 1) := by decide +kernel
theorem dX3_truckAt_16 : decode cX3_truckAt 16 = .ok (.getfield 21, 3) := by decide +kernel
theorem dX3_truckAt_19 : decode cX3_truckAt 19 = .ok (.iload_n 1, 1) := by decide +kernel
theorem dX3_truckAt_20 : decode cX3_truckAt 20 = .ok (.invokevirtual 52, 3) := by decide +kernel
theorem dX3_truckAt_23 : decode cX3_truckAt 23 = .ok (.checkcast 67, 3) := by decide +kernel
theorem dX3_truckAt_26 : decode cX3_truckAt 26 = .ok (.goto 4, 3) := by decide +kernel
theorem dX3_truckAt_29 : decode cX3_truckAt 29 = .ok (.aconst_null, 1) := by decide +kernel
theorem dX3_truckAt_30 : decode cX3_truckAt 30 = .ok (.areturn, 1) := by decide +kernel
theorem dX3_elevatorAt_0 : decode cX3_elevatorAt 0 = .ok (.iload_n 1, 1) := by decide +kernel
theorem dX3_elevatorAt_1 : decode cX3_elevatorAt 1 = .ok (.ifCond .lt 28, 3) := by decide +kernel
theorem dX3_elevatorAt_4 : decode cX3_elevatorAt 4 = .ok (.iload_n 1, 1) := by decide +kernel
theorem dX3_elevatorAt_5 : decode cX3_elevatorAt 5 = .ok (.aload_n 0, 1) := by decide +kernel
theorem dX3_elevatorAt_6 : decode cX3_elevatorAt 6 = .ok (.getfield 24, 3) := by decide +kernel
theorem dX3_elevatorAt_9 : decode cX3_elevatorAt 9 = .ok (.invokevirtual 48, 3) := by decide +kernel
theorem dX3_elevatorAt_12 : decode cX3_elevatorAt 12 = .ok (.if_icmp .ge 17, 3) := by decide +kernel
theorem dX3_elevatorAt_15 : decode cX3_elevatorAt 15 = .ok (.aload_n 0, 1) := by decide +kernel
theorem dX3_elevatorAt_16 : decode cX3_elevatorAt 16 = .ok (.getfield 24, 3) := by decide +kernel
theorem dX3_elevatorAt_19 : decode cX3_elevatorAt 19 = .ok (.iload_n 1, 1) := by decide +kernel
theorem dX3_elevatorAt_20 : decode cX3_elevatorAt 20 = .ok (.invokevirtual 52, 3) := by decide +kernel
theorem dX3_elevatorAt_23 : decode cX3_elevatorAt 23 = .ok (.checkcast 72, 3) := by decide +kernel
theorem dX3_elevatorAt_26 : decode cX3_elevatorAt 26 = .ok (.goto 4, 3) := by decide +kernel
theorem dX3_elevatorAt_29 : decode cX3_elevatorAt 29 = .ok (.aconst_null, 1) := by decide +kernel
theorem dX3_elevatorAt_30 : decode cX3_elevatorAt 30 = .ok (.areturn, 1) := by decide +kernel
theorem dX3_ticketAt_0 : decode cX3_ticketAt 0 = .ok (.iload_n 1, 1) := by decide +kernel
theorem dX3_ticketAt_1 : decode cX3_ticketAt 1 = .ok (.ifCond .lt 28, 3) := by decide +kernel
theorem dX3_ticketAt_4 : decode cX3_ticketAt 4 = .ok (.iload_n 1, 1) := by decide +kernel
theorem dX3_ticketAt_5 : decode cX3_ticketAt 5 = .ok (.aload_n 0, 1) := by decide +kernel
theorem dX3_ticketAt_6 : decode cX3_ticketAt 6 = .ok (.getfield 27, 3) := by decide +kernel
theorem dX3_ticketAt_9 : decode cX3_ticketAt 9 = .ok (.invokevirtual 48, 3) := by decide +kernel
theorem dX3_ticketAt_12 : decode cX3_ticketAt 12 = .ok (.if_icmp .ge 17, 3) := by decide +kernel
theorem dX3_ticketAt_15 : decode cX3_ticketAt 15 = .ok (.aload_n 0, 1) := by decide +kernel
theorem dX3_ticketAt_16 : decode cX3_ticketAt 16 = .ok (.getfield 27, 3) := by decide +kernel
theorem dX3_ticketAt_19 : decode cX3_ticketAt 19 = .ok (.iload_n 1, 1) := by decide +kernel
theorem dX3_ticketAt_20 : decode cX3_ticketAt 20 = .ok (.invokevirtual 52, 3) := by decide +kernel
theorem dX3_ticketAt_23 : decode cX3_ticketAt 23 = .ok (.checkcast 93, 3) := by decide +kernel
theorem dX3_ticketAt_26 : decode cX3_ticketAt 26 = .ok (.goto 4, 3) := by decide +kernel
theorem dX3_ticketAt_29 : decode cX3_ticketAt 29 = .ok (.aconst_null, 1) := by decide +kernel
theorem dX3_ticketAt_30 : decode cX3_ticketAt 30 = .ok (.areturn, 1) := by decide +kernel
theorem dX3_clock_0 : decode cX3_clock 0 = .ok (.aload_n 0, 1) := by decide +kernel
theorem dX3_clock_1 : decode cX3_clock 1 = .ok (.getfield 41, 3) := by decide +kernel
theorem dX3_clock_4 : decode cX3_clock 4 = .ok (.bipush 24, 2) := by decide +kernel
theorem dX3_clock_6 : decode cX3_clock 6 = .ok (.irem, 1) := by decide +kernel
theorem dX3_clock_7 : decode cX3_clock 7 = .ok (.ireturn, 1) := by decide +kernel
theorem dX3_passHour_0 : decode cX3_passHour 0 = .ok (.aload_n 0, 1) := by decide +kernel
theorem dX3_passHour_1 : decode cX3_passHour 1 = .ok (.dup, 1) := by decide +kernel
theorem dX3_passHour_2 : decode cX3_passHour 2 = .ok (.getfield 41, 3) := by decide +kernel
theorem dX3_passHour_5 : decode cX3_passHour 5 = .ok (.iconst 1, 1) := by decide +kernel
theorem dX3_passHour_6 : decode cX3_passHour 6 = .ok (.iadd, 1) := by decide +kernel
theorem dX3_passHour_7 : decode cX3_passHour 7 = .ok (.putfield 41, 3) := by decide +kernel
theorem dX3_passHour_10 : decode cX3_passHour 10 = .ok (.iconst 0, 1) := by decide +kernel
theorem dX3_passHour_11 : decode cX3_passHour 11 = .ok (.istore 4, 2) := by decide +kernel
theorem dX3_passHour_13 : decode cX3_passHour 13 = .ok (.iload 4, 2) := by decide +kernel
theorem dX3_passHour_15 : decode cX3_passHour 15 = .ok (.aload_n 0, 1) := by decide +kernel
theorem dX3_passHour_16 : decode cX3_passHour 16 = .ok (.getfield 12, 3) := by decide +kernel
theorem dX3_passHour_19 : decode cX3_passHour 19 = .ok (.invokevirtual 48, 3) := by decide +kernel
theorem dX3_passHour_22 : decode cX3_passHour 22 = .ok (.if_icmp .ge 31, 3) := by decide +kernel
theorem dX3_passHour_25 : decode cX3_passHour 25 = .ok (.aload_n 0, 1) := by decide +kernel
theorem dX3_passHour_26 : decode cX3_passHour 26 = .ok (.getfield 12, 3) := by decide +kernel
theorem dX3_passHour_29 : decode cX3_passHour 29 = .ok (.iload 4, 2) := by decide +kernel
theorem dX3_passHour_31 : decode cX3_passHour 31 = .ok (.invokevirtual 52, 3) := by decide +kernel
theorem dX3_passHour_34 : decode cX3_passHour 34 = .ok (.checkcast 56, 3) := by decide +kernel
theorem dX3_passHour_37 : decode cX3_passHour 37 = .ok (.aload_n 0, 1) := by decide +kernel
theorem dX3_passHour_38 : decode cX3_passHour 38 = .ok (.invokevirtual 95, 3) := by decide +kernel
theorem dX3_passHour_41 : decode cX3_passHour 41 = .ok (.iload_n 1, 1) := by decide +kernel
theorem dX3_passHour_42 : decode cX3_passHour 42 = .ok (.iload_n 2, 1) := by decide +kernel
theorem dX3_passHour_43 : decode cX3_passHour 43 = .ok (.iload_n 3, 1) := by decide +kernel
theorem dX3_passHour_44 : decode cX3_passHour 44 = .ok (.invokevirtual 98, 3) := by decide +kernel
theorem dX3_passHour_47 : decode cX3_passHour 47 = .ok (.iinc 4 1, 3) := by decide +kernel
theorem dX3_passHour_50 : decode cX3_passHour 50 = .ok (.goto (-37), 3) := by decide +kernel
theorem dX3_passHour_53 : decode cX3_passHour 53 = .ok (.iconst 0, 1) := by decide +kernel
theorem dX3_passHour_54 : decode cX3_passHour 54 = .ok (.istore 4, 2) := by decide +kernel
theorem dX3_passHour_56 : decode cX3_passHour 56 = .ok (.iload 4, 2) := by decide +kernel
theorem dX3_passHour_58 : decode cX3_passHour 58 = .ok (.aload_n 0, 1) := by decide +kernel
theorem dX3_passHour_59 : decode cX3_passHour 59 = .ok (.getfield 18, 3) := by decide +kernel
theorem dX3_passHour_62 : decode cX3_passHour 62 = .ok (.invokevirtual 48, 3) := by decide +kernel
theorem dX3_passHour_65 : decode cX3_passHour 65 = .ok (.if_icmp .ge 42, 3) := by decide +kernel
theorem dX3_passHour_68 : decode cX3_passHour 68 = .ok (.aload_n 0, 1) := by decide +kernel
theorem dX3_passHour_69 : decode cX3_passHour 69 = .ok (.getfield 18, 3) := by decide +kernel
theorem dX3_passHour_72 : decode cX3_passHour 72 = .ok (.iload 4, 2) := by decide +kernel
theorem dX3_passHour_74 : decode cX3_passHour 74 = .ok (.invokevirtual 52, 3) := by decide +kernel
theorem dX3_passHour_77 : decode cX3_passHour 77 = .ok (.checkcast 62, 3) := by decide +kernel
theorem dX3_passHour_80 : decode cX3_passHour 80 = .ok (.astore 5, 2) := by decide +kernel
theorem dX3_passHour_82 : decode cX3_passHour 82 = .ok (.aload 5, 2) := by decide +kernel
theorem dX3_passHour_84 : decode cX3_passHour 84 = .ok (.aload_n 0, 1) := by decide +kernel
theorem dX3_passHour_85 : decode cX3_passHour 85 = .ok (.aload 5, 2) := by decide +kernel
theorem dX3_passHour_87 : decode cX3_passHour 87 = .ok (.getfield 102, 3) := by decide +kernel
theorem dX3_passHour_90 : decode cX3_passHour 90 = .ok (.invokevirtual 105, 3) := by decide +kernel
theorem dX3_passHour_93 : decode cX3_passHour 93 = .ok (.aload_n 0, 1) := by decide +kernel
theorem dX3_passHour_94 : decode cX3_passHour 94 = .ok (.invokevirtual 95, 3) := by decide +kernel
theorem dX3_passHour_97 : decode cX3_passHour 97 = .ok (.iload_n 3, 1) := by decide +kernel
theorem dX3_passHour_98 : decode cX3_passHour 98 = .ok (.invokevirtual 109, 3) := by decide +kernel
theorem dX3_passHour_101 : decode cX3_passHour 101 = .ok (.iinc 4 1, 3) := by decide +kernel
theorem dX3_passHour_104 : decode cX3_passHour 104 = .ok (.goto (-48), 3) := by decide +kernel
theorem dX3_passHour_107 : decode cX3_passHour 107 = .ok (.iconst 0, 1) := by decide +kernel
theorem dX3_passHour_108 : decode cX3_passHour 108 = .ok (.istore 4, 2) := by decide +kernel
theorem dX3_passHour_110 : decode cX3_passHour 110 = .ok (.iload 4, 2) := by decide +kernel
theorem dX3_passHour_112 : decode cX3_passHour 112 = .ok (.aload_n 0, 1) := by decide +kernel
theorem dX3_passHour_113 : decode cX3_passHour 113 = .ok (.getfield 21, 3) := by decide +kernel
theorem dX3_passHour_116 : decode cX3_passHour 116 = .ok (.invokevirtual 48, 3) := by decide +kernel
theorem dX3_passHour_119 : decode cX3_passHour 119 = .ok (.if_icmp .ge 25, 3) := by decide +kernel
theorem dX3_passHour_122 : decode cX3_passHour 122 = .ok (.aload_n 0, 1) := by decide +kernel
theorem dX3_passHour_123 : decode cX3_passHour 123 = .ok (.aload_n 0, 1) := by decide +kernel
theorem dX3_passHour_124 : decode cX3_passHour 124 = .ok (.getfield 21, 3) := by decide +kernel
theorem dX3_passHour_127 : decode cX3_passHour 127 = .ok (.iload 4, 2) := by decide +kernel
theorem dX3_passHour_129 : decode cX3_passHour 129 = .ok (.invokevirtual 52, 3) := by decide +kernel
theorem dX3_passHour_132 : decode cX3_passHour 132 = .ok (.checkcast 67, 3) := by decide +kernel
theorem dX3_passHour_135 : decode cX3_passHour 135 = .ok (.invokevirtual 112, 3) := by decide +kernel
theorem dX3_passHour_138 : decode cX3_passHour 138 = .ok (.iinc 4 1, 3) := by decide +kernel
theorem dX3_passHour_141 : decode cX3_passHour 141 = .ok (.goto (-31), 3) := by decide +kernel
theorem dX3_passHour_144 : decode cX3_passHour 144 = .ok (.return_, 1) := by decide +kernel
theorem dX3_passTruckHour_0 : decode cX3_passTruckHour 0 = .ok (.aload_n 0, 1) := by decide +kernel
theorem dX3_passTruckHour_1 : decode cX3_passTruckHour 1 = .ok (.aload_n 1, 1) := by decide +kernel
theorem dX3_passTruckHour_2 : decode cX3_passTruckHour 2 = .ok (.getfield 115, 3) := by decide +kernel
theorem dX3_passTruckHour_5 : decode cX3_passTruckHour 5 = .ok (.invokevirtual 118, 3) := by decide +kernel
theorem dX3_passTruckHour_8 : decode cX3_passTruckHour 8 = .ok (.astore_n 2, 1) := by decide +kernel
theorem dX3_passTruckHour_9 : decode cX3_passTruckHour 9 = .ok (.aload_n 0, 1) := by decide +kernel
theorem dX3_passTruckHour_10 : decode cX3_passTruckHour 10 = .ok (.aload_n 1, 1) := by decide +kernel
theorem dX3_passTruckHour_11 : decode cX3_passTruckHour 11 = .ok (.getfield 122, 3) := by decide +kernel
theorem dX3_passTruckHour_14 : decode cX3_passTruckHour 14 = .ok (.invokevirtual 125, 3) := by decide +kernel
theorem dX3_passTruckHour_17 : decode cX3_passTruckHour 17 = .ok (.astore_n 3, 1) := by decide +kernel
theorem dX3_passTruckHour_18 : decode cX3_passTruckHour 18 = .ok (.aload_n 1, 1) := by decide +kernel
theorem dX3_passTruckHour_19 : decode cX3_passTruckHour 19 = .ok (.invokevirtual 129, 3) := by decide +kernel
theorem dX3_passTruckHour_22 : decode cX3_passTruckHour 22 = .ok (.ifCond .eq 10, 3) := by decide +kernel
theorem dX3_passTruckHour_25 : decode cX3_passTruckHour 25 = .ok (.aload_n 1, 1) := by decide +kernel
theorem dX3_passTruckHour_26 : decode cX3_passTruckHour 26 = .ok (.invokevirtual 133, 3) := by decide +kernel
theorem dX3_passTruckHour_29 : decode cX3_passTruckHour 29 = .ok (.goto 76, 3) := by decide +kernel
theorem dX3_passTruckHour_32 : decode cX3_passTruckHour 32 = .ok (.aload_n 2, 1) := by decide +kernel
theorem dX3_passTruckHour_33 : decode cX3_passTruckHour 33 = .ok (.ifnull 33, 3) := by decide +kernel
theorem dX3_passTruckHour_36 : decode cX3_passTruckHour 36 = .ok (.aload_n 1, 1) := by decide +kernel
theorem dX3_passTruckHour_37 : decode cX3_passTruckHour 37 = .ok (.getfield 136, 3) := by decide +kernel
theorem dX3_passTruckHour_40 : decode cX3_passTruckHour 40 = .ok (.aload_n 2, 1) := by decide +kernel
theorem dX3_passTruckHour_41 : decode cX3_passTruckHour 41 = .ok (.getfield 139, 3) := by decide +kernel
theorem dX3_passTruckHour_44 : decode cX3_passTruckHour 44 = .ok (.if_icmp .eq 14, 3) := by decide +kernel
theorem dX3_passTruckHour_47 : decode cX3_passTruckHour 47 = .ok (.aload_n 1, 1) := by decide +kernel
theorem dX3_passTruckHour_48 : decode cX3_passTruckHour 48 = .ok (.aload_n 2, 1) := by decide +kernel
theorem dX3_passTruckHour_49 : decode cX3_passTruckHour 49 = .ok (.getfield 139, 3) := by decide +kernel
theorem dX3_passTruckHour_52 : decode cX3_passTruckHour 52 = .ok (.invokevirtual 140, 3) := by decide +kernel
theorem dX3_passTruckHour_55 : decode cX3_passTruckHour 55 = .ok (.goto 50, 3) := by decide +kernel
theorem dX3_passTruckHour_58 : decode cX3_passTruckHour 58 = .ok (.aload_n 1, 1) := by decide +kernel
theorem dX3_passTruckHour_59 : decode cX3_passTruckHour 59 = .ok (.aload_n 2, 1) := by decide +kernel
theorem dX3_passTruckHour_60 : decode cX3_passTruckHour 60 = .ok (.invokevirtual 143, 3) := by decide +kernel
theorem dX3_passTruckHour_63 : decode cX3_passTruckHour 63 = .ok (.goto 42, 3) := by decide +kernel
theorem dX3_passTruckHour_66 : decode cX3_passTruckHour 66 = .ok (.aload_n 3, 1) := by decide +kernel
theorem dX3_passTruckHour_67 : decode cX3_passTruckHour 67 = .ok (.ifnull 38, 3) := by decide +kernel
theorem dX3_passTruckHour_70 : decode cX3_passTruckHour 70 = .ok (.aload_n 1, 1) := by decide +kernel
theorem dX3_passTruckHour_71 : decode cX3_passTruckHour 71 = .ok (.getfield 136, 3) := by decide +kernel
theorem dX3_passTruckHour_74 : decode cX3_passTruckHour 74 = .ok (.aload_n 3, 1) := by decide +kernel
theorem dX3_passTruckHour_75 : decode cX3_passTruckHour 75 = .ok (.getfield 146, 3) := by decide +kernel
theorem dX3_passTruckHour_78 : decode cX3_passTruckHour 78 = .ok (.if_icmp .eq 14, 3) := by decide +kernel
theorem dX3_passTruckHour_81 : decode cX3_passTruckHour 81 = .ok (.aload_n 1, 1) := by decide +kernel
theorem dX3_passTruckHour_82 : decode cX3_passTruckHour 82 = .ok (.aload_n 3, 1) := by decide +kernel
theorem dX3_passTruckHour_83 : decode cX3_passTruckHour 83 = .ok (.getfield 146, 3) := by decide +kernel
theorem dX3_passTruckHour_86 : decode cX3_passTruckHour 86 = .ok (.invokevirtual 140, 3) := by decide +kernel
theorem dX3_passTruckHour_89 : decode cX3_passTruckHour 89 = .ok (.goto 16, 3) := by decide +kernel
theorem dX3_passTruckHour_92 : decode cX3_passTruckHour 92 = .ok (.aload_n 1, 1) := by decide +kernel
theorem dX3_passTruckHour_93 : decode cX3_passTruckHour 93 = .ok (.getfield 147, 3) := by decide +kernel
theorem dX3_passTruckHour_96 : decode cX3_passTruckHour 96 = .ok (.ifCond .le 9, 3) := by decide +kernel
theorem dX3_passTruckHour_99 : decode cX3_passTruckHour 99 = .ok (.aload_n 0, 1) := by decide +kernel
theorem dX3_passTruckHour_100 : decode cX3_passTruckHour 100 = .ok (.aload_n 1, 1) := by decide +kernel
theorem dX3_passTruckHour_101 : decode cX3_passTruckHour 101 = .ok (.aload_n 3, 1) := by decide +kernel
theorem dX3_passTruckHour_102 : decode cX3_passTruckHour 102 = .ok (.invokevirtual 150, 3) := by decide +kernel
theorem dX3_passTruckHour_105 : decode cX3_passTruckHour 105 = .ok (.return_, 1) := by decide +kernel
theorem dX3_unload_0 : decode cX3_unload 0 = .ok (.aload_n 2, 1) := by decide +kernel
theorem dX3_unload_1 : decode cX3_unload 1 = .ok (.aload_n 1, 1) := by decide +kernel
theorem dX3_unload_2 : decode cX3_unload 2 = .ok (.aload_n 0, 1) := by decide +kernel
theorem dX3_unload_3 : decode cX3_unload 3 = .ok (.invokevirtual 95, 3) := by decide +kernel
theorem dX3_unload_6 : decode cX3_unload 6 = .ok (.invokevirtual 154, 3) := by decide +kernel
theorem dX3_unload_9 : decode cX3_unload 9 = .ok (.ifCond .ne 14, 3) := by decide +kernel
theorem dX3_unload_12 : decode cX3_unload 12 = .ok (.aload_n 1, 1) := by decide +kernel
theorem dX3_unload_13 : decode cX3_unload 13 = .ok (.dup, 1) := by decide +kernel
theorem dX3_unload_14 : decode cX3_unload 14 = .ok (.getfield 158, 3) := by decide +kernel
theorem dX3_unload_17 : decode cX3_unload 17 = .ok (.iconst 1, 1) := by decide +kernel
theorem dX3_unload_18 : decode cX3_unload 18 = .ok (.iadd, 1) := by decide +kernel
theorem dX3_unload_19 : decode cX3_unload 19 = .ok (.putfield 158, 3) := by decide +kernel
theorem dX3_unload_22 : decode cX3_unload 22 = .ok (.return_, 1) := by decide +kernel
theorem dX3_unload_23 : decode cX3_unload 23 = .ok (.aload_n 2, 1) := by decide +kernel
theorem dX3_unload_24 : decode cX3_unload 24 = .ok (.dup, 1) := by decide +kernel
theorem dX3_unload_25 : decode cX3_unload 25 = .ok (.getfield 161, 3) := by decide +kernel
theorem dX3_unload_28 : decode cX3_unload 28 = .ok (.aload_n 1, 1) := by decide +kernel
theorem dX3_unload_29 : decode cX3_unload 29 = .ok (.getfield 147, 3) := by decide +kernel
theorem dX3_unload_32 : decode cX3_unload 32 = .ok (.isub, 1) := by decide +kernel
theorem dX3_unload_33 : decode cX3_unload 33 = .ok (.putfield 161, 3) := by decide +kernel
theorem dX3_unload_36 : decode cX3_unload 36 = .ok (.aload_n 0, 1) := by decide +kernel
theorem dX3_unload_37 : decode cX3_unload 37 = .ok (.getfield 37, 3) := by decide +kernel
theorem dX3_unload_40 : decode cX3_unload 40 = .ok (.ifCond .ne 9, 3) := by decide +kernel
theorem dX3_unload_43 : decode cX3_unload 43 = .ok (.aload_n 0, 1) := by decide +kernel
theorem dX3_unload_44 : decode cX3_unload 44 = .ok (.aload_n 1, 1) := by decide +kernel
theorem dX3_unload_45 : decode cX3_unload 45 = .ok (.aload_n 2, 1) := by decide +kernel
theorem dX3_unload_46 : decode cX3_unload 46 = .ok (.invokevirtual 164, 3) := by decide +kernel
theorem dX3_unload_49 : decode cX3_unload 49 = .ok (.aload_n 1, 1) := by decide +kernel
theorem dX3_unload_50 : decode cX3_unload 50 = .ok (.iconst 0, 1) := by decide +kernel
theorem dX3_unload_51 : decode cX3_unload 51 = .ok (.putfield 147, 3) := by decide +kernel
theorem dX3_unload_54 : decode cX3_unload 54 = .ok (.return_, 1) := by decide +kernel
theorem dX3_writeTicket_0 : decode cX3_writeTicket 0 = .ok (.new 93, 3) := by decide +kernel
theorem dX3_writeTicket_3 : decode cX3_writeTicket 3 = .ok (.dup, 1) := by decide +kernel
theorem dX3_writeTicket_4 : decode cX3_writeTicket 4 = .ok (.aload_n 1, 1) := by decide +kernel
theorem dX3_writeTicket_5 : decode cX3_writeTicket 5 = .ok (.aload_n 2, 1) := by decide +kernel
theorem dX3_writeTicket_6 : decode cX3_writeTicket 6 = .ok (.aload_n 1, 1) := by decide +kernel
theorem dX3_writeTicket_7 : decode cX3_writeTicket 7 = .ok (.getfield 167, 3) := by decide +kernel
theorem dX3_writeTicket_10 : decode cX3_writeTicket 10 = .ok (.invokevirtual 170, 3) := by decide +kernel
theorem dX3_writeTicket_13 : decode cX3_writeTicket 13 = .ok (.aload_n 0, 1) := by decide +kernel
theorem dX3_writeTicket_14 : decode cX3_writeTicket 14 = .ok (.getfield 41, 3) := by decide +kernel
theorem dX3_writeTicket_17 : decode cX3_writeTicket 17 = .ok (.aload_n 0, 1) := by decide +kernel
theorem dX3_writeTicket_18 : decode cX3_writeTicket 18 = .ok (.getfield 30, 3) := by decide +kernel
theorem dX3_writeTicket_21 : decode cX3_writeTicket 21 = .ok (.invokespecial 174, 3) := by decide +kernel
theorem dX3_writeTicket_24 : decode cX3_writeTicket 24 = .ok (.astore_n 3, 1) := by decide +kernel
theorem dX3_writeTicket_25 : decode cX3_writeTicket 25 = .ok (.aload_n 0, 1) := by decide +kernel
theorem dX3_writeTicket_26 : decode cX3_writeTicket 26 = .ok (.getfield 27, 3) := by decide +kernel
theorem dX3_writeTicket_29 : decode cX3_writeTicket 29 = .ok (.aload_n 3, 1) := by decide +kernel
theorem dX3_writeTicket_30 : decode cX3_writeTicket 30 = .ok (.invokevirtual 80, 3) := by decide +kernel
theorem dX3_writeTicket_33 : decode cX3_writeTicket 33 = .ok (.pop, 1) := by decide +kernel
theorem dX3_writeTicket_34 : decode cX3_writeTicket 34 = .ok (.aload_n 0, 1) := by decide +kernel
theorem dX3_writeTicket_35 : decode cX3_writeTicket 35 = .ok (.dup, 1) := by decide +kernel
theorem dX3_writeTicket_36 : decode cX3_writeTicket 36 = .ok (.getfield 34, 3) := by decide +kernel
theorem dX3_writeTicket_39 : decode cX3_writeTicket 39 = .ok (.iconst 2, 1) := by decide +kernel
theorem dX3_writeTicket_40 : decode cX3_writeTicket 40 = .ok (.aload_n 3, 1) := by decide +kernel
theorem dX3_writeTicket_41 : decode cX3_writeTicket 41 = .ok (.getfield 177, 3) := by decide +kernel
theorem dX3_writeTicket_44 : decode cX3_writeTicket 44 = .ok (.bipush 10, 2) := by decide +kernel
theorem dX3_writeTicket_46 : decode cX3_writeTicket 46 = .ok (.idiv, 1) := by decide +kernel
theorem dX3_writeTicket_47 : decode cX3_writeTicket 47 = .ok (.imul, 1) := by decide +kernel
theorem dX3_writeTicket_48 : decode cX3_writeTicket 48 = .ok (.iadd, 1) := by decide +kernel
theorem dX3_writeTicket_49 : decode cX3_writeTicket 49 = .ok (.putfield 34, 3) := by decide +kernel
theorem dX3_writeTicket_52 : decode cX3_writeTicket 52 = .ok (.aload_n 0, 1) := by decide +kernel
theorem dX3_writeTicket_53 : decode cX3_writeTicket 53 = .ok (.aload_n 3, 1) := by decide +kernel
theorem dX3_writeTicket_54 : decode cX3_writeTicket 54 = .ok (.getfield 180, 3) := by decide +kernel
theorem dX3_writeTicket_57 : decode cX3_writeTicket 57 = .ok (.invokevirtual 105, 3) := by decide +kernel
theorem dX3_writeTicket_60 : decode cX3_writeTicket 60 = .ok (.astore 4, 2) := by decide +kernel
theorem dX3_writeTicket_62 : decode cX3_writeTicket 62 = .ok (.aload 4, 2) := by decide +kernel
theorem dX3_writeTicket_64 : decode cX3_writeTicket 64 = .ok (.ifnull 16, 3) := by decide +kernel
theorem dX3_writeTicket_67 : decode cX3_writeTicket 67 = .ok (.aload 4, 2) := by decide +kernel
theorem dX3_writeTicket_69 : decode cX3_writeTicket 69 = .ok (.aload_n 3, 1) := by decide +kernel
theorem dX3_writeTicket_70 : decode cX3_writeTicket 70 = .ok (.getfield 177, 3) := by decide +kernel
theorem dX3_writeTicket_73 : decode cX3_writeTicket 73 = .ok (.aload_n 3, 1) := by decide +kernel
theorem dX3_writeTicket_74 : decode cX3_writeTicket 74 = .ok (.getfield 183, 3) := by decide +kernel
theorem dX3_writeTicket_77 : decode cX3_writeTicket 77 = .ok (.invokevirtual 186, 3) := by decide +kernel
theorem dX3_writeTicket_80 : decode cX3_writeTicket 80 = .ok (.return_, 1) := by decide +kernel
theorem dX3_combinesSentTo_0 : decode cX3_combinesSentTo 0 = .ok (.iconst 0, 1) := by decide +kernel
theorem dX3_combinesSentTo_1 : decode cX3_combinesSentTo 1 = .ok (.istore_n 2, 1) := by decide +kernel
theorem dX3_combinesSentTo_2 : decode cX3_combinesSentTo 2 = .ok (.iconst 0, 1) := by decide +kernel
theorem dX3_combinesSentTo_3 : decode cX3_combinesSentTo 3 = .ok (.istore_n 3, 1) := by decide +kernel
theorem dX3_combinesSentTo_4 : decode cX3_combinesSentTo 4 = .ok (.iload_n 3, 1) := by decide +kernel
theorem dX3_combinesSentTo_5 : decode cX3_combinesSentTo 5 = .ok (.aload_n 0, 1) := by decide +kernel
theorem dX3_combinesSentTo_6 : decode cX3_combinesSentTo 6 = .ok (.getfield 18, 3) := by decide +kernel
theorem dX3_combinesSentTo_9 : decode cX3_combinesSentTo 9 = .ok (.invokevirtual 48, 3) := by decide +kernel
theorem dX3_combinesSentTo_12 : decode cX3_combinesSentTo 12 = .ok (.if_icmp .ge 30, 3) := by decide +kernel
theorem dX3_combinesSentTo_15 : decode cX3_combinesSentTo 15 = .ok (.aload_n 0, 1) := by decide +kernel
theorem dX3_combinesSentTo_16 : decode cX3_combinesSentTo 16 = .ok (.getfield 18, 3) := by decide +kernel
theorem dX3_combinesSentTo_19 : decode cX3_combinesSentTo 19 = .ok (.iload_n 3, 1) := by decide +kernel
theorem dX3_combinesSentTo_20 : decode cX3_combinesSentTo 20 = .ok (.invokevirtual 52, 3) := by decide +kernel
theorem dX3_combinesSentTo_23 : decode cX3_combinesSentTo 23 = .ok (.checkcast 62, 3) := by decide +kernel
theorem dX3_combinesSentTo_26 : decode cX3_combinesSentTo 26 = .ok (.getfield 102, 3) := by decide +kernel
theorem dX3_combinesSentTo_29 : decode cX3_combinesSentTo 29 = .ok (.iload_n 1, 1) := by decide +kernel
theorem dX3_combinesSentTo_30 : decode cX3_combinesSentTo 30 = .ok (.if_icmp .ne 6, 3) := by decide +kernel
theorem dX3_combinesSentTo_33 : decode cX3_combinesSentTo 33 = .ok (.iinc 2 1, 3) := by decide +kernel
theorem dX3_combinesSentTo_36 : decode cX3_combinesSentTo 36 = .ok (.iinc 3 1, 3) := by decide +kernel
theorem dX3_combinesSentTo_39 : decode cX3_combinesSentTo 39 = .ok (.goto (-35), 3) := by decide +kernel
theorem dX3_combinesSentTo_42 : decode cX3_combinesSentTo 42 = .ok (.iload_n 2, 1) := by decide +kernel
theorem dX3_combinesSentTo_43 : decode cX3_combinesSentTo 43 = .ok (.ireturn, 1) := by decide +kernel
theorem dX3_onTheWay_0 : decode cX3_onTheWay 0 = .ok (.iconst 0, 1) := by decide +kernel
theorem dX3_onTheWay_1 : decode cX3_onTheWay 1 = .ok (.istore_n 2, 1) := by decide +kernel
theorem dX3_onTheWay_2 : decode cX3_onTheWay 2 = .ok (.iconst 0, 1) := by decide +kernel
theorem dX3_onTheWay_3 : decode cX3_onTheWay 3 = .ok (.istore_n 3, 1) := by decide +kernel
theorem dX3_onTheWay_4 : decode cX3_onTheWay 4 = .ok (.iload_n 3, 1) := by decide +kernel
theorem dX3_onTheWay_5 : decode cX3_onTheWay 5 = .ok (.aload_n 0, 1) := by decide +kernel
theorem dX3_onTheWay_6 : decode cX3_onTheWay 6 = .ok (.getfield 18, 3) := by decide +kernel
theorem dX3_onTheWay_9 : decode cX3_onTheWay 9 = .ok (.invokevirtual 48, 3) := by decide +kernel
theorem dX3_onTheWay_12 : decode cX3_onTheWay 12 = .ok (.if_icmp .ge 43, 3) := by decide +kernel
theorem dX3_onTheWay_15 : decode cX3_onTheWay 15 = .ok (.aload_n 0, 1) := by decide +kernel
theorem dX3_onTheWay_16 : decode cX3_onTheWay 16 = .ok (.getfield 18, 3) := by decide +kernel
theorem dX3_onTheWay_19 : decode cX3_onTheWay 19 = .ok (.iload_n 3, 1) := by decide +kernel
theorem dX3_onTheWay_20 : decode cX3_onTheWay 20 = .ok (.invokevirtual 52, 3) := by decide +kernel
theorem dX3_onTheWay_23 : decode cX3_onTheWay 23 = .ok (.checkcast 62, 3) := by decide +kernel
theorem dX3_onTheWay_26 : decode cX3_onTheWay 26 = .ok (.astore 4, 2) := by decide +kernel
theorem dX3_onTheWay_28 : decode cX3_onTheWay 28 = .ok (.iload_n 2, 1) := by decide +kernel
theorem dX3_onTheWay_29 : decode cX3_onTheWay 29 = .ok (.aload 4, 2) := by decide +kernel
theorem dX3_onTheWay_31 : decode cX3_onTheWay 31 = .ok (.getfield 190, 3) := by decide +kernel
theorem dX3_onTheWay_34 : decode cX3_onTheWay 34 = .ok (.iload_n 1, 1) := by decide +kernel
theorem dX3_onTheWay_35 : decode cX3_onTheWay 35 = .ok (.if_icmp .ne 11, 3) := by decide +kernel
theorem dX3_onTheWay_38 : decode cX3_onTheWay 38 = .ok (.aload 4, 2) := by decide +kernel
theorem dX3_onTheWay_40 : decode cX3_onTheWay 40 = .ok (.getfield 193, 3) := by decide +kernel
theorem dX3_onTheWay_43 : decode cX3_onTheWay 43 = .ok (.goto 4, 3) := by decide +kernel
theorem dX3_onTheWay_46 : decode cX3_onTheWay 46 = .ok (.iconst 0, 1) := by decide +kernel
theorem dX3_onTheWay_47 : decode cX3_onTheWay 47 = .ok (.iadd, 1) := by decide +kernel
theorem dX3_onTheWay_48 : decode cX3_onTheWay 48 = .ok (.istore_n 2, 1) := by decide +kernel
theorem dX3_onTheWay_49 : decode cX3_onTheWay 49 = .ok (.iinc 3 1, 3) := by decide +kernel
theorem dX3_onTheWay_52 : decode cX3_onTheWay 52 = .ok (.goto (-48), 3) := by decide +kernel
theorem dX3_onTheWay_55 : decode cX3_onTheWay 55 = .ok (.iconst 0, 1) := by decide +kernel
theorem dX3_onTheWay_56 : decode cX3_onTheWay 56 = .ok (.istore_n 3, 1) := by decide +kernel
theorem dX3_onTheWay_57 : decode cX3_onTheWay 57 = .ok (.iload_n 3, 1) := by decide +kernel
theorem dX3_onTheWay_58 : decode cX3_onTheWay 58 = .ok (.aload_n 0, 1) := by decide +kernel
theorem dX3_onTheWay_59 : decode cX3_onTheWay 59 = .ok (.getfield 21, 3) := by decide +kernel
theorem dX3_onTheWay_62 : decode cX3_onTheWay 62 = .ok (.invokevirtual 48, 3) := by decide +kernel
theorem dX3_onTheWay_65 : decode cX3_onTheWay 65 = .ok (.if_icmp .ge 43, 3) := by decide +kernel
theorem dX3_onTheWay_68 : decode cX3_onTheWay 68 = .ok (.aload_n 0, 1) := by decide +kernel
theorem dX3_onTheWay_69 : decode cX3_onTheWay 69 = .ok (.getfield 21, 3) := by decide +kernel
theorem dX3_onTheWay_72 : decode cX3_onTheWay 72 = .ok (.iload_n 3, 1) := by decide +kernel
theorem dX3_onTheWay_73 : decode cX3_onTheWay 73 = .ok (.invokevirtual 52, 3) := by decide +kernel
theorem dX3_onTheWay_76 : decode cX3_onTheWay 76 = .ok (.checkcast 67, 3) := by decide +kernel
theorem dX3_onTheWay_79 : decode cX3_onTheWay 79 = .ok (.astore 4, 2) := by decide +kernel
theorem dX3_onTheWay_81 : decode cX3_onTheWay 81 = .ok (.iload_n 2, 1) := by decide +kernel
theorem dX3_onTheWay_82 : decode cX3_onTheWay 82 = .ok (.aload 4, 2) := by decide +kernel
theorem dX3_onTheWay_84 : decode cX3_onTheWay 84 = .ok (.getfield 196, 3) := by decide +kernel
theorem dX3_onTheWay_87 : decode cX3_onTheWay 87 = .ok (.iload_n 1, 1) := by decide +kernel
theorem dX3_onTheWay_88 : decode cX3_onTheWay 88 = .ok (.if_icmp .ne 11, 3) := by decide +kernel
theorem dX3_onTheWay_91 : decode cX3_onTheWay 91 = .ok (.aload 4, 2) := by decide +kernel
theorem dX3_onTheWay_93 : decode cX3_onTheWay 93 = .ok (.getfield 147, 3) := by decide +kernel
theorem dX3_onTheWay_96 : decode cX3_onTheWay 96 = .ok (.goto 4, 3) := by decide +kernel
theorem dX3_onTheWay_99 : decode cX3_onTheWay 99 = .ok (.iconst 0, 1) := by decide +kernel
theorem dX3_onTheWay_100 : decode cX3_onTheWay 100 = .ok (.iadd, 1) := by decide +kernel
theorem dX3_onTheWay_101 : decode cX3_onTheWay 101 = .ok (.istore_n 2, 1) := by decide +kernel
theorem dX3_onTheWay_102 : decode cX3_onTheWay 102 = .ok (.iinc 3 1, 3) := by decide +kernel
theorem dX3_onTheWay_105 : decode cX3_onTheWay 105 = .ok (.goto (-48), 3) := by decide +kernel
theorem dX3_onTheWay_108 : decode cX3_onTheWay 108 = .ok (.iload_n 2, 1) := by decide +kernel
theorem dX3_onTheWay_109 : decode cX3_onTheWay 109 = .ok (.ireturn, 1) := by decide +kernel
theorem dX3_allOnTheWay_0 : decode cX3_allOnTheWay 0 = .ok (.iconst 0, 1) := by decide +kernel
theorem dX3_allOnTheWay_1 : decode cX3_allOnTheWay 1 = .ok (.istore_n 1, 1) := by decide +kernel
theorem dX3_allOnTheWay_2 : decode cX3_allOnTheWay 2 = .ok (.iconst 0, 1) := by decide +kernel
theorem dX3_allOnTheWay_3 : decode cX3_allOnTheWay 3 = .ok (.istore_n 2, 1) := by decide +kernel
theorem dX3_allOnTheWay_4 : decode cX3_allOnTheWay 4 = .ok (.iload_n 2, 1) := by decide +kernel
theorem dX3_allOnTheWay_5 : decode cX3_allOnTheWay 5 = .ok (.aload_n 0, 1) := by decide +kernel
theorem dX3_allOnTheWay_6 : decode cX3_allOnTheWay 6 = .ok (.getfield 18, 3) := by decide +kernel
theorem dX3_allOnTheWay_9 : decode cX3_allOnTheWay 9 = .ok (.invokevirtual 48, 3) := by decide +kernel
theorem dX3_allOnTheWay_12 : decode cX3_allOnTheWay 12 = .ok (.if_icmp .ge 26, 3) := by decide +kernel
theorem dX3_allOnTheWay_15 : decode cX3_allOnTheWay 15 = .ok (.iload_n 1, 1) := by decide +kernel
theorem dX3_allOnTheWay_16 : decode cX3_allOnTheWay 16 = .ok (.aload_n 0, 1) := by decide +kernel
theorem dX3_allOnTheWay_17 : decode cX3_allOnTheWay 17 = .ok (.getfield 18, 3) := by decide +kernel
theorem dX3_allOnTheWay_20 : decode cX3_allOnTheWay 20 = .ok (.iload_n 2, 1) := by decide +kernel
theorem dX3_allOnTheWay_21 : decode cX3_allOnTheWay 21 = .ok (.invokevirtual 52, 3) := by decide +kernel
theorem dX3_allOnTheWay_24 : decode cX3_allOnTheWay 24 = .ok (.checkcast 62, 3) := by decide +kernel
theorem dX3_allOnTheWay_27 : decode cX3_allOnTheWay 27 = .ok (.getfield 193, 3) := by decide +kernel
theorem dX3_allOnTheWay_30 : decode cX3_allOnTheWay 30 = .ok (.iadd, 1) := by decide +kernel
theorem dX3_allOnTheWay_31 : decode cX3_allOnTheWay 31 = .ok (.istore_n 1, 1) := by decide +kernel
theorem dX3_allOnTheWay_32 : decode cX3_allOnTheWay 32 = .ok (.iinc 2 1, 3) := by decide +kernel
theorem dX3_allOnTheWay_35 : decode cX3_allOnTheWay 35 = .ok (.goto (-31), 3) := by decide +kernel
theorem dX3_allOnTheWay_38 : decode cX3_allOnTheWay 38 = .ok (.iconst 0, 1) := by decide +kernel
theorem dX3_allOnTheWay_39 : decode cX3_allOnTheWay 39 = .ok (.istore_n 2, 1) := by decide +kernel
theorem dX3_allOnTheWay_40 : decode cX3_allOnTheWay 40 = .ok (.iload_n 2, 1) := by decide +kernel
theorem dX3_allOnTheWay_41 : decode cX3_allOnTheWay 41 = .ok (.aload_n 0, 1) := by decide +kernel
theorem dX3_allOnTheWay_42 : decode cX3_allOnTheWay 42 = .ok (.getfield 21, 3) := by decide +kernel
theorem dX3_allOnTheWay_45 : decode cX3_allOnTheWay 45 = .ok (.invokevirtual 48, 3) := by decide +kernel
theorem dX3_allOnTheWay_48 : decode cX3_allOnTheWay 48 = .ok (.if_icmp .ge 26, 3) := by decide +kernel
theorem dX3_allOnTheWay_51 : decode cX3_allOnTheWay 51 = .ok (.iload_n 1, 1) := by decide +kernel
theorem dX3_allOnTheWay_52 : decode cX3_allOnTheWay 52 = .ok (.aload_n 0, 1) := by decide +kernel
theorem dX3_allOnTheWay_53 : decode cX3_allOnTheWay 53 = .ok (.getfield 21, 3) := by decide +kernel
theorem dX3_allOnTheWay_56 : decode cX3_allOnTheWay 56 = .ok (.iload_n 2, 1) := by decide +kernel
theorem dX3_allOnTheWay_57 : decode cX3_allOnTheWay 57 = .ok (.invokevirtual 52, 3) := by decide +kernel
theorem dX3_allOnTheWay_60 : decode cX3_allOnTheWay 60 = .ok (.checkcast 67, 3) := by decide +kernel
theorem dX3_allOnTheWay_63 : decode cX3_allOnTheWay 63 = .ok (.getfield 147, 3) := by decide +kernel
theorem dX3_allOnTheWay_66 : decode cX3_allOnTheWay 66 = .ok (.iadd, 1) := by decide +kernel
theorem dX3_allOnTheWay_67 : decode cX3_allOnTheWay 67 = .ok (.istore_n 1, 1) := by decide +kernel
theorem dX3_allOnTheWay_68 : decode cX3_allOnTheWay 68 = .ok (.iinc 2 1, 3) := by decide +kernel
theorem dX3_allOnTheWay_71 : decode cX3_allOnTheWay 71 = .ok (.goto (-31), 3) := by decide +kernel
theorem dX3_allOnTheWay_74 : decode cX3_allOnTheWay 74 = .ok (.iload_n 1, 1) := by decide +kernel
theorem dX3_allOnTheWay_75 : decode cX3_allOnTheWay 75 = .ok (.ireturn, 1) := by decide +kernel
theorem dX3_uncutAcres_0 : decode cX3_uncutAcres 0 = .ok (.iconst 0, 1) := by decide +kernel
theorem dX3_uncutAcres_1 : decode cX3_uncutAcres 1 = .ok (.istore_n 1, 1) := by decide +kernel
theorem dX3_uncutAcres_2 : decode cX3_uncutAcres 2 = .ok (.iconst 0, 1) := by decide +kernel
theorem dX3_uncutAcres_3 : decode cX3_uncutAcres 3 = .ok (.istore_n 2, 1) := by decide +kernel
theorem dX3_uncutAcres_4 : decode cX3_uncutAcres 4 = .ok (.iload_n 2, 1) := by decide +kernel
theorem dX3_uncutAcres_5 : decode cX3_uncutAcres 5 = .ok (.aload_n 0, 1) := by decide +kernel
theorem dX3_uncutAcres_6 : decode cX3_uncutAcres 6 = .ok (.getfield 12, 3) := by decide +kernel
theorem dX3_uncutAcres_9 : decode cX3_uncutAcres 9 = .ok (.invokevirtual 48, 3) := by decide +kernel
theorem dX3_uncutAcres_12 : decode cX3_uncutAcres 12 = .ok (.if_icmp .ge 26, 3) := by decide +kernel
theorem dX3_uncutAcres_15 : decode cX3_uncutAcres 15 = .ok (.iload_n 1, 1) := by decide +kernel
theorem dX3_uncutAcres_16 : decode cX3_uncutAcres 16 = .ok (.aload_n 0, 1) := by decide +kernel
theorem dX3_uncutAcres_17 : decode cX3_uncutAcres 17 = .ok (.getfield 12, 3) := by decide +kernel
theorem dX3_uncutAcres_20 : decode cX3_uncutAcres 20 = .ok (.iload_n 2, 1) := by decide +kernel
theorem dX3_uncutAcres_21 : decode cX3_uncutAcres 21 = .ok (.invokevirtual 52, 3) := by decide +kernel
theorem dX3_uncutAcres_24 : decode cX3_uncutAcres 24 = .ok (.checkcast 56, 3) := by decide +kernel
theorem dX3_uncutAcres_27 : decode cX3_uncutAcres 27 = .ok (.invokevirtual 199, 3) := by decide +kernel
theorem dX3_uncutAcres_30 : decode cX3_uncutAcres 30 = .ok (.iadd, 1) := by decide +kernel
theorem dX3_uncutAcres_31 : decode cX3_uncutAcres 31 = .ok (.istore_n 1, 1) := by decide +kernel
theorem dX3_uncutAcres_32 : decode cX3_uncutAcres 32 = .ok (.iinc 2 1, 3) := by decide +kernel
theorem dX3_uncutAcres_35 : decode cX3_uncutAcres 35 = .ok (.goto (-31), 3) := by decide +kernel
theorem dX3_uncutAcres_38 : decode cX3_uncutAcres 38 = .ok (.iload_n 1, 1) := by decide +kernel
theorem dX3_uncutAcres_39 : decode cX3_uncutAcres 39 = .ok (.ireturn, 1) := by decide +kernel
theorem dX3_brokenCombines_0 : decode cX3_brokenCombines 0 = .ok (.iconst 0, 1) := by decide +kernel
theorem dX3_brokenCombines_1 : decode cX3_brokenCombines 1 = .ok (.istore_n 1, 1) := by decide +kernel
theorem dX3_brokenCombines_2 : decode cX3_brokenCombines 2 = .ok (.iconst 0, 1) := by decide +kernel
theorem dX3_brokenCombines_3 : decode cX3_brokenCombines 3 = .ok (.istore_n 2, 1) := by decide +kernel
theorem dX3_brokenCombines_4 : decode cX3_brokenCombines 4 = .ok (.iload_n 2, 1) := by decide +kernel
theorem dX3_brokenCombines_5 : decode cX3_brokenCombines 5 = .ok (.aload_n 0, 1) := by decide +kernel
theorem dX3_brokenCombines_6 : decode cX3_brokenCombines 6 = .ok (.getfield 18, 3) := by decide +kernel
theorem dX3_brokenCombines_9 : decode cX3_brokenCombines 9 = .ok (.invokevirtual 48, 3) := by decide +kernel
theorem dX3_brokenCombines_12 : decode cX3_brokenCombines 12 = .ok (.if_icmp .ge 34, 3) := by decide +kernel
theorem dX3_brokenCombines_15 : decode cX3_brokenCombines 15 = .ok (.iload_n 1, 1) := by decide +kernel
theorem dX3_brokenCombines_16 : decode cX3_brokenCombines 16 = .ok (.aload_n 0, 1) := by decide +kernel
theorem dX3_brokenCombines_17 : decode cX3_brokenCombines 17 = .ok (.getfield 18, 3) := by decide +kernel
theorem dX3_brokenCombines_20 : decode cX3_brokenCombines 20 = .ok (.iload_n 2, 1) := by decide +kernel
theorem dX3_brokenCombines_21 : decode cX3_brokenCombines 21 = .ok (.invokevirtual 52, 3) := by decide +kernel
theorem dX3_brokenCombines_24 : decode cX3_brokenCombines 24 = .ok (.checkcast 62, 3) := by decide +kernel
theorem dX3_brokenCombines_27 : decode cX3_brokenCombines 27 = .ok (.getfield 202, 3) := by decide +kernel
theorem dX3_brokenCombines_30 : decode cX3_brokenCombines 30 = .ok (.ifCond .eq 7, 3) := by decide +kernel
theorem dX3_brokenCombines_33 : decode cX3_brokenCombines 33 = .ok (.iconst 1, 1) := by decide +kernel
theorem dX3_brokenCombines_34 : decode cX3_brokenCombines 34 = .ok (.goto 4, 3) := by decide +kernel
theorem dX3_brokenCombines_37 : decode cX3_brokenCombines 37 = .ok (.iconst 0, 1) := by decide +kernel
theorem dX3_brokenCombines_38 : decode cX3_brokenCombines 38 = .ok (.iadd, 1) := by decide +kernel
theorem dX3_brokenCombines_39 : decode cX3_brokenCombines 39 = .ok (.istore_n 1, 1) := by decide +kernel
theorem dX3_brokenCombines_40 : decode cX3_brokenCombines 40 = .ok (.iinc 2 1, 3) := by decide +kernel
theorem dX3_brokenCombines_43 : decode cX3_brokenCombines 43 = .ok (.goto (-39), 3) := by decide +kernel
theorem dX3_brokenCombines_46 : decode cX3_brokenCombines 46 = .ok (.iload_n 1, 1) := by decide +kernel
theorem dX3_brokenCombines_47 : decode cX3_brokenCombines 47 = .ok (.ireturn, 1) := by decide +kernel
theorem dX3_allRoom_0 : decode cX3_allRoom 0 = .ok (.iconst 0, 1) := by decide +kernel
theorem dX3_allRoom_1 : decode cX3_allRoom 1 = .ok (.istore_n 1, 1) := by decide +kernel
theorem dX3_allRoom_2 : decode cX3_allRoom 2 = .ok (.iconst 0, 1) := by decide +kernel
theorem dX3_allRoom_3 : decode cX3_allRoom 3 = .ok (.istore_n 2, 1) := by decide +kernel
theorem dX3_allRoom_4 : decode cX3_allRoom 4 = .ok (.iload_n 2, 1) := by decide +kernel
theorem dX3_allRoom_5 : decode cX3_allRoom 5 = .ok (.aload_n 0, 1) := by decide +kernel
theorem dX3_allRoom_6 : decode cX3_allRoom 6 = .ok (.getfield 24, 3) := by decide +kernel
theorem dX3_allRoom_9 : decode cX3_allRoom 9 = .ok (.invokevirtual 48, 3) := by decide +kernel
theorem dX3_allRoom_12 : decode cX3_allRoom 12 = .ok (.if_icmp .ge 26, 3) := by decide +kernel
theorem dX3_allRoom_15 : decode cX3_allRoom 15 = .ok (.iload_n 1, 1) := by decide +kernel
theorem dX3_allRoom_16 : decode cX3_allRoom 16 = .ok (.aload_n 0, 1) := by decide +kernel
theorem dX3_allRoom_17 : decode cX3_allRoom 17 = .ok (.getfield 24, 3) := by decide +kernel
theorem dX3_allRoom_20 : decode cX3_allRoom 20 = .ok (.iload_n 2, 1) := by decide +kernel
theorem dX3_allRoom_21 : decode cX3_allRoom 21 = .ok (.invokevirtual 52, 3) := by decide +kernel
theorem dX3_allRoom_24 : decode cX3_allRoom 24 = .ok (.checkcast 72, 3) := by decide +kernel
theorem dX3_allRoom_27 : decode cX3_allRoom 27 = .ok (.getfield 161, 3) := by decide +kernel
theorem dX3_allRoom_30 : decode cX3_allRoom 30 = .ok (.iadd, 1) := by decide +kernel
theorem dX3_allRoom_31 : decode cX3_allRoom 31 = .ok (.istore_n 1, 1) := by decide +kernel
theorem dX3_allRoom_32 : decode cX3_allRoom 32 = .ok (.iinc 2 1, 3) := by decide +kernel
theorem dX3_allRoom_35 : decode cX3_allRoom 35 = .ok (.goto (-31), 3) := by decide +kernel
theorem dX3_allRoom_38 : decode cX3_allRoom 38 = .ok (.iload_n 1, 1) := by decide +kernel
theorem dX3_allRoom_39 : decode cX3_allRoom 39 = .ok (.ireturn, 1) := by decide +kernel
theorem dX3_allIdle_0 : decode cX3_allIdle 0 = .ok (.iconst 0, 1) := by decide +kernel
theorem dX3_allIdle_1 : decode cX3_allIdle 1 = .ok (.istore_n 1, 1) := by decide +kernel
theorem dX3_allIdle_2 : decode cX3_allIdle 2 = .ok (.iconst 0, 1) := by decide +kernel
theorem dX3_allIdle_3 : decode cX3_allIdle 3 = .ok (.istore_n 2, 1) := by decide +kernel
theorem dX3_allIdle_4 : decode cX3_allIdle 4 = .ok (.iload_n 2, 1) := by decide +kernel
theorem dX3_allIdle_5 : decode cX3_allIdle 5 = .ok (.aload_n 0, 1) := by decide +kernel
theorem dX3_allIdle_6 : decode cX3_allIdle 6 = .ok (.getfield 18, 3) := by decide +kernel
theorem dX3_allIdle_9 : decode cX3_allIdle 9 = .ok (.invokevirtual 48, 3) := by decide +kernel
theorem dX3_allIdle_12 : decode cX3_allIdle 12 = .ok (.if_icmp .ge 26, 3) := by decide +kernel
theorem dX3_allIdle_15 : decode cX3_allIdle 15 = .ok (.iload_n 1, 1) := by decide +kernel
theorem dX3_allIdle_16 : decode cX3_allIdle 16 = .ok (.aload_n 0, 1) := by decide +kernel
theorem dX3_allIdle_17 : decode cX3_allIdle 17 = .ok (.getfield 18, 3) := by decide +kernel
theorem dX3_allIdle_20 : decode cX3_allIdle 20 = .ok (.iload_n 2, 1) := by decide +kernel
theorem dX3_allIdle_21 : decode cX3_allIdle 21 = .ok (.invokevirtual 52, 3) := by decide +kernel
theorem dX3_allIdle_24 : decode cX3_allIdle 24 = .ok (.checkcast 62, 3) := by decide +kernel
theorem dX3_allIdle_27 : decode cX3_allIdle 27 = .ok (.getfield 205, 3) := by decide +kernel
theorem dX3_allIdle_30 : decode cX3_allIdle 30 = .ok (.iadd, 1) := by decide +kernel
theorem dX3_allIdle_31 : decode cX3_allIdle 31 = .ok (.istore_n 1, 1) := by decide +kernel
theorem dX3_allIdle_32 : decode cX3_allIdle 32 = .ok (.iinc 2 1, 3) := by decide +kernel
theorem dX3_allIdle_35 : decode cX3_allIdle 35 = .ok (.goto (-31), 3) := by decide +kernel
theorem dX3_allIdle_38 : decode cX3_allIdle 38 = .ok (.iload_n 1, 1) := by decide +kernel
theorem dX3_allIdle_39 : decode cX3_allIdle 39 = .ok (.ireturn, 1) := by decide +kernel
theorem dX3_allQueued_0 : decode cX3_allQueued 0 = .ok (.iconst 0, 1) := by decide +kernel
theorem dX3_allQueued_1 : decode cX3_allQueued 1 = .ok (.istore_n 1, 1) := by decide +kernel
theorem dX3_allQueued_2 : decode cX3_allQueued 2 = .ok (.iconst 0, 1) := by decide +kernel
theorem dX3_allQueued_3 : decode cX3_allQueued 3 = .ok (.istore_n 2, 1) := by decide +kernel
theorem dX3_allQueued_4 : decode cX3_allQueued 4 = .ok (.iload_n 2, 1) := by decide +kernel
theorem dX3_allQueued_5 : decode cX3_allQueued 5 = .ok (.aload_n 0, 1) := by decide +kernel
theorem dX3_allQueued_6 : decode cX3_allQueued 6 = .ok (.getfield 21, 3) := by decide +kernel
theorem dX3_allQueued_9 : decode cX3_allQueued 9 = .ok (.invokevirtual 48, 3) := by decide +kernel
theorem dX3_allQueued_12 : decode cX3_allQueued 12 = .ok (.if_icmp .ge 26, 3) := by decide +kernel
theorem dX3_allQueued_15 : decode cX3_allQueued 15 = .ok (.iload_n 1, 1) := by decide +kernel
theorem dX3_allQueued_16 : decode cX3_allQueued 16 = .ok (.aload_n 0, 1) := by decide +kernel
theorem dX3_allQueued_17 : decode cX3_allQueued 17 = .ok (.getfield 21, 3) := by decide +kernel
theorem dX3_allQueued_20 : decode cX3_allQueued 20 = .ok (.iload_n 2, 1) := by decide +kernel
theorem dX3_allQueued_21 : decode cX3_allQueued 21 = .ok (.invokevirtual 52, 3) := by decide +kernel
theorem dX3_allQueued_24 : decode cX3_allQueued 24 = .ok (.checkcast 67, 3) := by decide +kernel
theorem dX3_allQueued_27 : decode cX3_allQueued 27 = .ok (.getfield 158, 3) := by decide +kernel
theorem dX3_allQueued_30 : decode cX3_allQueued 30 = .ok (.iadd, 1) := by decide +kernel
theorem dX3_allQueued_31 : decode cX3_allQueued 31 = .ok (.istore_n 1, 1) := by decide +kernel
theorem dX3_allQueued_32 : decode cX3_allQueued 32 = .ok (.iinc 2 1, 3) := by decide +kernel
theorem dX3_allQueued_35 : decode cX3_allQueued 35 = .ok (.goto (-31), 3) := by decide +kernel
theorem dX3_allQueued_38 : decode cX3_allQueued 38 = .ok (.iload_n 1, 1) := by decide +kernel
theorem dX3_allQueued_39 : decode cX3_allQueued 39 = .ok (.ireturn, 1) := by decide +kernel
theorem dX4_init_0 : decode cX4_init 0 = .ok (.aload_n 0, 1) := by decide +kernel
theorem dX4_init_1 : decode cX4_init 1 = .ok (.invokespecial 1, 3) := by decide +kernel
theorem dX4_init_4 : decode cX4_init 4 = .ok (.aload_n 0, 1) := by decide +kernel
theorem dX4_init_5 : decode cX4_init 5 = .ok (.aload_n 1, 1) := by decide +kernel
theorem dX4_init_6 : decode cX4_init 6 = .ok (.getfield 7, 3) := by decide +kernel
theorem dX4_init_9 : decode cX4_init 9 = .ok (.putfield 13, 3) := by decide +kernel
theorem dX4_init_12 : decode cX4_init 12 = .ok (.aload_n 0, 1) := by decide +kernel
theorem dX4_init_13 : decode cX4_init 13 = .ok (.aload_n 1, 1) := by decide +kernel
theorem dX4_init_14 : decode cX4_init 14 = .ok (.getfield 18, 3) := by decide +kernel
theorem dX4_init_17 : decode cX4_init 17 = .ok (.putfield 21, 3) := by decide +kernel
theorem dX4_init_20 : decode cX4_init 20 = .ok (.aload_n 0, 1) := by decide +kernel
theorem dX4_init_21 : decode cX4_init 21 = .ok (.aload_n 1, 1) := by decide +kernel
theorem dX4_init_22 : decode cX4_init 22 = .ok (.getfield 24, 3) := by decide +kernel
theorem dX4_init_25 : decode cX4_init 25 = .ok (.putfield 27, 3) := by decide +kernel
theorem dX4_init_28 : decode cX4_init 28 = .ok (.aload_n 0, 1) := by decide +kernel
theorem dX4_init_29 : decode cX4_init 29 = .ok (.iload_n 2, 1) := by decide +kernel
theorem dX4_init_30 : decode cX4_init 30 = .ok (.putfield 28, 3) := by decide +kernel
theorem dX4_init_33 : decode cX4_init 33 = .ok (.aload_n 0, 1) := by decide +kernel
theorem dX4_init_34 : decode cX4_init 34 = .ok (.aload_n 1, 1) := by decide +kernel
theorem dX4_init_35 : decode cX4_init 35 = .ok (.getfield 31, 3) := by decide +kernel
theorem dX4_init_38 : decode cX4_init 38 = .ok (.putfield 34, 3) := by decide +kernel
theorem dX4_init_41 : decode cX4_init 41 = .ok (.aload_n 0, 1) := by decide +kernel
theorem dX4_init_42 : decode cX4_init 42 = .ok (.iload_n 3, 1) := by decide +kernel
theorem dX4_init_43 : decode cX4_init 43 = .ok (.putfield 37, 3) := by decide +kernel
theorem dX4_init_46 : decode cX4_init 46 = .ok (.aload_n 0, 1) := by decide +kernel
theorem dX4_init_47 : decode cX4_init 47 = .ok (.aload_n 1, 1) := by decide +kernel
theorem dX4_init_48 : decode cX4_init 48 = .ok (.getfield 18, 3) := by decide +kernel
theorem dX4_init_51 : decode cX4_init 51 = .ok (.iload 4, 2) := by decide +kernel
theorem dX4_init_53 : decode cX4_init 53 = .ok (.imul, 1) := by decide +kernel
theorem dX4_init_54 : decode cX4_init 54 = .ok (.bipush 100, 2) := by decide +kernel
theorem dX4_init_56 : decode cX4_init 56 = .ok (.iload_n 2, 1) := by decide +kernel
theorem dX4_init_57 : decode cX4_init 57 = .ok (.isub, 1) := by decide +kernel
theorem dX4_init_58 : decode cX4_init 58 = .ok (.imul, 1) := by decide +kernel
theorem dX4_init_59 : decode cX4_init 59 = .ok (.sipush 10000, 3) := by decide +kernel
theorem dX4_init_62 : decode cX4_init 62 = .ok (.idiv, 1) := by decide +kernel
theorem dX4_init_63 : decode cX4_init 63 = .ok (.putfield 40, 3) := by decide +kernel
theorem dX4_init_66 : decode cX4_init 66 = .ok (.return_, 1) := by decide +kernel
theorem dX5_init_0 : decode cX5_init 0 = .ok (.aload_n 0, 1) := by decide +kernel
theorem dX5_init_1 : decode cX5_init 1 = .ok (.invokespecial 3, 3) := by decide +kernel
theorem dX5_init_4 : decode cX5_init 4 = .ok (.aload_n 0, 1) := by decide +kernel
theorem dX5_init_5 : decode cX5_init 5 = .ok (.iconst (-1), 1) := by decide +kernel
theorem dX5_init_6 : decode cX5_init 6 = .ok (.putfield 9, 3) := by decide +kernel
theorem dX5_init_9 : decode cX5_init 9 = .ok (.aload_n 0, 1) := by decide +kernel
theorem dX5_init_10 : decode cX5_init 10 = .ok (.iconst (-1), 1) := by decide +kernel
theorem dX5_init_11 : decode cX5_init 11 = .ok (.putfield 15, 3) := by decide +kernel
theorem dX5_init_14 : decode cX5_init 14 = .ok (.aload_n 0, 1) := by decide +kernel
theorem dX5_init_15 : decode cX5_init 15 = .ok (.iconst (-1), 1) := by decide +kernel
theorem dX5_init_16 : decode cX5_init 16 = .ok (.putfield 18, 3) := by decide +kernel
theorem dX5_init_19 : decode cX5_init 19 = .ok (.aload_n 0, 1) := by decide +kernel
theorem dX5_init_20 : decode cX5_init 20 = .ok (.iload_n 1, 1) := by decide +kernel
theorem dX5_init_21 : decode cX5_init 21 = .ok (.putfield 21, 3) := by decide +kernel
theorem dX5_init_24 : decode cX5_init 24 = .ok (.return_, 1) := by decide +kernel
theorem dX5_copyFrom_0 : decode cX5_copyFrom 0 = .ok (.aload_n 0, 1) := by decide +kernel
theorem dX5_copyFrom_1 : decode cX5_copyFrom 1 = .ok (.aload_n 1, 1) := by decide +kernel
theorem dX5_copyFrom_2 : decode cX5_copyFrom 2 = .ok (.getfield 21, 3) := by decide +kernel
theorem dX5_copyFrom_5 : decode cX5_copyFrom 5 = .ok (.putfield 21, 3) := by decide +kernel
theorem dX5_copyFrom_8 : decode cX5_copyFrom 8 = .ok (.aload_n 0, 1) := by decide +kernel
theorem dX5_copyFrom_9 : decode cX5_copyFrom 9 = .ok (.aload_n 1, 1) := by decide +kernel
theorem dX5_copyFrom_10 : decode cX5_copyFrom 10 = .ok (.getfield 24, 3) := by decide +kernel
theorem dX5_copyFrom_13 : decode cX5_copyFrom 13 = .ok (.putfield 24, 3) := by decide +kernel
theorem dX5_copyFrom_16 : decode cX5_copyFrom 16 = .ok (.aload_n 0, 1) := by decide +kernel
theorem dX5_copyFrom_17 : decode cX5_copyFrom 17 = .ok (.aload_n 1, 1) := by decide +kernel
theorem dX5_copyFrom_18 : decode cX5_copyFrom 18 = .ok (.getfield 27, 3) := by decide +kernel
theorem dX5_copyFrom_21 : decode cX5_copyFrom 21 = .ok (.putfield 27, 3) := by decide +kernel
theorem dX5_copyFrom_24 : decode cX5_copyFrom 24 = .ok (.aload_n 0, 1) := by decide +kernel
theorem dX5_copyFrom_25 : decode cX5_copyFrom 25 = .ok (.aload_n 1, 1) := by decide +kernel
theorem dX5_copyFrom_26 : decode cX5_copyFrom 26 = .ok (.getfield 9, 3) := by decide +kernel
theorem dX5_copyFrom_29 : decode cX5_copyFrom 29 = .ok (.putfield 9, 3) := by decide +kernel
theorem dX5_copyFrom_32 : decode cX5_copyFrom 32 = .ok (.aload_n 0, 1) := by decide +kernel
theorem dX5_copyFrom_33 : decode cX5_copyFrom 33 = .ok (.aload_n 1, 1) := by decide +kernel
theorem dX5_copyFrom_34 : decode cX5_copyFrom 34 = .ok (.getfield 30, 3) := by decide +kernel
theorem dX5_copyFrom_37 : decode cX5_copyFrom 37 = .ok (.putfield 30, 3) := by decide +kernel
theorem dX5_copyFrom_40 : decode cX5_copyFrom 40 = .ok (.aload_n 0, 1) := by decide +kernel
theorem dX5_copyFrom_41 : decode cX5_copyFrom 41 = .ok (.aload_n 1, 1) := by decide +kernel
theorem dX5_copyFrom_42 : decode cX5_copyFrom 42 = .ok (.getfield 33, 3) := by decide +kernel
theorem dX5_copyFrom_45 : decode cX5_copyFrom 45 = .ok (.putfield 33, 3) := by decide +kernel
theorem dX5_copyFrom_48 : decode cX5_copyFrom 48 = .ok (.aload_n 0, 1) := by decide +kernel
theorem dX5_copyFrom_49 : decode cX5_copyFrom 49 = .ok (.aload_n 1, 1) := by decide +kernel
theorem dX5_copyFrom_50 : decode cX5_copyFrom 50 = .ok (.getfield 36, 3) := by decide +kernel
theorem dX5_copyFrom_53 : decode cX5_copyFrom 53 = .ok (.putfield 36, 3) := by decide +kernel
theorem dX5_copyFrom_56 : decode cX5_copyFrom 56 = .ok (.aload_n 0, 1) := by decide +kernel
theorem dX5_copyFrom_57 : decode cX5_copyFrom 57 = .ok (.aload_n 1, 1) := by decide +kernel
theorem dX5_copyFrom_58 : decode cX5_copyFrom 58 = .ok (.getfield 15, 3) := by decide +kernel
theorem dX5_copyFrom_61 : decode cX5_copyFrom 61 = .ok (.putfield 15, 3) := by decide +kernel
theorem dX5_copyFrom_64 : decode cX5_copyFrom 64 = .ok (.aload_n 0, 1) := by decide +kernel
theorem dX5_copyFrom_65 : decode cX5_copyFrom 65 = .ok (.aload_n 1, 1) := by decide +kernel
theorem dX5_copyFrom_66 : decode cX5_copyFrom 66 = .ok (.getfield 18, 3) := by decide +kernel
theorem dX5_copyFrom_69 : decode cX5_copyFrom 69 = .ok (.putfield 18, 3) := by decide +kernel
theorem dX5_copyFrom_72 : decode cX5_copyFrom 72 = .ok (.aload_n 0, 1) := by decide +kernel
theorem dX5_copyFrom_73 : decode cX5_copyFrom 73 = .ok (.aload_n 1, 1) := by decide +kernel
theorem dX5_copyFrom_74 : decode cX5_copyFrom 74 = .ok (.getfield 39, 3) := by decide +kernel
theorem dX5_copyFrom_77 : decode cX5_copyFrom 77 = .ok (.putfield 39, 3) := by decide +kernel
theorem dX5_copyFrom_80 : decode cX5_copyFrom 80 = .ok (.return_, 1) := by decide +kernel
theorem dX5_mustRest_0 : decode cX5_mustRest 0 = .ok (.aload_n 0, 1) := by decide +kernel
theorem dX5_mustRest_1 : decode cX5_mustRest 1 = .ok (.getfield 15, 3) := by decide +kernel
theorem dX5_mustRest_4 : decode cX5_mustRest 4 = .ok (.iconst (-1), 1) := by decide +kernel
theorem dX5_mustRest_5 : decode cX5_mustRest 5 = .ok (.if_icmp .ne 11, 3) := by decide +kernel
theorem dX5_mustRest_8 : decode cX5_mustRest 8 = .ok (.aload_n 0, 1) := by decide +kernel
theorem dX5_mustRest_9 : decode cX5_mustRest 9 = .ok (.getfield 18, 3) := by decide +kernel
theorem dX5_mustRest_12 : decode cX5_mustRest 12 = .ok (.iconst (-1), 1) := by decide +kernel
theorem dX5_mustRest_13 : decode cX5_mustRest 13 = .ok (.if_icmp .eq 7, 3) := by decide +kernel
theorem dX5_mustRest_16 : decode cX5_mustRest 16 = .ok (.iconst 1, 1) := by decide +kernel
theorem dX5_mustRest_17 : decode cX5_mustRest 17 = .ok (.goto 4, 3) := by decide +kernel
theorem dX5_mustRest_20 : decode cX5_mustRest 20 = .ok (.iconst 0, 1) := by decide +kernel
theorem dX5_mustRest_21 : decode cX5_mustRest 21 = .ok (.istore_n 1, 1) := by decide +kernel
theorem dX5_mustRest_22 : decode cX5_mustRest 22 = .ok (.aload_n 0, 1) := by decide +kernel
theorem dX5_mustRest_23 : decode cX5_mustRest 23 = .ok (.getfield 24, 3) := by decide +kernel
theorem dX5_mustRest_26 : decode cX5_mustRest 26 = .ok (.bipush 10, 2) := by decide +kernel
theorem dX5_mustRest_28 : decode cX5_mustRest 28 = .ok (.if_icmp .ge 14, 3) := by decide +kernel
theorem dX5_mustRest_31 : decode cX5_mustRest 31 = .ok (.iload_n 1, 1) := by decide +kernel
theorem dX5_mustRest_32 : decode cX5_mustRest 32 = .ok (.ifCond .ne 14, 3) := by decide +kernel
theorem dX5_mustRest_35 : decode cX5_mustRest 35 = .ok (.aload_n 0, 1) := by decide +kernel
theorem dX5_mustRest_36 : decode cX5_mustRest 36 = .ok (.getfield 24, 3) := by decide +kernel
theorem dX5_mustRest_39 : decode cX5_mustRest 39 = .ok (.ifCond .le 7, 3) := by decide +kernel
theorem dX5_mustRest_42 : decode cX5_mustRest 42 = .ok (.iconst 1, 1) := by decide +kernel
theorem dX5_mustRest_43 : decode cX5_mustRest 43 = .ok (.goto 4, 3) := by decide +kernel
theorem dX5_mustRest_46 : decode cX5_mustRest 46 = .ok (.iconst 0, 1) := by decide +kernel
theorem dX5_mustRest_47 : decode cX5_mustRest 47 = .ok (.ireturn, 1) := by decide +kernel
theorem dX5_sleepHour_0 : decode cX5_sleepHour 0 = .ok (.aload_n 0, 1) := by decide +kernel
theorem dX5_sleepHour_1 : decode cX5_sleepHour 1 = .ok (.dup, 1) := by decide +kernel
theorem dX5_sleepHour_2 : decode cX5_sleepHour 2 = .ok (.getfield 33, 3) := by decide +kernel
theorem dX5_sleepHour_5 : decode cX5_sleepHour 5 = .ok (.iconst 1, 1) := by decide +kernel
theorem dX5_sleepHour_6 : decode cX5_sleepHour 6 = .ok (.iadd, 1) := by decide +kernel
theorem dX5_sleepHour_7 : decode cX5_sleepHour 7 = .ok (.putfield 33, 3) := by decide +kernel
theorem dX5_sleepHour_10 : decode cX5_sleepHour 10 = .ok (.aload_n 0, 1) := by decide +kernel
theorem dX5_sleepHour_11 : decode cX5_sleepHour 11 = .ok (.getfield 33, 3) := by decide +kernel
theorem dX5_sleepHour_14 : decode cX5_sleepHour 14 = .ok (.bipush 8, 2) := by decide +kernel
theorem dX5_sleepHour_16 : decode cX5_sleepHour 16 = .ok (.if_icmp .lt 13, 3) := by decide +kernel
theorem dX5_sleepHour_19 : decode cX5_sleepHour 19 = .ok (.aload_n 0, 1) := by decide +kernel
theorem dX5_sleepHour_20 : decode cX5_sleepHour 20 = .ok (.iconst 0, 1) := by decide +kernel
theorem dX5_sleepHour_21 : decode cX5_sleepHour 21 = .ok (.putfield 33, 3) := by decide +kernel
theorem dX5_sleepHour_24 : decode cX5_sleepHour 24 = .ok (.aload_n 0, 1) := by decide +kernel
theorem dX5_sleepHour_25 : decode cX5_sleepHour 25 = .ok (.iconst 0, 1) := by decide +kernel
theorem dX5_sleepHour_26 : decode cX5_sleepHour 26 = .ok (.putfield 24, 3) := by decide +kernel
theorem dX5_sleepHour_29 : decode cX5_sleepHour 29 = .ok (.return_, 1) := by decide +kernel
theorem dX5_drive_0 : decode cX5_drive 0 = .ok (.aload_n 0, 1) := by decide +kernel
theorem dX5_drive_1 : decode cX5_drive 1 = .ok (.getfield 21, 3) := by decide +kernel
theorem dX5_drive_4 : decode cX5_drive 4 = .ok (.iload_n 1, 1) := by decide +kernel
theorem dX5_drive_5 : decode cX5_drive 5 = .ok (.bipush 50, 2) := by decide +kernel
theorem dX5_drive_7 : decode cX5_drive 7 = .ok (.invokestatic 42, 3) := by decide +kernel
theorem dX5_drive_10 : decode cX5_drive 10 = .ok (.istore_n 2, 1) := by decide +kernel
theorem dX5_drive_11 : decode cX5_drive 11 = .ok (.aload_n 0, 1) := by decide +kernel
theorem dX5_drive_12 : decode cX5_drive 12 = .ok (.dup, 1) := by decide +kernel
theorem dX5_drive_13 : decode cX5_drive 13 = .ok (.getfield 39, 3) := by decide +kernel
theorem dX5_drive_16 : decode cX5_drive 16 = .ok (.iload_n 2, 1) := by decide +kernel
theorem dX5_drive_17 : decode cX5_drive 17 = .ok (.aload_n 0, 1) := by decide +kernel
theorem dX5_drive_18 : decode cX5_drive 18 = .ok (.getfield 21, 3) := by decide +kernel
theorem dX5_drive_21 : decode cX5_drive 21 = .ok (.isub, 1) := by decide +kernel
theorem dX5_drive_22 : decode cX5_drive 22 = .ok (.invokestatic 46, 3) := by decide +kernel
theorem dX5_drive_25 : decode cX5_drive 25 = .ok (.iadd, 1) := by decide +kernel
theorem dX5_drive_26 : decode cX5_drive 26 = .ok (.putfield 39, 3) := by decide +kernel
theorem dX5_drive_29 : decode cX5_drive 29 = .ok (.aload_n 0, 1) := by decide +kernel
theorem dX5_drive_30 : decode cX5_drive 30 = .ok (.iload_n 2, 1) := by decide +kernel
theorem dX5_drive_31 : decode cX5_drive 31 = .ok (.putfield 21, 3) := by decide +kernel
theorem dX5_drive_34 : decode cX5_drive 34 = .ok (.aload_n 0, 1) := by decide +kernel
theorem dX5_drive_35 : decode cX5_drive 35 = .ok (.dup, 1) := by decide +kernel
theorem dX5_drive_36 : decode cX5_drive 36 = .ok (.getfield 24, 3) := by decide +kernel
theorem dX5_drive_39 : decode cX5_drive 39 = .ok (.iconst 1, 1) := by decide +kernel
theorem dX5_drive_40 : decode cX5_drive 40 = .ok (.iadd, 1) := by decide +kernel
theorem dX5_drive_41 : decode cX5_drive 41 = .ok (.putfield 24, 3) := by decide +kernel
theorem dX5_drive_44 : decode cX5_drive 44 = .ok (.aload_n 0, 1) := by decide +kernel
theorem dX5_drive_45 : decode cX5_drive 45 = .ok (.iconst 0, 1) := by decide +kernel
theorem dX5_drive_46 : decode cX5_drive 46 = .ok (.putfield 33, 3) := by decide +kernel
theorem dX5_drive_49 : decode cX5_drive 49 = .ok (.return_, 1) := by decide +kernel
theorem dX5_takeFrom_0 : decode cX5_takeFrom 0 = .ok (.aload_n 0, 1) := by decide +kernel
theorem dX5_takeFrom_1 : decode cX5_takeFrom 1 = .ok (.getfield 27, 3) := by decide +kernel
theorem dX5_takeFrom_4 : decode cX5_takeFrom 4 = .ok (.ifCond .le 15, 3) := by decide +kernel
theorem dX5_takeFrom_7 : decode cX5_takeFrom 7 = .ok (.aload_n 0, 1) := by decide +kernel
theorem dX5_takeFrom_8 : decode cX5_takeFrom 8 = .ok (.getfield 9, 3) := by decide +kernel
theorem dX5_takeFrom_11 : decode cX5_takeFrom 11 = .ok (.aload_n 1, 1) := by decide +kernel
theorem dX5_takeFrom_12 : decode cX5_takeFrom 12 = .ok (.getfield 52, 3) := by decide +kernel
theorem dX5_takeFrom_15 : decode cX5_takeFrom 15 = .ok (.if_icmp .eq 4, 3) := by decide +kernel
theorem dX5_takeFrom_18 : decode cX5_takeFrom 18 = .ok (.return_, 1) := by decide +kernel
theorem dX5_takeFrom_19 : decode cX5_takeFrom 19 = .ok (.aload_n 1, 1) := by decide +kernel
theorem dX5_takeFrom_20 : decode cX5_takeFrom 20 = .ok (.getfield 57, 3) := by decide +kernel
theorem dX5_takeFrom_23 : decode cX5_takeFrom 23 = .ok (.sipush 800, 3) := by decide +kernel
theorem dX5_takeFrom_26 : decode cX5_takeFrom 26 = .ok (.aload_n 0, 1) := by decide +kernel
theorem dX5_takeFrom_27 : decode cX5_takeFrom 27 = .ok (.getfield 27, 3) := by decide +kernel
theorem dX5_takeFrom_30 : decode cX5_takeFrom 30 = .ok (.isub, 1) := by decide +kernel
theorem dX5_takeFrom_31 : decode cX5_takeFrom 31 = .ok (.invokestatic 60, 3) := by decide +kernel
theorem dX5_takeFrom_34 : decode cX5_takeFrom 34 = .ok (.istore_n 2, 1) := by decide +kernel
theorem dX5_takeFrom_35 : decode cX5_takeFrom 35 = .ok (.iload_n 2, 1) := by decide +kernel
theorem dX5_takeFrom_36 : decode cX5_takeFrom 36 = .ok (.ifCond .le 60, 3) := by decide +kernel
theorem dX5_takeFrom_39 : decode cX5_takeFrom 39 = .ok (.aload_n 0, 1) := by decide +kernel
theorem dX5_takeFrom_40 : decode cX5_takeFrom 40 = .ok (.aload_n 0, 1) := by decide +kernel
theorem dX5_takeFrom_41 : decode cX5_takeFrom 41 = .ok (.getfield 27, 3) := by decide +kernel
theorem dX5_takeFrom_44 : decode cX5_takeFrom 44 = .ok (.ifCond .le 17, 3) := by decide +kernel
theorem dX5_takeFrom_47 : decode cX5_takeFrom 47 = .ok (.aload_n 0, 1) := by decide +kernel
theorem dX5_takeFrom_48 : decode cX5_takeFrom 48 = .ok (.getfield 30, 3) := by decide +kernel
theorem dX5_takeFrom_51 : decode cX5_takeFrom 51 = .ok (.aload_n 1, 1) := by decide +kernel
theorem dX5_takeFrom_52 : decode cX5_takeFrom 52 = .ok (.getfield 64, 3) := by decide +kernel
theorem dX5_takeFrom_55 : decode cX5_takeFrom 55 = .ok (.invokestatic 67, 3) := by decide +kernel
theorem dX5_takeFrom_58 : decode cX5_takeFrom 58 = .ok (.goto 7, 3) := by decide +kernel
theorem dX5_takeFrom_61 : decode cX5_takeFrom 61 = .ok (.aload_n 1, 1) := by decide +kernel
theorem dX5_takeFrom_62 : decode cX5_takeFrom 62 = .ok (.getfield 64, 3) := by decide +kernel
theorem dX5_takeFrom_65 : decode cX5_takeFrom 65 = .ok (.putfield 30, 3) := by decide +kernel
theorem dX5_takeFrom_68 : decode cX5_takeFrom 68 = .ok (.aload_n 0, 1) := by decide +kernel
theorem dX5_takeFrom_69 : decode cX5_takeFrom 69 = .ok (.aload_n 1, 1) := by decide +kernel
theorem dX5_takeFrom_70 : decode cX5_takeFrom 70 = .ok (.getfield 52, 3) := by decide +kernel
theorem dX5_takeFrom_73 : decode cX5_takeFrom 73 = .ok (.putfield 9, 3) := by decide +kernel
theorem dX5_takeFrom_76 : decode cX5_takeFrom 76 = .ok (.aload_n 0, 1) := by decide +kernel
theorem dX5_takeFrom_77 : decode cX5_takeFrom 77 = .ok (.dup, 1) := by decide +kernel
theorem dX5_takeFrom_78 : decode cX5_takeFrom 78 = .ok (.getfield 27, 3) := by decide +kernel
theorem dX5_takeFrom_81 : decode cX5_takeFrom 81 = .ok (.iload_n 2, 1) := by decide +kernel
theorem dX5_takeFrom_82 : decode cX5_takeFrom 82 = .ok (.iadd, 1) := by decide +kernel
theorem dX5_takeFrom_83 : decode cX5_takeFrom 83 = .ok (.putfield 27, 3) := by decide +kernel
theorem dX5_takeFrom_86 : decode cX5_takeFrom 86 = .ok (.aload_n 1, 1) := by decide +kernel
theorem dX5_takeFrom_87 : decode cX5_takeFrom 87 = .ok (.dup, 1) := by decide +kernel
theorem dX5_takeFrom_88 : decode cX5_takeFrom 88 = .ok (.getfield 57, 3) := by decide +kernel
theorem dX5_takeFrom_91 : decode cX5_takeFrom 91 = .ok (.iload_n 2, 1) := by decide +kernel
theorem dX5_takeFrom_92 : decode cX5_takeFrom 92 = .ok (.isub, 1) := by decide +kernel
theorem dX5_takeFrom_93 : decode cX5_takeFrom 93 = .ok (.putfield 57, 3) := by decide +kernel
theorem dX5_takeFrom_96 : decode cX5_takeFrom 96 = .ok (.return_, 1) := by decide +kernel
theorem dX6_init_0 : decode cX6_init 0 = .ok (.aload_n 0, 1) := by decide +kernel
theorem dX6_init_1 : decode cX6_init 1 = .ok (.invokespecial 1, 3) := by decide +kernel
theorem dX6_init_4 : decode cX6_init 4 = .ok (.aload_n 0, 1) := by decide +kernel
theorem dX6_init_5 : decode cX6_init 5 = .ok (.new 7, 3) := by decide +kernel
theorem dX6_init_8 : decode cX6_init 8 = .ok (.dup, 1) := by decide +kernel
theorem dX6_init_9 : decode cX6_init 9 = .ok (.iconst 0, 1) := by decide +kernel
theorem dX6_init_10 : decode cX6_init 10 = .ok (.invokespecial 9, 3) := by decide +kernel
theorem dX6_init_13 : decode cX6_init 13 = .ok (.putfield 12, 3) := by decide +kernel
theorem dX6_init_16 : decode cX6_init 16 = .ok (.aload_n 0, 1) := by decide +kernel
theorem dX6_init_17 : decode cX6_init 17 = .ok (.new 7, 3) := by decide +kernel
theorem dX6_init_20 : decode cX6_init 20 = .ok (.dup, 1) := by decide +kernel
theorem dX6_init_21 : decode cX6_init 21 = .ok (.iconst 1, 1) := by decide +kernel
theorem dX6_init_22 : decode cX6_init 22 = .ok (.invokespecial 9, 3) := by decide +kernel
theorem dX6_init_25 : decode cX6_init 25 = .ok (.putfield 18, 3) := by decide +kernel
theorem dX6_init_28 : decode cX6_init 28 = .ok (.aload_n 0, 1) := by decide +kernel
theorem dX6_init_29 : decode cX6_init 29 = .ok (.new 21, 3) := by decide +kernel
theorem dX6_init_32 : decode cX6_init 32 = .ok (.dup, 1) := by decide +kernel
theorem dX6_init_33 : decode cX6_init 33 = .ok (.iconst 0, 1) := by decide +kernel
theorem dX6_init_34 : decode cX6_init 34 = .ok (.iconst 0, 1) := by decide +kernel
theorem dX6_init_35 : decode cX6_init 35 = .ok (.iconst 0, 1) := by decide +kernel
theorem dX6_init_36 : decode cX6_init 36 = .ok (.iconst 0, 1) := by decide +kernel
theorem dX6_init_37 : decode cX6_init 37 = .ok (.iconst 0, 1) := by decide +kernel
theorem dX6_init_38 : decode cX6_init 38 = .ok (.invokespecial 23, 3) := by decide +kernel
theorem dX6_init_41 : decode cX6_init 41 = .ok (.putfield 26, 3) := by decide +kernel
theorem dX6_init_44 : decode cX6_init 44 = .ok (.return_, 1) := by decide +kernel
theorem dX6_field_0 : decode cX6_field 0 = .ok (.iload_n 1, 1) := by decide +kernel
theorem dX6_field_1 : decode cX6_field 1 = .ok (.iconst 0, 1) := by decide +kernel
theorem dX6_field_2 : decode cX6_field 2 = .ok (.iconst 3, 1) := by decide +kernel
theorem dX6_field_3 : decode cX6_field 3 = .ok (.invokestatic 30, 3) := by decide +kernel
theorem dX6_field_6 : decode cX6_field 6 = .ok (.ifCond .eq 13, 3) := by decide +kernel
theorem dX6_field_9 : decode cX6_field 9 = .ok (.new 34, 3) := by decide +kernel
theorem dX6_field_12 : decode cX6_field 12 = .ok (.dup, 1) := by decide +kernel
theorem dX6_field_13 : decode cX6_field 13 = .ok (.ldc 36, 2) := by decide +kernel
theorem dX6_field_15 : decode cX6_field 15 = .ok (.invokespecial 38, 3) := by decide +kernel
theorem dX6_field_18 : decode cX6_field 18 = .ok (.athrow, 1) := by decide +kernel
theorem dX6_field_19 : decode cX6_field 19 = .ok (.iload_n 2, 1) := by decide +kernel
theorem dX6_field_20 : decode cX6_field 20 = .ok (.iconst 0, 1) := by decide +kernel
theorem dX6_field_21 : decode cX6_field 21 = .ok (.sipush 300, 3) := by decide +kernel
theorem dX6_field_24 : decode cX6_field 24 = .ok (.invokestatic 30, 3) := by decide +kernel
theorem dX6_field_27 : decode cX6_field 27 = .ok (.ifCond .ne 37, 3) := by decide +kernel
theorem dX6_field_30 : decode cX6_field 30 = .ok (.iload_n 3, 1) := by decide +kernel
theorem dX6_field_31 : decode cX6_field 31 = .ok (.iconst 1, 1) := by decide +kernel
theorem dX6_field_32 : decode cX6_field 32 = .ok (.sipush 200, 3) := by decide +kernel
theorem dX6_field_35 : decode cX6_field 35 = .ok (.invokestatic 30, 3) := by decide +kernel
theorem dX6_field_38 : decode cX6_field 38 = .ok (.ifCond .ne 26, 3) := by decide +kernel
theorem dX6_field_41 : decode cX6_field 41 = .ok (.iload 4, 2) := by decide +kernel
theorem dX6_field_43 : decode cX6_field 43 = .ok (.bipush 10, 2) := by decide +kernel
theorem dX6_field_45 : decode cX6_field 45 = .ok (.bipush 90, 2) := by decide +kernel
theorem dX6_field_47 : decode cX6_field 47 = .ok (.invokestatic 30, 3) := by decide +kernel
theorem dX6_field_50 : decode cX6_field 50 = .ok (.ifCond .ne 14, 3) := by decide +kernel
theorem dX6_field_53 : decode cX6_field 53 = .ok (.iload 5, 2) := by decide +kernel
theorem dX6_field_55 : decode cX6_field 55 = .ok (.iconst 0, 1) := by decide +kernel
theorem dX6_field_56 : decode cX6_field 56 = .ok (.bipush 50, 2) := by decide +kernel
theorem dX6_field_58 : decode cX6_field 58 = .ok (.invokestatic 30, 3) := by decide +kernel
theorem dX6_field_61 : decode cX6_field 61 = .ok (.ifCond .eq 13, 3) := by decide +kernel
theorem dX6_field_64 : decode cX6_field 64 = .ok (.new 41, 3) := by decide +kernel
theorem dX6_field_67 : decode cX6_field 67 = .ok (.dup, 1) := by decide +kernel
theorem dX6_field_68 : decode cX6_field 68 = .ok (.ldc 43, 2) := by decide +kernel
theorem dX6_field_70 : decode cX6_field 70 = .ok (.invokespecial 45, 3) := by decide +kernel
theorem dX6_field_73 : decode cX6_field 73 = .ok (.athrow, 1) := by decide +kernel
theorem dX6_field_74 : decode cX6_field 74 = .ok (.aload_n 0, 1) := by decide +kernel
theorem dX6_field_75 : decode cX6_field 75 = .ok (.getfield 12, 3) := by decide +kernel
theorem dX6_field_78 : decode cX6_field 78 = .ok (.getfield 46, 3) := by decide +kernel
theorem dX6_field_81 : decode cX6_field 81 = .ok (.invokevirtual 50, 3) := by decide +kernel
theorem dX6_field_84 : decode cX6_field 84 = .ok (.bipush 8, 2) := by decide +kernel
theorem dX6_field_86 : decode cX6_field 86 = .ok (.if_icmp .lt 13, 3) := by decide +kernel
theorem dX6_field_89 : decode cX6_field 89 = .ok (.new 56, 3) := by decide +kernel
theorem dX6_field_92 : decode cX6_field 92 = .ok (.dup, 1) := by decide +kernel
theorem dX6_field_93 : decode cX6_field 93 = .ok (.ldc 58, 2) := by decide +kernel
theorem dX6_field_95 : decode cX6_field 95 = .ok (.invokespecial 60, 3) := by decide +kernel
theorem dX6_field_98 : decode cX6_field 98 = .ok (.athrow, 1) := by decide +kernel
theorem dX6_field_99 : decode cX6_field 99 = .ok (.aload_n 0, 1) := by decide +kernel
theorem dX6_field_100 : decode cX6_field 100 = .ok (.getfield 12, 3) := by decide +kernel
theorem dX6_field_103 : decode cX6_field 103 = .ok (.getfield 46, 3) := by decide +kernel
theorem dX6_field_106 : decode cX6_field 106 = .ok (.new 21, 3) := by decide +kernel
theorem dX6_field_109 : decode cX6_field 109 = .ok (.dup, 1) := by decide +kernel
theorem dX6_field_110 : decode cX6_field 110 = .ok (.iload_n 1, 1) := by decide +kernel
theorem dX6_field_111 : decode cX6_field 111 = .ok (.iload_n 2, 1) := by decide +kernel
theorem dX6_field_112 : decode cX6_field 112 = .ok (.iload_n 3, 1) := by decide +kernel
theorem dX6_field_113 : decode cX6_field 113 = .ok (.iload 4, 2) := by decide +kernel
theorem dX6_field_115 : decode cX6_field 115 = .ok (.iload 5, 2) := by decide +kernel
theorem dX6_field_117 : decode cX6_field 117 = .ok (.invokespecial 23, 3) := by decide +kernel
theorem dX6_field_120 : decode cX6_field 120 = .ok (.invokevirtual 61, 3) := by decide +kernel
theorem dX6_field_123 : decode cX6_field 123 = .ok (.pop, 1) := by decide +kernel
theorem dX6_field_124 : decode cX6_field 124 = .ok (.aload_n 0, 1) := by decide +kernel
theorem dX6_field_125 : decode cX6_field 125 = .ok (.getfield 12, 3) := by decide +kernel
theorem dX6_field_128 : decode cX6_field 128 = .ok (.getfield 46, 3) := by decide +kernel
theorem dX6_field_131 : decode cX6_field 131 = .ok (.invokevirtual 50, 3) := by decide +kernel
theorem dX6_field_134 : decode cX6_field 134 = .ok (.iconst 1, 1) := by decide +kernel
theorem dX6_field_135 : decode cX6_field 135 = .ok (.isub, 1) := by decide +kernel
theorem dX6_field_136 : decode cX6_field 136 = .ok (.ireturn, 1) := by decide +kernel
theorem dX6_crop_0 : decode cX6_crop 0 = .ok (.aload_n 0, 1) := by decide +kernel
theorem dX6_crop_1 : decode cX6_crop 1 = .ok (.getfield 12, 3) := by decide +kernel
theorem dX6_crop_4 : decode cX6_crop 4 = .ok (.iload_n 1, 1) := by decide +kernel
theorem dX6_crop_5 : decode cX6_crop 5 = .ok (.invokevirtual 65, 3) := by decide +kernel
theorem dX6_crop_8 : decode cX6_crop 8 = .ok (.astore 4, 2) := by decide +kernel
theorem dX6_crop_10 : decode cX6_crop 10 = .ok (.aload 4, 2) := by decide +kernel
theorem dX6_crop_12 : decode cX6_crop 12 = .ok (.ifnonnull 13, 3) := by decide +kernel
theorem dX6_crop_15 : decode cX6_crop 15 = .ok (.new 34, 3) := by decide +kernel
theorem dX6_crop_18 : decode cX6_crop 18 = .ok (.dup, 1) := by decide +kernel
theorem dX6_crop_19 : decode cX6_crop 19 = .ok (.ldc 69, 2) := by decide +kernel
theorem dX6_crop_21 : decode cX6_crop 21 = .ok (.invokespecial 38, 3) := by decide +kernel
theorem dX6_crop_24 : decode cX6_crop 24 = .ok (.athrow, 1) := by decide +kernel
theorem dX6_crop_25 : decode cX6_crop 25 = .ok (.iload_n 2, 1) := by decide +kernel
theorem dX6_crop_26 : decode cX6_crop 26 = .ok (.iconst 0, 1) := by decide +kernel
theorem dX6_crop_27 : decode cX6_crop 27 = .ok (.bipush 100, 2) := by decide +kernel
theorem dX6_crop_29 : decode cX6_crop 29 = .ok (.invokestatic 30, 3) := by decide +kernel
theorem dX6_crop_32 : decode cX6_crop 32 = .ok (.ifCond .ne 13, 3) := by decide +kernel
theorem dX6_crop_35 : decode cX6_crop 35 = .ok (.iload_n 3, 1) := by decide +kernel
theorem dX6_crop_36 : decode cX6_crop 36 = .ok (.iconst 5, 1) := by decide +kernel
theorem dX6_crop_37 : decode cX6_crop 37 = .ok (.bipush 40, 2) := by decide +kernel
theorem dX6_crop_39 : decode cX6_crop 39 = .ok (.invokestatic 30, 3) := by decide +kernel
theorem dX6_crop_42 : decode cX6_crop 42 = .ok (.ifCond .eq 13, 3) := by decide +kernel
theorem dX6_crop_45 : decode cX6_crop 45 = .ok (.new 41, 3) := by decide +kernel
theorem dX6_crop_48 : decode cX6_crop 48 = .ok (.dup, 1) := by decide +kernel
theorem dX6_crop_49 : decode cX6_crop 49 = .ok (.ldc 71, 2) := by decide +kernel
theorem dX6_crop_51 : decode cX6_crop 51 = .ok (.invokespecial 45, 3) := by decide +kernel
theorem dX6_crop_54 : decode cX6_crop 54 = .ok (.athrow, 1) := by decide +kernel
theorem dX6_crop_55 : decode cX6_crop 55 = .ok (.aload 4, 2) := by decide +kernel
theorem dX6_crop_57 : decode cX6_crop 57 = .ok (.getfield 73, 3) := by decide +kernel
theorem dX6_crop_60 : decode cX6_crop 60 = .ok (.istore 5, 2) := by decide +kernel
theorem dX6_crop_62 : decode cX6_crop 62 = .ok (.aload 4, 2) := by decide +kernel
theorem dX6_crop_64 : decode cX6_crop 64 = .ok (.iload_n 2, 1) := by decide +kernel
theorem dX6_crop_65 : decode cX6_crop 65 = .ok (.putfield 73, 3) := by decide +kernel
theorem dX6_crop_68 : decode cX6_crop 68 = .ok (.aload 4, 2) := by decide +kernel
theorem dX6_crop_70 : decode cX6_crop 70 = .ok (.iload_n 3, 1) := by decide +kernel
theorem dX6_crop_71 : decode cX6_crop 71 = .ok (.putfield 77, 3) := by decide +kernel
theorem dX6_crop_74 : decode cX6_crop 74 = .ok (.iload 5, 2) := by decide +kernel
theorem dX6_crop_76 : decode cX6_crop 76 = .ok (.ireturn, 1) := by decide +kernel
theorem dX6_combine_0 : decode cX6_combine 0 = .ok (.iload_n 1, 1) := by decide +kernel
theorem dX6_combine_1 : decode cX6_combine 1 = .ok (.iconst 0, 1) := by decide +kernel
theorem dX6_combine_2 : decode cX6_combine 2 = .ok (.sipush 300, 3) := by decide +kernel
theorem dX6_combine_5 : decode cX6_combine 5 = .ok (.invokestatic 30, 3) := by decide +kernel
theorem dX6_combine_8 : decode cX6_combine 8 = .ok (.ifCond .ne 13, 3) := by decide +kernel
theorem dX6_combine_11 : decode cX6_combine 11 = .ok (.iload_n 2, 1) := by decide +kernel
theorem dX6_combine_12 : decode cX6_combine 12 = .ok (.iconst 1, 1) := by decide +kernel
theorem dX6_combine_13 : decode cX6_combine 13 = .ok (.bipush 20, 2) := by decide +kernel
theorem dX6_combine_15 : decode cX6_combine 15 = .ok (.invokestatic 30, 3) := by decide +kernel
theorem dX6_combine_18 : decode cX6_combine 18 = .ok (.ifCond .eq 13, 3) := by decide +kernel
theorem dX6_combine_21 : decode cX6_combine 21 = .ok (.new 41, 3) := by decide +kernel
theorem dX6_combine_24 : decode cX6_combine 24 = .ok (.dup, 1) := by decide +kernel
theorem dX6_combine_25 : decode cX6_combine 25 = .ok (.ldc 80, 2) := by decide +kernel
theorem dX6_combine_27 : decode cX6_combine 27 = .ok (.invokespecial 45, 3) := by decide +kernel
theorem dX6_combine_30 : decode cX6_combine 30 = .ok (.athrow, 1) := by decide +kernel
theorem dX6_combine_31 : decode cX6_combine 31 = .ok (.aload_n 0, 1) := by decide +kernel
theorem dX6_combine_32 : decode cX6_combine 32 = .ok (.getfield 12, 3) := by decide +kernel
theorem dX6_combine_35 : decode cX6_combine 35 = .ok (.getfield 82, 3) := by decide +kernel
theorem dX6_combine_38 : decode cX6_combine 38 = .ok (.invokevirtual 50, 3) := by decide +kernel
theorem dX6_combine_41 : decode cX6_combine 41 = .ok (.iconst 4, 1) := by decide +kernel
theorem dX6_combine_42 : decode cX6_combine 42 = .ok (.if_icmp .lt 13, 3) := by decide +kernel
theorem dX6_combine_45 : decode cX6_combine 45 = .ok (.new 56, 3) := by decide +kernel
theorem dX6_combine_48 : decode cX6_combine 48 = .ok (.dup, 1) := by decide +kernel
theorem dX6_combine_49 : decode cX6_combine 49 = .ok (.ldc 85, 2) := by decide +kernel
theorem dX6_combine_51 : decode cX6_combine 51 = .ok (.invokespecial 60, 3) := by decide +kernel
theorem dX6_combine_54 : decode cX6_combine 54 = .ok (.athrow, 1) := by decide +kernel
theorem dX6_combine_55 : decode cX6_combine 55 = .ok (.aload_n 0, 1) := by decide +kernel
theorem dX6_combine_56 : decode cX6_combine 56 = .ok (.getfield 12, 3) := by decide +kernel
theorem dX6_combine_59 : decode cX6_combine 59 = .ok (.getfield 82, 3) := by decide +kernel
theorem dX6_combine_62 : decode cX6_combine 62 = .ok (.new 87, 3) := by decide +kernel
theorem dX6_combine_65 : decode cX6_combine 65 = .ok (.dup, 1) := by decide +kernel
theorem dX6_combine_66 : decode cX6_combine 66 = .ok (.aload_n 0, 1) := by decide +kernel
theorem dX6_combine_67 : decode cX6_combine 67 = .ok (.getfield 12, 3) := by decide +kernel
theorem dX6_combine_70 : decode cX6_combine 70 = .ok (.getfield 82, 3) := by decide +kernel
theorem dX6_combine_73 : decode cX6_combine 73 = .ok (.invokevirtual 50, 3) := by decide +kernel
theorem dX6_combine_76 : decode cX6_combine 76 = .ok (.iload_n 1, 1) := by decide +kernel
theorem dX6_combine_77 : decode cX6_combine 77 = .ok (.iload_n 2, 1) := by decide +kernel
theorem dX6_combine_78 : decode cX6_combine 78 = .ok (.invokespecial 89, 3) := by decide +kernel
theorem dX6_combine_81 : decode cX6_combine 81 = .ok (.invokevirtual 61, 3) := by decide +kernel
theorem dX6_combine_84 : decode cX6_combine 84 = .ok (.pop, 1) := by decide +kernel
theorem dX6_combine_85 : decode cX6_combine 85 = .ok (.aload_n 0, 1) := by decide +kernel
theorem dX6_combine_86 : decode cX6_combine 86 = .ok (.getfield 12, 3) := by decide +kernel
theorem dX6_combine_89 : decode cX6_combine 89 = .ok (.getfield 82, 3) := by decide +kernel
theorem dX6_combine_92 : decode cX6_combine 92 = .ok (.invokevirtual 50, 3) := by decide +kernel
theorem dX6_combine_95 : decode cX6_combine 95 = .ok (.iconst 1, 1) := by decide +kernel
theorem dX6_combine_96 : decode cX6_combine 96 = .ok (.isub, 1) := by decide +kernel
theorem dX6_combine_97 : decode cX6_combine 97 = .ok (.ireturn, 1) := by decide +kernel
theorem dX6_truck_0 : decode cX6_truck 0 = .ok (.iload_n 1, 1) := by decide +kernel
theorem dX6_truck_1 : decode cX6_truck 1 = .ok (.iconst 0, 1) := by decide +kernel
theorem dX6_truck_2 : decode cX6_truck 2 = .ok (.sipush 300, 3) := by decide +kernel
theorem dX6_truck_5 : decode cX6_truck 5 = .ok (.invokestatic 30, 3) := by decide +kernel
theorem dX6_truck_8 : decode cX6_truck 8 = .ok (.ifCond .eq 13, 3) := by decide +kernel
theorem dX6_truck_11 : decode cX6_truck 11 = .ok (.new 41, 3) := by decide +kernel
theorem dX6_truck_14 : decode cX6_truck 14 = .ok (.dup, 1) := by decide +kernel
theorem dX6_truck_15 : decode cX6_truck 15 = .ok (.ldc 92, 2) := by decide +kernel
theorem dX6_truck_17 : decode cX6_truck 17 = .ok (.invokespecial 45, 3) := by decide +kernel
theorem dX6_truck_20 : decode cX6_truck 20 = .ok (.athrow, 1) := by decide +kernel
theorem dX6_truck_21 : decode cX6_truck 21 = .ok (.aload_n 0, 1) := by decide +kernel
theorem dX6_truck_22 : decode cX6_truck 22 = .ok (.getfield 12, 3) := by decide +kernel
theorem dX6_truck_25 : decode cX6_truck 25 = .ok (.getfield 94, 3) := by decide +kernel
theorem dX6_truck_28 : decode cX6_truck 28 = .ok (.invokevirtual 50, 3) := by decide +kernel
theorem dX6_truck_31 : decode cX6_truck 31 = .ok (.iconst 4, 1) := by decide +kernel
theorem dX6_truck_32 : decode cX6_truck 32 = .ok (.if_icmp .lt 13, 3) := by decide +kernel
theorem dX6_truck_35 : decode cX6_truck 35 = .ok (.new 56, 3) := by decide +kernel
theorem dX6_truck_38 : decode cX6_truck 38 = .ok (.dup, 1) := by decide +kernel
theorem dX6_truck_39 : decode cX6_truck 39 = .ok (.ldc 97, 2) := by decide +kernel
theorem dX6_truck_41 : decode cX6_truck 41 = .ok (.invokespecial 60, 3) := by decide +kernel
theorem dX6_truck_44 : decode cX6_truck 44 = .ok (.athrow, 1) := by decide +kernel
theorem dX6_truck_45 : decode cX6_truck 45 = .ok (.aload_n 0, 1) := by decide +kernel
theorem dX6_truck_46 : decode cX6_truck 46 = .ok (.getfield 12, 3) := by decide +kernel
theorem dX6_truck_49 : decode cX6_truck 49 = .ok (.getfield 94, 3) := by decide +kernel
theorem dX6_truck_52 : decode cX6_truck 52 = .ok (.new 99, 3) := by decide +kernel
theorem dX6_truck_55 : decode cX6_truck 55 = .ok (.dup, 1) := by decide +kernel
theorem dX6_truck_56 : decode cX6_truck 56 = .ok (.iload_n 1, 1) := by decide +kernel
theorem dX6_truck_57 : decode cX6_truck 57 = .ok (.invokespecial 101, 3) := by decide +kernel
theorem dX6_truck_60 : decode cX6_truck 60 = .ok (.invokevirtual 61, 3) := by decide +kernel
theorem dX6_truck_63 : decode cX6_truck 63 = .ok (.pop, 1) := by decide +kernel
theorem dX6_truck_64 : decode cX6_truck 64 = .ok (.aload_n 0, 1) := by decide +kernel
theorem dX6_truck_65 : decode cX6_truck 65 = .ok (.getfield 12, 3) := by decide +kernel
theorem dX6_truck_68 : decode cX6_truck 68 = .ok (.getfield 94, 3) := by decide +kernel
theorem dX6_truck_71 : decode cX6_truck 71 = .ok (.invokevirtual 50, 3) := by decide +kernel
theorem dX6_truck_74 : decode cX6_truck 74 = .ok (.iconst 1, 1) := by decide +kernel
theorem dX6_truck_75 : decode cX6_truck 75 = .ok (.isub, 1) := by decide +kernel
theorem dX6_truck_76 : decode cX6_truck 76 = .ok (.ireturn, 1) := by decide +kernel
theorem dX6_elevator_0 : decode cX6_elevator 0 = .ok (.iload_n 1, 1) := by decide +kernel
theorem dX6_elevator_1 : decode cX6_elevator 1 = .ok (.iconst 0, 1) := by decide +kernel
theorem dX6_elevator_2 : decode cX6_elevator 2 = .ok (.sipush 300, 3) := by decide +kernel
theorem dX6_elevator_5 : decode cX6_elevator 5 = .ok (.invokestatic 30, 3) := by decide +kernel
theorem dX6_elevator_8 : decode cX6_elevator 8 = .ok (.ifCond .ne 14, 3) := by decide +kernel
theorem dX6_elevator_11 : decode cX6_elevator 11 = .ok (.iload_n 2, 1) := by decide +kernel
theorem dX6_elevator_12 : decode cX6_elevator 12 = .ok (.iconst 0, 1) := by decide +kernel
theorem dX6_elevator_13 : decode cX6_elevator 13 = .ok (.sipush 9999, 3) := by decide +kernel
theorem dX6_elevator_16 : decode cX6_elevator 16 = .ok (.invokestatic 30, 3) := by decide +kernel
theorem dX6_elevator_19 : decode cX6_elevator 19 = .ok (.ifCond .eq 13, 3) := by decide +kernel
theorem dX6_elevator_22 : decode cX6_elevator 22 = .ok (.new 41, 3) := by decide +kernel
theorem dX6_elevator_25 : decode cX6_elevator 25 = .ok (.dup, 1) := by decide +kernel
theorem dX6_elevator_26 : decode cX6_elevator 26 = .ok (.ldc 104, 2) := by decide +kernel
theorem dX6_elevator_28 : decode cX6_elevator 28 = .ok (.invokespecial 45, 3) := by decide +kernel
theorem dX6_elevator_31 : decode cX6_elevator 31 = .ok (.athrow, 1) := by decide +kernel
theorem dX6_elevator_32 : decode cX6_elevator 32 = .ok (.iload_n 3, 1) := by decide +kernel
theorem dX6_elevator_33 : decode cX6_elevator 33 = .ok (.iconst 0, 1) := by decide +kernel
theorem dX6_elevator_34 : decode cX6_elevator 34 = .ok (.bipush 23, 2) := by decide +kernel
theorem dX6_elevator_36 : decode cX6_elevator 36 = .ok (.invokestatic 30, 3) := by decide +kernel
theorem dX6_elevator_39 : decode cX6_elevator 39 = .ok (.ifCond .ne 20, 3) := by decide +kernel
theorem dX6_elevator_42 : decode cX6_elevator 42 = .ok (.iload 4, 2) := by decide +kernel
theorem dX6_elevator_44 : decode cX6_elevator 44 = .ok (.iconst 0, 1) := by decide +kernel
theorem dX6_elevator_45 : decode cX6_elevator 45 = .ok (.bipush 23, 2) := by decide +kernel
theorem dX6_elevator_47 : decode cX6_elevator 47 = .ok (.invokestatic 30, 3) := by decide +kernel
theorem dX6_elevator_50 : decode cX6_elevator 50 = .ok (.ifCond .ne 9, 3) := by decide +kernel
theorem dX6_elevator_53 : decode cX6_elevator 53 = .ok (.iload_n 3, 1) := by decide +kernel
theorem dX6_elevator_54 : decode cX6_elevator 54 = .ok (.iload 4, 2) := by decide +kernel
theorem dX6_elevator_56 : decode cX6_elevator 56 = .ok (.if_icmp .ne 13, 3) := by decide +kernel
theorem dX6_elevator_59 : decode cX6_elevator 59 = .ok (.new 41, 3) := by decide +kernel
theorem dX6_elevator_62 : decode cX6_elevator 62 = .ok (.dup, 1) := by decide +kernel
theorem dX6_elevator_63 : decode cX6_elevator 63 = .ok (.ldc 106, 2) := by decide +kernel
theorem dX6_elevator_65 : decode cX6_elevator 65 = .ok (.invokespecial 45, 3) := by decide +kernel
theorem dX6_elevator_68 : decode cX6_elevator 68 = .ok (.athrow, 1) := by decide +kernel
theorem dX6_elevator_69 : decode cX6_elevator 69 = .ok (.iload 5, 2) := by decide +kernel
theorem dX6_elevator_71 : decode cX6_elevator 71 = .ok (.iconst 5, 1) := by decide +kernel
theorem dX6_elevator_72 : decode cX6_elevator 72 = .ok (.bipush 40, 2) := by decide +kernel
theorem dX6_elevator_74 : decode cX6_elevator 74 = .ok (.invokestatic 30, 3) := by decide +kernel
theorem dX6_elevator_77 : decode cX6_elevator 77 = .ok (.ifCond .ne 15, 3) := by decide +kernel
theorem dX6_elevator_80 : decode cX6_elevator 80 = .ok (.iload 6, 2) := by decide +kernel
theorem dX6_elevator_82 : decode cX6_elevator 82 = .ok (.iload 5, 2) := by decide +kernel
theorem dX6_elevator_84 : decode cX6_elevator 84 = .ok (.bipush 40, 2) := by decide +kernel
theorem dX6_elevator_86 : decode cX6_elevator 86 = .ok (.invokestatic 30, 3) := by decide +kernel
theorem dX6_elevator_89 : decode cX6_elevator 89 = .ok (.ifCond .eq 13, 3) := by decide +kernel
theorem dX6_elevator_92 : decode cX6_elevator 92 = .ok (.new 41, 3) := by decide +kernel
theorem dX6_elevator_95 : decode cX6_elevator 95 = .ok (.dup, 1) := by decide +kernel
theorem dX6_elevator_96 : decode cX6_elevator 96 = .ok (.ldc 108, 2) := by decide +kernel
theorem dX6_elevator_98 : decode cX6_elevator 98 = .ok (.invokespecial 45, 3) := by decide +kernel
theorem dX6_elevator_101 : decode cX6_elevator 101 = .ok (.athrow, 1) := by decide +kernel
theorem dX6_elevator_102 : decode cX6_elevator 102 = .ok (.aload_n 0, 1) := by decide +kernel
theorem dX6_elevator_103 : decode cX6_elevator 103 = .ok (.getfield 12, 3) := by decide +kernel
theorem dX6_elevator_106 : decode cX6_elevator 106 = .ok (.getfield 110, 3) := by decide +kernel
theorem dX6_elevator_109 : decode cX6_elevator 109 = .ok (.invokevirtual 50, 3) := by decide +kernel
theorem dX6_elevator_112 : decode cX6_elevator 112 = .ok (.iconst 3, 1) := by decide +kernel
theorem dX6_elevator_113 : decode cX6_elevator 113 = .ok (.if_icmp .lt 13, 3) := by decide +kernel
theorem dX6_elevator_116 : decode cX6_elevator 116 = .ok (.new 56, 3) := by decide +kernel
theorem dX6_elevator_119 : decode cX6_elevator 119 = .ok (.dup, 1) := by decide +kernel
theorem dX6_elevator_120 : decode cX6_elevator 120 = .ok (.ldc 113, 2) := by decide +kernel
theorem dX6_elevator_122 : decode cX6_elevator 122 = .ok (.invokespecial 60, 3) := by decide +kernel
theorem dX6_elevator_125 : decode cX6_elevator 125 = .ok (.athrow, 1) := by decide +kernel
theorem dX6_elevator_126 : decode cX6_elevator 126 = .ok (.aload_n 0, 1) := by decide +kernel
theorem dX6_elevator_127 : decode cX6_elevator 127 = .ok (.getfield 12, 3) := by decide +kernel
theorem dX6_elevator_130 : decode cX6_elevator 130 = .ok (.getfield 110, 3) := by decide +kernel
theorem dX6_elevator_133 : decode cX6_elevator 133 = .ok (.new 115, 3) := by decide +kernel
theorem dX6_elevator_136 : decode cX6_elevator 136 = .ok (.dup, 1) := by decide +kernel
theorem dX6_elevator_137 : decode cX6_elevator 137 = .ok (.iload_n 1, 1) := by decide +kernel
theorem dX6_elevator_138 : decode cX6_elevator 138 = .ok (.iload_n 2, 1) := by decide +kernel
theorem dX6_elevator_139 : decode cX6_elevator 139 = .ok (.iload_n 3, 1) := by decide +kernel
theorem dX6_elevator_140 : decode cX6_elevator 140 = .ok (.iload 4, 2) := by decide +kernel
theorem dX6_elevator_142 : decode cX6_elevator 142 = .ok (.iload 5, 2) := by decide +kernel
theorem dX6_elevator_144 : decode cX6_elevator 144 = .ok (.iload 6, 2) := by decide +kernel
theorem dX6_elevator_146 : decode cX6_elevator 146 = .ok (.invokespecial 117, 3) := by decide +kernel
theorem dX6_elevator_149 : decode cX6_elevator 149 = .ok (.invokevirtual 61, 3) := by decide +kernel
theorem dX6_elevator_152 : decode cX6_elevator 152 = .ok (.pop, 1) := by decide +kernel
theorem dX6_elevator_153 : decode cX6_elevator 153 = .ok (.aload_n 0, 1) := by decide +kernel
theorem dX6_elevator_154 : decode cX6_elevator 154 = .ok (.getfield 12, 3) := by decide +kernel
theorem dX6_elevator_157 : decode cX6_elevator 157 = .ok (.getfield 110, 3) := by decide +kernel
theorem dX6_elevator_160 : decode cX6_elevator 160 = .ok (.invokevirtual 50, 3) := by decide +kernel
theorem dX6_elevator_163 : decode cX6_elevator 163 = .ok (.iconst 1, 1) := by decide +kernel
theorem dX6_elevator_164 : decode cX6_elevator 164 = .ok (.isub, 1) := by decide +kernel
theorem dX6_elevator_165 : decode cX6_elevator 165 = .ok (.ireturn, 1) := by decide +kernel
theorem dX6_price_0 : decode cX6_price 0 = .ok (.iload_n 1, 1) := by decide +kernel
theorem dX6_price_1 : decode cX6_price 1 = .ok (.iconst 1, 1) := by decide +kernel
theorem dX6_price_2 : decode cX6_price 2 = .ok (.sipush 999, 3) := by decide +kernel
theorem dX6_price_5 : decode cX6_price 5 = .ok (.invokestatic 30, 3) := by decide +kernel
theorem dX6_price_8 : decode cX6_price 8 = .ok (.ifCond .eq 13, 3) := by decide +kernel
theorem dX6_price_11 : decode cX6_price 11 = .ok (.new 41, 3) := by decide +kernel
theorem dX6_price_14 : decode cX6_price 14 = .ok (.dup, 1) := by decide +kernel
theorem dX6_price_15 : decode cX6_price 15 = .ok (.ldc 120, 2) := by decide +kernel
theorem dX6_price_17 : decode cX6_price 17 = .ok (.invokespecial 45, 3) := by decide +kernel
theorem dX6_price_20 : decode cX6_price 20 = .ok (.athrow, 1) := by decide +kernel
theorem dX6_price_21 : decode cX6_price 21 = .ok (.aload_n 0, 1) := by decide +kernel
theorem dX6_price_22 : decode cX6_price 22 = .ok (.getfield 12, 3) := by decide +kernel
theorem dX6_price_25 : decode cX6_price 25 = .ok (.getfield 122, 3) := by decide +kernel
theorem dX6_price_28 : decode cX6_price 28 = .ok (.istore_n 2, 1) := by decide +kernel
theorem dX6_price_29 : decode cX6_price 29 = .ok (.aload_n 0, 1) := by decide +kernel
theorem dX6_price_30 : decode cX6_price 30 = .ok (.getfield 12, 3) := by decide +kernel
theorem dX6_price_33 : decode cX6_price 33 = .ok (.iload_n 1, 1) := by decide +kernel
theorem dX6_price_34 : decode cX6_price 34 = .ok (.putfield 122, 3) := by decide +kernel
theorem dX6_price_37 : decode cX6_price 37 = .ok (.iload_n 2, 1) := by decide +kernel
theorem dX6_price_38 : decode cX6_price 38 = .ok (.ireturn, 1) := by decide +kernel
theorem dX6_cut_0 : decode cX6_cut 0 = .ok (.aload_n 0, 1) := by decide +kernel
theorem dX6_cut_1 : decode cX6_cut 1 = .ok (.getfield 12, 3) := by decide +kernel
theorem dX6_cut_4 : decode cX6_cut 4 = .ok (.iload_n 1, 1) := by decide +kernel
theorem dX6_cut_5 : decode cX6_cut 5 = .ok (.invokevirtual 125, 3) := by decide +kernel
theorem dX6_cut_8 : decode cX6_cut 8 = .ok (.astore_n 3, 1) := by decide +kernel
theorem dX6_cut_9 : decode cX6_cut 9 = .ok (.aload_n 3, 1) := by decide +kernel
theorem dX6_cut_10 : decode cX6_cut 10 = .ok (.ifnonnull 13, 3) := by decide +kernel
theorem dX6_cut_13 : decode cX6_cut 13 = .ok (.new 34, 3) := by decide +kernel
theorem dX6_cut_16 : decode cX6_cut 16 = .ok (.dup, 1) := by decide +kernel
theorem dX6_cut_17 : decode cX6_cut 17 = .ok (.ldc 129, 2) := by decide +kernel
theorem dX6_cut_19 : decode cX6_cut 19 = .ok (.invokespecial 38, 3) := by decide +kernel
theorem dX6_cut_22 : decode cX6_cut 22 = .ok (.athrow, 1) := by decide +kernel
theorem dX6_cut_23 : decode cX6_cut 23 = .ok (.iload_n 2, 1) := by decide +kernel
theorem dX6_cut_24 : decode cX6_cut 24 = .ok (.iconst (-1), 1) := by decide +kernel
theorem dX6_cut_25 : decode cX6_cut 25 = .ok (.if_icmp .eq 24, 3) := by decide +kernel
theorem dX6_cut_28 : decode cX6_cut 28 = .ok (.aload_n 0, 1) := by decide +kernel
theorem dX6_cut_29 : decode cX6_cut 29 = .ok (.getfield 12, 3) := by decide +kernel
theorem dX6_cut_32 : decode cX6_cut 32 = .ok (.iload_n 2, 1) := by decide +kernel
theorem dX6_cut_33 : decode cX6_cut 33 = .ok (.invokevirtual 65, 3) := by decide +kernel
theorem dX6_cut_36 : decode cX6_cut 36 = .ok (.ifnonnull 13, 3) := by decide +kernel
theorem dX6_cut_39 : decode cX6_cut 39 = .ok (.new 34, 3) := by decide +kernel
theorem dX6_cut_42 : decode cX6_cut 42 = .ok (.dup, 1) := by decide +kernel
theorem dX6_cut_43 : decode cX6_cut 43 = .ok (.ldc 69, 2) := by decide +kernel
theorem dX6_cut_45 : decode cX6_cut 45 = .ok (.invokespecial 38, 3) := by decide +kernel
theorem dX6_cut_48 : decode cX6_cut 48 = .ok (.athrow, 1) := by decide +kernel
theorem dX6_cut_49 : decode cX6_cut 49 = .ok (.aload_n 3, 1) := by decide +kernel
theorem dX6_cut_50 : decode cX6_cut 50 = .ok (.iload_n 2, 1) := by decide +kernel
theorem dX6_cut_51 : decode cX6_cut 51 = .ok (.putfield 131, 3) := by decide +kernel
theorem dX6_cut_54 : decode cX6_cut 54 = .ok (.iload_n 2, 1) := by decide +kernel
theorem dX6_cut_55 : decode cX6_cut 55 = .ok (.iconst (-1), 1) := by decide +kernel
theorem dX6_cut_56 : decode cX6_cut 56 = .ok (.if_icmp .ne 7, 3) := by decide +kernel
theorem dX6_cut_59 : decode cX6_cut 59 = .ok (.iconst 0, 1) := by decide +kernel
theorem dX6_cut_60 : decode cX6_cut 60 = .ok (.goto 11, 3) := by decide +kernel
theorem dX6_cut_63 : decode cX6_cut 63 = .ok (.aload_n 0, 1) := by decide +kernel
theorem dX6_cut_64 : decode cX6_cut 64 = .ok (.getfield 12, 3) := by decide +kernel
theorem dX6_cut_67 : decode cX6_cut 67 = .ok (.iload_n 2, 1) := by decide +kernel
theorem dX6_cut_68 : decode cX6_cut 68 = .ok (.invokevirtual 134, 3) := by decide +kernel
theorem dX6_cut_71 : decode cX6_cut 71 = .ok (.ireturn, 1) := by decide +kernel
theorem dX6_fetch_0 : decode cX6_fetch 0 = .ok (.aload_n 0, 1) := by decide +kernel
theorem dX6_fetch_1 : decode cX6_fetch 1 = .ok (.getfield 12, 3) := by decide +kernel
theorem dX6_fetch_4 : decode cX6_fetch 4 = .ok (.iload_n 1, 1) := by decide +kernel
theorem dX6_fetch_5 : decode cX6_fetch 5 = .ok (.invokevirtual 138, 3) := by decide +kernel
theorem dX6_fetch_8 : decode cX6_fetch 8 = .ok (.astore_n 3, 1) := by decide +kernel
theorem dX6_fetch_9 : decode cX6_fetch 9 = .ok (.aload_n 3, 1) := by decide +kernel
theorem dX6_fetch_10 : decode cX6_fetch 10 = .ok (.ifnonnull 13, 3) := by decide +kernel
theorem dX6_fetch_13 : decode cX6_fetch 13 = .ok (.new 34, 3) := by decide +kernel
theorem dX6_fetch_16 : decode cX6_fetch 16 = .ok (.dup, 1) := by decide +kernel
theorem dX6_fetch_17 : decode cX6_fetch 17 = .ok (.ldc 142, 2) := by decide +kernel
theorem dX6_fetch_19 : decode cX6_fetch 19 = .ok (.invokespecial 38, 3) := by decide +kernel
theorem dX6_fetch_22 : decode cX6_fetch 22 = .ok (.athrow, 1) := by decide +kernel
