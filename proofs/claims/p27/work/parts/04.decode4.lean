theorem dX7_field_24 : decode cX7_field 24 = .ok (.iastore, 1) := by decide +kernel
theorem dX7_field_25 : decode cX7_field 25 = .ok (.dup, 1) := by decide +kernel
theorem dX7_field_26 : decode cX7_field 26 = .ok (.iconst 4, 1) := by decide +kernel
theorem dX7_field_27 : decode cX7_field 27 = .ok (.iconst 0, 1) := by decide +kernel
theorem dX7_field_28 : decode cX7_field 28 = .ok (.iastore, 1) := by decide +kernel
theorem dX7_field_29 : decode cX7_field 29 = .ok (.dup, 1) := by decide +kernel
theorem dX7_field_30 : decode cX7_field 30 = .ok (.iconst 5, 1) := by decide +kernel
theorem dX7_field_31 : decode cX7_field 31 = .ok (.bipush 30, 2) := by decide +kernel
theorem dX7_field_33 : decode cX7_field 33 = .ok (.iastore, 1) := by decide +kernel
theorem dX7_field_34 : decode cX7_field 34 = .ok (.dup, 1) := by decide +kernel
theorem dX7_field_35 : decode cX7_field 35 = .ok (.bipush 6, 2) := by decide +kernel
theorem dX7_field_37 : decode cX7_field 37 = .ok (.iconst 0, 1) := by decide +kernel
theorem dX7_field_38 : decode cX7_field 38 = .ok (.iastore, 1) := by decide +kernel
theorem dX7_field_39 : decode cX7_field 39 = .ok (.dup, 1) := by decide +kernel
theorem dX7_field_40 : decode cX7_field 40 = .ok (.bipush 7, 2) := by decide +kernel
theorem dX7_field_42 : decode cX7_field 42 = .ok (.iconst 0, 1) := by decide +kernel
theorem dX7_field_43 : decode cX7_field 43 = .ok (.iastore, 1) := by decide +kernel
theorem dX7_field_44 : decode cX7_field 44 = .ok (.dup, 1) := by decide +kernel
theorem dX7_field_45 : decode cX7_field 45 = .ok (.bipush 8, 2) := by decide +kernel
theorem dX7_field_47 : decode cX7_field 47 = .ok (.iconst 0, 1) := by decide +kernel
theorem dX7_field_48 : decode cX7_field 48 = .ok (.iastore, 1) := by decide +kernel
theorem dX7_field_49 : decode cX7_field 49 = .ok (.dup, 1) := by decide +kernel
theorem dX7_field_50 : decode cX7_field 50 = .ok (.bipush 9, 2) := by decide +kernel
theorem dX7_field_52 : decode cX7_field 52 = .ok (.iload 4, 2) := by decide +kernel
theorem dX7_field_54 : decode cX7_field 54 = .ok (.iastore, 1) := by decide +kernel
theorem dX7_field_55 : decode cX7_field 55 = .ok (.dup, 1) := by decide +kernel
theorem dX7_field_56 : decode cX7_field 56 = .ok (.bipush 10, 2) := by decide +kernel
theorem dX7_field_58 : decode cX7_field 58 = .ok (.iload 5, 2) := by decide +kernel
theorem dX7_field_60 : decode cX7_field 60 = .ok (.iastore, 1) := by decide +kernel
theorem dX7_field_61 : decode cX7_field 61 = .ok (.invokestatic 66, 3) := by decide +kernel
theorem dX7_field_64 : decode cX7_field 64 = .ok (.putfield 18, 3) := by decide +kernel
theorem dX7_field_67 : decode cX7_field 67 = .ok (.aload_n 0, 1) := by decide +kernel
theorem dX7_field_68 : decode cX7_field 68 = .ok (.getfield 10, 3) := by decide +kernel
theorem dX7_field_71 : decode cX7_field 71 = .ok (.iload_n 1, 1) := by decide +kernel
theorem dX7_field_72 : decode cX7_field 72 = .ok (.iload_n 2, 1) := by decide +kernel
theorem dX7_field_73 : decode cX7_field 73 = .ok (.iload_n 3, 1) := by decide +kernel
theorem dX7_field_74 : decode cX7_field 74 = .ok (.iload 4, 2) := by decide +kernel
theorem dX7_field_76 : decode cX7_field 76 = .ok (.iload 5, 2) := by decide +kernel
theorem dX7_field_78 : decode cX7_field 78 = .ok (.invokevirtual 70, 3) := by decide +kernel
theorem dX7_field_81 : decode cX7_field 81 = .ok (.aload_n 0, 1) := by decide +kernel
theorem dX7_field_82 : decode cX7_field 82 = .ok (.getfield 18, 3) := by decide +kernel
theorem dX7_field_85 : decode cX7_field 85 = .ok (.arraylength, 1) := by decide +kernel
theorem dX7_field_86 : decode cX7_field 86 = .ok (.iconst 1, 1) := by decide +kernel
theorem dX7_field_87 : decode cX7_field 87 = .ok (.isub, 1) := by decide +kernel
theorem dX7_field_88 : decode cX7_field 88 = .ok (.if_icmp .ne 7, 3) := by decide +kernel
theorem dX7_field_91 : decode cX7_field 91 = .ok (.iconst 1, 1) := by decide +kernel
theorem dX7_field_92 : decode cX7_field 92 = .ok (.goto 4, 3) := by decide +kernel
theorem dX7_field_95 : decode cX7_field 95 = .ok (.iconst 0, 1) := by decide +kernel
theorem dX7_field_96 : decode cX7_field 96 = .ok (.ireturn, 1) := by decide +kernel
theorem dX7_crop_0 : decode cX7_crop 0 = .ok (.aload_n 0, 1) := by decide +kernel
theorem dX7_crop_1 : decode cX7_crop 1 = .ok (.getfield 18, 3) := by decide +kernel
theorem dX7_crop_4 : decode cX7_crop 4 = .ok (.iload_n 1, 1) := by decide +kernel
theorem dX7_crop_5 : decode cX7_crop 5 = .ok (.aaload, 1) := by decide +kernel
theorem dX7_crop_6 : decode cX7_crop 6 = .ok (.iconst 4, 1) := by decide +kernel
theorem dX7_crop_7 : decode cX7_crop 7 = .ok (.iaload, 1) := by decide +kernel
theorem dX7_crop_8 : decode cX7_crop 8 = .ok (.istore 4, 2) := by decide +kernel
theorem dX7_crop_10 : decode cX7_crop 10 = .ok (.aload_n 0, 1) := by decide +kernel
theorem dX7_crop_11 : decode cX7_crop 11 = .ok (.getfield 18, 3) := by decide +kernel
theorem dX7_crop_14 : decode cX7_crop 14 = .ok (.iload_n 1, 1) := by decide +kernel
theorem dX7_crop_15 : decode cX7_crop 15 = .ok (.aaload, 1) := by decide +kernel
theorem dX7_crop_16 : decode cX7_crop 16 = .ok (.iconst 4, 1) := by decide +kernel
theorem dX7_crop_17 : decode cX7_crop 17 = .ok (.iload_n 2, 1) := by decide +kernel
theorem dX7_crop_18 : decode cX7_crop 18 = .ok (.iastore, 1) := by decide +kernel
theorem dX7_crop_19 : decode cX7_crop 19 = .ok (.aload_n 0, 1) := by decide +kernel
theorem dX7_crop_20 : decode cX7_crop 20 = .ok (.getfield 18, 3) := by decide +kernel
theorem dX7_crop_23 : decode cX7_crop 23 = .ok (.iload_n 1, 1) := by decide +kernel
theorem dX7_crop_24 : decode cX7_crop 24 = .ok (.aaload, 1) := by decide +kernel
theorem dX7_crop_25 : decode cX7_crop 25 = .ok (.iconst 5, 1) := by decide +kernel
theorem dX7_crop_26 : decode cX7_crop 26 = .ok (.iload_n 3, 1) := by decide +kernel
theorem dX7_crop_27 : decode cX7_crop 27 = .ok (.iastore, 1) := by decide +kernel
theorem dX7_crop_28 : decode cX7_crop 28 = .ok (.aload_n 0, 1) := by decide +kernel
theorem dX7_crop_29 : decode cX7_crop 29 = .ok (.getfield 10, 3) := by decide +kernel
theorem dX7_crop_32 : decode cX7_crop 32 = .ok (.iload_n 1, 1) := by decide +kernel
theorem dX7_crop_33 : decode cX7_crop 33 = .ok (.iload_n 2, 1) := by decide +kernel
theorem dX7_crop_34 : decode cX7_crop 34 = .ok (.iload_n 3, 1) := by decide +kernel
theorem dX7_crop_35 : decode cX7_crop 35 = .ok (.invokevirtual 74, 3) := by decide +kernel
theorem dX7_crop_38 : decode cX7_crop 38 = .ok (.iload 4, 2) := by decide +kernel
theorem dX7_crop_40 : decode cX7_crop 40 = .ok (.if_icmp .ne 7, 3) := by decide +kernel
theorem dX7_crop_43 : decode cX7_crop 43 = .ok (.iconst 1, 1) := by decide +kernel
theorem dX7_crop_44 : decode cX7_crop 44 = .ok (.goto 4, 3) := by decide +kernel
theorem dX7_crop_47 : decode cX7_crop 47 = .ok (.iconst 0, 1) := by decide +kernel
theorem dX7_crop_48 : decode cX7_crop 48 = .ok (.ireturn, 1) := by decide +kernel
theorem dX7_combine_0 : decode cX7_combine 0 = .ok (.aload_n 0, 1) := by decide +kernel
theorem dX7_combine_1 : decode cX7_combine 1 = .ok (.aload_n 0, 1) := by decide +kernel
theorem dX7_combine_2 : decode cX7_combine 2 = .ok (.getfield 22, 3) := by decide +kernel
theorem dX7_combine_5 : decode cX7_combine 5 = .ok (.bipush 10, 2) := by decide +kernel
theorem dX7_combine_7 : decode cX7_combine 7 = .ok (.newarray .int, 2) := by decide +kernel
theorem dX7_combine_9 : decode cX7_combine 9 = .ok (.dup, 1) := by decide +kernel
theorem dX7_combine_10 : decode cX7_combine 10 = .ok (.iconst 0, 1) := by decide +kernel
theorem dX7_combine_11 : decode cX7_combine 11 = .ok (.iload_n 1, 1) := by decide +kernel
theorem dX7_combine_12 : decode cX7_combine 12 = .ok (.iastore, 1) := by decide +kernel
theorem dX7_combine_13 : decode cX7_combine 13 = .ok (.dup, 1) := by decide +kernel
theorem dX7_combine_14 : decode cX7_combine 14 = .ok (.iconst 1, 1) := by decide +kernel
theorem dX7_combine_15 : decode cX7_combine 15 = .ok (.iconst 0, 1) := by decide +kernel
theorem dX7_combine_16 : decode cX7_combine 16 = .ok (.iastore, 1) := by decide +kernel
theorem dX7_combine_17 : decode cX7_combine 17 = .ok (.dup, 1) := by decide +kernel
theorem dX7_combine_18 : decode cX7_combine 18 = .ok (.iconst 2, 1) := by decide +kernel
theorem dX7_combine_19 : decode cX7_combine 19 = .ok (.iconst (-1), 1) := by decide +kernel
theorem dX7_combine_20 : decode cX7_combine 20 = .ok (.iastore, 1) := by decide +kernel
theorem dX7_combine_21 : decode cX7_combine 21 = .ok (.dup, 1) := by decide +kernel
theorem dX7_combine_22 : decode cX7_combine 22 = .ok (.iconst 3, 1) := by decide +kernel
theorem dX7_combine_23 : decode cX7_combine 23 = .ok (.iconst 0, 1) := by decide +kernel
theorem dX7_combine_24 : decode cX7_combine 24 = .ok (.iastore, 1) := by decide +kernel
theorem dX7_combine_25 : decode cX7_combine 25 = .ok (.dup, 1) := by decide +kernel
theorem dX7_combine_26 : decode cX7_combine 26 = .ok (.iconst 4, 1) := by decide +kernel
theorem dX7_combine_27 : decode cX7_combine 27 = .ok (.iconst 0, 1) := by decide +kernel
theorem dX7_combine_28 : decode cX7_combine 28 = .ok (.iastore, 1) := by decide +kernel
theorem dX7_combine_29 : decode cX7_combine 29 = .ok (.dup, 1) := by decide +kernel
theorem dX7_combine_30 : decode cX7_combine 30 = .ok (.iconst 5, 1) := by decide +kernel
theorem dX7_combine_31 : decode cX7_combine 31 = .ok (.iconst (-1), 1) := by decide +kernel
theorem dX7_combine_32 : decode cX7_combine 32 = .ok (.iastore, 1) := by decide +kernel
theorem dX7_combine_33 : decode cX7_combine 33 = .ok (.dup, 1) := by decide +kernel
theorem dX7_combine_34 : decode cX7_combine 34 = .ok (.bipush 6, 2) := by decide +kernel
theorem dX7_combine_36 : decode cX7_combine 36 = .ok (.iconst 0, 1) := by decide +kernel
theorem dX7_combine_37 : decode cX7_combine 37 = .ok (.iastore, 1) := by decide +kernel
theorem dX7_combine_38 : decode cX7_combine 38 = .ok (.dup, 1) := by decide +kernel
theorem dX7_combine_39 : decode cX7_combine 39 = .ok (.bipush 7, 2) := by decide +kernel
theorem dX7_combine_41 : decode cX7_combine 41 = .ok (.iconst 0, 1) := by decide +kernel
theorem dX7_combine_42 : decode cX7_combine 42 = .ok (.iastore, 1) := by decide +kernel
theorem dX7_combine_43 : decode cX7_combine 43 = .ok (.dup, 1) := by decide +kernel
theorem dX7_combine_44 : decode cX7_combine 44 = .ok (.bipush 8, 2) := by decide +kernel
theorem dX7_combine_46 : decode cX7_combine 46 = .ok (.iload_n 2, 1) := by decide +kernel
theorem dX7_combine_47 : decode cX7_combine 47 = .ok (.iastore, 1) := by decide +kernel
theorem dX7_combine_48 : decode cX7_combine 48 = .ok (.dup, 1) := by decide +kernel
theorem dX7_combine_49 : decode cX7_combine 49 = .ok (.bipush 9, 2) := by decide +kernel
theorem dX7_combine_51 : decode cX7_combine 51 = .ok (.iconst 0, 1) := by decide +kernel
theorem dX7_combine_52 : decode cX7_combine 52 = .ok (.iastore, 1) := by decide +kernel
theorem dX7_combine_53 : decode cX7_combine 53 = .ok (.invokestatic 66, 3) := by decide +kernel
theorem dX7_combine_56 : decode cX7_combine 56 = .ok (.putfield 22, 3) := by decide +kernel
theorem dX7_combine_59 : decode cX7_combine 59 = .ok (.aload_n 0, 1) := by decide +kernel
theorem dX7_combine_60 : decode cX7_combine 60 = .ok (.getfield 10, 3) := by decide +kernel
theorem dX7_combine_63 : decode cX7_combine 63 = .ok (.iload_n 1, 1) := by decide +kernel
theorem dX7_combine_64 : decode cX7_combine 64 = .ok (.iload_n 2, 1) := by decide +kernel
theorem dX7_combine_65 : decode cX7_combine 65 = .ok (.invokevirtual 78, 3) := by decide +kernel
theorem dX7_combine_68 : decode cX7_combine 68 = .ok (.aload_n 0, 1) := by decide +kernel
theorem dX7_combine_69 : decode cX7_combine 69 = .ok (.getfield 22, 3) := by decide +kernel
theorem dX7_combine_72 : decode cX7_combine 72 = .ok (.arraylength, 1) := by decide +kernel
theorem dX7_combine_73 : decode cX7_combine 73 = .ok (.iconst 1, 1) := by decide +kernel
theorem dX7_combine_74 : decode cX7_combine 74 = .ok (.isub, 1) := by decide +kernel
theorem dX7_combine_75 : decode cX7_combine 75 = .ok (.if_icmp .ne 7, 3) := by decide +kernel
theorem dX7_combine_78 : decode cX7_combine 78 = .ok (.iconst 1, 1) := by decide +kernel
theorem dX7_combine_79 : decode cX7_combine 79 = .ok (.goto 4, 3) := by decide +kernel
theorem dX7_combine_82 : decode cX7_combine 82 = .ok (.iconst 0, 1) := by decide +kernel
theorem dX7_combine_83 : decode cX7_combine 83 = .ok (.ireturn, 1) := by decide +kernel
theorem dX7_truck_0 : decode cX7_truck 0 = .ok (.aload_n 0, 1) := by decide +kernel
theorem dX7_truck_1 : decode cX7_truck 1 = .ok (.aload_n 0, 1) := by decide +kernel
theorem dX7_truck_2 : decode cX7_truck 2 = .ok (.getfield 25, 3) := by decide +kernel
theorem dX7_truck_5 : decode cX7_truck 5 = .ok (.bipush 10, 2) := by decide +kernel
theorem dX7_truck_7 : decode cX7_truck 7 = .ok (.newarray .int, 2) := by decide +kernel
theorem dX7_truck_9 : decode cX7_truck 9 = .ok (.dup, 1) := by decide +kernel
theorem dX7_truck_10 : decode cX7_truck 10 = .ok (.iconst 0, 1) := by decide +kernel
theorem dX7_truck_11 : decode cX7_truck 11 = .ok (.iload_n 1, 1) := by decide +kernel
theorem dX7_truck_12 : decode cX7_truck 12 = .ok (.iastore, 1) := by decide +kernel
theorem dX7_truck_13 : decode cX7_truck 13 = .ok (.dup, 1) := by decide +kernel
theorem dX7_truck_14 : decode cX7_truck 14 = .ok (.iconst 1, 1) := by decide +kernel
theorem dX7_truck_15 : decode cX7_truck 15 = .ok (.iconst 0, 1) := by decide +kernel
theorem dX7_truck_16 : decode cX7_truck 16 = .ok (.iastore, 1) := by decide +kernel
theorem dX7_truck_17 : decode cX7_truck 17 = .ok (.dup, 1) := by decide +kernel
theorem dX7_truck_18 : decode cX7_truck 18 = .ok (.iconst 2, 1) := by decide +kernel
theorem dX7_truck_19 : decode cX7_truck 19 = .ok (.iconst (-1), 1) := by decide +kernel
theorem dX7_truck_20 : decode cX7_truck 20 = .ok (.iastore, 1) := by decide +kernel
theorem dX7_truck_21 : decode cX7_truck 21 = .ok (.dup, 1) := by decide +kernel
theorem dX7_truck_22 : decode cX7_truck 22 = .ok (.iconst 3, 1) := by decide +kernel
theorem dX7_truck_23 : decode cX7_truck 23 = .ok (.iconst 0, 1) := by decide +kernel
theorem dX7_truck_24 : decode cX7_truck 24 = .ok (.iastore, 1) := by decide +kernel
theorem dX7_truck_25 : decode cX7_truck 25 = .ok (.dup, 1) := by decide +kernel
theorem dX7_truck_26 : decode cX7_truck 26 = .ok (.iconst 4, 1) := by decide +kernel
theorem dX7_truck_27 : decode cX7_truck 27 = .ok (.iconst 0, 1) := by decide +kernel
theorem dX7_truck_28 : decode cX7_truck 28 = .ok (.iastore, 1) := by decide +kernel
theorem dX7_truck_29 : decode cX7_truck 29 = .ok (.dup, 1) := by decide +kernel
theorem dX7_truck_30 : decode cX7_truck 30 = .ok (.iconst 5, 1) := by decide +kernel
theorem dX7_truck_31 : decode cX7_truck 31 = .ok (.iconst 0, 1) := by decide +kernel
theorem dX7_truck_32 : decode cX7_truck 32 = .ok (.iastore, 1) := by decide +kernel
theorem dX7_truck_33 : decode cX7_truck 33 = .ok (.dup, 1) := by decide +kernel
theorem dX7_truck_34 : decode cX7_truck 34 = .ok (.bipush 6, 2) := by decide +kernel
theorem dX7_truck_36 : decode cX7_truck 36 = .ok (.iconst 0, 1) := by decide +kernel
theorem dX7_truck_37 : decode cX7_truck 37 = .ok (.iastore, 1) := by decide +kernel
theorem dX7_truck_38 : decode cX7_truck 38 = .ok (.dup, 1) := by decide +kernel
theorem dX7_truck_39 : decode cX7_truck 39 = .ok (.bipush 7, 2) := by decide +kernel
theorem dX7_truck_41 : decode cX7_truck 41 = .ok (.iconst 0, 1) := by decide +kernel
theorem dX7_truck_42 : decode cX7_truck 42 = .ok (.iastore, 1) := by decide +kernel
theorem dX7_truck_43 : decode cX7_truck 43 = .ok (.dup, 1) := by decide +kernel
theorem dX7_truck_44 : decode cX7_truck 44 = .ok (.bipush 8, 2) := by decide +kernel
theorem dX7_truck_46 : decode cX7_truck 46 = .ok (.iconst 0, 1) := by decide +kernel
theorem dX7_truck_47 : decode cX7_truck 47 = .ok (.iastore, 1) := by decide +kernel
theorem dX7_truck_48 : decode cX7_truck 48 = .ok (.dup, 1) := by decide +kernel
theorem dX7_truck_49 : decode cX7_truck 49 = .ok (.bipush 9, 2) := by decide +kernel
theorem dX7_truck_51 : decode cX7_truck 51 = .ok (.iconst 0, 1) := by decide +kernel
theorem dX7_truck_52 : decode cX7_truck 52 = .ok (.iastore, 1) := by decide +kernel
theorem dX7_truck_53 : decode cX7_truck 53 = .ok (.invokestatic 66, 3) := by decide +kernel
theorem dX7_truck_56 : decode cX7_truck 56 = .ok (.putfield 25, 3) := by decide +kernel
theorem dX7_truck_59 : decode cX7_truck 59 = .ok (.aload_n 0, 1) := by decide +kernel
theorem dX7_truck_60 : decode cX7_truck 60 = .ok (.getfield 10, 3) := by decide +kernel
theorem dX7_truck_63 : decode cX7_truck 63 = .ok (.iload_n 1, 1) := by decide +kernel
theorem dX7_truck_64 : decode cX7_truck 64 = .ok (.invokevirtual 81, 3) := by decide +kernel
theorem dX7_truck_67 : decode cX7_truck 67 = .ok (.aload_n 0, 1) := by decide +kernel
theorem dX7_truck_68 : decode cX7_truck 68 = .ok (.getfield 25, 3) := by decide +kernel
theorem dX7_truck_71 : decode cX7_truck 71 = .ok (.arraylength, 1) := by decide +kernel
theorem dX7_truck_72 : decode cX7_truck 72 = .ok (.iconst 1, 1) := by decide +kernel
theorem dX7_truck_73 : decode cX7_truck 73 = .ok (.isub, 1) := by decide +kernel
theorem dX7_truck_74 : decode cX7_truck 74 = .ok (.if_icmp .ne 7, 3) := by decide +kernel
theorem dX7_truck_77 : decode cX7_truck 77 = .ok (.iconst 1, 1) := by decide +kernel
theorem dX7_truck_78 : decode cX7_truck 78 = .ok (.goto 4, 3) := by decide +kernel
theorem dX7_truck_81 : decode cX7_truck 81 = .ok (.iconst 0, 1) := by decide +kernel
theorem dX7_truck_82 : decode cX7_truck 82 = .ok (.ireturn, 1) := by decide +kernel
theorem dX7_elevator_0 : decode cX7_elevator 0 = .ok (.aload_n 0, 1) := by decide +kernel
theorem dX7_elevator_1 : decode cX7_elevator 1 = .ok (.aload_n 0, 1) := by decide +kernel
theorem dX7_elevator_2 : decode cX7_elevator 2 = .ok (.getfield 28, 3) := by decide +kernel
theorem dX7_elevator_5 : decode cX7_elevator 5 = .ok (.bipush 6, 2) := by decide +kernel
theorem dX7_elevator_7 : decode cX7_elevator 7 = .ok (.newarray .int, 2) := by decide +kernel
theorem dX7_elevator_9 : decode cX7_elevator 9 = .ok (.dup, 1) := by decide +kernel
theorem dX7_elevator_10 : decode cX7_elevator 10 = .ok (.iconst 0, 1) := by decide +kernel
theorem dX7_elevator_11 : decode cX7_elevator 11 = .ok (.iload_n 1, 1) := by decide +kernel
theorem dX7_elevator_12 : decode cX7_elevator 12 = .ok (.iastore, 1) := by decide +kernel
theorem dX7_elevator_13 : decode cX7_elevator 13 = .ok (.dup, 1) := by decide +kernel
theorem dX7_elevator_14 : decode cX7_elevator 14 = .ok (.iconst 1, 1) := by decide +kernel
theorem dX7_elevator_15 : decode cX7_elevator 15 = .ok (.iload_n 2, 1) := by decide +kernel
theorem dX7_elevator_16 : decode cX7_elevator 16 = .ok (.iastore, 1) := by decide +kernel
theorem dX7_elevator_17 : decode cX7_elevator 17 = .ok (.dup, 1) := by decide +kernel
theorem dX7_elevator_18 : decode cX7_elevator 18 = .ok (.iconst 2, 1) := by decide +kernel
theorem dX7_elevator_19 : decode cX7_elevator 19 = .ok (.iload_n 3, 1) := by decide +kernel
theorem dX7_elevator_20 : decode cX7_elevator 20 = .ok (.iastore, 1) := by decide +kernel
theorem dX7_elevator_21 : decode cX7_elevator 21 = .ok (.dup, 1) := by decide +kernel
theorem dX7_elevator_22 : decode cX7_elevator 22 = .ok (.iconst 3, 1) := by decide +kernel
theorem dX7_elevator_23 : decode cX7_elevator 23 = .ok (.iload 4, 2) := by decide +kernel
theorem dX7_elevator_25 : decode cX7_elevator 25 = .ok (.iastore, 1) := by decide +kernel
theorem dX7_elevator_26 : decode cX7_elevator 26 = .ok (.dup, 1) := by decide +kernel
theorem dX7_elevator_27 : decode cX7_elevator 27 = .ok (.iconst 4, 1) := by decide +kernel
theorem dX7_elevator_28 : decode cX7_elevator 28 = .ok (.iload 5, 2) := by decide +kernel
theorem dX7_elevator_30 : decode cX7_elevator 30 = .ok (.iastore, 1) := by decide +kernel
theorem dX7_elevator_31 : decode cX7_elevator 31 = .ok (.dup, 1) := by decide +kernel
theorem dX7_elevator_32 : decode cX7_elevator 32 = .ok (.iconst 5, 1) := by decide +kernel
theorem dX7_elevator_33 : decode cX7_elevator 33 = .ok (.iload 6, 2) := by decide +kernel
theorem dX7_elevator_35 : decode cX7_elevator 35 = .ok (.iastore, 1) := by decide +kernel
theorem dX7_elevator_36 : decode cX7_elevator 36 = .ok (.invokestatic 66, 3) := by decide +kernel
theorem dX7_elevator_39 : decode cX7_elevator 39 = .ok (.putfield 28, 3) := by decide +kernel
theorem dX7_elevator_42 : decode cX7_elevator 42 = .ok (.aload_n 0, 1) := by decide +kernel
theorem dX7_elevator_43 : decode cX7_elevator 43 = .ok (.getfield 10, 3) := by decide +kernel
theorem dX7_elevator_46 : decode cX7_elevator 46 = .ok (.iload_n 1, 1) := by decide +kernel
theorem dX7_elevator_47 : decode cX7_elevator 47 = .ok (.iload_n 2, 1) := by decide +kernel
theorem dX7_elevator_48 : decode cX7_elevator 48 = .ok (.iload_n 3, 1) := by decide +kernel
theorem dX7_elevator_49 : decode cX7_elevator 49 = .ok (.iload 4, 2) := by decide +kernel
theorem dX7_elevator_51 : decode cX7_elevator 51 = .ok (.iload 5, 2) := by decide +kernel
theorem dX7_elevator_53 : decode cX7_elevator 53 = .ok (.iload 6, 2) := by decide +kernel
theorem dX7_elevator_55 : decode cX7_elevator 55 = .ok (.invokevirtual 85, 3) := by decide +kernel
theorem dX7_elevator_58 : decode cX7_elevator 58 = .ok (.aload_n 0, 1) := by decide +kernel
theorem dX7_elevator_59 : decode cX7_elevator 59 = .ok (.getfield 28, 3) := by decide +kernel
theorem dX7_elevator_62 : decode cX7_elevator 62 = .ok (.arraylength, 1) := by decide +kernel
theorem dX7_elevator_63 : decode cX7_elevator 63 = .ok (.iconst 1, 1) := by decide +kernel
theorem dX7_elevator_64 : decode cX7_elevator 64 = .ok (.isub, 1) := by decide +kernel
theorem dX7_elevator_65 : decode cX7_elevator 65 = .ok (.if_icmp .ne 7, 3) := by decide +kernel
theorem dX7_elevator_68 : decode cX7_elevator 68 = .ok (.iconst 1, 1) := by decide +kernel
theorem dX7_elevator_69 : decode cX7_elevator 69 = .ok (.goto 4, 3) := by decide +kernel
theorem dX7_elevator_72 : decode cX7_elevator 72 = .ok (.iconst 0, 1) := by decide +kernel
theorem dX7_elevator_73 : decode cX7_elevator 73 = .ok (.ireturn, 1) := by decide +kernel
theorem dX7_found_0 : decode cX7_found 0 = .ok (.iconst 0, 1) := by decide +kernel
theorem dX7_found_1 : decode cX7_found 1 = .ok (.istore_n 2, 1) := by decide +kernel
theorem dX7_found_2 : decode cX7_found 2 = .ok (.iload_n 2, 1) := by decide +kernel
theorem dX7_found_3 : decode cX7_found 3 = .ok (.iload_n 1, 1) := by decide +kernel
theorem dX7_found_4 : decode cX7_found 4 = .ok (.if_icmp .ge 82, 3) := by decide +kernel
theorem dX7_found_7 : decode cX7_found 7 = .ok (.aload_n 0, 1) := by decide +kernel
theorem dX7_found_8 : decode cX7_found 8 = .ok (.aload_n 0, 1) := by decide +kernel
theorem dX7_found_9 : decode cX7_found 9 = .ok (.iconst 4, 1) := by decide +kernel
theorem dX7_found_10 : decode cX7_found 10 = .ok (.invokevirtual 142, 3) := by decide +kernel
theorem dX7_found_13 : decode cX7_found 13 = .ok (.bipush 10, 2) := by decide +kernel
theorem dX7_found_15 : decode cX7_found 15 = .ok (.aload_n 0, 1) := by decide +kernel
theorem dX7_found_16 : decode cX7_found 16 = .ok (.bipush 12, 2) := by decide +kernel
theorem dX7_found_18 : decode cX7_found 18 = .ok (.invokevirtual 142, 3) := by decide +kernel
theorem dX7_found_21 : decode cX7_found 21 = .ok (.imul, 1) := by decide +kernel
theorem dX7_found_22 : decode cX7_found 22 = .ok (.bipush 20, 2) := by decide +kernel
theorem dX7_found_24 : decode cX7_found 24 = .ok (.aload_n 0, 1) := by decide +kernel
theorem dX7_found_25 : decode cX7_found 25 = .ok (.bipush 100, 2) := by decide +kernel
theorem dX7_found_27 : decode cX7_found 27 = .ok (.invokevirtual 142, 3) := by decide +kernel
theorem dX7_found_30 : decode cX7_found 30 = .ok (.iadd, 1) := by decide +kernel
theorem dX7_found_31 : decode cX7_found 31 = .ok (.bipush 10, 2) := by decide +kernel
theorem dX7_found_33 : decode cX7_found 33 = .ok (.aload_n 0, 1) := by decide +kernel
theorem dX7_found_34 : decode cX7_found 34 = .ok (.bipush 81, 2) := by decide +kernel
theorem dX7_found_36 : decode cX7_found 36 = .ok (.invokevirtual 142, 3) := by decide +kernel
theorem dX7_found_39 : decode cX7_found 39 = .ok (.iadd, 1) := by decide +kernel
theorem dX7_found_40 : decode cX7_found 40 = .ok (.aload_n 0, 1) := by decide +kernel
theorem dX7_found_41 : decode cX7_found 41 = .ok (.bipush 51, 2) := by decide +kernel
theorem dX7_found_43 : decode cX7_found 43 = .ok (.invokevirtual 142, 3) := by decide +kernel
theorem dX7_found_46 : decode cX7_found 46 = .ok (.invokevirtual 145, 3) := by decide +kernel
theorem dX7_found_49 : decode cX7_found 49 = .ok (.ifCond .eq 29, 3) := by decide +kernel
theorem dX7_found_52 : decode cX7_found 52 = .ok (.aload_n 0, 1) := by decide +kernel
theorem dX7_found_53 : decode cX7_found 53 = .ok (.iload_n 2, 1) := by decide +kernel
theorem dX7_found_54 : decode cX7_found 54 = .ok (.bipush 70, 2) := by decide +kernel
theorem dX7_found_56 : decode cX7_found 56 = .ok (.aload_n 0, 1) := by decide +kernel
theorem dX7_found_57 : decode cX7_found 57 = .ok (.bipush 31, 2) := by decide +kernel
theorem dX7_found_59 : decode cX7_found 59 = .ok (.invokevirtual 142, 3) := by decide +kernel
theorem dX7_found_62 : decode cX7_found 62 = .ok (.iadd, 1) := by decide +kernel
theorem dX7_found_63 : decode cX7_found 63 = .ok (.bipush 8, 2) := by decide +kernel
theorem dX7_found_65 : decode cX7_found 65 = .ok (.aload_n 0, 1) := by decide +kernel
theorem dX7_found_66 : decode cX7_found 66 = .ok (.bipush 14, 2) := by decide +kernel
theorem dX7_found_68 : decode cX7_found 68 = .ok (.invokevirtual 142, 3) := by decide +kernel
theorem dX7_found_71 : decode cX7_found 71 = .ok (.iadd, 1) := by decide +kernel
theorem dX7_found_72 : decode cX7_found 72 = .ok (.invokevirtual 148, 3) := by decide +kernel
theorem dX7_found_75 : decode cX7_found 75 = .ok (.ifCond .ne 5, 3) := by decide +kernel
theorem dX7_found_78 : decode cX7_found 78 = .ok (.iconst 0, 1) := by decide +kernel
theorem dX7_found_79 : decode cX7_found 79 = .ok (.ireturn, 1) := by decide +kernel
theorem dX7_found_80 : decode cX7_found 80 = .ok (.iinc 2 1, 3) := by decide +kernel
theorem dX7_found_83 : decode cX7_found 83 = .ok (.goto (-81), 3) := by decide +kernel
theorem dX7_found_86 : decode cX7_found 86 = .ok (.iconst 0, 1) := by decide +kernel
theorem dX7_found_87 : decode cX7_found 87 = .ok (.istore_n 2, 1) := by decide +kernel
theorem dX7_found_88 : decode cX7_found 88 = .ok (.iload_n 2, 1) := by decide +kernel
theorem dX7_found_89 : decode cX7_found 89 = .ok (.iconst 2, 1) := by decide +kernel
theorem dX7_found_90 : decode cX7_found 90 = .ok (.if_icmp .ge 51, 3) := by decide +kernel
theorem dX7_found_93 : decode cX7_found 93 = .ok (.aload_n 0, 1) := by decide +kernel
theorem dX7_found_94 : decode cX7_found 94 = .ok (.bipush 10, 2) := by decide +kernel
theorem dX7_found_96 : decode cX7_found 96 = .ok (.aload_n 0, 1) := by decide +kernel
theorem dX7_found_97 : decode cX7_found 97 = .ok (.bipush 12, 2) := by decide +kernel
theorem dX7_found_99 : decode cX7_found 99 = .ok (.invokevirtual 142, 3) := by decide +kernel
theorem dX7_found_102 : decode cX7_found 102 = .ok (.imul, 1) := by decide +kernel
theorem dX7_found_103 : decode cX7_found 103 = .ok (.iconst 1, 1) := by decide +kernel
theorem dX7_found_104 : decode cX7_found 104 = .ok (.aload_n 0, 1) := by decide +kernel
theorem dX7_found_105 : decode cX7_found 105 = .ok (.bipush 20, 2) := by decide +kernel
theorem dX7_found_107 : decode cX7_found 107 = .ok (.invokevirtual 142, 3) := by decide +kernel
theorem dX7_found_110 : decode cX7_found 110 = .ok (.iadd, 1) := by decide +kernel
theorem dX7_found_111 : decode cX7_found 111 = .ok (.invokevirtual 151, 3) := by decide +kernel
theorem dX7_found_114 : decode cX7_found 114 = .ok (.ifCond .eq 19, 3) := by decide +kernel
theorem dX7_found_117 : decode cX7_found 117 = .ok (.aload_n 0, 1) := by decide +kernel
theorem dX7_found_118 : decode cX7_found 118 = .ok (.bipush 10, 2) := by decide +kernel
theorem dX7_found_120 : decode cX7_found 120 = .ok (.aload_n 0, 1) := by decide +kernel
theorem dX7_found_121 : decode cX7_found 121 = .ok (.bipush 12, 2) := by decide +kernel
theorem dX7_found_123 : decode cX7_found 123 = .ok (.invokevirtual 142, 3) := by decide +kernel
theorem dX7_found_126 : decode cX7_found 126 = .ok (.imul, 1) := by decide +kernel
theorem dX7_found_127 : decode cX7_found 127 = .ok (.invokevirtual 154, 3) := by decide +kernel
theorem dX7_found_130 : decode cX7_found 130 = .ok (.ifCond .ne 5, 3) := by decide +kernel
theorem dX7_found_133 : decode cX7_found 133 = .ok (.iconst 0, 1) := by decide +kernel
theorem dX7_found_134 : decode cX7_found 134 = .ok (.ireturn, 1) := by decide +kernel
theorem dX7_found_135 : decode cX7_found 135 = .ok (.iinc 2 1, 3) := by decide +kernel
theorem dX7_found_138 : decode cX7_found 138 = .ok (.goto (-50), 3) := by decide +kernel
theorem dX7_found_141 : decode cX7_found 141 = .ok (.aload_n 0, 1) := by decide +kernel
theorem dX7_found_142 : decode cX7_found 142 = .ok (.bipush 10, 2) := by decide +kernel
theorem dX7_found_144 : decode cX7_found 144 = .ok (.aload_n 0, 1) := by decide +kernel
theorem dX7_found_145 : decode cX7_found 145 = .ok (.bipush 12, 2) := by decide +kernel
theorem dX7_found_147 : decode cX7_found 147 = .ok (.invokevirtual 142, 3) := by decide +kernel
theorem dX7_found_150 : decode cX7_found 150 = .ok (.imul, 1) := by decide +kernel
theorem dX7_found_151 : decode cX7_found 151 = .ok (.sipush 500, 3) := by decide +kernel
theorem dX7_found_154 : decode cX7_found 154 = .ok (.aload_n 0, 1) := by decide +kernel
theorem dX7_found_155 : decode cX7_found 155 = .ok (.sipush 9000, 3) := by decide +kernel
theorem dX7_found_158 : decode cX7_found 158 = .ok (.invokevirtual 142, 3) := by decide +kernel
theorem dX7_found_161 : decode cX7_found 161 = .ok (.iadd, 1) := by decide +kernel
theorem dX7_found_162 : decode cX7_found 162 = .ok (.aload_n 0, 1) := by decide +kernel
theorem dX7_found_163 : decode cX7_found 163 = .ok (.bipush 12, 2) := by decide +kernel
theorem dX7_found_165 : decode cX7_found 165 = .ok (.invokevirtual 142, 3) := by decide +kernel
theorem dX7_found_168 : decode cX7_found 168 = .ok (.bipush 12, 2) := by decide +kernel
theorem dX7_found_170 : decode cX7_found 170 = .ok (.aload_n 0, 1) := by decide +kernel
theorem dX7_found_171 : decode cX7_found 171 = .ok (.bipush 12, 2) := by decide +kernel
theorem dX7_found_173 : decode cX7_found 173 = .ok (.invokevirtual 142, 3) := by decide +kernel
theorem dX7_found_176 : decode cX7_found 176 = .ok (.iadd, 1) := by decide +kernel
theorem dX7_found_177 : decode cX7_found 177 = .ok (.iconst 5, 1) := by decide +kernel
theorem dX7_found_178 : decode cX7_found 178 = .ok (.aload_n 0, 1) := by decide +kernel
theorem dX7_found_179 : decode cX7_found 179 = .ok (.bipush 9, 2) := by decide +kernel
theorem dX7_found_181 : decode cX7_found 181 = .ok (.invokevirtual 142, 3) := by decide +kernel
theorem dX7_found_184 : decode cX7_found 184 = .ok (.iadd, 1) := by decide +kernel
theorem dX7_found_185 : decode cX7_found 185 = .ok (.bipush 14, 2) := by decide +kernel
theorem dX7_found_187 : decode cX7_found 187 = .ok (.aload_n 0, 1) := by decide +kernel
theorem dX7_found_188 : decode cX7_found 188 = .ok (.bipush 20, 2) := by decide +kernel
theorem dX7_found_190 : decode cX7_found 190 = .ok (.invokevirtual 142, 3) := by decide +kernel
theorem dX7_found_193 : decode cX7_found 193 = .ok (.iadd, 1) := by decide +kernel
theorem dX7_found_194 : decode cX7_found 194 = .ok (.invokevirtual 157, 3) := by decide +kernel
theorem dX7_found_197 : decode cX7_found 197 = .ok (.ifCond .eq 66, 3) := by decide +kernel
theorem dX7_found_200 : decode cX7_found 200 = .ok (.aload_n 0, 1) := by decide +kernel
theorem dX7_found_201 : decode cX7_found 201 = .ok (.bipush 10, 2) := by decide +kernel
theorem dX7_found_203 : decode cX7_found 203 = .ok (.aload_n 0, 1) := by decide +kernel
theorem dX7_found_204 : decode cX7_found 204 = .ok (.bipush 12, 2) := by decide +kernel
theorem dX7_found_206 : decode cX7_found 206 = .ok (.invokevirtual 142, 3) := by decide +kernel
theorem dX7_found_209 : decode cX7_found 209 = .ok (.imul, 1) := by decide +kernel
theorem dX7_found_210 : decode cX7_found 210 = .ok (.sipush 500, 3) := by decide +kernel
theorem dX7_found_213 : decode cX7_found 213 = .ok (.aload_n 0, 1) := by decide +kernel
theorem dX7_found_214 : decode cX7_found 214 = .ok (.sipush 9000, 3) := by decide +kernel
theorem dX7_found_217 : decode cX7_found 217 = .ok (.invokevirtual 142, 3) := by decide +kernel
theorem dX7_found_220 : decode cX7_found 220 = .ok (.iadd, 1) := by decide +kernel
theorem dX7_found_221 : decode cX7_found 221 = .ok (.bipush 12, 2) := by decide +kernel
theorem dX7_found_223 : decode cX7_found 223 = .ok (.aload_n 0, 1) := by decide +kernel
theorem dX7_found_224 : decode cX7_found 224 = .ok (.bipush 12, 2) := by decide +kernel
theorem dX7_found_226 : decode cX7_found 226 = .ok (.invokevirtual 142, 3) := by decide +kernel
theorem dX7_found_229 : decode cX7_found 229 = .ok (.iadd, 1) := by decide +kernel
theorem dX7_found_230 : decode cX7_found 230 = .ok (.aload_n 0, 1) := by decide +kernel
theorem dX7_found_231 : decode cX7_found 231 = .ok (.bipush 12, 2) := by decide +kernel
theorem dX7_found_233 : decode cX7_found 233 = .ok (.invokevirtual 142, 3) := by decide +kernel
theorem dX7_found_236 : decode cX7_found 236 = .ok (.iconst 5, 1) := by decide +kernel
theorem dX7_found_237 : decode cX7_found 237 = .ok (.aload_n 0, 1) := by decide +kernel
theorem dX7_found_238 : decode cX7_found 238 = .ok (.bipush 9, 2) := by decide +kernel
theorem dX7_found_240 : decode cX7_found 240 = .ok (.invokevirtual 142, 3) := by decide +kernel
theorem dX7_found_243 : decode cX7_found 243 = .ok (.iadd, 1) := by decide +kernel
theorem dX7_found_244 : decode cX7_found 244 = .ok (.bipush 14, 2) := by decide +kernel
theorem dX7_found_246 : decode cX7_found 246 = .ok (.aload_n 0, 1) := by decide +kernel
theorem dX7_found_247 : decode cX7_found 247 = .ok (.bipush 20, 2) := by decide +kernel
theorem dX7_found_249 : decode cX7_found 249 = .ok (.invokevirtual 142, 3) := by decide +kernel
theorem dX7_found_252 : decode cX7_found 252 = .ok (.iadd, 1) := by decide +kernel
theorem dX7_found_253 : decode cX7_found 253 = .ok (.invokevirtual 157, 3) := by decide +kernel
theorem dX7_found_256 : decode cX7_found 256 = .ok (.ifCond .eq 7, 3) := by decide +kernel
theorem dX7_found_259 : decode cX7_found 259 = .ok (.iconst 1, 1) := by decide +kernel
theorem dX7_found_260 : decode cX7_found 260 = .ok (.goto 4, 3) := by decide +kernel
theorem dX7_found_263 : decode cX7_found 263 = .ok (.iconst 0, 1) := by decide +kernel
theorem dX7_found_264 : decode cX7_found 264 = .ok (.ireturn, 1) := by decide +kernel
theorem dJ9_abs_0f7a4_0 : decode cJ9_abs_0f7a4 0 = .ok (.iload_n 0, 1) := by decide +kernel
theorem dJ9_abs_0f7a4_1 : decode cJ9_abs_0f7a4 1 = .ok (.ifCond .ge 8, 3) := by decide +kernel
theorem dJ9_abs_0f7a4_4 : decode cJ9_abs_0f7a4 4 = .ok (.iload_n 0, 1) := by decide +kernel
theorem dJ9_abs_0f7a4_5 : decode cJ9_abs_0f7a4 5 = .ok (.ineg, 1) := by decide +kernel
theorem dJ9_abs_0f7a4_6 : decode cJ9_abs_0f7a4 6 = .ok (.goto 4, 3) := by decide +kernel
theorem dJ9_abs_0f7a4_9 : decode cJ9_abs_0f7a4 9 = .ok (.iload_n 0, 1) := by decide +kernel
theorem dJ9_abs_0f7a4_10 : decode cJ9_abs_0f7a4 10 = .ok (.ireturn, 1) := by decide +kernel
theorem dJ9_max_7cf53_0 : decode cJ9_max_7cf53 0 = .ok (.iload_n 0, 1) := by decide +kernel
theorem dJ9_max_7cf53_1 : decode cJ9_max_7cf53 1 = .ok (.iload_n 1, 1) := by decide +kernel
theorem dJ9_max_7cf53_2 : decode cJ9_max_7cf53 2 = .ok (.if_icmp .lt 7, 3) := by decide +kernel
theorem dJ9_max_7cf53_5 : decode cJ9_max_7cf53 5 = .ok (.iload_n 0, 1) := by decide +kernel
theorem dJ9_max_7cf53_6 : decode cJ9_max_7cf53 6 = .ok (.goto 4, 3) := by decide +kernel
theorem dJ9_max_7cf53_9 : decode cJ9_max_7cf53 9 = .ok (.iload_n 1, 1) := by decide +kernel
theorem dJ9_max_7cf53_10 : decode cJ9_max_7cf53 10 = .ok (.ireturn, 1) := by decide +kernel
theorem dJ9_min_7cf53_0 : decode cJ9_min_7cf53 0 = .ok (.iload_n 0, 1) := by decide +kernel
theorem dJ9_min_7cf53_1 : decode cJ9_min_7cf53 1 = .ok (.iload_n 1, 1) := by decide +kernel
theorem dJ9_min_7cf53_2 : decode cJ9_min_7cf53 2 = .ok (.if_icmp .gt 7, 3) := by decide +kernel
theorem dJ9_min_7cf53_5 : decode cJ9_min_7cf53 5 = .ok (.iload_n 0, 1) := by decide +kernel
theorem dJ9_min_7cf53_6 : decode cJ9_min_7cf53 6 = .ok (.goto 4, 3) := by decide +kernel
theorem dJ9_min_7cf53_9 : decode cJ9_min_7cf53 9 = .ok (.iload_n 1, 1) := by decide +kernel
theorem dJ9_min_7cf53_10 : decode cJ9_min_7cf53 10 = .ok (.ireturn, 1) := by decide +kernel
theorem dJxa1e45_init_da8c8_0 : decode cJxa1e45_init_da8c8 0 = .ok (.aload_n 0, 1) := by decide +kernel
theorem dJxa1e45_init_da8c8_1 : decode cJxa1e45_init_da8c8 1 = .ok (.invokespecial 1, 3) := by decide +kernel
theorem dJxa1e45_init_da8c8_4 : decode cJxa1e45_init_da8c8 4 = .ok (.return_, 1) := by decide +kernel
theorem dJxc12de_init_da8c8_0 : decode cJxc12de_init_da8c8 0 = .ok (.aload_n 0, 1) := by decide +kernel
theorem dJxc12de_init_da8c8_1 : decode cJxc12de_init_da8c8 1 = .ok (.invokespecial 1, 3) := by decide +kernel
theorem dJxc12de_init_da8c8_4 : decode cJxc12de_init_da8c8 4 = .ok (.aload_n 0, 1) := by decide +kernel
theorem dJxc12de_init_da8c8_5 : decode cJxc12de_init_da8c8 5 = .ok (.iconst 0, 1) := by decide +kernel
theorem dJxc12de_init_da8c8_6 : decode cJxc12de_init_da8c8 6 = .ok (.putfield 7, 3) := by decide +kernel
theorem dJxc12de_init_da8c8_9 : decode cJxc12de_init_da8c8 9 = .ok (.return_, 1) := by decide +kernel
theorem dJx4a65c_init_da8c8_0 : decode cJx4a65c_init_da8c8 0 = .ok (.aload_n 0, 1) := by decide +kernel
theorem dJx4a65c_init_da8c8_1 : decode cJx4a65c_init_da8c8 1 = .ok (.invokespecial 1, 3) := by decide +kernel
theorem dJx4a65c_init_da8c8_4 : decode cJx4a65c_init_da8c8 4 = .ok (.aload_n 0, 1) := by decide +kernel
theorem dJx4a65c_init_da8c8_5 : decode cJx4a65c_init_da8c8 5 = .ok (.getstatic 39, 3) := by decide +kernel
theorem dJx4a65c_init_da8c8_8 : decode cJx4a65c_init_da8c8 8 = .ok (.putfield 9, 3) := by decide +kernel
theorem dJx4a65c_init_da8c8_11 : decode cJx4a65c_init_da8c8 11 = .ok (.return_, 1) := by decide +kernel
theorem dJx4a65c_grow_92f84_0 : decode cJx4a65c_grow_92f84 0 = .ok (.aload_n 0, 1) := by decide +kernel
theorem dJx4a65c_grow_92f84_1 : decode cJx4a65c_grow_92f84 1 = .ok (.getfield 9, 3) := by decide +kernel
theorem dJx4a65c_grow_92f84_4 : decode cJx4a65c_grow_92f84 4 = .ok (.arraylength, 1) := by decide +kernel
theorem dJx4a65c_grow_92f84_5 : decode cJx4a65c_grow_92f84 5 = .ok (.istore_n 2, 1) := by decide +kernel
theorem dJx4a65c_grow_92f84_6 : decode cJx4a65c_grow_92f84 6 = .ok (.iload_n 2, 1) := by decide +kernel
theorem dJx4a65c_grow_92f84_7 : decode cJx4a65c_grow_92f84 7 = .ok (.ifCond .gt 13, 3) := by decide +kernel
theorem dJx4a65c_grow_92f84_10 : decode cJx4a65c_grow_92f84 10 = .ok (.aload_n 0, 1) := by decide +kernel
theorem dJx4a65c_grow_92f84_11 : decode cJx4a65c_grow_92f84 11 = .ok (.getfield 9, 3) := by decide +kernel
theorem dJx4a65c_grow_92f84_14 : decode cJx4a65c_grow_92f84 14 = .ok (.getstatic 39, 3) := by decide +kernel
theorem dJx4a65c_grow_92f84_17 : decode cJx4a65c_grow_92f84 17 = .ok (.if_acmp .eq 28, 3) := by decide +kernel
theorem dJx4a65c_grow_92f84_20 : decode cJx4a65c_grow_92f84 20 = .ok (.iload_n 2, 1) := by decide +kernel
theorem dJx4a65c_grow_92f84_21 : decode cJx4a65c_grow_92f84 21 = .ok (.iload_n 1, 1) := by decide +kernel
theorem dJx4a65c_grow_92f84_22 : decode cJx4a65c_grow_92f84 22 = .ok (.iload_n 2, 1) := by decide +kernel
theorem dJx4a65c_grow_92f84_23 : decode cJx4a65c_grow_92f84 23 = .ok (.isub, 1) := by decide +kernel
theorem dJx4a65c_grow_92f84_24 : decode cJx4a65c_grow_92f84 24 = .ok (.iload_n 2, 1) := by decide +kernel
theorem dJx4a65c_grow_92f84_25 : decode cJx4a65c_grow_92f84 25 = .ok (.iconst 1, 1) := by decide +kernel
theorem dJx4a65c_grow_92f84_26 : decode cJx4a65c_grow_92f84 26 = .ok (.ishr, 1) := by decide +kernel
theorem dJx4a65c_grow_92f84_27 : decode cJx4a65c_grow_92f84 27 = .ok (.invokestatic 73, 3) := by decide +kernel
theorem dJx4a65c_grow_92f84_30 : decode cJx4a65c_grow_92f84 30 = .ok (.istore_n 3, 1) := by decide +kernel
theorem dJx4a65c_grow_92f84_31 : decode cJx4a65c_grow_92f84 31 = .ok (.aload_n 0, 1) := by decide +kernel
theorem dJx4a65c_grow_92f84_32 : decode cJx4a65c_grow_92f84 32 = .ok (.aload_n 0, 1) := by decide +kernel
theorem dJx4a65c_grow_92f84_33 : decode cJx4a65c_grow_92f84 33 = .ok (.getfield 9, 3) := by decide +kernel
theorem dJx4a65c_grow_92f84_36 : decode cJx4a65c_grow_92f84 36 = .ok (.iload_n 3, 1) := by decide +kernel
theorem dJx4a65c_grow_92f84_37 : decode cJx4a65c_grow_92f84 37 = .ok (.invokestatic 66, 3) := by decide +kernel
theorem dJx4a65c_grow_92f84_40 : decode cJx4a65c_grow_92f84 40 = .ok (.dup_x1, 1) := by decide +kernel
theorem dJx4a65c_grow_92f84_41 : decode cJx4a65c_grow_92f84 41 = .ok (.putfield 9, 3) := by decide +kernel
theorem dJx4a65c_grow_92f84_44 : decode cJx4a65c_grow_92f84 44 = .ok (.areturn, 1) := by decide +kernel
theorem dJx4a65c_grow_92f84_45 : decode cJx4a65c_grow_92f84 45 = .ok (.aload_n 0, 1) := by decide +kernel
theorem dJx4a65c_grow_92f84_46 : decode cJx4a65c_grow_92f84 46 = .ok (.bipush 10, 2) := by decide +kernel
theorem dJx4a65c_grow_92f84_48 : decode cJx4a65c_grow_92f84 48 = .ok (.iload_n 1, 1) := by decide +kernel
theorem dJx4a65c_grow_92f84_49 : decode cJx4a65c_grow_92f84 49 = .ok (.invokestatic 79, 3) := by decide +kernel
theorem dJx4a65c_grow_92f84_52 : decode cJx4a65c_grow_92f84 52 = .ok (.anewarray 7, 3) := by decide +kernel
theorem dJx4a65c_grow_92f84_55 : decode cJx4a65c_grow_92f84 55 = .ok (.dup_x1, 1) := by decide +kernel
theorem dJx4a65c_grow_92f84_56 : decode cJx4a65c_grow_92f84 56 = .ok (.putfield 9, 3) := by decide +kernel
theorem dJx4a65c_grow_92f84_59 : decode cJx4a65c_grow_92f84 59 = .ok (.areturn, 1) := by decide +kernel
theorem dJx4a65c_grow_d5877_0 : decode cJx4a65c_grow_d5877 0 = .ok (.aload_n 0, 1) := by decide +kernel
theorem dJx4a65c_grow_d5877_1 : decode cJx4a65c_grow_d5877 1 = .ok (.aload_n 0, 1) := by decide +kernel
theorem dJx4a65c_grow_d5877_2 : decode cJx4a65c_grow_d5877 2 = .ok (.getfield 48, 3) := by decide +kernel
theorem dJx4a65c_grow_d5877_5 : decode cJx4a65c_grow_d5877 5 = .ok (.iconst 1, 1) := by decide +kernel
theorem dJx4a65c_grow_d5877_6 : decode cJx4a65c_grow_d5877 6 = .ok (.iadd, 1) := by decide +kernel
theorem dJx4a65c_grow_d5877_7 : decode cJx4a65c_grow_d5877 7 = .ok (.invokevirtual 69, 3) := by decide +kernel
theorem dJx4a65c_grow_d5877_10 : decode cJx4a65c_grow_d5877 10 = .ok (.areturn, 1) := by decide +kernel
theorem dJx4a65c_size_8abf5_0 : decode cJx4a65c_size_8abf5 0 = .ok (.aload_n 0, 1) := by decide +kernel
theorem dJx4a65c_size_8abf5_1 : decode cJx4a65c_size_8abf5 1 = .ok (.getfield 48, 3) := by decide +kernel
theorem dJx4a65c_size_8abf5_4 : decode cJx4a65c_size_8abf5 4 = .ok (.ireturn, 1) := by decide +kernel
theorem dJx4a65c_elementData_915e3_0 : decode cJx4a65c_elementData_915e3 0 = .ok (.aload_n 0, 1) := by decide +kernel
theorem dJx4a65c_elementData_915e3_1 : decode cJx4a65c_elementData_915e3 1 = .ok (.getfield 9, 3) := by decide +kernel
theorem dJx4a65c_elementData_915e3_4 : decode cJx4a65c_elementData_915e3 4 = .ok (.iload_n 1, 1) := by decide +kernel
theorem dJx4a65c_elementData_915e3_5 : decode cJx4a65c_elementData_915e3 5 = .ok (.aaload, 1) := by decide +kernel
theorem dJx4a65c_elementData_915e3_6 : decode cJx4a65c_elementData_915e3 6 = .ok (.areturn, 1) := by decide +kernel
theorem dJx4a65c_get_915e3_0 : decode cJx4a65c_get_915e3 0 = .ok (.iload_n 1, 1) := by decide +kernel
theorem dJx4a65c_get_915e3_1 : decode cJx4a65c_get_915e3 1 = .ok (.aload_n 0, 1) := by decide +kernel
theorem dJx4a65c_get_915e3_2 : decode cJx4a65c_get_915e3 2 = .ok (.getfield 48, 3) := by decide +kernel
theorem dJx4a65c_get_915e3_5 : decode cJx4a65c_get_915e3 5 = .ok (.invokestatic 118, 3) := by decide +kernel
theorem dJx4a65c_get_915e3_8 : decode cJx4a65c_get_915e3 8 = .ok (.pop, 1) := by decide +kernel
theorem dJx4a65c_get_915e3_9 : decode cJx4a65c_get_915e3 9 = .ok (.aload_n 0, 1) := by decide +kernel
theorem dJx4a65c_get_915e3_10 : decode cJx4a65c_get_915e3 10 = .ok (.iload_n 1, 1) := by decide +kernel
theorem dJx4a65c_get_915e3_11 : decode cJx4a65c_get_915e3 11 = .ok (.invokevirtual 123, 3) := by decide +kernel
theorem dJx4a65c_get_915e3_14 : decode cJx4a65c_get_915e3 14 = .ok (.areturn, 1) := by decide +kernel
theorem dJx4a65c_add_72be8_0 : decode cJx4a65c_add_72be8 0 = .ok (.iload_n 3, 1) := by decide +kernel
theorem dJx4a65c_add_72be8_1 : decode cJx4a65c_add_72be8 1 = .ok (.aload_n 2, 1) := by decide +kernel
theorem dJx4a65c_add_72be8_2 : decode cJx4a65c_add_72be8 2 = .ok (.arraylength, 1) := by decide +kernel
theorem dJx4a65c_add_72be8_3 : decode cJx4a65c_add_72be8 3 = .ok (.if_icmp .ne 8, 3) := by decide +kernel
theorem dJx4a65c_add_72be8_6 : decode cJx4a65c_add_72be8 6 = .ok (.aload_n 0, 1) := by decide +kernel
theorem dJx4a65c_add_72be8_7 : decode cJx4a65c_add_72be8 7 = .ok (.invokevirtual 129, 3) := by decide +kernel
theorem dJx4a65c_add_72be8_10 : decode cJx4a65c_add_72be8 10 = .ok (.astore_n 2, 1) := by decide +kernel
theorem dJx4a65c_add_72be8_11 : decode cJx4a65c_add_72be8 11 = .ok (.aload_n 2, 1) := by decide +kernel
theorem dJx4a65c_add_72be8_12 : decode cJx4a65c_add_72be8 12 = .ok (.iload_n 3, 1) := by decide +kernel
theorem dJx4a65c_add_72be8_13 : decode cJx4a65c_add_72be8 13 = .ok (.aload_n 1, 1) := by decide +kernel
theorem dJx4a65c_add_72be8_14 : decode cJx4a65c_add_72be8 14 = .ok (.aastore, 1) := by decide +kernel
theorem dJx4a65c_add_72be8_15 : decode cJx4a65c_add_72be8 15 = .ok (.aload_n 0, 1) := by decide +kernel
theorem dJx4a65c_add_72be8_16 : decode cJx4a65c_add_72be8 16 = .ok (.iload_n 3, 1) := by decide +kernel
theorem dJx4a65c_add_72be8_17 : decode cJx4a65c_add_72be8 17 = .ok (.iconst 1, 1) := by decide +kernel
theorem dJx4a65c_add_72be8_18 : decode cJx4a65c_add_72be8 18 = .ok (.iadd, 1) := by decide +kernel
theorem dJx4a65c_add_72be8_19 : decode cJx4a65c_add_72be8 19 = .ok (.putfield 48, 3) := by decide +kernel
theorem dJx4a65c_add_72be8_22 : decode cJx4a65c_add_72be8 22 = .ok (.return_, 1) := by decide +kernel
theorem dJx4a65c_add_9ea2d_0 : decode cJx4a65c_add_9ea2d 0 = .ok (.aload_n 0, 1) := by decide +kernel
theorem dJx4a65c_add_9ea2d_1 : decode cJx4a65c_add_9ea2d 1 = .ok (.dup, 1) := by decide +kernel
theorem dJx4a65c_add_9ea2d_2 : decode cJx4a65c_add_9ea2d 2 = .ok (.getfield 63, 3) := by decide +kernel
theorem dJx4a65c_add_9ea2d_5 : decode cJx4a65c_add_9ea2d 5 = .ok (.iconst 1, 1) := by decide +kernel
theorem dJx4a65c_add_9ea2d_6 : decode cJx4a65c_add_9ea2d 6 = .ok (.iadd, 1) := by decide +kernel
theorem dJx4a65c_add_9ea2d_7 : decode cJx4a65c_add_9ea2d 7 = .ok (.putfield 63, 3) := by decide +kernel
theorem dJx4a65c_add_9ea2d_10 : decode cJx4a65c_add_9ea2d 10 = .ok (.aload_n 0, 1) := by decide +kernel
theorem dJx4a65c_add_9ea2d_11 : decode cJx4a65c_add_9ea2d 11 = .ok (.aload_n 1, 1) := by decide +kernel
theorem dJx4a65c_add_9ea2d_12 : decode cJx4a65c_add_9ea2d 12 = .ok (.aload_n 0, 1) := by decide +kernel
theorem dJx4a65c_add_9ea2d_13 : decode cJx4a65c_add_9ea2d 13 = .ok (.getfield 9, 3) := by decide +kernel
theorem dJx4a65c_add_9ea2d_16 : decode cJx4a65c_add_9ea2d 16 = .ok (.aload_n 0, 1) := by decide +kernel
theorem dJx4a65c_add_9ea2d_17 : decode cJx4a65c_add_9ea2d 17 = .ok (.getfield 48, 3) := by decide +kernel
theorem dJx4a65c_add_9ea2d_20 : decode cJx4a65c_add_9ea2d 20 = .ok (.invokevirtual 131, 3) := by decide +kernel
theorem dJx4a65c_add_9ea2d_23 : decode cJx4a65c_add_9ea2d 23 = .ok (.iconst 1, 1) := by decide +kernel
theorem dJx4a65c_add_9ea2d_24 : decode cJx4a65c_add_9ea2d 24 = .ok (.ireturn, 1) := by decide +kernel
theorem dJ7_copyOf_1904c_0 : decode cJ7_copyOf_1904c 0 = .ok (.aload_n 0, 1) := by decide +kernel
theorem dJ7_copyOf_1904c_1 : decode cJ7_copyOf_1904c 1 = .ok (.iload_n 1, 1) := by decide +kernel
theorem dJ7_copyOf_1904c_2 : decode cJ7_copyOf_1904c 2 = .ok (.aload_n 0, 1) := by decide +kernel
theorem dJ7_copyOf_1904c_3 : decode cJ7_copyOf_1904c 3 = .ok (.invokevirtual 86, 3) := by decide +kernel
theorem dJ7_copyOf_1904c_6 : decode cJ7_copyOf_1904c 6 = .ok (.invokestatic 300, 3) := by decide +kernel
theorem dJ7_copyOf_1904c_9 : decode cJ7_copyOf_1904c 9 = .ok (.areturn, 1) := by decide +kernel
theorem dJ7_copyOf_6403c_0 : decode cJ7_copyOf_6403c 0 = .ok (.aload_n 2, 1) := by decide +kernel
theorem dJ7_copyOf_6403c_1 : decode cJ7_copyOf_6403c 1 = .ok (.ldc 110, 2) := by decide +kernel
theorem dJ7_copyOf_6403c_3 : decode cJ7_copyOf_6403c 3 = .ok (.if_acmp .ne 10, 3) := by decide +kernel
theorem dJ7_copyOf_6403c_6 : decode cJ7_copyOf_6403c 6 = .ok (.iload_n 1, 1) := by decide +kernel
theorem dJ7_copyOf_6403c_7 : decode cJ7_copyOf_6403c 7 = .ok (.anewarray 2, 3) := by decide +kernel
theorem dJ7_copyOf_6403c_10 : decode cJ7_copyOf_6403c 10 = .ok (.goto 14, 3) := by decide +kernel
theorem dJ7_copyOf_6403c_13 : decode cJ7_copyOf_6403c 13 = .ok (.aload_n 2, 1) := by decide +kernel
theorem dJ7_copyOf_6403c_14 : decode cJ7_copyOf_6403c 14 = .ok (.invokevirtual 90, 3) := by decide +kernel
theorem dJ7_copyOf_6403c_17 : decode cJ7_copyOf_6403c 17 = .ok (.iload_n 1, 1) := by decide +kernel
theorem dJ7_copyOf_6403c_18 : decode cJ7_copyOf_6403c 18 = .ok (.invokestatic 95, 3) := by decide +kernel
theorem dJ7_copyOf_6403c_21 : decode cJ7_copyOf_6403c 21 = .ok (.checkcast 110, 3) := by decide +kernel
theorem dJ7_copyOf_6403c_24 : decode cJ7_copyOf_6403c 24 = .ok (.astore_n 3, 1) := by decide +kernel
theorem dJ7_copyOf_6403c_25 : decode cJ7_copyOf_6403c 25 = .ok (.aload_n 0, 1) := by decide +kernel
theorem dJ7_copyOf_6403c_26 : decode cJ7_copyOf_6403c 26 = .ok (.iconst 0, 1) := by decide +kernel
theorem dJ7_copyOf_6403c_27 : decode cJ7_copyOf_6403c 27 = .ok (.aload_n 3, 1) := by decide +kernel
theorem dJ7_copyOf_6403c_28 : decode cJ7_copyOf_6403c 28 = .ok (.iconst 0, 1) := by decide +kernel
theorem dJ7_copyOf_6403c_29 : decode cJ7_copyOf_6403c 29 = .ok (.aload_n 0, 1) := by decide +kernel
theorem dJ7_copyOf_6403c_30 : decode cJ7_copyOf_6403c 30 = .ok (.arraylength, 1) := by decide +kernel
theorem dJ7_copyOf_6403c_31 : decode cJ7_copyOf_6403c 31 = .ok (.iload_n 1, 1) := by decide +kernel
theorem dJ7_copyOf_6403c_32 : decode cJ7_copyOf_6403c 32 = .ok (.invokestatic 304, 3) := by decide +kernel
theorem dJ7_copyOf_6403c_35 : decode cJ7_copyOf_6403c 35 = .ok (.invokestatic 150, 3) := by decide +kernel
theorem dJ7_copyOf_6403c_38 : decode cJ7_copyOf_6403c 38 = .ok (.aload_n 3, 1) := by decide +kernel
theorem dJ7_copyOf_6403c_39 : decode cJ7_copyOf_6403c 39 = .ok (.areturn, 1) := by decide +kernel
theorem dJ15_checkIndex_7cf53_0 : decode cJ15_checkIndex_7cf53 0 = .ok (.iload_n 0, 1) := by decide +kernel
theorem dJ15_checkIndex_7cf53_1 : decode cJ15_checkIndex_7cf53 1 = .ok (.iload_n 1, 1) := by decide +kernel
theorem dJ15_checkIndex_7cf53_2 : decode cJ15_checkIndex_7cf53 2 = .ok (.aconst_null, 1) := by decide +kernel
theorem dJ15_checkIndex_7cf53_3 : decode cJ15_checkIndex_7cf53 3 = .ok (.invokestatic 105, 3) := by decide +kernel
theorem dJ15_checkIndex_7cf53_6 : decode cJ15_checkIndex_7cf53 6 = .ok (.ireturn, 1) := by decide +kernel
theorem dJ8_newLength_cabcc_0 : decode cJ8_newLength_cabcc 0 = .ok (.iload_n 0, 1) := by decide +kernel
theorem dJ8_newLength_cabcc_1 : decode cJ8_newLength_cabcc 1 = .ok (.iload_n 1, 1) := by decide +kernel
theorem dJ8_newLength_cabcc_2 : decode cJ8_newLength_cabcc 2 = .ok (.iload_n 2, 1) := by decide +kernel
theorem dJ8_newLength_cabcc_3 : decode cJ8_newLength_cabcc 3 = .ok (.invokestatic 194, 3) := by decide +kernel
theorem dJ8_newLength_cabcc_6 : decode cJ8_newLength_cabcc 6 = .ok (.iadd, 1) := by decide +kernel
theorem dJ8_newLength_cabcc_7 : decode cJ8_newLength_cabcc 7 = .ok (.istore_n 3, 1) := by decide +kernel
theorem dJ8_newLength_cabcc_8 : decode cJ8_newLength_cabcc 8 = .ok (.iconst 0, 1) := by decide +kernel
theorem dJ8_newLength_cabcc_9 : decode cJ8_newLength_cabcc 9 = .ok (.iload_n 3, 1) := by decide +kernel
theorem dJ8_newLength_cabcc_10 : decode cJ8_newLength_cabcc 10 = .ok (.if_icmp .ge 11, 3) := by decide +kernel
theorem dJ8_newLength_cabcc_13 : decode cJ8_newLength_cabcc 13 = .ok (.iload_n 3, 1) := by decide +kernel
theorem dJ8_newLength_cabcc_14 : decode cJ8_newLength_cabcc 14 = .ok (.ldc 200, 2) := by decide +kernel
theorem dJ8_newLength_cabcc_16 : decode cJ8_newLength_cabcc 16 = .ok (.if_icmp .gt 5, 3) := by decide +kernel
theorem dJ8_newLength_cabcc_19 : decode cJ8_newLength_cabcc 19 = .ok (.iload_n 3, 1) := by decide +kernel
theorem dJ8_newLength_cabcc_20 : decode cJ8_newLength_cabcc 20 = .ok (.ireturn, 1) := by decide +kernel
theorem dJ8_newLength_cabcc_21 : decode cJ8_newLength_cabcc 21 = .ok (.iload_n 0, 1) := by decide +kernel
theorem dJ8_newLength_cabcc_22 : decode cJ8_newLength_cabcc 22 = .ok (.iload_n 1, 1) := by decide +kernel
theorem dJ8_newLength_cabcc_23 : decode cJ8_newLength_cabcc 23 = .ok (.invokestatic 201, 3) := by decide +kernel
theorem dJ8_newLength_cabcc_26 : decode cJ8_newLength_cabcc 26 = .ok (.ireturn, 1) := by decide +kernel
theorem dJ8_hugeLength_7cf53_0 : decode cJ8_hugeLength_7cf53 0 = .ok (.iload_n 0, 1) := by decide +kernel
theorem dJ8_hugeLength_7cf53_1 : decode cJ8_hugeLength_7cf53 1 = .ok (.iload_n 1, 1) := by decide +kernel
theorem dJ8_hugeLength_7cf53_2 : decode cJ8_hugeLength_7cf53 2 = .ok (.iadd, 1) := by decide +kernel
theorem dJ8_hugeLength_7cf53_3 : decode cJ8_hugeLength_7cf53 3 = .ok (.istore_n 2, 1) := by decide +kernel
theorem dJ8_hugeLength_7cf53_4 : decode cJ8_hugeLength_7cf53 4 = .ok (.iload_n 2, 1) := by decide +kernel
theorem dJ8_hugeLength_7cf53_5 : decode cJ8_hugeLength_7cf53 5 = .ok (.ifCond .ge 44, 3) := by decide +kernel
theorem dJ8_hugeLength_7cf53_8 : decode cJ8_hugeLength_7cf53 8 = .ok (.new 204, 3) := by decide +kernel
theorem dJ8_hugeLength_7cf53_11 : decode cJ8_hugeLength_7cf53 11 = .ok (.dup, 1) := by decide +kernel
theorem dJ8_hugeLength_7cf53_12 : decode cJ8_hugeLength_7cf53 12 = .ok (.new 89, 3) := by decide +kernel
theorem dJ8_hugeLength_7cf53_15 : decode cJ8_hugeLength_7cf53 15 = .ok (.dup, 1) := by decide +kernel
theorem dJ8_hugeLength_7cf53_16 : decode cJ8_hugeLength_7cf53 16 = .ok (.invokespecial 91, 3) := by decide +kernel
theorem dJ8_hugeLength_7cf53_19 : decode cJ8_hugeLength_7cf53 19 = .ok (.ldc 206, 2) := by decide +kernel
theorem dJ8_hugeLength_7cf53_21 : decode cJ8_hugeLength_7cf53 21 = .ok (.invokevirtual 94, 3) := by decide +kernel
theorem dJ8_hugeLength_7cf53_24 : decode cJ8_hugeLength_7cf53 24 = .ok (.iload_n 0, 1) := by decide +kernel
theorem dJ8_hugeLength_7cf53_25 : decode cJ8_hugeLength_7cf53 25 = .ok (.invokevirtual 98, 3) := by decide +kernel
theorem dJ8_hugeLength_7cf53_28 : decode cJ8_hugeLength_7cf53 28 = .ok (.ldc 208, 2) := by decide +kernel
theorem dJ8_hugeLength_7cf53_30 : decode cJ8_hugeLength_7cf53 30 = .ok (.invokevirtual 94, 3) := by decide +kernel
theorem dJ8_hugeLength_7cf53_33 : decode cJ8_hugeLength_7cf53 33 = .ok (.iload_n 1, 1) := by decide +kernel
theorem dJ8_hugeLength_7cf53_34 : decode cJ8_hugeLength_7cf53 34 = .ok (.invokevirtual 98, 3) := by decide +kernel
theorem dJ8_hugeLength_7cf53_37 : decode cJ8_hugeLength_7cf53 37 = .ok (.ldc 210, 2) := by decide +kernel
theorem dJ8_hugeLength_7cf53_39 : decode cJ8_hugeLength_7cf53 39 = .ok (.invokevirtual 94, 3) := by decide +kernel
theorem dJ8_hugeLength_7cf53_42 : decode cJ8_hugeLength_7cf53 42 = .ok (.invokevirtual 101, 3) := by decide +kernel
theorem dJ8_hugeLength_7cf53_45 : decode cJ8_hugeLength_7cf53 45 = .ok (.invokespecial 212, 3) := by decide +kernel
theorem dJ8_hugeLength_7cf53_48 : decode cJ8_hugeLength_7cf53 48 = .ok (.athrow, 1) := by decide +kernel
theorem dJ8_hugeLength_7cf53_49 : decode cJ8_hugeLength_7cf53 49 = .ok (.iload_n 2, 1) := by decide +kernel
theorem dJ8_hugeLength_7cf53_50 : decode cJ8_hugeLength_7cf53 50 = .ok (.ldc 200, 2) := by decide +kernel
theorem dJ8_hugeLength_7cf53_52 : decode cJ8_hugeLength_7cf53 52 = .ok (.if_icmp .gt 6, 3) := by decide +kernel
theorem dJ8_hugeLength_7cf53_55 : decode cJ8_hugeLength_7cf53 55 = .ok (.ldc 200, 2) := by decide +kernel
theorem dJ8_hugeLength_7cf53_57 : decode cJ8_hugeLength_7cf53 57 = .ok (.ireturn, 1) := by decide +kernel
theorem dJ8_hugeLength_7cf53_58 : decode cJ8_hugeLength_7cf53 58 = .ok (.iload_n 2, 1) := by decide +kernel
theorem dJ8_hugeLength_7cf53_59 : decode cJ8_hugeLength_7cf53 59 = .ok (.ireturn, 1) := by decide +kernel
theorem dJ3_checkIndex_8e157_0 : decode cJ3_checkIndex_8e157 0 = .ok (.iload_n 0, 1) := by decide +kernel
theorem dJ3_checkIndex_8e157_1 : decode cJ3_checkIndex_8e157 1 = .ok (.ifCond .lt 8, 3) := by decide +kernel
theorem dJ3_checkIndex_8e157_4 : decode cJ3_checkIndex_8e157 4 = .ok (.iload_n 0, 1) := by decide +kernel
theorem dJ3_checkIndex_8e157_5 : decode cJ3_checkIndex_8e157 5 = .ok (.iload_n 1, 1) := by decide +kernel
theorem dJ3_checkIndex_8e157_6 : decode cJ3_checkIndex_8e157 6 = .ok (.if_icmp .lt 10, 3) := by decide +kernel
theorem dJ3_checkIndex_8e157_9 : decode cJ3_checkIndex_8e157 9 = .ok (.aload_n 2, 1) := by decide +kernel
theorem dJ3_checkIndex_8e157_10 : decode cJ3_checkIndex_8e157 10 = .ok (.iload_n 0, 1) := by decide +kernel
theorem dJ3_checkIndex_8e157_11 : decode cJ3_checkIndex_8e157 11 = .ok (.iload_n 1, 1) := by decide +kernel
theorem dJ3_checkIndex_8e157_12 : decode cJ3_checkIndex_8e157 12 = .ok (.invokestatic 95, 3) := by decide +kernel
theorem dJ3_checkIndex_8e157_15 : decode cJ3_checkIndex_8e157 15 = .ok (.athrow, 1) := by decide +kernel
theorem dJ3_checkIndex_8e157_16 : decode cJ3_checkIndex_8e157 16 = .ok (.iload_n 0, 1) := by decide +kernel
theorem dJ3_checkIndex_8e157_17 : decode cJ3_checkIndex_8e157 17 = .ok (.ireturn, 1) := by decide +kernel
theorem dL_below_0 : decode cL_below 0 = .ok (.iload_n 0, 1) := by decide +kernel
theorem dL_below_1 : decode cL_below 1 = .ok (.ldc 7, 2) := by decide +kernel
theorem dL_below_3 : decode cL_below 3 = .ok (.iand, 1) := by decide +kernel
theorem dL_below_4 : decode cL_below 4 = .ok (.iload_n 1, 1) := by decide +kernel
theorem dL_below_5 : decode cL_below 5 = .ok (.irem, 1) := by decide +kernel
theorem dL_below_6 : decode cL_below 6 = .ok (.ireturn, 1) := by decide +kernel
theorem dL_cell_0 : decode cL_cell 0 = .ok (.iload_n 1, 1) := by decide +kernel
theorem dL_cell_1 : decode cL_cell 1 = .ok (.aload_n 0, 1) := by decide +kernel
theorem dL_cell_2 : decode cL_cell 2 = .ok (.arraylength, 1) := by decide +kernel
theorem dL_cell_3 : decode cL_cell 3 = .ok (.if_icmp .ge 9, 3) := by decide +kernel
theorem dL_cell_6 : decode cL_cell 6 = .ok (.aload_n 0, 1) := by decide +kernel
theorem dL_cell_7 : decode cL_cell 7 = .ok (.iload_n 1, 1) := by decide +kernel
theorem dL_cell_8 : decode cL_cell 8 = .ok (.iaload, 1) := by decide +kernel
theorem dL_cell_9 : decode cL_cell 9 = .ok (.goto 9, 3) := by decide +kernel
theorem dL_cell_12 : decode cL_cell 12 = .ok (.ldc 8, 2) := by decide +kernel
theorem dL_cell_14 : decode cL_cell 14 = .ok (.iload_n 1, 1) := by decide +kernel
theorem dL_cell_15 : decode cL_cell 15 = .ok (.iconst 3, 1) := by decide +kernel
theorem dL_cell_16 : decode cL_cell 16 = .ok (.iadd, 1) := by decide +kernel
theorem dL_cell_17 : decode cL_cell 17 = .ok (.imul, 1) := by decide +kernel
theorem dL_cell_18 : decode cL_cell 18 = .ok (.ireturn, 1) := by decide +kernel
theorem dL_law_0 : decode cL_law 0 = .ok (.iconst 0, 1) := by decide +kernel
theorem dL_law_1 : decode cL_law 1 = .ok (.istore_n 1, 1) := by decide +kernel
theorem dL_law_2 : decode cL_law 2 = .ok (.iload_n 1, 1) := by decide +kernel
theorem dL_law_3 : decode cL_law 3 = .ok (.iconst 3, 1) := by decide +kernel
theorem dL_law_4 : decode cL_law 4 = .ok (.if_icmp .ge 653, 3) := by decide +kernel
theorem dL_law_7 : decode cL_law 7 = .ok (.new 9, 3) := by decide +kernel
theorem dL_law_10 : decode cL_law 10 = .ok (.dup, 1) := by decide +kernel
theorem dL_law_11 : decode cL_law 11 = .ok (.aload_n 0, 1) := by decide +kernel
theorem dL_law_12 : decode cL_law 12 = .ok (.bipush 31, 2) := by decide +kernel
theorem dL_law_14 : decode cL_law 14 = .ok (.iload_n 1, 1) := by decide +kernel
theorem dL_law_15 : decode cL_law 15 = .ok (.imul, 1) := by decide +kernel
theorem dL_law_16 : decode cL_law 16 = .ok (.bipush 7, 2) := by decide +kernel
theorem dL_law_18 : decode cL_law 18 = .ok (.iadd, 1) := by decide +kernel
theorem dL_law_19 : decode cL_law 19 = .ok (.invokespecial 11, 3) := by decide +kernel
theorem dL_law_22 : decode cL_law 22 = .ok (.astore_n 2, 1) := by decide +kernel
theorem dL_law_23 : decode cL_law 23 = .ok (.new 9, 3) := by decide +kernel
theorem dL_law_26 : decode cL_law 26 = .ok (.dup, 1) := by decide +kernel
theorem dL_law_27 : decode cL_law 27 = .ok (.aload_n 0, 1) := by decide +kernel
theorem dL_law_28 : decode cL_law 28 = .ok (.bipush 31, 2) := by decide +kernel
theorem dL_law_30 : decode cL_law 30 = .ok (.iload_n 1, 1) := by decide +kernel
theorem dL_law_31 : decode cL_law 31 = .ok (.imul, 1) := by decide +kernel
theorem dL_law_32 : decode cL_law 32 = .ok (.bipush 7, 2) := by decide +kernel
theorem dL_law_34 : decode cL_law 34 = .ok (.iadd, 1) := by decide +kernel
theorem dL_law_35 : decode cL_law 35 = .ok (.invokespecial 11, 3) := by decide +kernel
theorem dL_law_38 : decode cL_law 38 = .ok (.astore_n 3, 1) := by decide +kernel
theorem dL_law_39 : decode cL_law 39 = .ok (.aload_n 2, 1) := by decide +kernel
theorem dL_law_40 : decode cL_law 40 = .ok (.getfield 14, 3) := by decide +kernel
theorem dL_law_43 : decode cL_law 43 = .ok (.astore 4, 2) := by decide +kernel
theorem dL_law_45 : decode cL_law 45 = .ok (.aload_n 2, 1) := by decide +kernel
theorem dL_law_46 : decode cL_law 46 = .ok (.iconst 4, 1) := by decide +kernel
theorem dL_law_47 : decode cL_law 47 = .ok (.invokevirtual 18, 3) := by decide +kernel
theorem dL_law_50 : decode cL_law 50 = .ok (.ifCond .eq 11, 3) := by decide +kernel
theorem dL_law_53 : decode cL_law 53 = .ok (.aload_n 3, 1) := by decide +kernel
theorem dL_law_54 : decode cL_law 54 = .ok (.iconst 4, 1) := by decide +kernel
theorem dL_law_55 : decode cL_law 55 = .ok (.invokevirtual 18, 3) := by decide +kernel
theorem dL_law_58 : decode cL_law 58 = .ok (.ifCond .ne 5, 3) := by decide +kernel
theorem dL_law_61 : decode cL_law 61 = .ok (.iconst 0, 1) := by decide +kernel
theorem dL_law_62 : decode cL_law 62 = .ok (.ireturn, 1) := by decide +kernel
theorem dL_law_63 : decode cL_law 63 = .ok (.iconst 0, 1) := by decide +kernel
theorem dL_law_64 : decode cL_law 64 = .ok (.istore 5, 2) := by decide +kernel
theorem dL_law_66 : decode cL_law 66 = .ok (.iload 5, 2) := by decide +kernel
theorem dL_law_68 : decode cL_law 68 = .ok (.bipush 7, 2) := by decide +kernel
theorem dL_law_70 : decode cL_law 70 = .ok (.if_icmp .ge 581, 3) := by decide +kernel
theorem dL_law_73 : decode cL_law 73 = .ok (.aload_n 2, 1) := by decide +kernel
theorem dL_law_74 : decode cL_law 74 = .ok (.iconst 4, 1) := by decide +kernel
theorem dL_law_75 : decode cL_law 75 = .ok (.invokevirtual 22, 3) := by decide +kernel
theorem dL_law_78 : decode cL_law 78 = .ok (.istore 6, 2) := by decide +kernel
theorem dL_law_80 : decode cL_law 80 = .ok (.bipush 10, 2) := by decide +kernel
theorem dL_law_82 : decode cL_law 82 = .ok (.aload_n 2, 1) := by decide +kernel
theorem dL_law_83 : decode cL_law 83 = .ok (.bipush 30, 2) := by decide +kernel
theorem dL_law_85 : decode cL_law 85 = .ok (.invokevirtual 22, 3) := by decide +kernel
theorem dL_law_88 : decode cL_law 88 = .ok (.iadd, 1) := by decide +kernel
theorem dL_law_89 : decode cL_law 89 = .ok (.istore 7, 2) := by decide +kernel
theorem dL_law_91 : decode cL_law 91 = .ok (.aload_n 2, 1) := by decide +kernel
theorem dL_law_92 : decode cL_law 92 = .ok (.bipush 70, 2) := by decide +kernel
theorem dL_law_94 : decode cL_law 94 = .ok (.invokevirtual 22, 3) := by decide +kernel
theorem dL_law_97 : decode cL_law 97 = .ok (.istore 8, 2) := by decide +kernel
theorem dL_law_99 : decode cL_law 99 = .ok (.iconst 1, 1) := by decide +kernel
theorem dL_law_100 : decode cL_law 100 = .ok (.aload_n 2, 1) := by decide +kernel
theorem dL_law_101 : decode cL_law 101 = .ok (.bipush 12, 2) := by decide +kernel
theorem dL_law_103 : decode cL_law 103 = .ok (.invokevirtual 22, 3) := by decide +kernel
theorem dL_law_106 : decode cL_law 106 = .ok (.iadd, 1) := by decide +kernel
theorem dL_law_107 : decode cL_law 107 = .ok (.istore 9, 2) := by decide +kernel
theorem dL_law_109 : decode cL_law 109 = .ok (.aload 4, 2) := by decide +kernel
theorem dL_law_111 : decode cL_law 111 = .ok (.invokevirtual 26, 3) := by decide +kernel
theorem dL_law_114 : decode cL_law 114 = .ok (.lstore 10, 2) := by decide +kernel
theorem dL_law_116 : decode cL_law 116 = .ok (.aload 4, 2) := by decide +kernel
theorem dL_law_118 : decode cL_law 118 = .ok (.iload 6, 2) := by decide +kernel
theorem dL_law_120 : decode cL_law 120 = .ok (.iload 7, 2) := by decide +kernel
theorem dL_law_122 : decode cL_law 122 = .ok (.iload 8, 2) := by decide +kernel
theorem dL_law_124 : decode cL_law 124 = .ok (.invokevirtual 32, 3) := by decide +kernel
theorem dL_law_127 : decode cL_law 127 = .ok (.istore 12, 2) := by decide +kernel
theorem dL_law_129 : decode cL_law 129 = .ok (.aload 4, 2) := by decide +kernel
theorem dL_law_131 : decode cL_law 131 = .ok (.iload 6, 2) := by decide +kernel
theorem dL_law_133 : decode cL_law 133 = .ok (.iload 9, 2) := by decide +kernel
theorem dL_law_135 : decode cL_law 135 = .ok (.iload 7, 2) := by decide +kernel
theorem dL_law_137 : decode cL_law 137 = .ok (.iload 8, 2) := by decide +kernel
theorem dL_law_139 : decode cL_law 139 = .ok (.iconst 0, 1) := by decide +kernel
theorem dL_law_140 : decode cL_law 140 = .ok (.invokevirtual 36, 3) := by decide +kernel
theorem dL_law_143 : decode cL_law 143 = .ok (.istore 13, 2) := by decide +kernel
theorem dL_law_145 : decode cL_law 145 = .ok (.aload 4, 2) := by decide +kernel
theorem dL_law_147 : decode cL_law 147 = .ok (.iconst 0, 1) := by decide +kernel
theorem dL_law_148 : decode cL_law 148 = .ok (.iload 9, 2) := by decide +kernel
theorem dL_law_150 : decode cL_law 150 = .ok (.iload 7, 2) := by decide +kernel
theorem dL_law_152 : decode cL_law 152 = .ok (.iload 8, 2) := by decide +kernel
theorem dL_law_154 : decode cL_law 154 = .ok (.invokevirtual 40, 3) := by decide +kernel
theorem dL_law_157 : decode cL_law 157 = .ok (.istore 14, 2) := by decide +kernel
theorem dL_law_159 : decode cL_law 159 = .ok (.aload 4, 2) := by decide +kernel
theorem dL_law_161 : decode cL_law 161 = .ok (.invokevirtual 26, 3) := by decide +kernel
theorem dL_law_164 : decode cL_law 164 = .ok (.lload 10, 2) := by decide +kernel
theorem dL_law_166 : decode cL_law 166 = .ok (.lcmp, 1) := by decide +kernel
theorem dL_law_167 : decode cL_law 167 = .ok (.ifCond .ne 16, 3) := by decide +kernel
theorem dL_law_170 : decode cL_law 170 = .ok (.aload_n 3, 1) := by decide +kernel
theorem dL_law_171 : decode cL_law 171 = .ok (.getfield 14, 3) := by decide +kernel
theorem dL_law_174 : decode cL_law 174 = .ok (.invokevirtual 26, 3) := by decide +kernel
theorem dL_law_177 : decode cL_law 177 = .ok (.lload 10, 2) := by decide +kernel
theorem dL_law_179 : decode cL_law 179 = .ok (.lcmp, 1) := by decide +kernel
theorem dL_law_180 : decode cL_law 180 = .ok (.ifCond .eq 5, 3) := by decide +kernel
theorem dL_law_183 : decode cL_law 183 = .ok (.iconst 0, 1) := by decide +kernel
theorem dL_law_184 : decode cL_law 184 = .ok (.ireturn, 1) := by decide +kernel
theorem dL_law_185 : decode cL_law 185 = .ok (.aload 4, 2) := by decide +kernel
theorem dL_law_187 : decode cL_law 187 = .ok (.iload 6, 2) := by decide +kernel
theorem dL_law_189 : decode cL_law 189 = .ok (.bipush 11, 2) := by decide +kernel
theorem dL_law_191 : decode cL_law 191 = .ok (.invokevirtual 44, 3) := by decide +kernel
theorem dL_law_194 : decode cL_law 194 = .ok (.ifCond .ne 7, 3) := by decide +kernel
theorem dL_law_197 : decode cL_law 197 = .ok (.iconst 1, 1) := by decide +kernel
theorem dL_law_198 : decode cL_law 198 = .ok (.goto 4, 3) := by decide +kernel
theorem dL_law_201 : decode cL_law 201 = .ok (.iconst 0, 1) := by decide +kernel
theorem dL_law_202 : decode cL_law 202 = .ok (.istore 15, 2) := by decide +kernel
theorem dL_law_204 : decode cL_law 204 = .ok (.aload 4, 2) := by decide +kernel
theorem dL_law_206 : decode cL_law 206 = .ok (.iload 6, 2) := by decide +kernel
theorem dL_law_208 : decode cL_law 208 = .ok (.bipush 6, 2) := by decide +kernel
theorem dL_law_210 : decode cL_law 210 = .ok (.invokevirtual 44, 3) := by decide +kernel
theorem dL_law_213 : decode cL_law 213 = .ok (.istore 16, 2) := by decide +kernel
theorem dL_law_215 : decode cL_law 215 = .ok (.aload 4, 2) := by decide +kernel
theorem dL_law_217 : decode cL_law 217 = .ok (.iload 6, 2) := by decide +kernel
theorem dL_law_219 : decode cL_law 219 = .ok (.iconst 2, 1) := by decide +kernel
theorem dL_law_220 : decode cL_law 220 = .ok (.invokevirtual 44, 3) := by decide +kernel
theorem dL_law_223 : decode cL_law 223 = .ok (.aload 4, 2) := by decide +kernel
theorem dL_law_225 : decode cL_law 225 = .ok (.iload 6, 2) := by decide +kernel
theorem dL_law_227 : decode cL_law 227 = .ok (.iconst 3, 1) := by decide +kernel
theorem dL_law_228 : decode cL_law 228 = .ok (.invokevirtual 44, 3) := by decide +kernel
theorem dL_law_231 : decode cL_law 231 = .ok (.isub, 1) := by decide +kernel
theorem dL_law_232 : decode cL_law 232 = .ok (.istore 17, 2) := by decide +kernel
theorem dL_law_234 : decode cL_law 234 = .ok (.iload 14, 2) := by decide +kernel
theorem dL_law_236 : decode cL_law 236 = .ok (.ifCond .lt 49, 3) := by decide +kernel
theorem dL_law_239 : decode cL_law 239 = .ok (.iload 5, 2) := by decide +kernel
theorem dL_law_241 : decode cL_law 241 = .ok (.iconst 2, 1) := by decide +kernel
theorem dL_law_242 : decode cL_law 242 = .ok (.irem, 1) := by decide +kernel
theorem dL_law_243 : decode cL_law 243 = .ok (.ifCond .ne 42, 3) := by decide +kernel
theorem dL_law_246 : decode cL_law 246 = .ok (.aload 4, 2) := by decide +kernel
theorem dL_law_248 : decode cL_law 248 = .ok (.iconst 0, 1) := by decide +kernel
theorem dL_law_249 : decode cL_law 249 = .ok (.iload 14, 2) := by decide +kernel
theorem dL_law_251 : decode cL_law 251 = .ok (.invokevirtual 48, 3) := by decide +kernel
theorem dL_law_254 : decode cL_law 254 = .ok (.pop, 1) := by decide +kernel
theorem dL_law_255 : decode cL_law 255 = .ok (.aload_n 3, 1) := by decide +kernel
theorem dL_law_256 : decode cL_law 256 = .ok (.getfield 14, 3) := by decide +kernel
theorem dL_law_259 : decode cL_law 259 = .ok (.iconst 0, 1) := by decide +kernel
theorem dL_law_260 : decode cL_law 260 = .ok (.iload 14, 2) := by decide +kernel
theorem dL_law_262 : decode cL_law 262 = .ok (.invokevirtual 48, 3) := by decide +kernel
theorem dL_law_265 : decode cL_law 265 = .ok (.pop, 1) := by decide +kernel
theorem dL_law_266 : decode cL_law 266 = .ok (.aload 4, 2) := by decide +kernel
theorem dL_law_268 : decode cL_law 268 = .ok (.iconst 0, 1) := by decide +kernel
theorem dL_law_269 : decode cL_law 269 = .ok (.iload 9, 2) := by decide +kernel
theorem dL_law_271 : decode cL_law 271 = .ok (.iload 7, 2) := by decide +kernel
theorem dL_law_273 : decode cL_law 273 = .ok (.iload 8, 2) := by decide +kernel
theorem dL_law_275 : decode cL_law 275 = .ok (.invokevirtual 40, 3) := by decide +kernel
theorem dL_law_278 : decode cL_law 278 = .ok (.iload 14, 2) := by decide +kernel
theorem dL_law_280 : decode cL_law 280 = .ok (.if_icmp .eq 5, 3) := by decide +kernel
theorem dL_law_283 : decode cL_law 283 = .ok (.iconst 0, 1) := by decide +kernel
theorem dL_law_284 : decode cL_law 284 = .ok (.ireturn, 1) := by decide +kernel
theorem dL_law_285 : decode cL_law 285 = .ok (.aload 4, 2) := by decide +kernel
theorem dL_law_287 : decode cL_law 287 = .ok (.iconst 0, 1) := by decide +kernel
theorem dL_law_288 : decode cL_law 288 = .ok (.bipush 6, 2) := by decide +kernel
theorem dL_law_290 : decode cL_law 290 = .ok (.invokevirtual 51, 3) := by decide +kernel
theorem dL_law_293 : decode cL_law 293 = .ok (.istore 18, 2) := by decide +kernel
theorem dL_law_295 : decode cL_law 295 = .ok (.iconst 0, 1) := by decide +kernel
theorem dL_law_296 : decode cL_law 296 = .ok (.istore 19, 2) := by decide +kernel
theorem dL_law_298 : decode cL_law 298 = .ok (.iload 19, 2) := by decide +kernel
theorem dL_law_300 : decode cL_law 300 = .ok (.iload 9, 2) := by decide +kernel
theorem dL_law_302 : decode cL_law 302 = .ok (.if_icmp .ge 99, 3) := by decide +kernel
theorem dL_law_305 : decode cL_law 305 = .ok (.aload 4, 2) := by decide +kernel
theorem dL_law_307 : decode cL_law 307 = .ok (.iload 6, 2) := by decide +kernel
theorem dL_law_309 : decode cL_law 309 = .ok (.iconst 4, 1) := by decide +kernel
theorem dL_law_310 : decode cL_law 310 = .ok (.invokevirtual 44, 3) := by decide +kernel
theorem dL_law_313 : decode cL_law 313 = .ok (.bipush 79, 2) := by decide +kernel
theorem dL_law_315 : decode cL_law 315 = .ok (.if_icmp .le 34, 3) := by decide +kernel
theorem dL_law_318 : decode cL_law 318 = .ok (.aload 4, 2) := by decide +kernel
theorem dL_law_320 : decode cL_law 320 = .ok (.iload 6, 2) := by decide +kernel
theorem dL_law_322 : decode cL_law 322 = .ok (.iconst 5, 1) := by decide +kernel
theorem dL_law_323 : decode cL_law 323 = .ok (.invokevirtual 44, 3) := by decide +kernel
theorem dL_law_326 : decode cL_law 326 = .ok (.bipush 20, 2) := by decide +kernel
theorem dL_law_328 : decode cL_law 328 = .ok (.if_icmp .ge 21, 3) := by decide +kernel
theorem dL_law_331 : decode cL_law 331 = .ok (.aload 4, 2) := by decide +kernel
theorem dL_law_333 : decode cL_law 333 = .ok (.iconst 0, 1) := by decide +kernel
theorem dL_law_334 : decode cL_law 334 = .ok (.invokevirtual 54, 3) := by decide +kernel
theorem dL_law_337 : decode cL_law 337 = .ok (.bipush 24, 2) := by decide +kernel
theorem dL_law_339 : decode cL_law 339 = .ok (.irem, 1) := by decide +kernel
theorem dL_law_340 : decode cL_law 340 = .ok (.bipush 7, 2) := by decide +kernel
theorem dL_law_342 : decode cL_law 342 = .ok (.if_icmp .le 7, 3) := by decide +kernel
theorem dL_law_345 : decode cL_law 345 = .ok (.iconst 1, 1) := by decide +kernel
theorem dL_law_346 : decode cL_law 346 = .ok (.goto 4, 3) := by decide +kernel
theorem dL_law_349 : decode cL_law 349 = .ok (.iconst 0, 1) := by decide +kernel
theorem dL_law_350 : decode cL_law 350 = .ok (.istore 20, 2) := by decide +kernel
theorem dL_law_352 : decode cL_law 352 = .ok (.iload 20, 2) := by decide +kernel
theorem dL_law_354 : decode cL_law 354 = .ok (.iload 12, 2) := by decide +kernel
theorem dL_law_356 : decode cL_law 356 = .ok (.iload 19, 2) := by decide +kernel
theorem dL_law_358 : decode cL_law 358 = .ok (.if_icmp .ne 7, 3) := by decide +kernel
theorem dL_law_361 : decode cL_law 361 = .ok (.iconst 1, 1) := by decide +kernel
theorem dL_law_362 : decode cL_law 362 = .ok (.goto 4, 3) := by decide +kernel
theorem dL_law_365 : decode cL_law 365 = .ok (.iconst 0, 1) := by decide +kernel
theorem dL_law_366 : decode cL_law 366 = .ok (.if_icmp .eq 17, 3) := by decide +kernel
theorem dL_law_369 : decode cL_law 369 = .ok (.iload 12, 2) := by decide +kernel
theorem dL_law_371 : decode cL_law 371 = .ok (.ifCond .lt 10, 3) := by decide +kernel
theorem dL_law_374 : decode cL_law 374 = .ok (.iload 19, 2) := by decide +kernel
theorem dL_law_376 : decode cL_law 376 = .ok (.iload 12, 2) := by decide +kernel
theorem dL_law_378 : decode cL_law 378 = .ok (.if_icmp .gt 5, 3) := by decide +kernel
theorem dL_law_381 : decode cL_law 381 = .ok (.iconst 0, 1) := by decide +kernel
theorem dL_law_382 : decode cL_law 382 = .ok (.ireturn, 1) := by decide +kernel
theorem dL_law_383 : decode cL_law 383 = .ok (.aload 4, 2) := by decide +kernel
theorem dL_law_385 : decode cL_law 385 = .ok (.iconst 1, 1) := by decide +kernel
theorem dL_law_386 : decode cL_law 386 = .ok (.iload 7, 2) := by decide +kernel
theorem dL_law_388 : decode cL_law 388 = .ok (.iload 8, 2) := by decide +kernel
theorem dL_law_390 : decode cL_law 390 = .ok (.iconst 0, 1) := by decide +kernel
theorem dL_law_391 : decode cL_law 391 = .ok (.invokevirtual 57, 3) := by decide +kernel
theorem dL_law_394 : decode cL_law 394 = .ok (.pop, 1) := by decide +kernel
theorem dL_law_395 : decode cL_law 395 = .ok (.iinc 19 1, 3) := by decide +kernel
theorem dL_law_398 : decode cL_law 398 = .ok (.goto (-100), 3) := by decide +kernel
theorem dL_law_401 : decode cL_law 401 = .ok (.aload_n 3, 1) := by decide +kernel
theorem dL_law_402 : decode cL_law 402 = .ok (.getfield 14, 3) := by decide +kernel
theorem dL_law_405 : decode cL_law 405 = .ok (.iload 9, 2) := by decide +kernel
theorem dL_law_407 : decode cL_law 407 = .ok (.iload 7, 2) := by decide +kernel
theorem dL_law_409 : decode cL_law 409 = .ok (.iload 8, 2) := by decide +kernel
theorem dL_law_411 : decode cL_law 411 = .ok (.iconst 0, 1) := by decide +kernel
theorem dL_law_412 : decode cL_law 412 = .ok (.invokevirtual 57, 3) := by decide +kernel
theorem dL_law_415 : decode cL_law 415 = .ok (.pop, 1) := by decide +kernel
theorem dL_law_416 : decode cL_law 416 = .ok (.aload 4, 2) := by decide +kernel
theorem dL_law_418 : decode cL_law 418 = .ok (.invokevirtual 26, 3) := by decide +kernel
theorem dL_law_421 : decode cL_law 421 = .ok (.aload_n 3, 1) := by decide +kernel
theorem dL_law_422 : decode cL_law 422 = .ok (.getfield 14, 3) := by decide +kernel
theorem dL_law_425 : decode cL_law 425 = .ok (.invokevirtual 26, 3) := by decide +kernel
theorem dL_law_428 : decode cL_law 428 = .ok (.lcmp, 1) := by decide +kernel
theorem dL_law_429 : decode cL_law 429 = .ok (.ifCond .eq 5, 3) := by decide +kernel
theorem dL_law_432 : decode cL_law 432 = .ok (.iconst 0, 1) := by decide +kernel
theorem dL_law_433 : decode cL_law 433 = .ok (.ireturn, 1) := by decide +kernel
theorem dL_law_434 : decode cL_law 434 = .ok (.iload 14, 2) := by decide +kernel
theorem dL_law_436 : decode cL_law 436 = .ok (.ifCond .lt 25, 3) := by decide +kernel
theorem dL_law_439 : decode cL_law 439 = .ok (.iload 5, 2) := by decide +kernel
theorem dL_law_441 : decode cL_law 441 = .ok (.iconst 2, 1) := by decide +kernel
theorem dL_law_442 : decode cL_law 442 = .ok (.irem, 1) := by decide +kernel
theorem dL_law_443 : decode cL_law 443 = .ok (.ifCond .ne 18, 3) := by decide +kernel
theorem dL_law_446 : decode cL_law 446 = .ok (.aload 4, 2) := by decide +kernel
theorem dL_law_448 : decode cL_law 448 = .ok (.iconst 0, 1) := by decide +kernel
theorem dL_law_449 : decode cL_law 449 = .ok (.bipush 6, 2) := by decide +kernel
theorem dL_law_451 : decode cL_law 451 = .ok (.invokevirtual 51, 3) := by decide +kernel
theorem dL_law_454 : decode cL_law 454 = .ok (.iload 18, 2) := by decide +kernel
theorem dL_law_456 : decode cL_law 456 = .ok (.if_icmp .ne 5, 3) := by decide +kernel
theorem dL_law_459 : decode cL_law 459 = .ok (.iconst 0, 1) := by decide +kernel
theorem dL_law_460 : decode cL_law 460 = .ok (.ireturn, 1) := by decide +kernel
theorem dL_law_461 : decode cL_law 461 = .ok (.aload_n 2, 1) := by decide +kernel
theorem dL_law_462 : decode cL_law 462 = .ok (.getfield 60, 3) := by decide +kernel
theorem dL_law_465 : decode cL_law 465 = .ok (.iload 6, 2) := by decide +kernel
theorem dL_law_467 : decode cL_law 467 = .ok (.aaload, 1) := by decide +kernel
theorem dL_law_468 : decode cL_law 468 = .ok (.bipush 9, 2) := by decide +kernel
theorem dL_law_470 : decode cL_law 470 = .ok (.iaload, 1) := by decide +kernel
theorem dL_law_471 : decode cL_law 471 = .ok (.bipush 100, 2) := by decide +kernel
theorem dL_law_473 : decode cL_law 473 = .ok (.iload 16, 2) := by decide +kernel
theorem dL_law_475 : decode cL_law 475 = .ok (.isub, 1) := by decide +kernel
theorem dL_law_476 : decode cL_law 476 = .ok (.imul, 1) := by decide +kernel
theorem dL_law_477 : decode cL_law 477 = .ok (.bipush 100, 2) := by decide +kernel
theorem dL_law_479 : decode cL_law 479 = .ok (.idiv, 1) := by decide +kernel
theorem dL_law_480 : decode cL_law 480 = .ok (.aload_n 2, 1) := by decide +kernel
theorem dL_law_481 : decode cL_law 481 = .ok (.getfield 60, 3) := by decide +kernel
theorem dL_law_484 : decode cL_law 484 = .ok (.iload 6, 2) := by decide +kernel
theorem dL_law_486 : decode cL_law 486 = .ok (.aaload, 1) := by decide +kernel
theorem dL_law_487 : decode cL_law 487 = .ok (.bipush 9, 2) := by decide +kernel
theorem dL_law_489 : decode cL_law 489 = .ok (.iaload, 1) := by decide +kernel
theorem dL_law_490 : decode cL_law 490 = .ok (.bipush 100, 2) := by decide +kernel
theorem dL_law_492 : decode cL_law 492 = .ok (.aload 4, 2) := by decide +kernel
theorem dL_law_494 : decode cL_law 494 = .ok (.iload 6, 2) := by decide +kernel
theorem dL_law_496 : decode cL_law 496 = .ok (.bipush 6, 2) := by decide +kernel
theorem dL_law_498 : decode cL_law 498 = .ok (.invokevirtual 44, 3) := by decide +kernel
theorem dL_law_501 : decode cL_law 501 = .ok (.isub, 1) := by decide +kernel
theorem dL_law_502 : decode cL_law 502 = .ok (.imul, 1) := by decide +kernel
theorem dL_law_503 : decode cL_law 503 = .ok (.bipush 100, 2) := by decide +kernel
theorem dL_law_505 : decode cL_law 505 = .ok (.idiv, 1) := by decide +kernel
theorem dL_law_506 : decode cL_law 506 = .ok (.isub, 1) := by decide +kernel
theorem dL_law_507 : decode cL_law 507 = .ok (.istore 19, 2) := by decide +kernel
theorem dL_law_509 : decode cL_law 509 = .ok (.iload 13, 2) := by decide +kernel
theorem dL_law_511 : decode cL_law 511 = .ok (.iload 17, 2) := by decide +kernel
theorem dL_law_513 : decode cL_law 513 = .ok (.iload 19, 2) := by decide +kernel
theorem dL_law_515 : decode cL_law 515 = .ok (.imul, 1) := by decide +kernel
theorem dL_law_516 : decode cL_law 516 = .ok (.if_icmp .ne 38, 3) := by decide +kernel
theorem dL_law_519 : decode cL_law 519 = .ok (.iload 15, 2) := by decide +kernel
theorem dL_law_521 : decode cL_law 521 = .ok (.ifCond .eq 35, 3) := by decide +kernel
theorem dL_law_524 : decode cL_law 524 = .ok (.iload 5, 2) := by decide +kernel
theorem dL_law_526 : decode cL_law 526 = .ok (.iconst 2, 1) := by decide +kernel
theorem dL_law_527 : decode cL_law 527 = .ok (.irem, 1) := by decide +kernel
theorem dL_law_528 : decode cL_law 528 = .ok (.iconst 1, 1) := by decide +kernel
theorem dL_law_529 : decode cL_law 529 = .ok (.if_icmp .ne 27, 3) := by decide +kernel
theorem dL_law_532 : decode cL_law 532 = .ok (.aload 4, 2) := by decide +kernel
theorem dL_law_534 : decode cL_law 534 = .ok (.iload 6, 2) := by decide +kernel
theorem dL_law_536 : decode cL_law 536 = .ok (.iconst 2, 1) := by decide +kernel
theorem dL_law_537 : decode cL_law 537 = .ok (.invokevirtual 44, 3) := by decide +kernel
theorem dL_law_540 : decode cL_law 540 = .ok (.aload 4, 2) := by decide +kernel
theorem dL_law_542 : decode cL_law 542 = .ok (.iload 6, 2) := by decide +kernel
theorem dL_law_544 : decode cL_law 544 = .ok (.iconst 3, 1) := by decide +kernel
theorem dL_law_545 : decode cL_law 545 = .ok (.invokevirtual 44, 3) := by decide +kernel
theorem dL_law_548 : decode cL_law 548 = .ok (.isub, 1) := by decide +kernel
theorem dL_law_549 : decode cL_law 549 = .ok (.iload 17, 2) := by decide +kernel
theorem dL_law_551 : decode cL_law 551 = .ok (.if_icmp .eq 5, 3) := by decide +kernel
theorem dL_law_554 : decode cL_law 554 = .ok (.iconst 0, 1) := by decide +kernel
theorem dL_law_555 : decode cL_law 555 = .ok (.ireturn, 1) := by decide +kernel
theorem dL_law_556 : decode cL_law 556 = .ok (.aload_n 2, 1) := by decide +kernel
theorem dL_law_557 : decode cL_law 557 = .ok (.iconst 2, 1) := by decide +kernel
theorem dL_law_558 : decode cL_law 558 = .ok (.invokevirtual 22, 3) := by decide +kernel
theorem dL_law_561 : decode cL_law 561 = .ok (.istore 20, 2) := by decide +kernel
theorem dL_law_563 : decode cL_law 563 = .ok (.aload_n 2, 1) := by decide +kernel
theorem dL_law_564 : decode cL_law 564 = .ok (.iconst 3, 1) := by decide +kernel
theorem dL_law_565 : decode cL_law 565 = .ok (.invokevirtual 22, 3) := by decide +kernel
theorem dL_law_568 : decode cL_law 568 = .ok (.istore 21, 2) := by decide +kernel
theorem dL_law_570 : decode cL_law 570 = .ok (.iconst 0, 1) := by decide +kernel
theorem dL_law_571 : decode cL_law 571 = .ok (.istore 22, 2) := by decide +kernel
theorem dL_law_573 : decode cL_law 573 = .ok (.iload 22, 2) := by decide +kernel
theorem dL_law_575 : decode cL_law 575 = .ok (.iconst 2, 1) := by decide +kernel
theorem dL_law_576 : decode cL_law 576 = .ok (.if_icmp .ge 69, 3) := by decide +kernel
theorem dL_law_579 : decode cL_law 579 = .ok (.iload 22, 2) := by decide +kernel
theorem dL_law_581 : decode cL_law 581 = .ok (.ifCond .ne 8, 3) := by decide +kernel
theorem dL_law_584 : decode cL_law 584 = .ok (.aload 4, 2) := by decide +kernel
theorem dL_law_586 : decode cL_law 586 = .ok (.goto 7, 3) := by decide +kernel
theorem dL_law_589 : decode cL_law 589 = .ok (.aload_n 3, 1) := by decide +kernel
theorem dL_law_590 : decode cL_law 590 = .ok (.getfield 14, 3) := by decide +kernel
theorem dL_law_593 : decode cL_law 593 = .ok (.astore 23, 2) := by decide +kernel
theorem dL_law_595 : decode cL_law 595 = .ok (.iload 21, 2) := by decide +kernel
theorem dL_law_597 : decode cL_law 597 = .ok (.ifCond .ne 15, 3) := by decide +kernel
theorem dL_law_600 : decode cL_law 600 = .ok (.aload 23, 2) := by decide +kernel
theorem dL_law_602 : decode cL_law 602 = .ok (.iload 20, 2) := by decide +kernel
theorem dL_law_604 : decode cL_law 604 = .ok (.iconst 0, 1) := by decide +kernel
theorem dL_law_605 : decode cL_law 605 = .ok (.invokevirtual 64, 3) := by decide +kernel
theorem dL_law_608 : decode cL_law 608 = .ok (.pop, 1) := by decide +kernel
theorem dL_law_609 : decode cL_law 609 = .ok (.goto 30, 3) := by decide +kernel
theorem dL_law_612 : decode cL_law 612 = .ok (.iload 21, 2) := by decide +kernel
theorem dL_law_614 : decode cL_law 614 = .ok (.iconst 1, 1) := by decide +kernel
theorem dL_law_615 : decode cL_law 615 = .ok (.if_icmp .ne 15, 3) := by decide +kernel
theorem dL_law_618 : decode cL_law 618 = .ok (.aload 23, 2) := by decide +kernel
theorem dL_law_620 : decode cL_law 620 = .ok (.iload 20, 2) := by decide +kernel
theorem dL_law_622 : decode cL_law 622 = .ok (.iconst 1, 1) := by decide +kernel
theorem dL_law_623 : decode cL_law 623 = .ok (.invokevirtual 67, 3) := by decide +kernel
theorem dL_law_626 : decode cL_law 626 = .ok (.pop, 1) := by decide +kernel
theorem dL_law_627 : decode cL_law 627 = .ok (.goto 12, 3) := by decide +kernel
theorem dL_law_630 : decode cL_law 630 = .ok (.aload 23, 2) := by decide +kernel
theorem dL_law_632 : decode cL_law 632 = .ok (.iconst 1, 1) := by decide +kernel
theorem dL_law_633 : decode cL_law 633 = .ok (.iload 20, 2) := by decide +kernel
theorem dL_law_635 : decode cL_law 635 = .ok (.invokevirtual 48, 3) := by decide +kernel
theorem dL_law_638 : decode cL_law 638 = .ok (.pop, 1) := by decide +kernel
theorem dL_law_639 : decode cL_law 639 = .ok (.iinc 22 1, 3) := by decide +kernel
theorem dL_law_642 : decode cL_law 642 = .ok (.goto (-69), 3) := by decide +kernel
theorem dL_law_645 : decode cL_law 645 = .ok (.iinc 5 1, 3) := by decide +kernel
theorem dL_law_648 : decode cL_law 648 = .ok (.goto (-582), 3) := by decide +kernel
theorem dL_law_651 : decode cL_law 651 = .ok (.iinc 1 1, 3) := by decide +kernel
theorem dL_law_654 : decode cL_law 654 = .ok (.goto (-652), 3) := by decide +kernel
theorem dL_law_657 : decode cL_law 657 = .ok (.iconst 1, 1) := by decide +kernel
theorem dL_law_658 : decode cL_law 658 = .ok (.ireturn, 1) := by decide +kernel
