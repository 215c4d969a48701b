theorem dX8_isIn_0 : decode cX8_isIn 0 = .ok (.iload_n 0, 1) := by decide +kernel
theorem dX8_isIn_1 : decode cX8_isIn 1 = .ok (.iload_n 1, 1) := by decide +kernel
theorem dX8_isIn_2 : decode cX8_isIn 2 = .ok (.if_icmp .lt 12, 3) := by decide +kernel
theorem dX8_isIn_5 : decode cX8_isIn 5 = .ok (.iload_n 0, 1) := by decide +kernel
theorem dX8_isIn_6 : decode cX8_isIn 6 = .ok (.iload_n 2, 1) := by decide +kernel
theorem dX8_isIn_7 : decode cX8_isIn 7 = .ok (.if_icmp .gt 7, 3) := by decide +kernel
theorem dX8_isIn_10 : decode cX8_isIn 10 = .ok (.iconst 1, 1) := by decide +kernel
theorem dX8_isIn_11 : decode cX8_isIn 11 = .ok (.goto 4, 3) := by decide +kernel
theorem dX8_isIn_14 : decode cX8_isIn 14 = .ok (.iconst 0, 1) := by decide +kernel
theorem dX8_isIn_15 : decode cX8_isIn 15 = .ok (.ireturn, 1) := by decide +kernel
theorem dX8_isPlace_0 : decode cX8_isPlace 0 = .ok (.iload_n 0, 1) := by decide +kernel
theorem dX8_isPlace_1 : decode cX8_isPlace 1 = .ok (.iconst 0, 1) := by decide +kernel
theorem dX8_isPlace_2 : decode cX8_isPlace 2 = .ok (.bipush 6, 2) := by decide +kernel
theorem dX8_isPlace_4 : decode cX8_isPlace 4 = .ok (.invokestatic 3, 3) := by decide +kernel
theorem dX8_isPlace_7 : decode cX8_isPlace 7 = .ok (.ireturn, 1) := by decide +kernel
theorem dX8_isHorse_0 : decode cX8_isHorse 0 = .ok (.iload_n 1, 1) := by decide +kernel
theorem dX8_isHorse_1 : decode cX8_isHorse 1 = .ok (.iconst 0, 1) := by decide +kernel
theorem dX8_isHorse_2 : decode cX8_isHorse 2 = .ok (.aload_n 0, 1) := by decide +kernel
theorem dX8_isHorse_3 : decode cX8_isHorse 3 = .ok (.getfield 7, 3) := by decide +kernel
theorem dX8_isHorse_6 : decode cX8_isHorse 6 = .ok (.iconst 1, 1) := by decide +kernel
theorem dX8_isHorse_7 : decode cX8_isHorse 7 = .ok (.isub, 1) := by decide +kernel
theorem dX8_isHorse_8 : decode cX8_isHorse 8 = .ok (.invokestatic 3, 3) := by decide +kernel
theorem dX8_isHorse_11 : decode cX8_isHorse 11 = .ok (.ireturn, 1) := by decide +kernel
theorem dX8_isRide_0 : decode cX8_isRide 0 = .ok (.iload_n 1, 1) := by decide +kernel
theorem dX8_isRide_1 : decode cX8_isRide 1 = .ok (.iconst 0, 1) := by decide +kernel
theorem dX8_isRide_2 : decode cX8_isRide 2 = .ok (.aload_n 0, 1) := by decide +kernel
theorem dX8_isRide_3 : decode cX8_isRide 3 = .ok (.getfield 11, 3) := by decide +kernel
theorem dX8_isRide_6 : decode cX8_isRide 6 = .ok (.iconst 1, 1) := by decide +kernel
theorem dX8_isRide_7 : decode cX8_isRide 7 = .ok (.isub, 1) := by decide +kernel
theorem dX8_isRide_8 : decode cX8_isRide 8 = .ok (.invokestatic 3, 3) := by decide +kernel
theorem dX8_isRide_11 : decode cX8_isRide 11 = .ok (.ireturn, 1) := by decide +kernel
theorem dX8_walkIs_0 : decode cX8_walkIs 0 = .ok (.aload_n 0, 1) := by decide +kernel
theorem dX8_walkIs_1 : decode cX8_walkIs 1 = .ok (.getfield 14, 3) := by decide +kernel
theorem dX8_walkIs_4 : decode cX8_walkIs 4 = .ok (.bipush 7, 2) := by decide +kernel
theorem dX8_walkIs_6 : decode cX8_walkIs 6 = .ok (.iload_n 1, 1) := by decide +kernel
theorem dX8_walkIs_7 : decode cX8_walkIs 7 = .ok (.imul, 1) := by decide +kernel
theorem dX8_walkIs_8 : decode cX8_walkIs 8 = .ok (.iload_n 2, 1) := by decide +kernel
theorem dX8_walkIs_9 : decode cX8_walkIs 9 = .ok (.iadd, 1) := by decide +kernel
theorem dX8_walkIs_10 : decode cX8_walkIs 10 = .ok (.iload_n 3, 1) := by decide +kernel
theorem dX8_walkIs_11 : decode cX8_walkIs 11 = .ok (.iastore, 1) := by decide +kernel
theorem dX8_walkIs_12 : decode cX8_walkIs 12 = .ok (.aload_n 0, 1) := by decide +kernel
theorem dX8_walkIs_13 : decode cX8_walkIs 13 = .ok (.getfield 14, 3) := by decide +kernel
theorem dX8_walkIs_16 : decode cX8_walkIs 16 = .ok (.bipush 7, 2) := by decide +kernel
theorem dX8_walkIs_18 : decode cX8_walkIs 18 = .ok (.iload_n 2, 1) := by decide +kernel
theorem dX8_walkIs_19 : decode cX8_walkIs 19 = .ok (.imul, 1) := by decide +kernel
theorem dX8_walkIs_20 : decode cX8_walkIs 20 = .ok (.iload_n 1, 1) := by decide +kernel
theorem dX8_walkIs_21 : decode cX8_walkIs 21 = .ok (.iadd, 1) := by decide +kernel
theorem dX8_walkIs_22 : decode cX8_walkIs 22 = .ok (.iload_n 3, 1) := by decide +kernel
theorem dX8_walkIs_23 : decode cX8_walkIs 23 = .ok (.iastore, 1) := by decide +kernel
theorem dX8_walkIs_24 : decode cX8_walkIs 24 = .ok (.return_, 1) := by decide +kernel
theorem dX8_path_0 : decode cX8_path 0 = .ok (.iload_n 1, 1) := by decide +kernel
theorem dX8_path_1 : decode cX8_path 1 = .ok (.invokestatic 18, 3) := by decide +kernel
theorem dX8_path_4 : decode cX8_path 4 = .ok (.ifCond .eq 15, 3) := by decide +kernel
theorem dX8_path_7 : decode cX8_path 7 = .ok (.iload_n 2, 1) := by decide +kernel
theorem dX8_path_8 : decode cX8_path 8 = .ok (.invokestatic 18, 3) := by decide +kernel
theorem dX8_path_11 : decode cX8_path 11 = .ok (.ifCond .eq 8, 3) := by decide +kernel
theorem dX8_path_14 : decode cX8_path 14 = .ok (.iload_n 1, 1) := by decide +kernel
theorem dX8_path_15 : decode cX8_path 15 = .ok (.iload_n 2, 1) := by decide +kernel
theorem dX8_path_16 : decode cX8_path 16 = .ok (.if_icmp .ne 6, 3) := by decide +kernel
theorem dX8_path_19 : decode cX8_path 19 = .ok (.bipush (-5), 2) := by decide +kernel
theorem dX8_path_21 : decode cX8_path 21 = .ok (.ireturn, 1) := by decide +kernel
theorem dX8_path_22 : decode cX8_path 22 = .ok (.iload_n 3, 1) := by decide +kernel
theorem dX8_path_23 : decode cX8_path 23 = .ok (.iconst 1, 1) := by decide +kernel
theorem dX8_path_24 : decode cX8_path 24 = .ok (.sipush 999, 3) := by decide +kernel
theorem dX8_path_27 : decode cX8_path 27 = .ok (.invokestatic 3, 3) := by decide +kernel
theorem dX8_path_30 : decode cX8_path 30 = .ok (.ifCond .ne 6, 3) := by decide +kernel
theorem dX8_path_33 : decode cX8_path 33 = .ok (.bipush (-7), 2) := by decide +kernel
theorem dX8_path_35 : decode cX8_path 35 = .ok (.ireturn, 1) := by decide +kernel
theorem dX8_path_36 : decode cX8_path 36 = .ok (.aload_n 0, 1) := by decide +kernel
theorem dX8_path_37 : decode cX8_path 37 = .ok (.getfield 14, 3) := by decide +kernel
theorem dX8_path_40 : decode cX8_path 40 = .ok (.bipush 7, 2) := by decide +kernel
theorem dX8_path_42 : decode cX8_path 42 = .ok (.iload_n 1, 1) := by decide +kernel
theorem dX8_path_43 : decode cX8_path 43 = .ok (.imul, 1) := by decide +kernel
theorem dX8_path_44 : decode cX8_path 44 = .ok (.iload_n 2, 1) := by decide +kernel
theorem dX8_path_45 : decode cX8_path 45 = .ok (.iadd, 1) := by decide +kernel
theorem dX8_path_46 : decode cX8_path 46 = .ok (.iaload, 1) := by decide +kernel
theorem dX8_path_47 : decode cX8_path 47 = .ok (.istore 4, 2) := by decide +kernel
theorem dX8_path_49 : decode cX8_path 49 = .ok (.aload_n 0, 1) := by decide +kernel
theorem dX8_path_50 : decode cX8_path 50 = .ok (.iload_n 1, 1) := by decide +kernel
theorem dX8_path_51 : decode cX8_path 51 = .ok (.iload_n 2, 1) := by decide +kernel
theorem dX8_path_52 : decode cX8_path 52 = .ok (.iload_n 3, 1) := by decide +kernel
theorem dX8_path_53 : decode cX8_path 53 = .ok (.invokevirtual 22, 3) := by decide +kernel
theorem dX8_path_56 : decode cX8_path 56 = .ok (.iload 4, 2) := by decide +kernel
theorem dX8_path_58 : decode cX8_path 58 = .ok (.ireturn, 1) := by decide +kernel
theorem dX8_pathTold_0 : decode cX8_pathTold 0 = .ok (.iload_n 1, 1) := by decide +kernel
theorem dX8_pathTold_1 : decode cX8_pathTold 1 = .ok (.invokestatic 18, 3) := by decide +kernel
theorem dX8_pathTold_4 : decode cX8_pathTold 4 = .ok (.ifCond .eq 24, 3) := by decide +kernel
theorem dX8_pathTold_7 : decode cX8_pathTold 7 = .ok (.iload_n 2, 1) := by decide +kernel
theorem dX8_pathTold_8 : decode cX8_pathTold 8 = .ok (.invokestatic 18, 3) := by decide +kernel
theorem dX8_pathTold_11 : decode cX8_pathTold 11 = .ok (.ifCond .eq 17, 3) := by decide +kernel
theorem dX8_pathTold_14 : decode cX8_pathTold 14 = .ok (.aload_n 0, 1) := by decide +kernel
theorem dX8_pathTold_15 : decode cX8_pathTold 15 = .ok (.getfield 14, 3) := by decide +kernel
theorem dX8_pathTold_18 : decode cX8_pathTold 18 = .ok (.bipush 7, 2) := by decide +kernel
theorem dX8_pathTold_20 : decode cX8_pathTold 20 = .ok (.iload_n 1, 1) := by decide +kernel
theorem dX8_pathTold_21 : decode cX8_pathTold 21 = .ok (.imul, 1) := by decide +kernel
theorem dX8_pathTold_22 : decode cX8_pathTold 22 = .ok (.iload_n 2, 1) := by decide +kernel
theorem dX8_pathTold_23 : decode cX8_pathTold 23 = .ok (.iadd, 1) := by decide +kernel
theorem dX8_pathTold_24 : decode cX8_pathTold 24 = .ok (.iaload, 1) := by decide +kernel
theorem dX8_pathTold_25 : decode cX8_pathTold 25 = .ok (.goto 5, 3) := by decide +kernel
theorem dX8_pathTold_28 : decode cX8_pathTold 28 = .ok (.bipush (-5), 2) := by decide +kernel
theorem dX8_pathTold_30 : decode cX8_pathTold 30 = .ok (.ireturn, 1) := by decide +kernel
theorem dX8_ride_0 : decode cX8_ride 0 = .ok (.iload_n 1, 1) := by decide +kernel
theorem dX8_ride_1 : decode cX8_ride 1 = .ok (.invokestatic 18, 3) := by decide +kernel
theorem dX8_ride_4 : decode cX8_ride 4 = .ok (.ifCond .eq 15, 3) := by decide +kernel
theorem dX8_ride_7 : decode cX8_ride 7 = .ok (.iload_n 2, 1) := by decide +kernel
theorem dX8_ride_8 : decode cX8_ride 8 = .ok (.invokestatic 18, 3) := by decide +kernel
theorem dX8_ride_11 : decode cX8_ride 11 = .ok (.ifCond .eq 8, 3) := by decide +kernel
theorem dX8_ride_14 : decode cX8_ride 14 = .ok (.iload_n 1, 1) := by decide +kernel
theorem dX8_ride_15 : decode cX8_ride 15 = .ok (.iload_n 2, 1) := by decide +kernel
theorem dX8_ride_16 : decode cX8_ride 16 = .ok (.if_icmp .ne 6, 3) := by decide +kernel
theorem dX8_ride_19 : decode cX8_ride 19 = .ok (.bipush (-2), 2) := by decide +kernel
theorem dX8_ride_21 : decode cX8_ride 21 = .ok (.ireturn, 1) := by decide +kernel
theorem dX8_ride_22 : decode cX8_ride 22 = .ok (.aload_n 0, 1) := by decide +kernel
theorem dX8_ride_23 : decode cX8_ride 23 = .ok (.getfield 11, 3) := by decide +kernel
theorem dX8_ride_26 : decode cX8_ride 26 = .ok (.iconst 4, 1) := by decide +kernel
theorem dX8_ride_27 : decode cX8_ride 27 = .ok (.if_icmp .ne 6, 3) := by decide +kernel
theorem dX8_ride_30 : decode cX8_ride 30 = .ok (.bipush (-4), 2) := by decide +kernel
theorem dX8_ride_32 : decode cX8_ride 32 = .ok (.ireturn, 1) := by decide +kernel
theorem dX8_ride_33 : decode cX8_ride 33 = .ok (.aload_n 0, 1) := by decide +kernel
theorem dX8_ride_34 : decode cX8_ride 34 = .ok (.getfield 26, 3) := by decide +kernel
theorem dX8_ride_37 : decode cX8_ride 37 = .ok (.aload_n 0, 1) := by decide +kernel
theorem dX8_ride_38 : decode cX8_ride 38 = .ok (.getfield 11, 3) := by decide +kernel
theorem dX8_ride_41 : decode cX8_ride 41 = .ok (.iload_n 1, 1) := by decide +kernel
theorem dX8_ride_42 : decode cX8_ride 42 = .ok (.iastore, 1) := by decide +kernel
theorem dX8_ride_43 : decode cX8_ride 43 = .ok (.aload_n 0, 1) := by decide +kernel
theorem dX8_ride_44 : decode cX8_ride 44 = .ok (.getfield 29, 3) := by decide +kernel
theorem dX8_ride_47 : decode cX8_ride 47 = .ok (.aload_n 0, 1) := by decide +kernel
theorem dX8_ride_48 : decode cX8_ride 48 = .ok (.getfield 11, 3) := by decide +kernel
theorem dX8_ride_51 : decode cX8_ride 51 = .ok (.iload_n 2, 1) := by decide +kernel
theorem dX8_ride_52 : decode cX8_ride 52 = .ok (.iastore, 1) := by decide +kernel
theorem dX8_ride_53 : decode cX8_ride 53 = .ok (.aload_n 0, 1) := by decide +kernel
theorem dX8_ride_54 : decode cX8_ride 54 = .ok (.dup, 1) := by decide +kernel
theorem dX8_ride_55 : decode cX8_ride 55 = .ok (.getfield 11, 3) := by decide +kernel
theorem dX8_ride_58 : decode cX8_ride 58 = .ok (.iconst 1, 1) := by decide +kernel
theorem dX8_ride_59 : decode cX8_ride 59 = .ok (.iadd, 1) := by decide +kernel
theorem dX8_ride_60 : decode cX8_ride 60 = .ok (.putfield 11, 3) := by decide +kernel
theorem dX8_ride_63 : decode cX8_ride 63 = .ok (.aload_n 0, 1) := by decide +kernel
theorem dX8_ride_64 : decode cX8_ride 64 = .ok (.getfield 11, 3) := by decide +kernel
theorem dX8_ride_67 : decode cX8_ride 67 = .ok (.iconst 1, 1) := by decide +kernel
theorem dX8_ride_68 : decode cX8_ride 68 = .ok (.isub, 1) := by decide +kernel
theorem dX8_ride_69 : decode cX8_ride 69 = .ok (.ireturn, 1) := by decide +kernel
theorem dX8_rideTold_0 : decode cX8_rideTold 0 = .ok (.aload_n 0, 1) := by decide +kernel
theorem dX8_rideTold_1 : decode cX8_rideTold 1 = .ok (.iload_n 1, 1) := by decide +kernel
theorem dX8_rideTold_2 : decode cX8_rideTold 2 = .ok (.invokevirtual 32, 3) := by decide +kernel
theorem dX8_rideTold_5 : decode cX8_rideTold 5 = .ok (.ifCond .ne 6, 3) := by decide +kernel
theorem dX8_rideTold_8 : decode cX8_rideTold 8 = .ok (.bipush (-5), 2) := by decide +kernel
theorem dX8_rideTold_10 : decode cX8_rideTold 10 = .ok (.ireturn, 1) := by decide +kernel
theorem dX8_rideTold_11 : decode cX8_rideTold 11 = .ok (.iload_n 2, 1) := by decide +kernel
theorem dX8_rideTold_12 : decode cX8_rideTold 12 = .ok (.ifCond .ne 12, 3) := by decide +kernel
theorem dX8_rideTold_15 : decode cX8_rideTold 15 = .ok (.aload_n 0, 1) := by decide +kernel
theorem dX8_rideTold_16 : decode cX8_rideTold 16 = .ok (.getfield 26, 3) := by decide +kernel
theorem dX8_rideTold_19 : decode cX8_rideTold 19 = .ok (.iload_n 1, 1) := by decide +kernel
theorem dX8_rideTold_20 : decode cX8_rideTold 20 = .ok (.iaload, 1) := by decide +kernel
theorem dX8_rideTold_21 : decode cX8_rideTold 21 = .ok (.goto 19, 3) := by decide +kernel
theorem dX8_rideTold_24 : decode cX8_rideTold 24 = .ok (.iload_n 2, 1) := by decide +kernel
theorem dX8_rideTold_25 : decode cX8_rideTold 25 = .ok (.iconst 1, 1) := by decide +kernel
theorem dX8_rideTold_26 : decode cX8_rideTold 26 = .ok (.if_icmp .ne 12, 3) := by decide +kernel
theorem dX8_rideTold_29 : decode cX8_rideTold 29 = .ok (.aload_n 0, 1) := by decide +kernel
theorem dX8_rideTold_30 : decode cX8_rideTold 30 = .ok (.getfield 29, 3) := by decide +kernel
theorem dX8_rideTold_33 : decode cX8_rideTold 33 = .ok (.iload_n 1, 1) := by decide +kernel
theorem dX8_rideTold_34 : decode cX8_rideTold 34 = .ok (.iaload, 1) := by decide +kernel
theorem dX8_rideTold_35 : decode cX8_rideTold 35 = .ok (.goto 5, 3) := by decide +kernel
theorem dX8_rideTold_38 : decode cX8_rideTold 38 = .ok (.bipush (-7), 2) := by decide +kernel
theorem dX8_rideTold_40 : decode cX8_rideTold 40 = .ok (.ireturn, 1) := by decide +kernel
theorem dX8_horseIs_0 : decode cX8_horseIs 0 = .ok (.aload_n 0, 1) := by decide +kernel
theorem dX8_horseIs_1 : decode cX8_horseIs 1 = .ok (.getfield 35, 3) := by decide +kernel
theorem dX8_horseIs_4 : decode cX8_horseIs 4 = .ok (.iload_n 1, 1) := by decide +kernel
theorem dX8_horseIs_5 : decode cX8_horseIs 5 = .ok (.iload_n 2, 1) := by decide +kernel
theorem dX8_horseIs_6 : decode cX8_horseIs 6 = .ok (.iastore, 1) := by decide +kernel
theorem dX8_horseIs_7 : decode cX8_horseIs 7 = .ok (.aload_n 0, 1) := by decide +kernel
theorem dX8_horseIs_8 : decode cX8_horseIs 8 = .ok (.getfield 38, 3) := by decide +kernel
theorem dX8_horseIs_11 : decode cX8_horseIs 11 = .ok (.iload_n 1, 1) := by decide +kernel
theorem dX8_horseIs_12 : decode cX8_horseIs 12 = .ok (.iload_n 3, 1) := by decide +kernel
theorem dX8_horseIs_13 : decode cX8_horseIs 13 = .ok (.iastore, 1) := by decide +kernel
theorem dX8_horseIs_14 : decode cX8_horseIs 14 = .ok (.aload_n 0, 1) := by decide +kernel
theorem dX8_horseIs_15 : decode cX8_horseIs 15 = .ok (.getfield 41, 3) := by decide +kernel
theorem dX8_horseIs_18 : decode cX8_horseIs 18 = .ok (.iload_n 1, 1) := by decide +kernel
theorem dX8_horseIs_19 : decode cX8_horseIs 19 = .ok (.iload 4, 2) := by decide +kernel
theorem dX8_horseIs_21 : decode cX8_horseIs 21 = .ok (.iastore, 1) := by decide +kernel
theorem dX8_horseIs_22 : decode cX8_horseIs 22 = .ok (.aload_n 0, 1) := by decide +kernel
theorem dX8_horseIs_23 : decode cX8_horseIs 23 = .ok (.getfield 44, 3) := by decide +kernel
theorem dX8_horseIs_26 : decode cX8_horseIs 26 = .ok (.iload_n 1, 1) := by decide +kernel
theorem dX8_horseIs_27 : decode cX8_horseIs 27 = .ok (.iload 5, 2) := by decide +kernel
theorem dX8_horseIs_29 : decode cX8_horseIs 29 = .ok (.iastore, 1) := by decide +kernel
theorem dX8_horseIs_30 : decode cX8_horseIs 30 = .ok (.aload_n 0, 1) := by decide +kernel
theorem dX8_horseIs_31 : decode cX8_horseIs 31 = .ok (.getfield 47, 3) := by decide +kernel
theorem dX8_horseIs_34 : decode cX8_horseIs 34 = .ok (.iload_n 1, 1) := by decide +kernel
theorem dX8_horseIs_35 : decode cX8_horseIs 35 = .ok (.iload 6, 2) := by decide +kernel
theorem dX8_horseIs_37 : decode cX8_horseIs 37 = .ok (.iastore, 1) := by decide +kernel
theorem dX8_horseIs_38 : decode cX8_horseIs 38 = .ok (.aload_n 0, 1) := by decide +kernel
theorem dX8_horseIs_39 : decode cX8_horseIs 39 = .ok (.getfield 50, 3) := by decide +kernel
theorem dX8_horseIs_42 : decode cX8_horseIs 42 = .ok (.iload_n 1, 1) := by decide +kernel
theorem dX8_horseIs_43 : decode cX8_horseIs 43 = .ok (.iconst 0, 1) := by decide +kernel
theorem dX8_horseIs_44 : decode cX8_horseIs 44 = .ok (.iastore, 1) := by decide +kernel
theorem dX8_horseIs_45 : decode cX8_horseIs 45 = .ok (.return_, 1) := by decide +kernel
theorem dX8_horse_0 : decode cX8_horse 0 = .ok (.iload_n 2, 1) := by decide +kernel
theorem dX8_horse_1 : decode cX8_horse 1 = .ok (.bipush 10, 2) := by decide +kernel
theorem dX8_horse_3 : decode cX8_horse 3 = .ok (.idiv, 1) := by decide +kernel
theorem dX8_horse_4 : decode cX8_horse 4 = .ok (.istore 5, 2) := by decide +kernel
theorem dX8_horse_6 : decode cX8_horse 6 = .ok (.iload_n 2, 1) := by decide +kernel
theorem dX8_horse_7 : decode cX8_horse 7 = .ok (.bipush 10, 2) := by decide +kernel
theorem dX8_horse_9 : decode cX8_horse 9 = .ok (.irem, 1) := by decide +kernel
theorem dX8_horse_10 : decode cX8_horse 10 = .ok (.istore 6, 2) := by decide +kernel
theorem dX8_horse_12 : decode cX8_horse 12 = .ok (.iload_n 1, 1) := by decide +kernel
theorem dX8_horse_13 : decode cX8_horse 13 = .ok (.iconst 0, 1) := by decide +kernel
theorem dX8_horse_14 : decode cX8_horse 14 = .ok (.iconst 5, 1) := by decide +kernel
theorem dX8_horse_15 : decode cX8_horse 15 = .ok (.invokestatic 3, 3) := by decide +kernel
theorem dX8_horse_18 : decode cX8_horse 18 = .ok (.ifCond .eq 52, 3) := by decide +kernel
theorem dX8_horse_21 : decode cX8_horse 21 = .ok (.iload_n 2, 1) := by decide +kernel
theorem dX8_horse_22 : decode cX8_horse 22 = .ok (.ifCond .lt 48, 3) := by decide +kernel
theorem dX8_horse_25 : decode cX8_horse 25 = .ok (.iload 5, 2) := by decide +kernel
theorem dX8_horse_27 : decode cX8_horse 27 = .ok (.invokestatic 18, 3) := by decide +kernel
theorem dX8_horse_30 : decode cX8_horse 30 = .ok (.ifCond .eq 40, 3) := by decide +kernel
theorem dX8_horse_33 : decode cX8_horse 33 = .ok (.iload 6, 2) := by decide +kernel
theorem dX8_horse_35 : decode cX8_horse 35 = .ok (.invokestatic 18, 3) := by decide +kernel
theorem dX8_horse_38 : decode cX8_horse 38 = .ok (.ifCond .eq 32, 3) := by decide +kernel
theorem dX8_horse_41 : decode cX8_horse 41 = .ok (.iload 5, 2) := by decide +kernel
theorem dX8_horse_43 : decode cX8_horse 43 = .ok (.iload 6, 2) := by decide +kernel
theorem dX8_horse_45 : decode cX8_horse 45 = .ok (.if_icmp .eq 25, 3) := by decide +kernel
theorem dX8_horse_48 : decode cX8_horse 48 = .ok (.iload_n 3, 1) := by decide +kernel
theorem dX8_horse_49 : decode cX8_horse 49 = .ok (.iconst 1, 1) := by decide +kernel
theorem dX8_horse_50 : decode cX8_horse 50 = .ok (.sipush 999, 3) := by decide +kernel
theorem dX8_horse_53 : decode cX8_horse 53 = .ok (.invokestatic 3, 3) := by decide +kernel
theorem dX8_horse_56 : decode cX8_horse 56 = .ok (.ifCond .eq 14, 3) := by decide +kernel
theorem dX8_horse_59 : decode cX8_horse 59 = .ok (.iload 4, 2) := by decide +kernel
theorem dX8_horse_61 : decode cX8_horse 61 = .ok (.iconst 0, 1) := by decide +kernel
theorem dX8_horse_62 : decode cX8_horse 62 = .ok (.bipush 9, 2) := by decide +kernel
theorem dX8_horse_64 : decode cX8_horse 64 = .ok (.invokestatic 3, 3) := by decide +kernel
theorem dX8_horse_67 : decode cX8_horse 67 = .ok (.ifCond .ne 6, 3) := by decide +kernel
theorem dX8_horse_70 : decode cX8_horse 70 = .ok (.bipush (-2), 2) := by decide +kernel
theorem dX8_horse_72 : decode cX8_horse 72 = .ok (.ireturn, 1) := by decide +kernel
theorem dX8_horse_73 : decode cX8_horse 73 = .ok (.aload_n 0, 1) := by decide +kernel
theorem dX8_horse_74 : decode cX8_horse 74 = .ok (.getfield 7, 3) := by decide +kernel
theorem dX8_horse_77 : decode cX8_horse 77 = .ok (.bipush 7, 2) := by decide +kernel
theorem dX8_horse_79 : decode cX8_horse 79 = .ok (.if_icmp .ne 6, 3) := by decide +kernel
theorem dX8_horse_82 : decode cX8_horse 82 = .ok (.bipush (-4), 2) := by decide +kernel
theorem dX8_horse_84 : decode cX8_horse 84 = .ok (.ireturn, 1) := by decide +kernel
theorem dX8_horse_85 : decode cX8_horse 85 = .ok (.aload_n 0, 1) := by decide +kernel
theorem dX8_horse_86 : decode cX8_horse 86 = .ok (.aload_n 0, 1) := by decide +kernel
theorem dX8_horse_87 : decode cX8_horse 87 = .ok (.getfield 7, 3) := by decide +kernel
theorem dX8_horse_90 : decode cX8_horse 90 = .ok (.iload_n 1, 1) := by decide +kernel
theorem dX8_horse_91 : decode cX8_horse 91 = .ok (.iload 5, 2) := by decide +kernel
theorem dX8_horse_93 : decode cX8_horse 93 = .ok (.iload 6, 2) := by decide +kernel
theorem dX8_horse_95 : decode cX8_horse 95 = .ok (.iload_n 3, 1) := by decide +kernel
theorem dX8_horse_96 : decode cX8_horse 96 = .ok (.iload 4, 2) := by decide +kernel
theorem dX8_horse_98 : decode cX8_horse 98 = .ok (.invokevirtual 53, 3) := by decide +kernel
theorem dX8_horse_101 : decode cX8_horse 101 = .ok (.aload_n 0, 1) := by decide +kernel
theorem dX8_horse_102 : decode cX8_horse 102 = .ok (.dup, 1) := by decide +kernel
theorem dX8_horse_103 : decode cX8_horse 103 = .ok (.getfield 7, 3) := by decide +kernel
theorem dX8_horse_106 : decode cX8_horse 106 = .ok (.iconst 1, 1) := by decide +kernel
theorem dX8_horse_107 : decode cX8_horse 107 = .ok (.iadd, 1) := by decide +kernel
theorem dX8_horse_108 : decode cX8_horse 108 = .ok (.putfield 7, 3) := by decide +kernel
theorem dX8_horse_111 : decode cX8_horse 111 = .ok (.aload_n 0, 1) := by decide +kernel
theorem dX8_horse_112 : decode cX8_horse 112 = .ok (.getfield 7, 3) := by decide +kernel
theorem dX8_horse_115 : decode cX8_horse 115 = .ok (.iconst 1, 1) := by decide +kernel
theorem dX8_horse_116 : decode cX8_horse 116 = .ok (.isub, 1) := by decide +kernel
theorem dX8_horse_117 : decode cX8_horse 117 = .ok (.ireturn, 1) := by decide +kernel
theorem dX8_stand_0 : decode cX8_stand 0 = .ok (.aload_n 0, 1) := by decide +kernel
theorem dX8_stand_1 : decode cX8_stand 1 = .ok (.iload_n 1, 1) := by decide +kernel
theorem dX8_stand_2 : decode cX8_stand 2 = .ok (.invokevirtual 57, 3) := by decide +kernel
theorem dX8_stand_5 : decode cX8_stand 5 = .ok (.ifCond .ne 6, 3) := by decide +kernel
theorem dX8_stand_8 : decode cX8_stand 8 = .ok (.bipush (-5), 2) := by decide +kernel
theorem dX8_stand_10 : decode cX8_stand 10 = .ok (.ireturn, 1) := by decide +kernel
theorem dX8_stand_11 : decode cX8_stand 11 = .ok (.iload_n 2, 1) := by decide +kernel
theorem dX8_stand_12 : decode cX8_stand 12 = .ok (.iconst 0, 1) := by decide +kernel
theorem dX8_stand_13 : decode cX8_stand 13 = .ok (.sipush 999, 3) := by decide +kernel
theorem dX8_stand_16 : decode cX8_stand 16 = .ok (.invokestatic 3, 3) := by decide +kernel
theorem dX8_stand_19 : decode cX8_stand 19 = .ok (.ifCond .ne 6, 3) := by decide +kernel
theorem dX8_stand_22 : decode cX8_stand 22 = .ok (.bipush (-7), 2) := by decide +kernel
theorem dX8_stand_24 : decode cX8_stand 24 = .ok (.ireturn, 1) := by decide +kernel
theorem dX8_stand_25 : decode cX8_stand 25 = .ok (.aload_n 0, 1) := by decide +kernel
theorem dX8_stand_26 : decode cX8_stand 26 = .ok (.getfield 50, 3) := by decide +kernel
theorem dX8_stand_29 : decode cX8_stand 29 = .ok (.iload_n 1, 1) := by decide +kernel
theorem dX8_stand_30 : decode cX8_stand 30 = .ok (.iaload, 1) := by decide +kernel
theorem dX8_stand_31 : decode cX8_stand 31 = .ok (.istore_n 3, 1) := by decide +kernel
theorem dX8_stand_32 : decode cX8_stand 32 = .ok (.aload_n 0, 1) := by decide +kernel
theorem dX8_stand_33 : decode cX8_stand 33 = .ok (.getfield 50, 3) := by decide +kernel
theorem dX8_stand_36 : decode cX8_stand 36 = .ok (.iload_n 1, 1) := by decide +kernel
theorem dX8_stand_37 : decode cX8_stand 37 = .ok (.iload_n 2, 1) := by decide +kernel
theorem dX8_stand_38 : decode cX8_stand 38 = .ok (.iastore, 1) := by decide +kernel
theorem dX8_stand_39 : decode cX8_stand 39 = .ok (.iload_n 3, 1) := by decide +kernel
theorem dX8_stand_40 : decode cX8_stand 40 = .ok (.ireturn, 1) := by decide +kernel
theorem dX8_whither_0 : decode cX8_whither 0 = .ok (.aload_n 0, 1) := by decide +kernel
theorem dX8_whither_1 : decode cX8_whither 1 = .ok (.getfield 35, 3) := by decide +kernel
theorem dX8_whither_4 : decode cX8_whither 4 = .ok (.iload_n 1, 1) := by decide +kernel
theorem dX8_whither_5 : decode cX8_whither 5 = .ok (.iaload, 1) := by decide +kernel
theorem dX8_whither_6 : decode cX8_whither 6 = .ok (.iconst 1, 1) := by decide +kernel
theorem dX8_whither_7 : decode cX8_whither 7 = .ok (.if_icmp .eq 13, 3) := by decide +kernel
theorem dX8_whither_10 : decode cX8_whither 10 = .ok (.aload_n 0, 1) := by decide +kernel
theorem dX8_whither_11 : decode cX8_whither 11 = .ok (.getfield 35, 3) := by decide +kernel
theorem dX8_whither_14 : decode cX8_whither 14 = .ok (.iload_n 1, 1) := by decide +kernel
theorem dX8_whither_15 : decode cX8_whither 15 = .ok (.iaload, 1) := by decide +kernel
theorem dX8_whither_16 : decode cX8_whither 16 = .ok (.iconst 3, 1) := by decide +kernel
theorem dX8_whither_17 : decode cX8_whither 17 = .ok (.if_icmp .ne 7, 3) := by decide +kernel
theorem dX8_whither_20 : decode cX8_whither 20 = .ok (.iconst 1, 1) := by decide +kernel
theorem dX8_whither_21 : decode cX8_whither 21 = .ok (.goto 4, 3) := by decide +kernel
theorem dX8_whither_24 : decode cX8_whither 24 = .ok (.iconst 0, 1) := by decide +kernel
theorem dX8_whither_25 : decode cX8_whither 25 = .ok (.istore_n 3, 1) := by decide +kernel
theorem dX8_whither_26 : decode cX8_whither 26 = .ok (.iload_n 2, 1) := by decide +kernel
theorem dX8_whither_27 : decode cX8_whither 27 = .ok (.aload_n 0, 1) := by decide +kernel
theorem dX8_whither_28 : decode cX8_whither 28 = .ok (.getfield 38, 3) := by decide +kernel
theorem dX8_whither_31 : decode cX8_whither 31 = .ok (.iload_n 1, 1) := by decide +kernel
theorem dX8_whither_32 : decode cX8_whither 32 = .ok (.iaload, 1) := by decide +kernel
theorem dX8_whither_33 : decode cX8_whither 33 = .ok (.if_icmp .ne 12, 3) := by decide +kernel
theorem dX8_whither_36 : decode cX8_whither 36 = .ok (.aload_n 0, 1) := by decide +kernel
theorem dX8_whither_37 : decode cX8_whither 37 = .ok (.getfield 41, 3) := by decide +kernel
theorem dX8_whither_40 : decode cX8_whither 40 = .ok (.iload_n 1, 1) := by decide +kernel
theorem dX8_whither_41 : decode cX8_whither 41 = .ok (.iaload, 1) := by decide +kernel
theorem dX8_whither_42 : decode cX8_whither 42 = .ok (.goto 27, 3) := by decide +kernel
theorem dX8_whither_45 : decode cX8_whither 45 = .ok (.iload_n 3, 1) := by decide +kernel
theorem dX8_whither_46 : decode cX8_whither 46 = .ok (.ifCond .eq 22, 3) := by decide +kernel
theorem dX8_whither_49 : decode cX8_whither 49 = .ok (.iload_n 2, 1) := by decide +kernel
theorem dX8_whither_50 : decode cX8_whither 50 = .ok (.aload_n 0, 1) := by decide +kernel
theorem dX8_whither_51 : decode cX8_whither 51 = .ok (.getfield 41, 3) := by decide +kernel
theorem dX8_whither_54 : decode cX8_whither 54 = .ok (.iload_n 1, 1) := by decide +kernel
theorem dX8_whither_55 : decode cX8_whither 55 = .ok (.iaload, 1) := by decide +kernel
theorem dX8_whither_56 : decode cX8_whither 56 = .ok (.if_icmp .ne 12, 3) := by decide +kernel
theorem dX8_whither_59 : decode cX8_whither 59 = .ok (.aload_n 0, 1) := by decide +kernel
theorem dX8_whither_60 : decode cX8_whither 60 = .ok (.getfield 38, 3) := by decide +kernel
theorem dX8_whither_63 : decode cX8_whither 63 = .ok (.iload_n 1, 1) := by decide +kernel
theorem dX8_whither_64 : decode cX8_whither 64 = .ok (.iaload, 1) := by decide +kernel
theorem dX8_whither_65 : decode cX8_whither 65 = .ok (.goto 4, 3) := by decide +kernel
theorem dX8_whither_68 : decode cX8_whither 68 = .ok (.iconst (-1), 1) := by decide +kernel
theorem dX8_whither_69 : decode cX8_whither 69 = .ok (.istore 4, 2) := by decide +kernel
theorem dX8_whither_71 : decode cX8_whither 71 = .ok (.iload 4, 2) := by decide +kernel
theorem dX8_whither_73 : decode cX8_whither 73 = .ok (.iconst (-1), 1) := by decide +kernel
theorem dX8_whither_74 : decode cX8_whither 74 = .ok (.if_icmp .ne 5, 3) := by decide +kernel
theorem dX8_whither_77 : decode cX8_whither 77 = .ok (.iconst (-1), 1) := by decide +kernel
theorem dX8_whither_78 : decode cX8_whither 78 = .ok (.ireturn, 1) := by decide +kernel
theorem dX8_whither_79 : decode cX8_whither 79 = .ok (.aload_n 0, 1) := by decide +kernel
theorem dX8_whither_80 : decode cX8_whither 80 = .ok (.getfield 35, 3) := by decide +kernel
theorem dX8_whither_83 : decode cX8_whither 83 = .ok (.iload_n 1, 1) := by decide +kernel
theorem dX8_whither_84 : decode cX8_whither 84 = .ok (.iaload, 1) := by decide +kernel
theorem dX8_whither_85 : decode cX8_whither 85 = .ok (.iconst 3, 1) := by decide +kernel
theorem dX8_whither_86 : decode cX8_whither 86 = .ok (.if_icmp .ne 13, 3) := by decide +kernel
theorem dX8_whither_89 : decode cX8_whither 89 = .ok (.iload 4, 2) := by decide +kernel
theorem dX8_whither_91 : decode cX8_whither 91 = .ok (.iconst 1, 1) := by decide +kernel
theorem dX8_whither_92 : decode cX8_whither 92 = .ok (.iadd, 1) := by decide +kernel
theorem dX8_whither_93 : decode cX8_whither 93 = .ok (.bipush 7, 2) := by decide +kernel
theorem dX8_whither_95 : decode cX8_whither 95 = .ok (.irem, 1) := by decide +kernel
theorem dX8_whither_96 : decode cX8_whither 96 = .ok (.goto 27, 3) := by decide +kernel
theorem dX8_whither_99 : decode cX8_whither 99 = .ok (.aload_n 0, 1) := by decide +kernel
theorem dX8_whither_100 : decode cX8_whither 100 = .ok (.getfield 35, 3) := by decide +kernel
theorem dX8_whither_103 : decode cX8_whither 103 = .ok (.iload_n 1, 1) := by decide +kernel
theorem dX8_whither_104 : decode cX8_whither 104 = .ok (.iaload, 1) := by decide +kernel
theorem dX8_whither_105 : decode cX8_whither 105 = .ok (.iconst 5, 1) := by decide +kernel
theorem dX8_whither_106 : decode cX8_whither 106 = .ok (.if_icmp .ne 15, 3) := by decide +kernel
theorem dX8_whither_109 : decode cX8_whither 109 = .ok (.aload_n 0, 1) := by decide +kernel
theorem dX8_whither_110 : decode cX8_whither 110 = .ok (.getfield 47, 3) := by decide +kernel
theorem dX8_whither_113 : decode cX8_whither 113 = .ok (.iload_n 1, 1) := by decide +kernel
theorem dX8_whither_114 : decode cX8_whither 114 = .ok (.iaload, 1) := by decide +kernel
theorem dX8_whither_115 : decode cX8_whither 115 = .ok (.bipush 7, 2) := by decide +kernel
theorem dX8_whither_117 : decode cX8_whither 117 = .ok (.irem, 1) := by decide +kernel
theorem dX8_whither_118 : decode cX8_whither 118 = .ok (.goto 5, 3) := by decide +kernel
theorem dX8_whither_121 : decode cX8_whither 121 = .ok (.iload 4, 2) := by decide +kernel
theorem dX8_whither_123 : decode cX8_whither 123 = .ok (.ireturn, 1) := by decide +kernel
theorem dX8_outOf_0 : decode cX8_outOf 0 = .ok (.aload_n 0, 1) := by decide +kernel
theorem dX8_outOf_1 : decode cX8_outOf 1 = .ok (.iconst 0, 1) := by decide +kernel
theorem dX8_outOf_2 : decode cX8_outOf 2 = .ok (.iload_n 1, 1) := by decide +kernel
theorem dX8_outOf_3 : decode cX8_outOf 3 = .ok (.invokevirtual 60, 3) := by decide +kernel
theorem dX8_outOf_6 : decode cX8_outOf 6 = .ok (.istore_n 2, 1) := by decide +kernel
theorem dX8_outOf_7 : decode cX8_outOf 7 = .ok (.aload_n 0, 1) := by decide +kernel
theorem dX8_outOf_8 : decode cX8_outOf 8 = .ok (.getfield 35, 3) := by decide +kernel
theorem dX8_outOf_11 : decode cX8_outOf 11 = .ok (.iload_n 1, 1) := by decide +kernel
theorem dX8_outOf_12 : decode cX8_outOf 12 = .ok (.iaload, 1) := by decide +kernel
theorem dX8_outOf_13 : decode cX8_outOf 13 = .ok (.iconst 2, 1) := by decide +kernel
theorem dX8_outOf_14 : decode cX8_outOf 14 = .ok (.if_icmp .eq 13, 3) := by decide +kernel
theorem dX8_outOf_17 : decode cX8_outOf 17 = .ok (.aload_n 0, 1) := by decide +kernel
theorem dX8_outOf_18 : decode cX8_outOf 18 = .ok (.getfield 35, 3) := by decide +kernel
theorem dX8_outOf_21 : decode cX8_outOf 21 = .ok (.iload_n 1, 1) := by decide +kernel
theorem dX8_outOf_22 : decode cX8_outOf 22 = .ok (.iaload, 1) := by decide +kernel
theorem dX8_outOf_23 : decode cX8_outOf 23 = .ok (.iconst 4, 1) := by decide +kernel
theorem dX8_outOf_24 : decode cX8_outOf 24 = .ok (.if_icmp .ne 14, 3) := by decide +kernel
theorem dX8_outOf_27 : decode cX8_outOf 27 = .ok (.iload_n 2, 1) := by decide +kernel
theorem dX8_outOf_28 : decode cX8_outOf 28 = .ok (.aload_n 0, 1) := by decide +kernel
theorem dX8_outOf_29 : decode cX8_outOf 29 = .ok (.getfield 47, 3) := by decide +kernel
theorem dX8_outOf_32 : decode cX8_outOf 32 = .ok (.iload_n 1, 1) := by decide +kernel
theorem dX8_outOf_33 : decode cX8_outOf 33 = .ok (.iaload, 1) := by decide +kernel
theorem dX8_outOf_34 : decode cX8_outOf 34 = .ok (.iadd, 1) := by decide +kernel
theorem dX8_outOf_35 : decode cX8_outOf 35 = .ok (.goto 20, 3) := by decide +kernel
theorem dX8_outOf_38 : decode cX8_outOf 38 = .ok (.aload_n 0, 1) := by decide +kernel
theorem dX8_outOf_39 : decode cX8_outOf 39 = .ok (.getfield 35, 3) := by decide +kernel
theorem dX8_outOf_42 : decode cX8_outOf 42 = .ok (.iload_n 1, 1) := by decide +kernel
theorem dX8_outOf_43 : decode cX8_outOf 43 = .ok (.iaload, 1) := by decide +kernel
theorem dX8_outOf_44 : decode cX8_outOf 44 = .ok (.iconst 5, 1) := by decide +kernel
theorem dX8_outOf_45 : decode cX8_outOf 45 = .ok (.if_icmp .ne 9, 3) := by decide +kernel
theorem dX8_outOf_48 : decode cX8_outOf 48 = .ok (.iload_n 2, 1) := by decide +kernel
theorem dX8_outOf_49 : decode cX8_outOf 49 = .ok (.iconst 2, 1) := by decide +kernel
theorem dX8_outOf_50 : decode cX8_outOf 50 = .ok (.idiv, 1) := by decide +kernel
theorem dX8_outOf_51 : decode cX8_outOf 51 = .ok (.goto 4, 3) := by decide +kernel
theorem dX8_outOf_54 : decode cX8_outOf 54 = .ok (.iload_n 2, 1) := by decide +kernel
theorem dX8_outOf_55 : decode cX8_outOf 55 = .ok (.istore_n 2, 1) := by decide +kernel
theorem dX8_outOf_56 : decode cX8_outOf 56 = .ok (.iconst 1, 1) := by decide +kernel
theorem dX8_outOf_57 : decode cX8_outOf 57 = .ok (.iload_n 2, 1) := by decide +kernel
theorem dX8_outOf_58 : decode cX8_outOf 58 = .ok (.invokestatic 64, 3) := by decide +kernel
theorem dX8_outOf_61 : decode cX8_outOf 61 = .ok (.ireturn, 1) := by decide +kernel
theorem dX8_homeOf_0 : decode cX8_homeOf 0 = .ok (.aload_n 0, 1) := by decide +kernel
theorem dX8_homeOf_1 : decode cX8_homeOf 1 = .ok (.iconst 1, 1) := by decide +kernel
theorem dX8_homeOf_2 : decode cX8_homeOf 2 = .ok (.iload_n 1, 1) := by decide +kernel
theorem dX8_homeOf_3 : decode cX8_homeOf 3 = .ok (.invokevirtual 60, 3) := by decide +kernel
theorem dX8_homeOf_6 : decode cX8_homeOf 6 = .ok (.istore_n 2, 1) := by decide +kernel
theorem dX8_homeOf_7 : decode cX8_homeOf 7 = .ok (.aload_n 0, 1) := by decide +kernel
theorem dX8_homeOf_8 : decode cX8_homeOf 8 = .ok (.getfield 35, 3) := by decide +kernel
theorem dX8_homeOf_11 : decode cX8_homeOf 11 = .ok (.iload_n 1, 1) := by decide +kernel
theorem dX8_homeOf_12 : decode cX8_homeOf 12 = .ok (.iaload, 1) := by decide +kernel
theorem dX8_homeOf_13 : decode cX8_homeOf 13 = .ok (.iconst 4, 1) := by decide +kernel
theorem dX8_homeOf_14 : decode cX8_homeOf 14 = .ok (.if_icmp .ne 16, 3) := by decide +kernel
theorem dX8_homeOf_17 : decode cX8_homeOf 17 = .ok (.iconst 2, 1) := by decide +kernel
theorem dX8_homeOf_18 : decode cX8_homeOf 18 = .ok (.iload_n 2, 1) := by decide +kernel
theorem dX8_homeOf_19 : decode cX8_homeOf 19 = .ok (.imul, 1) := by decide +kernel
theorem dX8_homeOf_20 : decode cX8_homeOf 20 = .ok (.aload_n 0, 1) := by decide +kernel
theorem dX8_homeOf_21 : decode cX8_homeOf 21 = .ok (.getfield 47, 3) := by decide +kernel
theorem dX8_homeOf_24 : decode cX8_homeOf 24 = .ok (.iload_n 1, 1) := by decide +kernel
theorem dX8_homeOf_25 : decode cX8_homeOf 25 = .ok (.iaload, 1) := by decide +kernel
theorem dX8_homeOf_26 : decode cX8_homeOf 26 = .ok (.iadd, 1) := by decide +kernel
theorem dX8_homeOf_27 : decode cX8_homeOf 27 = .ok (.goto 4, 3) := by decide +kernel
theorem dX8_homeOf_30 : decode cX8_homeOf 30 = .ok (.iload_n 2, 1) := by decide +kernel
theorem dX8_homeOf_31 : decode cX8_homeOf 31 = .ok (.ireturn, 1) := by decide +kernel
theorem dX8_told_0 : decode cX8_told 0 = .ok (.aload_n 0, 1) := by decide +kernel
theorem dX8_told_1 : decode cX8_told 1 = .ok (.iload_n 1, 1) := by decide +kernel
theorem dX8_told_2 : decode cX8_told 2 = .ok (.invokevirtual 57, 3) := by decide +kernel
theorem dX8_told_5 : decode cX8_told 5 = .ok (.ifCond .ne 6, 3) := by decide +kernel
theorem dX8_told_8 : decode cX8_told 8 = .ok (.bipush (-5), 2) := by decide +kernel
theorem dX8_told_10 : decode cX8_told 10 = .ok (.ireturn, 1) := by decide +kernel
theorem dX8_told_11 : decode cX8_told 11 = .ok (.iload_n 2, 1) := by decide +kernel
theorem dX8_told_12 : decode cX8_told 12 = .ok (.tableswitch 102 0 7 #[48, 55, 62, 69, 76, 83, 90, 96], 48) := by decide +kernel
theorem dX8_told_60 : decode cX8_told 60 = .ok (.aload_n 0, 1) := by decide +kernel
theorem dX8_told_61 : decode cX8_told 61 = .ok (.getfield 35, 3) := by decide +kernel
theorem dX8_told_64 : decode cX8_told 64 = .ok (.iload_n 1, 1) := by decide +kernel
theorem dX8_told_65 : decode cX8_told 65 = .ok (.iaload, 1) := by decide +kernel
theorem dX8_told_66 : decode cX8_told 66 = .ok (.ireturn, 1) := by decide +kernel
theorem dX8_told_67 : decode cX8_told 67 = .ok (.aload_n 0, 1) := by decide +kernel
theorem dX8_told_68 : decode cX8_told 68 = .ok (.getfield 38, 3) := by decide +kernel
theorem dX8_told_71 : decode cX8_told 71 = .ok (.iload_n 1, 1) := by decide +kernel
theorem dX8_told_72 : decode cX8_told 72 = .ok (.iaload, 1) := by decide +kernel
theorem dX8_told_73 : decode cX8_told 73 = .ok (.ireturn, 1) := by decide +kernel
theorem dX8_told_74 : decode cX8_told 74 = .ok (.aload_n 0, 1) := by decide +kernel
theorem dX8_told_75 : decode cX8_told 75 = .ok (.getfield 41, 3) := by decide +kernel
theorem dX8_told_78 : decode cX8_told 78 = .ok (.iload_n 1, 1) := by decide +kernel
theorem dX8_told_79 : decode cX8_told 79 = .ok (.iaload, 1) := by decide +kernel
theorem dX8_told_80 : decode cX8_told 80 = .ok (.ireturn, 1) := by decide +kernel
theorem dX8_told_81 : decode cX8_told 81 = .ok (.aload_n 0, 1) := by decide +kernel
theorem dX8_told_82 : decode cX8_told 82 = .ok (.getfield 44, 3) := by decide +kernel
theorem dX8_told_85 : decode cX8_told 85 = .ok (.iload_n 1, 1) := by decide +kernel
theorem dX8_told_86 : decode cX8_told 86 = .ok (.iaload, 1) := by decide +kernel
theorem dX8_told_87 : decode cX8_told 87 = .ok (.ireturn, 1) := by decide +kernel
theorem dX8_told_88 : decode cX8_told 88 = .ok (.aload_n 0, 1) := by decide +kernel
theorem dX8_told_89 : decode cX8_told 89 = .ok (.getfield 47, 3) := by decide +kernel
theorem dX8_told_92 : decode cX8_told 92 = .ok (.iload_n 1, 1) := by decide +kernel
theorem dX8_told_93 : decode cX8_told 93 = .ok (.iaload, 1) := by decide +kernel
theorem dX8_told_94 : decode cX8_told 94 = .ok (.ireturn, 1) := by decide +kernel
theorem dX8_told_95 : decode cX8_told 95 = .ok (.aload_n 0, 1) := by decide +kernel
theorem dX8_told_96 : decode cX8_told 96 = .ok (.getfield 50, 3) := by decide +kernel
theorem dX8_told_99 : decode cX8_told 99 = .ok (.iload_n 1, 1) := by decide +kernel
theorem dX8_told_100 : decode cX8_told 100 = .ok (.iaload, 1) := by decide +kernel
theorem dX8_told_101 : decode cX8_told 101 = .ok (.ireturn, 1) := by decide +kernel
theorem dX8_told_102 : decode cX8_told 102 = .ok (.aload_n 0, 1) := by decide +kernel
theorem dX8_told_103 : decode cX8_told 103 = .ok (.iload_n 1, 1) := by decide +kernel
theorem dX8_told_104 : decode cX8_told 104 = .ok (.invokevirtual 69, 3) := by decide +kernel
theorem dX8_told_107 : decode cX8_told 107 = .ok (.ireturn, 1) := by decide +kernel
theorem dX8_told_108 : decode cX8_told 108 = .ok (.aload_n 0, 1) := by decide +kernel
theorem dX8_told_109 : decode cX8_told 109 = .ok (.iload_n 1, 1) := by decide +kernel
theorem dX8_told_110 : decode cX8_told 110 = .ok (.invokevirtual 73, 3) := by decide +kernel
theorem dX8_told_113 : decode cX8_told 113 = .ok (.ireturn, 1) := by decide +kernel
theorem dX8_told_114 : decode cX8_told 114 = .ok (.bipush (-7), 2) := by decide +kernel
theorem dX8_told_116 : decode cX8_told 116 = .ok (.ireturn, 1) := by decide +kernel
theorem dX8_goes_0 : decode cX8_goes 0 = .ok (.aload_n 0, 1) := by decide +kernel
theorem dX8_goes_1 : decode cX8_goes 1 = .ok (.iload_n 1, 1) := by decide +kernel
theorem dX8_goes_2 : decode cX8_goes 2 = .ok (.invokevirtual 57, 3) := by decide +kernel
theorem dX8_goes_5 : decode cX8_goes 5 = .ok (.ifCond .eq 19, 3) := by decide +kernel
theorem dX8_goes_8 : decode cX8_goes 8 = .ok (.iload_n 2, 1) := by decide +kernel
theorem dX8_goes_9 : decode cX8_goes 9 = .ok (.invokestatic 18, 3) := by decide +kernel
theorem dX8_goes_12 : decode cX8_goes 12 = .ok (.ifCond .eq 12, 3) := by decide +kernel
theorem dX8_goes_15 : decode cX8_goes 15 = .ok (.aload_n 0, 1) := by decide +kernel
theorem dX8_goes_16 : decode cX8_goes 16 = .ok (.iload_n 1, 1) := by decide +kernel
theorem dX8_goes_17 : decode cX8_goes 17 = .ok (.iload_n 2, 1) := by decide +kernel
theorem dX8_goes_18 : decode cX8_goes 18 = .ok (.invokevirtual 76, 3) := by decide +kernel
theorem dX8_goes_21 : decode cX8_goes 21 = .ok (.goto 5, 3) := by decide +kernel
theorem dX8_goes_24 : decode cX8_goes 24 = .ok (.bipush (-5), 2) := by decide +kernel
theorem dX8_goes_26 : decode cX8_goes 26 = .ok (.ireturn, 1) := by decide +kernel
theorem dX8_at_0 : decode cX8_at 0 = .ok (.iload_n 1, 1) := by decide +kernel
theorem dX8_at_1 : decode cX8_at 1 = .ok (.invokestatic 18, 3) := by decide +kernel
theorem dX8_at_4 : decode cX8_at 4 = .ok (.ifCond .ne 6, 3) := by decide +kernel
theorem dX8_at_7 : decode cX8_at 7 = .ok (.bipush (-5), 2) := by decide +kernel
theorem dX8_at_9 : decode cX8_at 9 = .ok (.ireturn, 1) := by decide +kernel
theorem dX8_at_10 : decode cX8_at 10 = .ok (.iconst 0, 1) := by decide +kernel
theorem dX8_at_11 : decode cX8_at 11 = .ok (.istore_n 2, 1) := by decide +kernel
theorem dX8_at_12 : decode cX8_at 12 = .ok (.iconst 0, 1) := by decide +kernel
theorem dX8_at_13 : decode cX8_at 13 = .ok (.istore_n 3, 1) := by decide +kernel
theorem dX8_at_14 : decode cX8_at 14 = .ok (.iload_n 3, 1) := by decide +kernel
theorem dX8_at_15 : decode cX8_at 15 = .ok (.aload_n 0, 1) := by decide +kernel
theorem dX8_at_16 : decode cX8_at 16 = .ok (.getfield 7, 3) := by decide +kernel
theorem dX8_at_19 : decode cX8_at 19 = .ok (.if_icmp .ge 29, 3) := by decide +kernel
theorem dX8_at_22 : decode cX8_at 22 = .ok (.iload_n 2, 1) := by decide +kernel
theorem dX8_at_23 : decode cX8_at 23 = .ok (.aload_n 0, 1) := by decide +kernel
theorem dX8_at_24 : decode cX8_at 24 = .ok (.iload_n 3, 1) := by decide +kernel
theorem dX8_at_25 : decode cX8_at 25 = .ok (.iload_n 1, 1) := by decide +kernel
theorem dX8_at_26 : decode cX8_at 26 = .ok (.invokevirtual 76, 3) := by decide +kernel
theorem dX8_at_29 : decode cX8_at 29 = .ok (.iconst (-1), 1) := by decide +kernel
theorem dX8_at_30 : decode cX8_at 30 = .ok (.if_icmp .ne 7, 3) := by decide +kernel
theorem dX8_at_33 : decode cX8_at 33 = .ok (.iconst 0, 1) := by decide +kernel
theorem dX8_at_34 : decode cX8_at 34 = .ok (.goto 6, 3) := by decide +kernel
theorem dX8_at_37 : decode cX8_at 37 = .ok (.iconst 1, 1) := by decide +kernel
theorem dX8_at_38 : decode cX8_at 38 = .ok (.iload_n 3, 1) := by decide +kernel
theorem dX8_at_39 : decode cX8_at 39 = .ok (.ishl, 1) := by decide +kernel
theorem dX8_at_40 : decode cX8_at 40 = .ok (.ior, 1) := by decide +kernel
theorem dX8_at_41 : decode cX8_at 41 = .ok (.istore_n 2, 1) := by decide +kernel
theorem dX8_at_42 : decode cX8_at 42 = .ok (.iinc 3 1, 3) := by decide +kernel
theorem dX8_at_45 : decode cX8_at 45 = .ok (.goto (-31), 3) := by decide +kernel
theorem dX8_at_48 : decode cX8_at 48 = .ok (.iload_n 2, 1) := by decide +kernel
theorem dX8_at_49 : decode cX8_at 49 = .ok (.ireturn, 1) := by decide +kernel
theorem dX8_feed_0 : decode cX8_feed 0 = .ok (.iload_n 1, 1) := by decide +kernel
theorem dX8_feed_1 : decode cX8_feed 1 = .ok (.iconst 1, 1) := by decide +kernel
theorem dX8_feed_2 : decode cX8_feed 2 = .ok (.iconst 5, 1) := by decide +kernel
theorem dX8_feed_3 : decode cX8_feed 3 = .ok (.invokestatic 3, 3) := by decide +kernel
theorem dX8_feed_6 : decode cX8_feed 6 = .ok (.ifCond .eq 61, 3) := by decide +kernel
theorem dX8_feed_9 : decode cX8_feed 9 = .ok (.iload_n 2, 1) := by decide +kernel
theorem dX8_feed_10 : decode cX8_feed 10 = .ok (.iconst 0, 1) := by decide +kernel
theorem dX8_feed_11 : decode cX8_feed 11 = .ok (.sipush 255, 3) := by decide +kernel
theorem dX8_feed_14 : decode cX8_feed 14 = .ok (.invokestatic 3, 3) := by decide +kernel
theorem dX8_feed_17 : decode cX8_feed 17 = .ok (.ifCond .eq 50, 3) := by decide +kernel
theorem dX8_feed_20 : decode cX8_feed 20 = .ok (.iload_n 3, 1) := by decide +kernel
theorem dX8_feed_21 : decode cX8_feed 21 = .ok (.iconst 0, 1) := by decide +kernel
theorem dX8_feed_22 : decode cX8_feed 22 = .ok (.sipush 255, 3) := by decide +kernel
theorem dX8_feed_25 : decode cX8_feed 25 = .ok (.invokestatic 3, 3) := by decide +kernel
theorem dX8_feed_28 : decode cX8_feed 28 = .ok (.ifCond .eq 39, 3) := by decide +kernel
theorem dX8_feed_31 : decode cX8_feed 31 = .ok (.iload 4, 2) := by decide +kernel
theorem dX8_feed_33 : decode cX8_feed 33 = .ok (.iconst 0, 1) := by decide +kernel
theorem dX8_feed_34 : decode cX8_feed 34 = .ok (.sipush 255, 3) := by decide +kernel
theorem dX8_feed_37 : decode cX8_feed 37 = .ok (.invokestatic 3, 3) := by decide +kernel
theorem dX8_feed_40 : decode cX8_feed 40 = .ok (.ifCond .eq 27, 3) := by decide +kernel
theorem dX8_feed_43 : decode cX8_feed 43 = .ok (.iload 5, 2) := by decide +kernel
theorem dX8_feed_45 : decode cX8_feed 45 = .ok (.iconst 0, 1) := by decide +kernel
theorem dX8_feed_46 : decode cX8_feed 46 = .ok (.sipush 255, 3) := by decide +kernel
theorem dX8_feed_49 : decode cX8_feed 49 = .ok (.invokestatic 3, 3) := by decide +kernel
theorem dX8_feed_52 : decode cX8_feed 52 = .ok (.ifCond .eq 15, 3) := by decide +kernel
theorem dX8_feed_55 : decode cX8_feed 55 = .ok (.iload 6, 2) := by decide +kernel
theorem dX8_feed_57 : decode cX8_feed 57 = .ok (.iconst 0, 1) := by decide +kernel
theorem dX8_feed_58 : decode cX8_feed 58 = .ok (.sipush 255, 3) := by decide +kernel
theorem dX8_feed_61 : decode cX8_feed 61 = .ok (.invokestatic 3, 3) := by decide +kernel
theorem dX8_feed_64 : decode cX8_feed 64 = .ok (.ifCond .ne 6, 3) := by decide +kernel
theorem dX8_feed_67 : decode cX8_feed 67 = .ok (.bipush (-2), 2) := by decide +kernel
theorem dX8_feed_69 : decode cX8_feed 69 = .ok (.ireturn, 1) := by decide +kernel
theorem dX8_feed_70 : decode cX8_feed 70 = .ok (.aload_n 0, 1) := by decide +kernel
theorem dX8_feed_71 : decode cX8_feed 71 = .ok (.getfield 79, 3) := by decide +kernel
theorem dX8_feed_74 : decode cX8_feed 74 = .ok (.iload_n 1, 1) := by decide +kernel
theorem dX8_feed_75 : decode cX8_feed 75 = .ok (.iadd, 1) := by decide +kernel
theorem dX8_feed_76 : decode cX8_feed 76 = .ok (.sipush 160, 3) := by decide +kernel
theorem dX8_feed_79 : decode cX8_feed 79 = .ok (.if_icmp .le 6, 3) := by decide +kernel
theorem dX8_feed_82 : decode cX8_feed 82 = .ok (.bipush (-4), 2) := by decide +kernel
theorem dX8_feed_84 : decode cX8_feed 84 = .ok (.ireturn, 1) := by decide +kernel
theorem dX8_feed_85 : decode cX8_feed 85 = .ok (.iconst 0, 1) := by decide +kernel
theorem dX8_feed_86 : decode cX8_feed 86 = .ok (.istore 7, 2) := by decide +kernel
theorem dX8_feed_88 : decode cX8_feed 88 = .ok (.iload 7, 2) := by decide +kernel
theorem dX8_feed_90 : decode cX8_feed 90 = .ok (.iload_n 1, 1) := by decide +kernel
theorem dX8_feed_91 : decode cX8_feed 91 = .ok (.if_icmp .ge 71, 3) := by decide +kernel
theorem dX8_feed_94 : decode cX8_feed 94 = .ok (.aload_n 0, 1) := by decide +kernel
theorem dX8_feed_95 : decode cX8_feed 95 = .ok (.getfield 82, 3) := by decide +kernel
theorem dX8_feed_98 : decode cX8_feed 98 = .ok (.aload_n 0, 1) := by decide +kernel
theorem dX8_feed_99 : decode cX8_feed 99 = .ok (.getfield 79, 3) := by decide +kernel
theorem dX8_feed_102 : decode cX8_feed 102 = .ok (.iload 7, 2) := by decide +kernel
theorem dX8_feed_104 : decode cX8_feed 104 = .ok (.ifCond .ne 7, 3) := by decide +kernel
theorem dX8_feed_107 : decode cX8_feed 107 = .ok (.iload_n 2, 1) := by decide +kernel
theorem dX8_feed_108 : decode cX8_feed 108 = .ok (.goto 37, 3) := by decide +kernel
theorem dX8_feed_111 : decode cX8_feed 111 = .ok (.iload 7, 2) := by decide +kernel
theorem dX8_feed_113 : decode cX8_feed 113 = .ok (.iconst 1, 1) := by decide +kernel
theorem dX8_feed_114 : decode cX8_feed 114 = .ok (.if_icmp .ne 7, 3) := by decide +kernel
theorem dX8_feed_117 : decode cX8_feed 117 = .ok (.iload_n 3, 1) := by decide +kernel
theorem dX8_feed_118 : decode cX8_feed 118 = .ok (.goto 27, 3) := by decide +kernel
theorem dX8_feed_121 : decode cX8_feed 121 = .ok (.iload 7, 2) := by decide +kernel
theorem dX8_feed_123 : decode cX8_feed 123 = .ok (.iconst 2, 1) := by decide +kernel
theorem dX8_feed_124 : decode cX8_feed 124 = .ok (.if_icmp .ne 8, 3) := by decide +kernel
theorem dX8_feed_127 : decode cX8_feed 127 = .ok (.iload 4, 2) := by decide +kernel
theorem dX8_feed_129 : decode cX8_feed 129 = .ok (.goto 16, 3) := by decide +kernel
theorem dX8_feed_132 : decode cX8_feed 132 = .ok (.iload 7, 2) := by decide +kernel
theorem dX8_feed_134 : decode cX8_feed 134 = .ok (.iconst 3, 1) := by decide +kernel
theorem dX8_feed_135 : decode cX8_feed 135 = .ok (.if_icmp .ne 8, 3) := by decide +kernel
theorem dX8_feed_138 : decode cX8_feed 138 = .ok (.iload 5, 2) := by decide +kernel
theorem dX8_feed_140 : decode cX8_feed 140 = .ok (.goto 5, 3) := by decide +kernel
theorem dX8_feed_143 : decode cX8_feed 143 = .ok (.iload 6, 2) := by decide +kernel
theorem dX8_feed_145 : decode cX8_feed 145 = .ok (.iastore, 1) := by decide +kernel
theorem dX8_feed_146 : decode cX8_feed 146 = .ok (.aload_n 0, 1) := by decide +kernel
theorem dX8_feed_147 : decode cX8_feed 147 = .ok (.dup, 1) := by decide +kernel
theorem dX8_feed_148 : decode cX8_feed 148 = .ok (.getfield 79, 3) := by decide +kernel
theorem dX8_feed_151 : decode cX8_feed 151 = .ok (.iconst 1, 1) := by decide +kernel
theorem dX8_feed_152 : decode cX8_feed 152 = .ok (.iadd, 1) := by decide +kernel
theorem dX8_feed_153 : decode cX8_feed 153 = .ok (.putfield 79, 3) := by decide +kernel
theorem dX8_feed_156 : decode cX8_feed 156 = .ok (.iinc 7 1, 3) := by decide +kernel
theorem dX8_feed_159 : decode cX8_feed 159 = .ok (.goto (-71), 3) := by decide +kernel
theorem dX8_feed_162 : decode cX8_feed 162 = .ok (.aload_n 0, 1) := by decide +kernel
theorem dX8_feed_163 : decode cX8_feed 163 = .ok (.getfield 79, 3) := by decide +kernel
theorem dX8_feed_166 : decode cX8_feed 166 = .ok (.ireturn, 1) := by decide +kernel
theorem dX8_isLetter_0 : decode cX8_isLetter 0 = .ok (.iload_n 1, 1) := by decide +kernel
theorem dX8_isLetter_1 : decode cX8_isLetter 1 = .ok (.aload_n 0, 1) := by decide +kernel
theorem dX8_isLetter_2 : decode cX8_isLetter 2 = .ok (.getfield 79, 3) := by decide +kernel
theorem dX8_isLetter_5 : decode cX8_isLetter 5 = .ok (.if_icmp .ge 29, 3) := by decide +kernel
theorem dX8_isLetter_8 : decode cX8_isLetter 8 = .ok (.aload_n 0, 1) := by decide +kernel
theorem dX8_isLetter_9 : decode cX8_isLetter 9 = .ok (.getfield 82, 3) := by decide +kernel
theorem dX8_isLetter_12 : decode cX8_isLetter 12 = .ok (.iload_n 1, 1) := by decide +kernel
theorem dX8_isLetter_13 : decode cX8_isLetter 13 = .ok (.iaload, 1) := by decide +kernel
theorem dX8_isLetter_14 : decode cX8_isLetter 14 = .ok (.bipush 97, 2) := by decide +kernel
theorem dX8_isLetter_16 : decode cX8_isLetter 16 = .ok (.if_icmp .lt 18, 3) := by decide +kernel
theorem dX8_isLetter_19 : decode cX8_isLetter 19 = .ok (.aload_n 0, 1) := by decide +kernel
theorem dX8_isLetter_20 : decode cX8_isLetter 20 = .ok (.getfield 82, 3) := by decide +kernel
theorem dX8_isLetter_23 : decode cX8_isLetter 23 = .ok (.iload_n 1, 1) := by decide +kernel
theorem dX8_isLetter_24 : decode cX8_isLetter 24 = .ok (.iaload, 1) := by decide +kernel
theorem dX8_isLetter_25 : decode cX8_isLetter 25 = .ok (.bipush 122, 2) := by decide +kernel
theorem dX8_isLetter_27 : decode cX8_isLetter 27 = .ok (.if_icmp .gt 7, 3) := by decide +kernel
theorem dX8_isLetter_30 : decode cX8_isLetter 30 = .ok (.iconst 1, 1) := by decide +kernel
theorem dX8_isLetter_31 : decode cX8_isLetter 31 = .ok (.goto 4, 3) := by decide +kernel
theorem dX8_isLetter_34 : decode cX8_isLetter 34 = .ok (.iconst 0, 1) := by decide +kernel
theorem dX8_isLetter_35 : decode cX8_isLetter 35 = .ok (.ireturn, 1) := by decide +kernel
theorem dX8_isDigit_0 : decode cX8_isDigit 0 = .ok (.iload_n 1, 1) := by decide +kernel
theorem dX8_isDigit_1 : decode cX8_isDigit 1 = .ok (.aload_n 0, 1) := by decide +kernel
theorem dX8_isDigit_2 : decode cX8_isDigit 2 = .ok (.getfield 79, 3) := by decide +kernel
theorem dX8_isDigit_5 : decode cX8_isDigit 5 = .ok (.if_icmp .ge 29, 3) := by decide +kernel
theorem dX8_isDigit_8 : decode cX8_isDigit 8 = .ok (.aload_n 0, 1) := by decide +kernel
theorem dX8_isDigit_9 : decode cX8_isDigit 9 = .ok (.getfield 82, 3) := by decide +kernel
theorem dX8_isDigit_12 : decode cX8_isDigit 12 = .ok (.iload_n 1, 1) := by decide +kernel
theorem dX8_isDigit_13 : decode cX8_isDigit 13 = .ok (.iaload, 1) := by decide +kernel
theorem dX8_isDigit_14 : decode cX8_isDigit 14 = .ok (.bipush 48, 2) := by decide +kernel
theorem dX8_isDigit_16 : decode cX8_isDigit 16 = .ok (.if_icmp .lt 18, 3) := by decide +kernel
theorem dX8_isDigit_19 : decode cX8_isDigit 19 = .ok (.aload_n 0, 1) := by decide +kernel
theorem dX8_isDigit_20 : decode cX8_isDigit 20 = .ok (.getfield 82, 3) := by decide +kernel
theorem dX8_isDigit_23 : decode cX8_isDigit 23 = .ok (.iload_n 1, 1) := by decide +kernel
theorem dX8_isDigit_24 : decode cX8_isDigit 24 = .ok (.iaload, 1) := by decide +kernel
theorem dX8_isDigit_25 : decode cX8_isDigit 25 = .ok (.bipush 57, 2) := by decide +kernel
theorem dX8_isDigit_27 : decode cX8_isDigit 27 = .ok (.if_icmp .gt 7, 3) := by decide +kernel
theorem dX8_isDigit_30 : decode cX8_isDigit 30 = .ok (.iconst 1, 1) := by decide +kernel
theorem dX8_isDigit_31 : decode cX8_isDigit 31 = .ok (.goto 4, 3) := by decide +kernel
theorem dX8_isDigit_34 : decode cX8_isDigit 34 = .ok (.iconst 0, 1) := by decide +kernel
theorem dX8_isDigit_35 : decode cX8_isDigit 35 = .ok (.ireturn, 1) := by decide +kernel
theorem dX8_readWord_0 : decode cX8_readWord 0 = .ok (.aload_n 0, 1) := by decide +kernel
theorem dX8_readWord_1 : decode cX8_readWord 1 = .ok (.aload_n 0, 1) := by decide +kernel
theorem dX8_readWord_2 : decode cX8_readWord 2 = .ok (.getfield 85, 3) := by decide +kernel
theorem dX8_readWord_5 : decode cX8_readWord 5 = .ok (.invokevirtual 88, 3) := by decide +kernel
theorem dX8_readWord_8 : decode cX8_readWord 8 = .ok (.ifCond .eq 16, 3) := by decide +kernel
theorem dX8_readWord_11 : decode cX8_readWord 11 = .ok (.aload_n 0, 1) := by decide +kernel
theorem dX8_readWord_12 : decode cX8_readWord 12 = .ok (.dup, 1) := by decide +kernel
theorem dX8_readWord_13 : decode cX8_readWord 13 = .ok (.getfield 85, 3) := by decide +kernel
theorem dX8_readWord_16 : decode cX8_readWord 16 = .ok (.iconst 1, 1) := by decide +kernel
theorem dX8_readWord_17 : decode cX8_readWord 17 = .ok (.iadd, 1) := by decide +kernel
theorem dX8_readWord_18 : decode cX8_readWord 18 = .ok (.putfield 85, 3) := by decide +kernel
theorem dX8_readWord_21 : decode cX8_readWord 21 = .ok (.goto (-21), 3) := by decide +kernel
theorem dX8_readWord_24 : decode cX8_readWord 24 = .ok (.aload_n 0, 1) := by decide +kernel
theorem dX8_readWord_25 : decode cX8_readWord 25 = .ok (.bipush 6, 2) := by decide +kernel
theorem dX8_readWord_27 : decode cX8_readWord 27 = .ok (.putfield 91, 3) := by decide +kernel
theorem dX8_readWord_30 : decode cX8_readWord 30 = .ok (.iconst 0, 1) := by decide +kernel
theorem dX8_readWord_31 : decode cX8_readWord 31 = .ok (.istore_n 1, 1) := by decide +kernel
theorem dX8_readWord_32 : decode cX8_readWord 32 = .ok (.iload_n 1, 1) := by decide +kernel
theorem dX8_readWord_33 : decode cX8_readWord 33 = .ok (.bipush 12, 2) := by decide +kernel
theorem dX8_readWord_35 : decode cX8_readWord 35 = .ok (.if_icmp .ge 135, 3) := by decide +kernel
theorem dX8_readWord_38 : decode cX8_readWord 38 = .ok (.aload_n 0, 1) := by decide +kernel
theorem dX8_readWord_39 : decode cX8_readWord 39 = .ok (.getfield 94, 3) := by decide +kernel
theorem dX8_readWord_42 : decode cX8_readWord 42 = .ok (.iload_n 1, 1) := by decide +kernel
theorem dX8_readWord_43 : decode cX8_readWord 43 = .ok (.iconst 1, 1) := by decide +kernel
theorem dX8_readWord_44 : decode cX8_readWord 44 = .ok (.iadd, 1) := by decide +kernel
theorem dX8_readWord_45 : decode cX8_readWord 45 = .ok (.iaload, 1) := by decide +kernel
theorem dX8_readWord_46 : decode cX8_readWord 46 = .ok (.aload_n 0, 1) := by decide +kernel
theorem dX8_readWord_47 : decode cX8_readWord 47 = .ok (.getfield 94, 3) := by decide +kernel
theorem dX8_readWord_50 : decode cX8_readWord 50 = .ok (.iload_n 1, 1) := by decide +kernel
theorem dX8_readWord_51 : decode cX8_readWord 51 = .ok (.iaload, 1) := by decide +kernel
theorem dX8_readWord_52 : decode cX8_readWord 52 = .ok (.isub, 1) := by decide +kernel
theorem dX8_readWord_53 : decode cX8_readWord 53 = .ok (.istore_n 2, 1) := by decide +kernel
theorem dX8_readWord_54 : decode cX8_readWord 54 = .ok (.iload_n 2, 1) := by decide +kernel
theorem dX8_readWord_55 : decode cX8_readWord 55 = .ok (.aload_n 0, 1) := by decide +kernel
theorem dX8_readWord_56 : decode cX8_readWord 56 = .ok (.getfield 85, 3) := by decide +kernel
theorem dX8_readWord_59 : decode cX8_readWord 59 = .ok (.aload_n 0, 1) := by decide +kernel
theorem dX8_readWord_60 : decode cX8_readWord 60 = .ok (.getfield 97, 3) := by decide +kernel
theorem dX8_readWord_63 : decode cX8_readWord 63 = .ok (.isub, 1) := by decide +kernel
theorem dX8_readWord_64 : decode cX8_readWord 64 = .ok (.if_icmp .ne 7, 3) := by decide +kernel
theorem dX8_readWord_67 : decode cX8_readWord 67 = .ok (.iconst 1, 1) := by decide +kernel
theorem dX8_readWord_68 : decode cX8_readWord 68 = .ok (.goto 4, 3) := by decide +kernel
theorem dX8_readWord_71 : decode cX8_readWord 71 = .ok (.iconst 0, 1) := by decide +kernel
theorem dX8_readWord_72 : decode cX8_readWord 72 = .ok (.istore_n 3, 1) := by decide +kernel
theorem dX8_readWord_73 : decode cX8_readWord 73 = .ok (.iconst 0, 1) := by decide +kernel
theorem dX8_readWord_74 : decode cX8_readWord 74 = .ok (.istore 4, 2) := by decide +kernel
theorem dX8_readWord_76 : decode cX8_readWord 76 = .ok (.iload 4, 2) := by decide +kernel
theorem dX8_readWord_78 : decode cX8_readWord 78 = .ok (.iload_n 2, 1) := by decide +kernel
theorem dX8_readWord_79 : decode cX8_readWord 79 = .ok (.if_icmp .ge 48, 3) := by decide +kernel
theorem dX8_readWord_82 : decode cX8_readWord 82 = .ok (.iload_n 3, 1) := by decide +kernel
theorem dX8_readWord_83 : decode cX8_readWord 83 = .ok (.ifCond .eq 44, 3) := by decide +kernel
theorem dX8_readWord_86 : decode cX8_readWord 86 = .ok (.aload_n 0, 1) := by decide +kernel
theorem dX8_readWord_87 : decode cX8_readWord 87 = .ok (.getfield 82, 3) := by decide +kernel
theorem dX8_readWord_90 : decode cX8_readWord 90 = .ok (.aload_n 0, 1) := by decide +kernel
theorem dX8_readWord_91 : decode cX8_readWord 91 = .ok (.getfield 97, 3) := by decide +kernel
theorem dX8_readWord_94 : decode cX8_readWord 94 = .ok (.iload 4, 2) := by decide +kernel
theorem dX8_readWord_96 : decode cX8_readWord 96 = .ok (.iadd, 1) := by decide +kernel
theorem dX8_readWord_97 : decode cX8_readWord 97 = .ok (.iaload, 1) := by decide +kernel
theorem dX8_readWord_98 : decode cX8_readWord 98 = .ok (.aload_n 0, 1) := by decide +kernel
theorem dX8_readWord_99 : decode cX8_readWord 99 = .ok (.getfield 100, 3) := by decide +kernel
theorem dX8_readWord_102 : decode cX8_readWord 102 = .ok (.aload_n 0, 1) := by decide +kernel
theorem dX8_readWord_103 : decode cX8_readWord 103 = .ok (.getfield 94, 3) := by decide +kernel
theorem dX8_readWord_106 : decode cX8_readWord 106 = .ok (.iload_n 1, 1) := by decide +kernel
theorem dX8_readWord_107 : decode cX8_readWord 107 = .ok (.iaload, 1) := by decide +kernel
theorem dX8_readWord_108 : decode cX8_readWord 108 = .ok (.iload 4, 2) := by decide +kernel
theorem dX8_readWord_110 : decode cX8_readWord 110 = .ok (.iadd, 1) := by decide +kernel
theorem dX8_readWord_111 : decode cX8_readWord 111 = .ok (.caload, 1) := by decide +kernel
theorem dX8_readWord_112 : decode cX8_readWord 112 = .ok (.if_icmp .ne 7, 3) := by decide +kernel
theorem dX8_readWord_115 : decode cX8_readWord 115 = .ok (.iconst 1, 1) := by decide +kernel
theorem dX8_readWord_116 : decode cX8_readWord 116 = .ok (.goto 4, 3) := by decide +kernel
theorem dX8_readWord_119 : decode cX8_readWord 119 = .ok (.iconst 0, 1) := by decide +kernel
theorem dX8_readWord_120 : decode cX8_readWord 120 = .ok (.istore_n 3, 1) := by decide +kernel
theorem dX8_readWord_121 : decode cX8_readWord 121 = .ok (.iinc 4 1, 3) := by decide +kernel
theorem dX8_readWord_124 : decode cX8_readWord 124 = .ok (.goto (-48), 3) := by decide +kernel
theorem dX8_readWord_127 : decode cX8_readWord 127 = .ok (.iload_n 3, 1) := by decide +kernel
theorem dX8_readWord_128 : decode cX8_readWord 128 = .ok (.ifCond .eq 36, 3) := by decide +kernel
theorem dX8_readWord_131 : decode cX8_readWord 131 = .ok (.aload_n 0, 1) := by decide +kernel
theorem dX8_readWord_132 : decode cX8_readWord 132 = .ok (.iload_n 1, 1) := by decide +kernel
theorem dX8_readWord_133 : decode cX8_readWord 133 = .ok (.bipush 6, 2) := by decide +kernel
theorem dX8_readWord_135 : decode cX8_readWord 135 = .ok (.if_icmp .ge 7, 3) := by decide +kernel
theorem dX8_readWord_138 : decode cX8_readWord 138 = .ok (.iconst 2, 1) := by decide +kernel
theorem dX8_readWord_139 : decode cX8_readWord 139 = .ok (.goto 4, 3) := by decide +kernel
theorem dX8_readWord_142 : decode cX8_readWord 142 = .ok (.iconst 3, 1) := by decide +kernel
theorem dX8_readWord_143 : decode cX8_readWord 143 = .ok (.putfield 91, 3) := by decide +kernel
theorem dX8_readWord_146 : decode cX8_readWord 146 = .ok (.aload_n 0, 1) := by decide +kernel
theorem dX8_readWord_147 : decode cX8_readWord 147 = .ok (.iload_n 1, 1) := by decide +kernel
theorem dX8_readWord_148 : decode cX8_readWord 148 = .ok (.bipush 6, 2) := by decide +kernel
theorem dX8_readWord_150 : decode cX8_readWord 150 = .ok (.if_icmp .ge 7, 3) := by decide +kernel
theorem dX8_readWord_153 : decode cX8_readWord 153 = .ok (.iload_n 1, 1) := by decide +kernel
theorem dX8_readWord_154 : decode cX8_readWord 154 = .ok (.goto 7, 3) := by decide +kernel
theorem dX8_readWord_157 : decode cX8_readWord 157 = .ok (.iload_n 1, 1) := by decide +kernel
theorem dX8_readWord_158 : decode cX8_readWord 158 = .ok (.bipush 6, 2) := by decide +kernel
theorem dX8_readWord_160 : decode cX8_readWord 160 = .ok (.isub, 1) := by decide +kernel
theorem dX8_readWord_161 : decode cX8_readWord 161 = .ok (.putfield 104, 3) := by decide +kernel
theorem dX8_readWord_164 : decode cX8_readWord 164 = .ok (.iinc 1 1, 3) := by decide +kernel
theorem dX8_readWord_167 : decode cX8_readWord 167 = .ok (.goto (-135), 3) := by decide +kernel
theorem dX8_readWord_170 : decode cX8_readWord 170 = .ok (.return_, 1) := by decide +kernel
theorem dX8_readNumber_0 : decode cX8_readNumber 0 = .ok (.aload_n 0, 1) := by decide +kernel
theorem dX8_readNumber_1 : decode cX8_readNumber 1 = .ok (.iconst 0, 1) := by decide +kernel
theorem dX8_readNumber_2 : decode cX8_readNumber 2 = .ok (.putfield 104, 3) := by decide +kernel
theorem dX8_readNumber_5 : decode cX8_readNumber 5 = .ok (.aload_n 0, 1) := by decide +kernel
theorem dX8_readNumber_6 : decode cX8_readNumber 6 = .ok (.aload_n 0, 1) := by decide +kernel
theorem dX8_readNumber_7 : decode cX8_readNumber 7 = .ok (.getfield 85, 3) := by decide +kernel
theorem dX8_readNumber_10 : decode cX8_readNumber 10 = .ok (.invokevirtual 107, 3) := by decide +kernel
theorem dX8_readNumber_13 : decode cX8_readNumber 13 = .ok (.ifCond .eq 60, 3) := by decide +kernel
theorem dX8_readNumber_16 : decode cX8_readNumber 16 = .ok (.aload_n 0, 1) := by decide +kernel
theorem dX8_readNumber_17 : decode cX8_readNumber 17 = .ok (.aload_n 0, 1) := by decide +kernel
theorem dX8_readNumber_18 : decode cX8_readNumber 18 = .ok (.getfield 85, 3) := by decide +kernel
theorem dX8_readNumber_21 : decode cX8_readNumber 21 = .ok (.aload_n 0, 1) := by decide +kernel
theorem dX8_readNumber_22 : decode cX8_readNumber 22 = .ok (.getfield 97, 3) := by decide +kernel
theorem dX8_readNumber_25 : decode cX8_readNumber 25 = .ok (.isub, 1) := by decide +kernel
theorem dX8_readNumber_26 : decode cX8_readNumber 26 = .ok (.iconst 4, 1) := by decide +kernel
theorem dX8_readNumber_27 : decode cX8_readNumber 27 = .ok (.if_icmp .ge 26, 3) := by decide +kernel
theorem dX8_readNumber_30 : decode cX8_readNumber 30 = .ok (.bipush 10, 2) := by decide +kernel
theorem dX8_readNumber_32 : decode cX8_readNumber 32 = .ok (.aload_n 0, 1) := by decide +kernel
theorem dX8_readNumber_33 : decode cX8_readNumber 33 = .ok (.getfield 104, 3) := by decide +kernel
theorem dX8_readNumber_36 : decode cX8_readNumber 36 = .ok (.imul, 1) := by decide +kernel
theorem dX8_readNumber_37 : decode cX8_readNumber 37 = .ok (.aload_n 0, 1) := by decide +kernel
theorem dX8_readNumber_38 : decode cX8_readNumber 38 = .ok (.getfield 82, 3) := by decide +kernel
theorem dX8_readNumber_41 : decode cX8_readNumber 41 = .ok (.aload_n 0, 1) := by decide +kernel
theorem dX8_readNumber_42 : decode cX8_readNumber 42 = .ok (.getfield 85, 3) := by decide +kernel
theorem dX8_readNumber_45 : decode cX8_readNumber 45 = .ok (.iaload, 1) := by decide +kernel
theorem dX8_readNumber_46 : decode cX8_readNumber 46 = .ok (.iadd, 1) := by decide +kernel
theorem dX8_readNumber_47 : decode cX8_readNumber 47 = .ok (.bipush 48, 2) := by decide +kernel
theorem dX8_readNumber_49 : decode cX8_readNumber 49 = .ok (.isub, 1) := by decide +kernel
theorem dX8_readNumber_50 : decode cX8_readNumber 50 = .ok (.goto 7, 3) := by decide +kernel
theorem dX8_readNumber_53 : decode cX8_readNumber 53 = .ok (.aload_n 0, 1) := by decide +kernel
theorem dX8_readNumber_54 : decode cX8_readNumber 54 = .ok (.getfield 104, 3) := by decide +kernel
theorem dX8_readNumber_57 : decode cX8_readNumber 57 = .ok (.putfield 104, 3) := by decide +kernel
theorem dX8_readNumber_60 : decode cX8_readNumber 60 = .ok (.aload_n 0, 1) := by decide +kernel
theorem dX8_readNumber_61 : decode cX8_readNumber 61 = .ok (.dup, 1) := by decide +kernel
theorem dX8_readNumber_62 : decode cX8_readNumber 62 = .ok (.getfield 85, 3) := by decide +kernel
theorem dX8_readNumber_65 : decode cX8_readNumber 65 = .ok (.iconst 1, 1) := by decide +kernel
theorem dX8_readNumber_66 : decode cX8_readNumber 66 = .ok (.iadd, 1) := by decide +kernel
theorem dX8_readNumber_67 : decode cX8_readNumber 67 = .ok (.putfield 85, 3) := by decide +kernel
theorem dX8_readNumber_70 : decode cX8_readNumber 70 = .ok (.goto (-65), 3) := by decide +kernel
theorem dX8_readNumber_73 : decode cX8_readNumber 73 = .ok (.aload_n 0, 1) := by decide +kernel
theorem dX8_readNumber_74 : decode cX8_readNumber 74 = .ok (.aload_n 0, 1) := by decide +kernel
theorem dX8_readNumber_75 : decode cX8_readNumber 75 = .ok (.getfield 85, 3) := by decide +kernel
theorem dX8_readNumber_78 : decode cX8_readNumber 78 = .ok (.aload_n 0, 1) := by decide +kernel
theorem dX8_readNumber_79 : decode cX8_readNumber 79 = .ok (.getfield 97, 3) := by decide +kernel
theorem dX8_readNumber_82 : decode cX8_readNumber 82 = .ok (.isub, 1) := by decide +kernel
theorem dX8_readNumber_83 : decode cX8_readNumber 83 = .ok (.iconst 4, 1) := by decide +kernel
theorem dX8_readNumber_84 : decode cX8_readNumber 84 = .ok (.if_icmp .le 8, 3) := by decide +kernel
theorem dX8_readNumber_87 : decode cX8_readNumber 87 = .ok (.bipush 6, 2) := by decide +kernel
theorem dX8_readNumber_89 : decode cX8_readNumber 89 = .ok (.goto 4, 3) := by decide +kernel
theorem dX8_readNumber_92 : decode cX8_readNumber 92 = .ok (.iconst 1, 1) := by decide +kernel
theorem dX8_readNumber_93 : decode cX8_readNumber 93 = .ok (.putfield 91, 3) := by decide +kernel
theorem dX8_readNumber_96 : decode cX8_readNumber 96 = .ok (.return_, 1) := by decide +kernel
theorem dX8_next_0 : decode cX8_next 0 = .ok (.aload_n 0, 1) := by decide +kernel
theorem dX8_next_1 : decode cX8_next 1 = .ok (.getfield 85, 3) := by decide +kernel
theorem dX8_next_4 : decode cX8_next 4 = .ok (.aload_n 0, 1) := by decide +kernel
theorem dX8_next_5 : decode cX8_next 5 = .ok (.getfield 79, 3) := by decide +kernel
theorem dX8_next_8 : decode cX8_next 8 = .ok (.if_icmp .ge 44, 3) := by decide +kernel
theorem dX8_next_11 : decode cX8_next 11 = .ok (.aload_n 0, 1) := by decide +kernel
theorem dX8_next_12 : decode cX8_next 12 = .ok (.getfield 82, 3) := by decide +kernel
theorem dX8_next_15 : decode cX8_next 15 = .ok (.aload_n 0, 1) := by decide +kernel
theorem dX8_next_16 : decode cX8_next 16 = .ok (.getfield 85, 3) := by decide +kernel
theorem dX8_next_19 : decode cX8_next 19 = .ok (.iaload, 1) := by decide +kernel
theorem dX8_next_20 : decode cX8_next 20 = .ok (.bipush 32, 2) := by decide +kernel
theorem dX8_next_22 : decode cX8_next 22 = .ok (.if_icmp .eq 17, 3) := by decide +kernel
theorem dX8_next_25 : decode cX8_next 25 = .ok (.aload_n 0, 1) := by decide +kernel
theorem dX8_next_26 : decode cX8_next 26 = .ok (.getfield 82, 3) := by decide +kernel
theorem dX8_next_29 : decode cX8_next 29 = .ok (.aload_n 0, 1) := by decide +kernel
theorem dX8_next_30 : decode cX8_next 30 = .ok (.getfield 85, 3) := by decide +kernel
theorem dX8_next_33 : decode cX8_next 33 = .ok (.iaload, 1) := by decide +kernel
theorem dX8_next_34 : decode cX8_next 34 = .ok (.bipush 10, 2) := by decide +kernel
theorem dX8_next_36 : decode cX8_next 36 = .ok (.if_icmp .ne 16, 3) := by decide +kernel
theorem dX8_next_39 : decode cX8_next 39 = .ok (.aload_n 0, 1) := by decide +kernel
theorem dX8_next_40 : decode cX8_next 40 = .ok (.dup, 1) := by decide +kernel
theorem dX8_next_41 : decode cX8_next 41 = .ok (.getfield 85, 3) := by decide +kernel
theorem dX8_next_44 : decode cX8_next 44 = .ok (.iconst 1, 1) := by decide +kernel
theorem dX8_next_45 : decode cX8_next 45 = .ok (.iadd, 1) := by decide +kernel
theorem dX8_next_46 : decode cX8_next 46 = .ok (.putfield 85, 3) := by decide +kernel
theorem dX8_next_49 : decode cX8_next 49 = .ok (.goto (-49), 3) := by decide +kernel
theorem dX8_next_52 : decode cX8_next 52 = .ok (.aload_n 0, 1) := by decide +kernel
theorem dX8_next_53 : decode cX8_next 53 = .ok (.aload_n 0, 1) := by decide +kernel
theorem dX8_next_54 : decode cX8_next 54 = .ok (.getfield 85, 3) := by decide +kernel
theorem dX8_next_57 : decode cX8_next 57 = .ok (.putfield 97, 3) := by decide +kernel
theorem dX8_next_60 : decode cX8_next 60 = .ok (.aload_n 0, 1) := by decide +kernel
theorem dX8_next_61 : decode cX8_next 61 = .ok (.getfield 85, 3) := by decide +kernel
theorem dX8_next_64 : decode cX8_next 64 = .ok (.aload_n 0, 1) := by decide +kernel
theorem dX8_next_65 : decode cX8_next 65 = .ok (.getfield 79, 3) := by decide +kernel
theorem dX8_next_68 : decode cX8_next 68 = .ok (.if_icmp .ne 11, 3) := by decide +kernel
theorem dX8_next_71 : decode cX8_next 71 = .ok (.aload_n 0, 1) := by decide +kernel
theorem dX8_next_72 : decode cX8_next 72 = .ok (.iconst 5, 1) := by decide +kernel
theorem dX8_next_73 : decode cX8_next 73 = .ok (.putfield 91, 3) := by decide +kernel
theorem dX8_next_76 : decode cX8_next 76 = .ok (.goto 154, 3) := by decide +kernel
theorem dX8_next_79 : decode cX8_next 79 = .ok (.aload_n 0, 1) := by decide +kernel
theorem dX8_next_80 : decode cX8_next 80 = .ok (.aload_n 0, 1) := by decide +kernel
theorem dX8_next_81 : decode cX8_next 81 = .ok (.getfield 85, 3) := by decide +kernel
theorem dX8_next_84 : decode cX8_next 84 = .ok (.invokevirtual 88, 3) := by decide +kernel
theorem dX8_next_87 : decode cX8_next 87 = .ok (.ifCond .eq 10, 3) := by decide +kernel
theorem dX8_next_90 : decode cX8_next 90 = .ok (.aload_n 0, 1) := by decide +kernel
theorem dX8_next_91 : decode cX8_next 91 = .ok (.invokevirtual 110, 3) := by decide +kernel
theorem dX8_next_94 : decode cX8_next 94 = .ok (.goto 136, 3) := by decide +kernel
theorem dX8_next_97 : decode cX8_next 97 = .ok (.aload_n 0, 1) := by decide +kernel
theorem dX8_next_98 : decode cX8_next 98 = .ok (.aload_n 0, 1) := by decide +kernel
theorem dX8_next_99 : decode cX8_next 99 = .ok (.getfield 85, 3) := by decide +kernel
theorem dX8_next_102 : decode cX8_next 102 = .ok (.invokevirtual 107, 3) := by decide +kernel
theorem dX8_next_105 : decode cX8_next 105 = .ok (.ifCond .eq 10, 3) := by decide +kernel
theorem dX8_next_108 : decode cX8_next 108 = .ok (.aload_n 0, 1) := by decide +kernel
theorem dX8_next_109 : decode cX8_next 109 = .ok (.invokevirtual 114, 3) := by decide +kernel
theorem dX8_next_112 : decode cX8_next 112 = .ok (.goto 118, 3) := by decide +kernel
theorem dX8_next_115 : decode cX8_next 115 = .ok (.aload_n 0, 1) := by decide +kernel
theorem dX8_next_116 : decode cX8_next 116 = .ok (.aload_n 0, 1) := by decide +kernel
theorem dX8_next_117 : decode cX8_next 117 = .ok (.getfield 82, 3) := by decide +kernel
theorem dX8_next_120 : decode cX8_next 120 = .ok (.aload_n 0, 1) := by decide +kernel
theorem dX8_next_121 : decode cX8_next 121 = .ok (.getfield 85, 3) := by decide +kernel
theorem dX8_next_124 : decode cX8_next 124 = .ok (.iaload, 1) := by decide +kernel
theorem dX8_next_125 : decode cX8_next 125 = .ok (.putfield 104, 3) := by decide +kernel
theorem dX8_next_128 : decode cX8_next 128 = .ok (.aload_n 0, 1) := by decide +kernel
theorem dX8_next_129 : decode cX8_next 129 = .ok (.getfield 104, 3) := by decide +kernel
theorem dX8_next_132 : decode cX8_next 132 = .ok (.bipush 40, 2) := by decide +kernel
theorem dX8_next_134 : decode cX8_next 134 = .ok (.if_icmp .eq 66, 3) := by decide +kernel
theorem dX8_next_137 : decode cX8_next 137 = .ok (.aload_n 0, 1) := by decide +kernel
theorem dX8_next_138 : decode cX8_next 138 = .ok (.getfield 104, 3) := by decide +kernel
theorem dX8_next_141 : decode cX8_next 141 = .ok (.bipush 41, 2) := by decide +kernel
theorem dX8_next_143 : decode cX8_next 143 = .ok (.if_icmp .eq 57, 3) := by decide +kernel
theorem dX8_next_146 : decode cX8_next 146 = .ok (.aload_n 0, 1) := by decide +kernel
theorem dX8_next_147 : decode cX8_next 147 = .ok (.getfield 104, 3) := by decide +kernel
theorem dX8_next_150 : decode cX8_next 150 = .ok (.bipush 59, 2) := by decide +kernel
theorem dX8_next_152 : decode cX8_next 152 = .ok (.if_icmp .eq 48, 3) := by decide +kernel
theorem dX8_next_155 : decode cX8_next 155 = .ok (.aload_n 0, 1) := by decide +kernel
theorem dX8_next_156 : decode cX8_next 156 = .ok (.getfield 104, 3) := by decide +kernel
theorem dX8_next_159 : decode cX8_next 159 = .ok (.bipush 43, 2) := by decide +kernel
theorem dX8_next_161 : decode cX8_next 161 = .ok (.if_icmp .eq 39, 3) := by decide +kernel
theorem dX8_next_164 : decode cX8_next 164 = .ok (.aload_n 0, 1) := by decide +kernel
theorem dX8_next_165 : decode cX8_next 165 = .ok (.getfield 104, 3) := by decide +kernel
theorem dX8_next_168 : decode cX8_next 168 = .ok (.bipush 45, 2) := by decide +kernel
theorem dX8_next_170 : decode cX8_next 170 = .ok (.if_icmp .eq 30, 3) := by decide +kernel
theorem dX8_next_173 : decode cX8_next 173 = .ok (.aload_n 0, 1) := by decide +kernel
theorem dX8_next_174 : decode cX8_next 174 = .ok (.getfield 104, 3) := by decide +kernel
theorem dX8_next_177 : decode cX8_next 177 = .ok (.bipush 42, 2) := by decide +kernel
theorem dX8_next_179 : decode cX8_next 179 = .ok (.if_icmp .eq 21, 3) := by decide +kernel
theorem dX8_next_182 : decode cX8_next 182 = .ok (.aload_n 0, 1) := by decide +kernel
theorem dX8_next_183 : decode cX8_next 183 = .ok (.getfield 104, 3) := by decide +kernel
theorem dX8_next_186 : decode cX8_next 186 = .ok (.bipush 60, 2) := by decide +kernel
theorem dX8_next_188 : decode cX8_next 188 = .ok (.if_icmp .eq 12, 3) := by decide +kernel
theorem dX8_next_191 : decode cX8_next 191 = .ok (.aload_n 0, 1) := by decide +kernel
theorem dX8_next_192 : decode cX8_next 192 = .ok (.getfield 104, 3) := by decide +kernel
theorem dX8_next_195 : decode cX8_next 195 = .ok (.bipush 61, 2) := by decide +kernel
theorem dX8_next_197 : decode cX8_next 197 = .ok (.if_icmp .ne 7, 3) := by decide +kernel
theorem dX8_next_200 : decode cX8_next 200 = .ok (.iconst 1, 1) := by decide +kernel
theorem dX8_next_201 : decode cX8_next 201 = .ok (.goto 4, 3) := by decide +kernel
theorem dX8_next_204 : decode cX8_next 204 = .ok (.iconst 0, 1) := by decide +kernel
theorem dX8_next_205 : decode cX8_next 205 = .ok (.istore_n 1, 1) := by decide +kernel
theorem dX8_next_206 : decode cX8_next 206 = .ok (.aload_n 0, 1) := by decide +kernel
theorem dX8_next_207 : decode cX8_next 207 = .ok (.iload_n 1, 1) := by decide +kernel
theorem dX8_next_208 : decode cX8_next 208 = .ok (.ifCond .eq 7, 3) := by decide +kernel
theorem dX8_next_211 : decode cX8_next 211 = .ok (.iconst 4, 1) := by decide +kernel
theorem dX8_next_212 : decode cX8_next 212 = .ok (.goto 5, 3) := by decide +kernel
theorem dX8_next_215 : decode cX8_next 215 = .ok (.bipush 6, 2) := by decide +kernel
theorem dX8_next_217 : decode cX8_next 217 = .ok (.putfield 91, 3) := by decide +kernel
theorem dX8_next_220 : decode cX8_next 220 = .ok (.aload_n 0, 1) := by decide +kernel
theorem dX8_next_221 : decode cX8_next 221 = .ok (.dup, 1) := by decide +kernel
theorem dX8_next_222 : decode cX8_next 222 = .ok (.getfield 85, 3) := by decide +kernel
theorem dX8_next_225 : decode cX8_next 225 = .ok (.iconst 1, 1) := by decide +kernel
theorem dX8_next_226 : decode cX8_next 226 = .ok (.iadd, 1) := by decide +kernel
theorem dX8_next_227 : decode cX8_next 227 = .ok (.putfield 85, 3) := by decide +kernel
theorem dX8_next_230 : decode cX8_next 230 = .ok (.return_, 1) := by decide +kernel
theorem dX8_isSign_0 : decode cX8_isSign 0 = .ok (.aload_n 0, 1) := by decide +kernel
theorem dX8_isSign_1 : decode cX8_isSign 1 = .ok (.getfield 91, 3) := by decide +kernel
theorem dX8_isSign_4 : decode cX8_isSign 4 = .ok (.iconst 4, 1) := by decide +kernel
theorem dX8_isSign_5 : decode cX8_isSign 5 = .ok (.if_icmp .ne 15, 3) := by decide +kernel
theorem dX8_isSign_8 : decode cX8_isSign 8 = .ok (.aload_n 0, 1) := by decide +kernel
theorem dX8_isSign_9 : decode cX8_isSign 9 = .ok (.getfield 104, 3) := by decide +kernel
theorem dX8_isSign_12 : decode cX8_isSign 12 = .ok (.iload_n 1, 1) := by decide +kernel
theorem dX8_isSign_13 : decode cX8_isSign 13 = .ok (.if_icmp .ne 7, 3) := by decide +kernel
theorem dX8_isSign_16 : decode cX8_isSign 16 = .ok (.iconst 1, 1) := by decide +kernel
theorem dX8_isSign_17 : decode cX8_isSign 17 = .ok (.goto 4, 3) := by decide +kernel
theorem dX8_isSign_20 : decode cX8_isSign 20 = .ok (.iconst 0, 1) := by decide +kernel
theorem dX8_isSign_21 : decode cX8_isSign 21 = .ok (.ireturn, 1) := by decide +kernel
theorem dX8_isKey_0 : decode cX8_isKey 0 = .ok (.aload_n 0, 1) := by decide +kernel
theorem dX8_isKey_1 : decode cX8_isKey 1 = .ok (.getfield 91, 3) := by decide +kernel
theorem dX8_isKey_4 : decode cX8_isKey 4 = .ok (.iconst 3, 1) := by decide +kernel
theorem dX8_isKey_5 : decode cX8_isKey 5 = .ok (.if_icmp .ne 15, 3) := by decide +kernel
theorem dX8_isKey_8 : decode cX8_isKey 8 = .ok (.aload_n 0, 1) := by decide +kernel
theorem dX8_isKey_9 : decode cX8_isKey 9 = .ok (.getfield 104, 3) := by decide +kernel
theorem dX8_isKey_12 : decode cX8_isKey 12 = .ok (.iload_n 1, 1) := by decide +kernel
theorem dX8_isKey_13 : decode cX8_isKey 13 = .ok (.if_icmp .ne 7, 3) := by decide +kernel
theorem dX8_isKey_16 : decode cX8_isKey 16 = .ok (.iconst 1, 1) := by decide +kernel
theorem dX8_isKey_17 : decode cX8_isKey 17 = .ok (.goto 4, 3) := by decide +kernel
theorem dX8_isKey_20 : decode cX8_isKey 20 = .ok (.iconst 0, 1) := by decide +kernel
theorem dX8_isKey_21 : decode cX8_isKey 21 = .ok (.ireturn, 1) := by decide +kernel
theorem dX8_emit_0 : decode cX8_emit 0 = .ok (.aload_n 0, 1) := by decide +kernel
theorem dX8_emit_1 : decode cX8_emit 1 = .ok (.getfield 117, 3) := by decide +kernel
theorem dX8_emit_4 : decode cX8_emit 4 = .ok (.aload_n 0, 1) := by decide +kernel
theorem dX8_emit_5 : decode cX8_emit 5 = .ok (.getfield 120, 3) := by decide +kernel
theorem dX8_emit_8 : decode cX8_emit 8 = .ok (.aload_n 0, 1) := by decide +kernel
theorem dX8_emit_9 : decode cX8_emit 9 = .ok (.getfield 123, 3) := by decide +kernel
theorem dX8_emit_12 : decode cX8_emit 12 = .ok (.iadd, 1) := by decide +kernel
theorem dX8_emit_13 : decode cX8_emit 13 = .ok (.iload_n 1, 1) := by decide +kernel
theorem dX8_emit_14 : decode cX8_emit 14 = .ok (.iastore, 1) := by decide +kernel
theorem dX8_emit_15 : decode cX8_emit 15 = .ok (.aload_n 0, 1) := by decide +kernel
theorem dX8_emit_16 : decode cX8_emit 16 = .ok (.dup, 1) := by decide +kernel
theorem dX8_emit_17 : decode cX8_emit 17 = .ok (.getfield 123, 3) := by decide +kernel
theorem dX8_emit_20 : decode cX8_emit 20 = .ok (.iconst 1, 1) := by decide +kernel
theorem dX8_emit_21 : decode cX8_emit 21 = .ok (.iadd, 1) := by decide +kernel
theorem dX8_emit_22 : decode cX8_emit 22 = .ok (.putfield 123, 3) := by decide +kernel
theorem dX8_emit_25 : decode cX8_emit 25 = .ok (.return_, 1) := by decide +kernel
theorem dX8_rank_0 : decode cX8_rank 0 = .ok (.iload_n 0, 1) := by decide +kernel
theorem dX8_rank_1 : decode cX8_rank 1 = .ok (.bipush 10, 2) := by decide +kernel
theorem dX8_rank_3 : decode cX8_rank 3 = .ok (.if_icmp .ne 7, 3) := by decide +kernel
theorem dX8_rank_6 : decode cX8_rank 6 = .ok (.iconst 1, 1) := by decide +kernel
theorem dX8_rank_7 : decode cX8_rank 7 = .ok (.goto 78, 3) := by decide +kernel
theorem dX8_rank_10 : decode cX8_rank 10 = .ok (.iload_n 0, 1) := by decide +kernel
theorem dX8_rank_11 : decode cX8_rank 11 = .ok (.bipush 11, 2) := by decide +kernel
theorem dX8_rank_13 : decode cX8_rank 13 = .ok (.if_icmp .ne 7, 3) := by decide +kernel
theorem dX8_rank_16 : decode cX8_rank 16 = .ok (.iconst 2, 1) := by decide +kernel
theorem dX8_rank_17 : decode cX8_rank 17 = .ok (.goto 68, 3) := by decide +kernel
theorem dX8_rank_20 : decode cX8_rank 20 = .ok (.iload_n 0, 1) := by decide +kernel
theorem dX8_rank_21 : decode cX8_rank 21 = .ok (.bipush 12, 2) := by decide +kernel
theorem dX8_rank_23 : decode cX8_rank 23 = .ok (.if_icmp .ne 7, 3) := by decide +kernel
theorem dX8_rank_26 : decode cX8_rank 26 = .ok (.iconst 3, 1) := by decide +kernel
theorem dX8_rank_27 : decode cX8_rank 27 = .ok (.goto 58, 3) := by decide +kernel
theorem dX8_rank_30 : decode cX8_rank 30 = .ok (.iload_n 0, 1) := by decide +kernel
theorem dX8_rank_31 : decode cX8_rank 31 = .ok (.bipush 13, 2) := by decide +kernel
theorem dX8_rank_33 : decode cX8_rank 33 = .ok (.if_icmp .eq 9, 3) := by decide +kernel
theorem dX8_rank_36 : decode cX8_rank 36 = .ok (.iload_n 0, 1) := by decide +kernel
theorem dX8_rank_37 : decode cX8_rank 37 = .ok (.bipush 14, 2) := by decide +kernel
theorem dX8_rank_39 : decode cX8_rank 39 = .ok (.if_icmp .ne 7, 3) := by decide +kernel
theorem dX8_rank_42 : decode cX8_rank 42 = .ok (.iconst 4, 1) := by decide +kernel
theorem dX8_rank_43 : decode cX8_rank 43 = .ok (.goto 42, 3) := by decide +kernel
theorem dX8_rank_46 : decode cX8_rank 46 = .ok (.iload_n 0, 1) := by decide +kernel
theorem dX8_rank_47 : decode cX8_rank 47 = .ok (.bipush 15, 2) := by decide +kernel
theorem dX8_rank_49 : decode cX8_rank 49 = .ok (.if_icmp .eq 9, 3) := by decide +kernel
theorem dX8_rank_52 : decode cX8_rank 52 = .ok (.iload_n 0, 1) := by decide +kernel
theorem dX8_rank_53 : decode cX8_rank 53 = .ok (.bipush 16, 2) := by decide +kernel
theorem dX8_rank_55 : decode cX8_rank 55 = .ok (.if_icmp .ne 7, 3) := by decide +kernel
theorem dX8_rank_58 : decode cX8_rank 58 = .ok (.iconst 5, 1) := by decide +kernel
theorem dX8_rank_59 : decode cX8_rank 59 = .ok (.goto 26, 3) := by decide +kernel
theorem dX8_rank_62 : decode cX8_rank 62 = .ok (.iload_n 0, 1) := by decide +kernel
theorem dX8_rank_63 : decode cX8_rank 63 = .ok (.bipush 17, 2) := by decide +kernel
theorem dX8_rank_65 : decode cX8_rank 65 = .ok (.if_icmp .ne 8, 3) := by decide +kernel
theorem dX8_rank_68 : decode cX8_rank 68 = .ok (.bipush 6, 2) := by decide +kernel
theorem dX8_rank_70 : decode cX8_rank 70 = .ok (.goto 15, 3) := by decide +kernel
theorem dX8_rank_73 : decode cX8_rank 73 = .ok (.iload_n 0, 1) := by decide +kernel
theorem dX8_rank_74 : decode cX8_rank 74 = .ok (.bipush 18, 2) := by decide +kernel
theorem dX8_rank_76 : decode cX8_rank 76 = .ok (.if_icmp .ne 8, 3) := by decide +kernel
theorem dX8_rank_79 : decode cX8_rank 79 = .ok (.bipush 7, 2) := by decide +kernel
theorem dX8_rank_81 : decode cX8_rank 81 = .ok (.goto 4, 3) := by decide +kernel
theorem dX8_rank_84 : decode cX8_rank 84 = .ok (.iconst 0, 1) := by decide +kernel
theorem dX8_rank_85 : decode cX8_rank 85 = .ok (.ireturn, 1) := by decide +kernel
theorem dX8_doAll_0 : decode cX8_doAll 0 = .ok (.aload_n 0, 1) := by decide +kernel
theorem dX8_doAll_1 : decode cX8_doAll 1 = .ok (.getfield 126, 3) := by decide +kernel
theorem dX8_doAll_4 : decode cX8_doAll 4 = .ok (.ifCond .le 105, 3) := by decide +kernel
theorem dX8_doAll_7 : decode cX8_doAll 7 = .ok (.aload_n 0, 1) := by decide +kernel
theorem dX8_doAll_8 : decode cX8_doAll 8 = .ok (.getfield 129, 3) := by decide +kernel
theorem dX8_doAll_11 : decode cX8_doAll 11 = .ok (.aload_n 0, 1) := by decide +kernel
theorem dX8_doAll_12 : decode cX8_doAll 12 = .ok (.getfield 126, 3) := by decide +kernel
theorem dX8_doAll_15 : decode cX8_doAll 15 = .ok (.iconst 1, 1) := by decide +kernel
theorem dX8_doAll_16 : decode cX8_doAll 16 = .ok (.isub, 1) := by decide +kernel
theorem dX8_doAll_17 : decode cX8_doAll 17 = .ok (.iaload, 1) := by decide +kernel
theorem dX8_doAll_18 : decode cX8_doAll 18 = .ok (.bipush 30, 2) := by decide +kernel
theorem dX8_doAll_20 : decode cX8_doAll 20 = .ok (.if_icmp .eq 89, 3) := by decide +kernel
theorem dX8_doAll_23 : decode cX8_doAll 23 = .ok (.aload_n 0, 1) := by decide +kernel
theorem dX8_doAll_24 : decode cX8_doAll 24 = .ok (.getfield 129, 3) := by decide +kernel
theorem dX8_doAll_27 : decode cX8_doAll 27 = .ok (.aload_n 0, 1) := by decide +kernel
theorem dX8_doAll_28 : decode cX8_doAll 28 = .ok (.getfield 126, 3) := by decide +kernel
theorem dX8_doAll_31 : decode cX8_doAll 31 = .ok (.iconst 1, 1) := by decide +kernel
theorem dX8_doAll_32 : decode cX8_doAll 32 = .ok (.isub, 1) := by decide +kernel
theorem dX8_doAll_33 : decode cX8_doAll 33 = .ok (.iaload, 1) := by decide +kernel
theorem dX8_doAll_34 : decode cX8_doAll 34 = .ok (.invokestatic 132, 3) := by decide +kernel
theorem dX8_doAll_37 : decode cX8_doAll 37 = .ok (.iload_n 1, 1) := by decide +kernel
theorem dX8_doAll_38 : decode cX8_doAll 38 = .ok (.if_icmp .lt 71, 3) := by decide +kernel
theorem dX8_doAll_41 : decode cX8_doAll 41 = .ok (.aload_n 0, 1) := by decide +kernel
theorem dX8_doAll_42 : decode cX8_doAll 42 = .ok (.dup, 1) := by decide +kernel
theorem dX8_doAll_43 : decode cX8_doAll 43 = .ok (.getfield 126, 3) := by decide +kernel
theorem dX8_doAll_46 : decode cX8_doAll 46 = .ok (.iconst 1, 1) := by decide +kernel
theorem dX8_doAll_47 : decode cX8_doAll 47 = .ok (.isub, 1) := by decide +kernel
theorem dX8_doAll_48 : decode cX8_doAll 48 = .ok (.putfield 126, 3) := by decide +kernel
theorem dX8_doAll_51 : decode cX8_doAll 51 = .ok (.aload_n 0, 1) := by decide +kernel
theorem dX8_doAll_52 : decode cX8_doAll 52 = .ok (.dup, 1) := by decide +kernel
theorem dX8_doAll_53 : decode cX8_doAll 53 = .ok (.getfield 135, 3) := by decide +kernel
theorem dX8_doAll_56 : decode cX8_doAll 56 = .ok (.aload_n 0, 1) := by decide +kernel
theorem dX8_doAll_57 : decode cX8_doAll 57 = .ok (.getfield 129, 3) := by decide +kernel
theorem dX8_doAll_60 : decode cX8_doAll 60 = .ok (.aload_n 0, 1) := by decide +kernel
theorem dX8_doAll_61 : decode cX8_doAll 61 = .ok (.getfield 126, 3) := by decide +kernel
theorem dX8_doAll_64 : decode cX8_doAll 64 = .ok (.iaload, 1) := by decide +kernel
theorem dX8_doAll_65 : decode cX8_doAll 65 = .ok (.bipush 12, 2) := by decide +kernel
theorem dX8_doAll_67 : decode cX8_doAll 67 = .ok (.if_icmp .eq 17, 3) := by decide +kernel
theorem dX8_doAll_70 : decode cX8_doAll 70 = .ok (.aload_n 0, 1) := by decide +kernel
theorem dX8_doAll_71 : decode cX8_doAll 71 = .ok (.getfield 129, 3) := by decide +kernel
theorem dX8_doAll_74 : decode cX8_doAll 74 = .ok (.aload_n 0, 1) := by decide +kernel
theorem dX8_doAll_75 : decode cX8_doAll 75 = .ok (.getfield 126, 3) := by decide +kernel
theorem dX8_doAll_78 : decode cX8_doAll 78 = .ok (.iaload, 1) := by decide +kernel
theorem dX8_doAll_79 : decode cX8_doAll 79 = .ok (.bipush 18, 2) := by decide +kernel
theorem dX8_doAll_81 : decode cX8_doAll 81 = .ok (.if_icmp .ne 7, 3) := by decide +kernel
theorem dX8_doAll_84 : decode cX8_doAll 84 = .ok (.iconst 1, 1) := by decide +kernel
theorem dX8_doAll_85 : decode cX8_doAll 85 = .ok (.goto 4, 3) := by decide +kernel
theorem dX8_doAll_88 : decode cX8_doAll 88 = .ok (.iconst 0, 1) := by decide +kernel
theorem dX8_doAll_89 : decode cX8_doAll 89 = .ok (.isub, 1) := by decide +kernel
theorem dX8_doAll_90 : decode cX8_doAll 90 = .ok (.putfield 135, 3) := by decide +kernel
theorem dX8_doAll_93 : decode cX8_doAll 93 = .ok (.aload_n 0, 1) := by decide +kernel
theorem dX8_doAll_94 : decode cX8_doAll 94 = .ok (.aload_n 0, 1) := by decide +kernel
theorem dX8_doAll_95 : decode cX8_doAll 95 = .ok (.getfield 129, 3) := by decide +kernel
theorem dX8_doAll_98 : decode cX8_doAll 98 = .ok (.aload_n 0, 1) := by decide +kernel
theorem dX8_doAll_99 : decode cX8_doAll 99 = .ok (.getfield 126, 3) := by decide +kernel
theorem dX8_doAll_102 : decode cX8_doAll 102 = .ok (.iaload, 1) := by decide +kernel
theorem dX8_doAll_103 : decode cX8_doAll 103 = .ok (.invokevirtual 138, 3) := by decide +kernel
theorem dX8_doAll_106 : decode cX8_doAll 106 = .ok (.goto (-106), 3) := by decide +kernel
theorem dX8_doAll_109 : decode cX8_doAll 109 = .ok (.return_, 1) := by decide +kernel
theorem dX8_await_0 : decode cX8_await 0 = .ok (.aload_n 0, 1) := by decide +kernel
theorem dX8_await_1 : decode cX8_await 1 = .ok (.getfield 129, 3) := by decide +kernel
theorem dX8_await_4 : decode cX8_await 4 = .ok (.aload_n 0, 1) := by decide +kernel
theorem dX8_await_5 : decode cX8_await 5 = .ok (.getfield 126, 3) := by decide +kernel
theorem dX8_await_8 : decode cX8_await 8 = .ok (.iload_n 1, 1) := by decide +kernel
theorem dX8_await_9 : decode cX8_await 9 = .ok (.iastore, 1) := by decide +kernel
theorem dX8_await_10 : decode cX8_await 10 = .ok (.aload_n 0, 1) := by decide +kernel
theorem dX8_await_11 : decode cX8_await 11 = .ok (.dup, 1) := by decide +kernel
theorem dX8_await_12 : decode cX8_await 12 = .ok (.getfield 126, 3) := by decide +kernel
theorem dX8_await_15 : decode cX8_await 15 = .ok (.iconst 1, 1) := by decide +kernel
theorem dX8_await_16 : decode cX8_await 16 = .ok (.iadd, 1) := by decide +kernel
theorem dX8_await_17 : decode cX8_await 17 = .ok (.putfield 126, 3) := by decide +kernel
theorem dX8_await_20 : decode cX8_await 20 = .ok (.return_, 1) := by decide +kernel
theorem dX8_between_0 : decode cX8_between 0 = .ok (.aload_n 0, 1) := by decide +kernel
theorem dX8_between_1 : decode cX8_between 1 = .ok (.bipush 43, 2) := by decide +kernel
theorem dX8_between_3 : decode cX8_between 3 = .ok (.invokevirtual 142, 3) := by decide +kernel
theorem dX8_between_6 : decode cX8_between 6 = .ok (.ifCond .eq 8, 3) := by decide +kernel
theorem dX8_between_9 : decode cX8_between 9 = .ok (.bipush 15, 2) := by decide +kernel
theorem dX8_between_11 : decode cX8_between 11 = .ok (.goto 86, 3) := by decide +kernel
theorem dX8_between_14 : decode cX8_between 14 = .ok (.aload_n 0, 1) := by decide +kernel
theorem dX8_between_15 : decode cX8_between 15 = .ok (.bipush 45, 2) := by decide +kernel
theorem dX8_between_17 : decode cX8_between 17 = .ok (.invokevirtual 142, 3) := by decide +kernel
theorem dX8_between_20 : decode cX8_between 20 = .ok (.ifCond .eq 8, 3) := by decide +kernel
theorem dX8_between_23 : decode cX8_between 23 = .ok (.bipush 16, 2) := by decide +kernel
theorem dX8_between_25 : decode cX8_between 25 = .ok (.goto 72, 3) := by decide +kernel
theorem dX8_between_28 : decode cX8_between 28 = .ok (.aload_n 0, 1) := by decide +kernel
theorem dX8_between_29 : decode cX8_between 29 = .ok (.bipush 42, 2) := by decide +kernel
theorem dX8_between_31 : decode cX8_between 31 = .ok (.invokevirtual 142, 3) := by decide +kernel
theorem dX8_between_34 : decode cX8_between 34 = .ok (.ifCond .eq 8, 3) := by decide +kernel
theorem dX8_between_37 : decode cX8_between 37 = .ok (.bipush 17, 2) := by decide +kernel
theorem dX8_between_39 : decode cX8_between 39 = .ok (.goto 58, 3) := by decide +kernel
theorem dX8_between_42 : decode cX8_between 42 = .ok (.aload_n 0, 1) := by decide +kernel
theorem dX8_between_43 : decode cX8_between 43 = .ok (.bipush 60, 2) := by decide +kernel
theorem dX8_between_45 : decode cX8_between 45 = .ok (.invokevirtual 142, 3) := by decide +kernel
theorem dX8_between_48 : decode cX8_between 48 = .ok (.ifCond .eq 8, 3) := by decide +kernel
theorem dX8_between_51 : decode cX8_between 51 = .ok (.bipush 13, 2) := by decide +kernel
theorem dX8_between_53 : decode cX8_between 53 = .ok (.goto 44, 3) := by decide +kernel
theorem dX8_between_56 : decode cX8_between 56 = .ok (.aload_n 0, 1) := by decide +kernel
theorem dX8_between_57 : decode cX8_between 57 = .ok (.bipush 61, 2) := by decide +kernel
theorem dX8_between_59 : decode cX8_between 59 = .ok (.invokevirtual 142, 3) := by decide +kernel
theorem dX8_between_62 : decode cX8_between 62 = .ok (.ifCond .eq 8, 3) := by decide +kernel
theorem dX8_between_65 : decode cX8_between 65 = .ok (.bipush 14, 2) := by decide +kernel
theorem dX8_between_67 : decode cX8_between 67 = .ok (.goto 30, 3) := by decide +kernel
theorem dX8_between_70 : decode cX8_between 70 = .ok (.aload_n 0, 1) := by decide +kernel
theorem dX8_between_71 : decode cX8_between 71 = .ok (.iconst 4, 1) := by decide +kernel
theorem dX8_between_72 : decode cX8_between 72 = .ok (.invokevirtual 145, 3) := by decide +kernel
theorem dX8_between_75 : decode cX8_between 75 = .ok (.ifCond .eq 8, 3) := by decide +kernel
theorem dX8_between_78 : decode cX8_between 78 = .ok (.bipush 11, 2) := by decide +kernel
theorem dX8_between_80 : decode cX8_between 80 = .ok (.goto 17, 3) := by decide +kernel
theorem dX8_between_83 : decode cX8_between 83 = .ok (.aload_n 0, 1) := by decide +kernel
theorem dX8_between_84 : decode cX8_between 84 = .ok (.iconst 3, 1) := by decide +kernel
theorem dX8_between_85 : decode cX8_between 85 = .ok (.invokevirtual 145, 3) := by decide +kernel
theorem dX8_between_88 : decode cX8_between 88 = .ok (.ifCond .eq 8, 3) := by decide +kernel
theorem dX8_between_91 : decode cX8_between 91 = .ok (.bipush 10, 2) := by decide +kernel
theorem dX8_between_93 : decode cX8_between 93 = .ok (.goto 4, 3) := by decide +kernel
theorem dX8_between_96 : decode cX8_between 96 = .ok (.iconst (-1), 1) := by decide +kernel
theorem dX8_between_97 : decode cX8_between 97 = .ok (.istore_n 1, 1) := by decide +kernel
theorem dX8_between_98 : decode cX8_between 98 = .ok (.iload_n 1, 1) := by decide +kernel
theorem dX8_between_99 : decode cX8_between 99 = .ok (.iconst (-1), 1) := by decide +kernel
theorem dX8_between_100 : decode cX8_between 100 = .ok (.if_icmp .eq 23, 3) := by decide +kernel
theorem dX8_between_103 : decode cX8_between 103 = .ok (.iload_n 1, 1) := by decide +kernel
theorem dX8_between_104 : decode cX8_between 104 = .ok (.invokestatic 132, 3) := by decide +kernel
theorem dX8_between_107 : decode cX8_between 107 = .ok (.iconst 4, 1) := by decide +kernel
theorem dX8_between_108 : decode cX8_between 108 = .ok (.if_icmp .ne 17, 3) := by decide +kernel
theorem dX8_between_111 : decode cX8_between 111 = .ok (.aload_n 0, 1) := by decide +kernel
theorem dX8_between_112 : decode cX8_between 112 = .ok (.getfield 148, 3) := by decide +kernel
theorem dX8_between_115 : decode cX8_between 115 = .ok (.aload_n 0, 1) := by decide +kernel
theorem dX8_between_116 : decode cX8_between 116 = .ok (.getfield 152, 3) := by decide +kernel
theorem dX8_between_119 : decode cX8_between 119 = .ok (.baload, 1) := by decide +kernel
theorem dX8_between_120 : decode cX8_between 120 = .ok (.ifCond .eq 5, 3) := by decide +kernel
theorem dX8_between_123 : decode cX8_between 123 = .ok (.iconst 0, 1) := by decide +kernel
theorem dX8_between_124 : decode cX8_between 124 = .ok (.ireturn, 1) := by decide +kernel
theorem dX8_between_125 : decode cX8_between 125 = .ok (.aload_n 0, 1) := by decide +kernel
theorem dX8_between_126 : decode cX8_between 126 = .ok (.iload_n 1, 1) := by decide +kernel
theorem dX8_between_127 : decode cX8_between 127 = .ok (.invokestatic 132, 3) := by decide +kernel
theorem dX8_between_130 : decode cX8_between 130 = .ok (.invokevirtual 155, 3) := by decide +kernel
theorem dX8_between_133 : decode cX8_between 133 = .ok (.aload_n 0, 1) := by decide +kernel
theorem dX8_between_134 : decode cX8_between 134 = .ok (.iload_n 1, 1) := by decide +kernel
theorem dX8_between_135 : decode cX8_between 135 = .ok (.invokevirtual 158, 3) := by decide +kernel
theorem dX8_between_138 : decode cX8_between 138 = .ok (.aload_n 0, 1) := by decide +kernel
theorem dX8_between_139 : decode cX8_between 139 = .ok (.getfield 148, 3) := by decide +kernel
theorem dX8_between_142 : decode cX8_between 142 = .ok (.aload_n 0, 1) := by decide +kernel
theorem dX8_between_143 : decode cX8_between 143 = .ok (.getfield 152, 3) := by decide +kernel
theorem dX8_between_146 : decode cX8_between 146 = .ok (.iload_n 1, 1) := by decide +kernel
theorem dX8_between_147 : decode cX8_between 147 = .ok (.invokestatic 132, 3) := by decide +kernel
theorem dX8_between_150 : decode cX8_between 150 = .ok (.iconst 4, 1) := by decide +kernel
theorem dX8_between_151 : decode cX8_between 151 = .ok (.if_icmp .eq 23, 3) := by decide +kernel
theorem dX8_between_154 : decode cX8_between 154 = .ok (.iload_n 1, 1) := by decide +kernel
theorem dX8_between_155 : decode cX8_between 155 = .ok (.invokestatic 132, 3) := by decide +kernel
theorem dX8_between_158 : decode cX8_between 158 = .ok (.iconst 4, 1) := by decide +kernel
theorem dX8_between_159 : decode cX8_between 159 = .ok (.if_icmp .le 19, 3) := by decide +kernel
theorem dX8_between_162 : decode cX8_between 162 = .ok (.aload_n 0, 1) := by decide +kernel
theorem dX8_between_163 : decode cX8_between 163 = .ok (.getfield 148, 3) := by decide +kernel
theorem dX8_between_166 : decode cX8_between 166 = .ok (.aload_n 0, 1) := by decide +kernel
theorem dX8_between_167 : decode cX8_between 167 = .ok (.getfield 152, 3) := by decide +kernel
theorem dX8_between_170 : decode cX8_between 170 = .ok (.baload, 1) := by decide +kernel
theorem dX8_between_171 : decode cX8_between 171 = .ok (.ifCond .eq 7, 3) := by decide +kernel
theorem dX8_between_174 : decode cX8_between 174 = .ok (.iconst 1, 1) := by decide +kernel
theorem dX8_between_175 : decode cX8_between 175 = .ok (.goto 4, 3) := by decide +kernel
theorem dX8_between_178 : decode cX8_between 178 = .ok (.iconst 0, 1) := by decide +kernel
theorem dX8_between_179 : decode cX8_between 179 = .ok (.bastore, 1) := by decide +kernel
theorem dX8_between_180 : decode cX8_between 180 = .ok (.iconst 1, 1) := by decide +kernel
theorem dX8_between_181 : decode cX8_between 181 = .ok (.ireturn, 1) := by decide +kernel
theorem dX8_closes_0 : decode cX8_closes 0 = .ok (.aload_n 0, 1) := by decide +kernel
theorem dX8_closes_1 : decode cX8_closes 1 = .ok (.bipush 41, 2) := by decide +kernel
theorem dX8_closes_3 : decode cX8_closes 3 = .ok (.invokevirtual 142, 3) := by decide +kernel
theorem dX8_closes_6 : decode cX8_closes 6 = .ok (.ifCond .eq 10, 3) := by decide +kernel
theorem dX8_closes_9 : decode cX8_closes 9 = .ok (.aload_n 0, 1) := by decide +kernel
theorem dX8_closes_10 : decode cX8_closes 10 = .ok (.getfield 152, 3) := by decide +kernel
theorem dX8_closes_13 : decode cX8_closes 13 = .ok (.ifCond .ne 5, 3) := by decide +kernel
theorem dX8_closes_16 : decode cX8_closes 16 = .ok (.iconst 0, 1) := by decide +kernel
theorem dX8_closes_17 : decode cX8_closes 17 = .ok (.ireturn, 1) := by decide +kernel
theorem dX8_closes_18 : decode cX8_closes 18 = .ok (.aload_n 0, 1) := by decide +kernel
theorem dX8_closes_19 : decode cX8_closes 19 = .ok (.iconst 1, 1) := by decide +kernel
theorem dX8_closes_20 : decode cX8_closes 20 = .ok (.invokevirtual 155, 3) := by decide +kernel
theorem dX8_closes_23 : decode cX8_closes 23 = .ok (.aload_n 0, 1) := by decide +kernel
theorem dX8_closes_24 : decode cX8_closes 24 = .ok (.dup, 1) := by decide +kernel
theorem dX8_closes_25 : decode cX8_closes 25 = .ok (.getfield 126, 3) := by decide +kernel
theorem dX8_closes_28 : decode cX8_closes 28 = .ok (.iconst 1, 1) := by decide +kernel
theorem dX8_closes_29 : decode cX8_closes 29 = .ok (.isub, 1) := by decide +kernel
theorem dX8_closes_30 : decode cX8_closes 30 = .ok (.putfield 126, 3) := by decide +kernel
theorem dX8_closes_33 : decode cX8_closes 33 = .ok (.aload_n 0, 1) := by decide +kernel
theorem dX8_closes_34 : decode cX8_closes 34 = .ok (.dup, 1) := by decide +kernel
theorem dX8_closes_35 : decode cX8_closes 35 = .ok (.getfield 152, 3) := by decide +kernel
theorem dX8_closes_38 : decode cX8_closes 38 = .ok (.iconst 1, 1) := by decide +kernel
theorem dX8_closes_39 : decode cX8_closes 39 = .ok (.isub, 1) := by decide +kernel
theorem dX8_closes_40 : decode cX8_closes 40 = .ok (.putfield 152, 3) := by decide +kernel
theorem dX8_closes_43 : decode cX8_closes 43 = .ok (.aload_n 0, 1) := by decide +kernel
theorem dX8_closes_44 : decode cX8_closes 44 = .ok (.dup, 1) := by decide +kernel
theorem dX8_closes_45 : decode cX8_closes 45 = .ok (.getfield 135, 3) := by decide +kernel
theorem dX8_closes_48 : decode cX8_closes 48 = .ok (.iconst 1, 1) := by decide +kernel
theorem dX8_closes_49 : decode cX8_closes 49 = .ok (.isub, 1) := by decide +kernel
theorem dX8_closes_50 : decode cX8_closes 50 = .ok (.putfield 135, 3) := by decide +kernel
theorem dX8_closes_53 : decode cX8_closes 53 = .ok (.aload_n 0, 1) := by decide +kernel
theorem dX8_closes_54 : decode cX8_closes 54 = .ok (.bipush 7, 2) := by decide +kernel
theorem dX8_closes_56 : decode cX8_closes 56 = .ok (.invokevirtual 155, 3) := by decide +kernel
theorem dX8_closes_59 : decode cX8_closes 59 = .ok (.iconst 1, 1) := by decide +kernel
theorem dX8_closes_60 : decode cX8_closes 60 = .ok (.ireturn, 1) := by decide +kernel
theorem dX8_ahead_0 : decode cX8_ahead 0 = .ok (.aload_n 0, 1) := by decide +kernel
theorem dX8_ahead_1 : decode cX8_ahead 1 = .ok (.bipush 40, 2) := by decide +kernel
theorem dX8_ahead_3 : decode cX8_ahead 3 = .ok (.invokevirtual 142, 3) := by decide +kernel
theorem dX8_ahead_6 : decode cX8_ahead 6 = .ok (.ifCond .ne 24, 3) := by decide +kernel
theorem dX8_ahead_9 : decode cX8_ahead 9 = .ok (.aload_n 0, 1) := by decide +kernel
theorem dX8_ahead_10 : decode cX8_ahead 10 = .ok (.bipush 45, 2) := by decide +kernel
theorem dX8_ahead_12 : decode cX8_ahead 12 = .ok (.invokevirtual 142, 3) := by decide +kernel
theorem dX8_ahead_15 : decode cX8_ahead 15 = .ok (.ifCond .ne 15, 3) := by decide +kernel
theorem dX8_ahead_18 : decode cX8_ahead 18 = .ok (.iload_n 1, 1) := by decide +kernel
theorem dX8_ahead_19 : decode cX8_ahead 19 = .ok (.ifCond .eq 15, 3) := by decide +kernel
theorem dX8_ahead_22 : decode cX8_ahead 22 = .ok (.aload_n 0, 1) := by decide +kernel
theorem dX8_ahead_23 : decode cX8_ahead 23 = .ok (.iconst 5, 1) := by decide +kernel
theorem dX8_ahead_24 : decode cX8_ahead 24 = .ok (.invokevirtual 145, 3) := by decide +kernel
theorem dX8_ahead_27 : decode cX8_ahead 27 = .ok (.ifCond .eq 7, 3) := by decide +kernel
theorem dX8_ahead_30 : decode cX8_ahead 30 = .ok (.iconst 1, 1) := by decide +kernel
theorem dX8_ahead_31 : decode cX8_ahead 31 = .ok (.goto 4, 3) := by decide +kernel
theorem dX8_ahead_34 : decode cX8_ahead 34 = .ok (.iconst 0, 1) := by decide +kernel
theorem dX8_ahead_35 : decode cX8_ahead 35 = .ok (.istore_n 2, 1) := by decide +kernel
theorem dX8_ahead_36 : decode cX8_ahead 36 = .ok (.iload_n 2, 1) := by decide +kernel
theorem dX8_ahead_37 : decode cX8_ahead 37 = .ok (.ifCond .eq 11, 3) := by decide +kernel
theorem dX8_ahead_40 : decode cX8_ahead 40 = .ok (.aload_n 0, 1) := by decide +kernel
theorem dX8_ahead_41 : decode cX8_ahead 41 = .ok (.getfield 135, 3) := by decide +kernel
theorem dX8_ahead_44 : decode cX8_ahead 44 = .ok (.iconst 5, 1) := by decide +kernel
theorem dX8_ahead_45 : decode cX8_ahead 45 = .ok (.if_icmp .ne 5, 3) := by decide +kernel
theorem dX8_ahead_48 : decode cX8_ahead 48 = .ok (.iconst 0, 1) := by decide +kernel
theorem dX8_ahead_49 : decode cX8_ahead 49 = .ok (.ireturn, 1) := by decide +kernel
theorem dX8_ahead_50 : decode cX8_ahead 50 = .ok (.aload_n 0, 1) := by decide +kernel
theorem dX8_ahead_51 : decode cX8_ahead 51 = .ok (.dup, 1) := by decide +kernel
theorem dX8_ahead_52 : decode cX8_ahead 52 = .ok (.getfield 135, 3) := by decide +kernel
theorem dX8_ahead_55 : decode cX8_ahead 55 = .ok (.iconst 1, 1) := by decide +kernel
theorem dX8_ahead_56 : decode cX8_ahead 56 = .ok (.iadd, 1) := by decide +kernel
theorem dX8_ahead_57 : decode cX8_ahead 57 = .ok (.putfield 135, 3) := by decide +kernel
theorem dX8_ahead_60 : decode cX8_ahead 60 = .ok (.aload_n 0, 1) := by decide +kernel
theorem dX8_ahead_61 : decode cX8_ahead 61 = .ok (.bipush 40, 2) := by decide +kernel
theorem dX8_ahead_63 : decode cX8_ahead 63 = .ok (.invokevirtual 142, 3) := by decide +kernel
theorem dX8_ahead_66 : decode cX8_ahead 66 = .ok (.ifCond .eq 32, 3) := by decide +kernel
theorem dX8_ahead_69 : decode cX8_ahead 69 = .ok (.aload_n 0, 1) := by decide +kernel
theorem dX8_ahead_70 : decode cX8_ahead 70 = .ok (.bipush 30, 2) := by decide +kernel
theorem dX8_ahead_72 : decode cX8_ahead 72 = .ok (.invokevirtual 158, 3) := by decide +kernel
theorem dX8_ahead_75 : decode cX8_ahead 75 = .ok (.aload_n 0, 1) := by decide +kernel
theorem dX8_ahead_76 : decode cX8_ahead 76 = .ok (.dup, 1) := by decide +kernel
theorem dX8_ahead_77 : decode cX8_ahead 77 = .ok (.getfield 152, 3) := by decide +kernel
theorem dX8_ahead_80 : decode cX8_ahead 80 = .ok (.iconst 1, 1) := by decide +kernel
theorem dX8_ahead_81 : decode cX8_ahead 81 = .ok (.iadd, 1) := by decide +kernel
theorem dX8_ahead_82 : decode cX8_ahead 82 = .ok (.putfield 152, 3) := by decide +kernel
theorem dX8_ahead_85 : decode cX8_ahead 85 = .ok (.aload_n 0, 1) := by decide +kernel
theorem dX8_ahead_86 : decode cX8_ahead 86 = .ok (.getfield 148, 3) := by decide +kernel
theorem dX8_ahead_89 : decode cX8_ahead 89 = .ok (.aload_n 0, 1) := by decide +kernel
theorem dX8_ahead_90 : decode cX8_ahead 90 = .ok (.getfield 152, 3) := by decide +kernel
theorem dX8_ahead_93 : decode cX8_ahead 93 = .ok (.iconst 0, 1) := by decide +kernel
theorem dX8_ahead_94 : decode cX8_ahead 94 = .ok (.bastore, 1) := by decide +kernel
theorem dX8_ahead_95 : decode cX8_ahead 95 = .ok (.goto 22, 3) := by decide +kernel
theorem dX8_ahead_98 : decode cX8_ahead 98 = .ok (.aload_n 0, 1) := by decide +kernel
theorem dX8_ahead_99 : decode cX8_ahead 99 = .ok (.aload_n 0, 1) := by decide +kernel
theorem dX8_ahead_100 : decode cX8_ahead 100 = .ok (.getfield 91, 3) := by decide +kernel
theorem dX8_ahead_103 : decode cX8_ahead 103 = .ok (.iconst 3, 1) := by decide +kernel
theorem dX8_ahead_104 : decode cX8_ahead 104 = .ok (.if_icmp .ne 8, 3) := by decide +kernel
theorem dX8_ahead_107 : decode cX8_ahead 107 = .ok (.bipush 12, 2) := by decide +kernel
theorem dX8_ahead_109 : decode cX8_ahead 109 = .ok (.goto 5, 3) := by decide +kernel
theorem dX8_ahead_112 : decode cX8_ahead 112 = .ok (.bipush 18, 2) := by decide +kernel
theorem dX8_ahead_114 : decode cX8_ahead 114 = .ok (.invokevirtual 158, 3) := by decide +kernel
theorem dX8_ahead_117 : decode cX8_ahead 117 = .ok (.iconst 1, 1) := by decide +kernel
theorem dX8_ahead_118 : decode cX8_ahead 118 = .ok (.ireturn, 1) := by decide +kernel
theorem dX8_readE_0 : decode cX8_readE 0 = .ok (.aload_n 0, 1) := by decide +kernel
theorem dX8_readE_1 : decode cX8_readE 1 = .ok (.sipush 160, 3) := by decide +kernel
theorem dX8_readE_4 : decode cX8_readE 4 = .ok (.iload_n 1, 1) := by decide +kernel
theorem dX8_readE_5 : decode cX8_readE 5 = .ok (.imul, 1) := by decide +kernel
theorem dX8_readE_6 : decode cX8_readE 6 = .ok (.putfield 120, 3) := by decide +kernel
theorem dX8_readE_9 : decode cX8_readE 9 = .ok (.aload_n 0, 1) := by decide +kernel
theorem dX8_readE_10 : decode cX8_readE 10 = .ok (.iconst 0, 1) := by decide +kernel
theorem dX8_readE_11 : decode cX8_readE 11 = .ok (.putfield 123, 3) := by decide +kernel
theorem dX8_readE_14 : decode cX8_readE 14 = .ok (.aload_n 0, 1) := by decide +kernel
theorem dX8_readE_15 : decode cX8_readE 15 = .ok (.iconst 0, 1) := by decide +kernel
theorem dX8_readE_16 : decode cX8_readE 16 = .ok (.putfield 126, 3) := by decide +kernel
theorem dX8_readE_19 : decode cX8_readE 19 = .ok (.aload_n 0, 1) := by decide +kernel
theorem dX8_readE_20 : decode cX8_readE 20 = .ok (.iconst 0, 1) := by decide +kernel
theorem dX8_readE_21 : decode cX8_readE 21 = .ok (.putfield 135, 3) := by decide +kernel
theorem dX8_readE_24 : decode cX8_readE 24 = .ok (.aload_n 0, 1) := by decide +kernel
theorem dX8_readE_25 : decode cX8_readE 25 = .ok (.iconst 0, 1) := by decide +kernel
theorem dX8_readE_26 : decode cX8_readE 26 = .ok (.putfield 152, 3) := by decide +kernel
theorem dX8_readE_29 : decode cX8_readE 29 = .ok (.aload_n 0, 1) := by decide +kernel
theorem dX8_readE_30 : decode cX8_readE 30 = .ok (.getfield 148, 3) := by decide +kernel
theorem dX8_readE_33 : decode cX8_readE 33 = .ok (.iconst 0, 1) := by decide +kernel
theorem dX8_readE_34 : decode cX8_readE 34 = .ok (.iconst 0, 1) := by decide +kernel
theorem dX8_readE_35 : decode cX8_readE 35 = .ok (.bastore, 1) := by decide +kernel
theorem dX8_readE_36 : decode cX8_readE 36 = .ok (.iconst 1, 1) := by decide +kernel
theorem dX8_readE_37 : decode cX8_readE 37 = .ok (.istore_n 2, 1) := by decide +kernel
theorem dX8_readE_38 : decode cX8_readE 38 = .ok (.iconst 1, 1) := by decide +kernel
theorem dX8_readE_39 : decode cX8_readE 39 = .ok (.istore_n 3, 1) := by decide +kernel
theorem dX8_readE_40 : decode cX8_readE 40 = .ok (.iload_n 2, 1) := by decide +kernel
theorem dX8_readE_41 : decode cX8_readE 41 = .ok (.ifCond .eq 55, 3) := by decide +kernel
theorem dX8_readE_44 : decode cX8_readE 44 = .ok (.aload_n 0, 1) := by decide +kernel
theorem dX8_readE_45 : decode cX8_readE 45 = .ok (.getfield 91, 3) := by decide +kernel
theorem dX8_readE_48 : decode cX8_readE 48 = .ok (.iconst 1, 1) := by decide +kernel
theorem dX8_readE_49 : decode cX8_readE 49 = .ok (.if_icmp .eq 11, 3) := by decide +kernel
theorem dX8_readE_52 : decode cX8_readE 52 = .ok (.aload_n 0, 1) := by decide +kernel
theorem dX8_readE_53 : decode cX8_readE 53 = .ok (.getfield 91, 3) := by decide +kernel
theorem dX8_readE_56 : decode cX8_readE 56 = .ok (.iconst 2, 1) := by decide +kernel
theorem dX8_readE_57 : decode cX8_readE 57 = .ok (.if_icmp .ne 39, 3) := by decide +kernel
theorem dX8_readE_60 : decode cX8_readE 60 = .ok (.aload_n 0, 1) := by decide +kernel
theorem dX8_readE_61 : decode cX8_readE 61 = .ok (.aload_n 0, 1) := by decide +kernel
theorem dX8_readE_62 : decode cX8_readE 62 = .ok (.getfield 91, 3) := by decide +kernel
theorem dX8_readE_65 : decode cX8_readE 65 = .ok (.iconst 1, 1) := by decide +kernel
theorem dX8_readE_66 : decode cX8_readE 66 = .ok (.if_icmp .ne 12, 3) := by decide +kernel
theorem dX8_readE_69 : decode cX8_readE 69 = .ok (.iconst (-1), 1) := by decide +kernel
theorem dX8_readE_70 : decode cX8_readE 70 = .ok (.aload_n 0, 1) := by decide +kernel
theorem dX8_readE_71 : decode cX8_readE 71 = .ok (.getfield 104, 3) := by decide +kernel
theorem dX8_readE_74 : decode cX8_readE 74 = .ok (.isub, 1) := by decide +kernel
theorem dX8_readE_75 : decode cX8_readE 75 = .ok (.goto 7, 3) := by decide +kernel
theorem dX8_readE_78 : decode cX8_readE 78 = .ok (.aload_n 0, 1) := by decide +kernel
theorem dX8_readE_79 : decode cX8_readE 79 = .ok (.getfield 104, 3) := by decide +kernel
theorem dX8_readE_82 : decode cX8_readE 82 = .ok (.invokevirtual 138, 3) := by decide +kernel
theorem dX8_readE_85 : decode cX8_readE 85 = .ok (.aload_n 0, 1) := by decide +kernel
theorem dX8_readE_86 : decode cX8_readE 86 = .ok (.bipush 7, 2) := by decide +kernel
theorem dX8_readE_88 : decode cX8_readE 88 = .ok (.invokevirtual 155, 3) := by decide +kernel
theorem dX8_readE_91 : decode cX8_readE 91 = .ok (.iconst 0, 1) := by decide +kernel
theorem dX8_readE_92 : decode cX8_readE 92 = .ok (.istore_n 2, 1) := by decide +kernel
theorem dX8_readE_93 : decode cX8_readE 93 = .ok (.goto 115, 3) := by decide +kernel
theorem dX8_readE_96 : decode cX8_readE 96 = .ok (.iload_n 2, 1) := by decide +kernel
theorem dX8_readE_97 : decode cX8_readE 97 = .ok (.ifCond .eq 35, 3) := by decide +kernel
theorem dX8_readE_100 : decode cX8_readE 100 = .ok (.aload_n 0, 1) := by decide +kernel
theorem dX8_readE_101 : decode cX8_readE 101 = .ok (.bipush 45, 2) := by decide +kernel
theorem dX8_readE_103 : decode cX8_readE 103 = .ok (.invokevirtual 142, 3) := by decide +kernel
theorem dX8_readE_106 : decode cX8_readE 106 = .ok (.istore 4, 2) := by decide +kernel
theorem dX8_readE_108 : decode cX8_readE 108 = .ok (.aload_n 0, 1) := by decide +kernel
theorem dX8_readE_109 : decode cX8_readE 109 = .ok (.iload_n 3, 1) := by decide +kernel
theorem dX8_readE_110 : decode cX8_readE 110 = .ok (.invokevirtual 161, 3) := by decide +kernel
theorem dX8_readE_113 : decode cX8_readE 113 = .ok (.ifCond .ne 5, 3) := by decide +kernel
theorem dX8_readE_116 : decode cX8_readE 116 = .ok (.iconst 0, 1) := by decide +kernel
theorem dX8_readE_117 : decode cX8_readE 117 = .ok (.ireturn, 1) := by decide +kernel
theorem dX8_readE_118 : decode cX8_readE 118 = .ok (.iload 4, 2) := by decide +kernel
theorem dX8_readE_120 : decode cX8_readE 120 = .ok (.ifCond .ne 7, 3) := by decide +kernel
theorem dX8_readE_123 : decode cX8_readE 123 = .ok (.iconst 1, 1) := by decide +kernel
theorem dX8_readE_124 : decode cX8_readE 124 = .ok (.goto 4, 3) := by decide +kernel
theorem dX8_readE_127 : decode cX8_readE 127 = .ok (.iconst 0, 1) := by decide +kernel
theorem dX8_readE_128 : decode cX8_readE 128 = .ok (.istore_n 3, 1) := by decide +kernel
theorem dX8_readE_129 : decode cX8_readE 129 = .ok (.goto 79, 3) := by decide +kernel
theorem dX8_readE_132 : decode cX8_readE 132 = .ok (.aload_n 0, 1) := by decide +kernel
theorem dX8_readE_133 : decode cX8_readE 133 = .ok (.bipush 59, 2) := by decide +kernel
theorem dX8_readE_135 : decode cX8_readE 135 = .ok (.invokevirtual 142, 3) := by decide +kernel
theorem dX8_readE_138 : decode cX8_readE 138 = .ok (.ifCond .eq 27, 3) := by decide +kernel
theorem dX8_readE_141 : decode cX8_readE 141 = .ok (.aload_n 0, 1) := by decide +kernel
theorem dX8_readE_142 : decode cX8_readE 142 = .ok (.getfield 152, 3) := by decide +kernel
theorem dX8_readE_145 : decode cX8_readE 145 = .ok (.ifCond .ne 20, 3) := by decide +kernel
theorem dX8_readE_148 : decode cX8_readE 148 = .ok (.aload_n 0, 1) := by decide +kernel
theorem dX8_readE_149 : decode cX8_readE 149 = .ok (.iconst 1, 1) := by decide +kernel
theorem dX8_readE_150 : decode cX8_readE 150 = .ok (.invokevirtual 155, 3) := by decide +kernel
theorem dX8_readE_153 : decode cX8_readE 153 = .ok (.aload_n 0, 1) := by decide +kernel
theorem dX8_readE_154 : decode cX8_readE 154 = .ok (.getfield 165, 3) := by decide +kernel
theorem dX8_readE_157 : decode cX8_readE 157 = .ok (.iload_n 1, 1) := by decide +kernel
theorem dX8_readE_158 : decode cX8_readE 158 = .ok (.aload_n 0, 1) := by decide +kernel
theorem dX8_readE_159 : decode cX8_readE 159 = .ok (.getfield 123, 3) := by decide +kernel
theorem dX8_readE_162 : decode cX8_readE 162 = .ok (.iastore, 1) := by decide +kernel
theorem dX8_readE_163 : decode cX8_readE 163 = .ok (.iconst 1, 1) := by decide +kernel
theorem dX8_readE_164 : decode cX8_readE 164 = .ok (.ireturn, 1) := by decide +kernel
theorem dX8_readE_165 : decode cX8_readE 165 = .ok (.aload_n 0, 1) := by decide +kernel
theorem dX8_readE_166 : decode cX8_readE 166 = .ok (.invokevirtual 168, 3) := by decide +kernel
theorem dX8_readE_169 : decode cX8_readE 169 = .ok (.ifCond .eq 30, 3) := by decide +kernel
theorem dX8_readE_172 : decode cX8_readE 172 = .ok (.iconst 1, 1) := by decide +kernel
theorem dX8_readE_173 : decode cX8_readE 173 = .ok (.istore_n 2, 1) := by decide +kernel
theorem dX8_readE_174 : decode cX8_readE 174 = .ok (.aload_n 0, 1) := by decide +kernel
theorem dX8_readE_175 : decode cX8_readE 175 = .ok (.iconst 4, 1) := by decide +kernel
theorem dX8_readE_176 : decode cX8_readE 176 = .ok (.invokevirtual 145, 3) := by decide +kernel
theorem dX8_readE_179 : decode cX8_readE 179 = .ok (.ifCond .ne 11, 3) := by decide +kernel
theorem dX8_readE_182 : decode cX8_readE 182 = .ok (.aload_n 0, 1) := by decide +kernel
theorem dX8_readE_183 : decode cX8_readE 183 = .ok (.iconst 3, 1) := by decide +kernel
theorem dX8_readE_184 : decode cX8_readE 184 = .ok (.invokevirtual 145, 3) := by decide +kernel
theorem dX8_readE_187 : decode cX8_readE 187 = .ok (.ifCond .eq 7, 3) := by decide +kernel
theorem dX8_readE_190 : decode cX8_readE 190 = .ok (.iconst 1, 1) := by decide +kernel
theorem dX8_readE_191 : decode cX8_readE 191 = .ok (.goto 4, 3) := by decide +kernel
theorem dX8_readE_194 : decode cX8_readE 194 = .ok (.iconst 0, 1) := by decide +kernel
theorem dX8_readE_195 : decode cX8_readE 195 = .ok (.istore_n 3, 1) := by decide +kernel
theorem dX8_readE_196 : decode cX8_readE 196 = .ok (.goto 12, 3) := by decide +kernel
theorem dX8_readE_199 : decode cX8_readE 199 = .ok (.aload_n 0, 1) := by decide +kernel
theorem dX8_readE_200 : decode cX8_readE 200 = .ok (.invokevirtual 172, 3) := by decide +kernel
theorem dX8_readE_203 : decode cX8_readE 203 = .ok (.ifCond .ne 5, 3) := by decide +kernel
theorem dX8_readE_206 : decode cX8_readE 206 = .ok (.iconst 0, 1) := by decide +kernel
theorem dX8_readE_207 : decode cX8_readE 207 = .ok (.ireturn, 1) := by decide +kernel
theorem dX8_readE_208 : decode cX8_readE 208 = .ok (.aload_n 0, 1) := by decide +kernel
theorem dX8_readE_209 : decode cX8_readE 209 = .ok (.invokevirtual 175, 3) := by decide +kernel
theorem dX8_readE_212 : decode cX8_readE 212 = .ok (.goto (-172), 3) := by decide +kernel
theorem dX8_readAll_0 : decode cX8_readAll 0 = .ok (.aload_n 0, 1) := by decide +kernel
theorem dX8_readAll_1 : decode cX8_readAll 1 = .ok (.iconst 0, 1) := by decide +kernel
theorem dX8_readAll_2 : decode cX8_readAll 2 = .ok (.putfield 85, 3) := by decide +kernel
theorem dX8_readAll_5 : decode cX8_readAll 5 = .ok (.iconst 0, 1) := by decide +kernel
theorem dX8_readAll_6 : decode cX8_readAll 6 = .ok (.istore_n 2, 1) := by decide +kernel
theorem dX8_readAll_7 : decode cX8_readAll 7 = .ok (.iload_n 2, 1) := by decide +kernel
theorem dX8_readAll_8 : decode cX8_readAll 8 = .ok (.iconst 3, 1) := by decide +kernel
theorem dX8_readAll_9 : decode cX8_readAll 9 = .ok (.if_icmp .ge 47, 3) := by decide +kernel
theorem dX8_readAll_12 : decode cX8_readAll 12 = .ok (.aload_n 0, 1) := by decide +kernel
theorem dX8_readAll_13 : decode cX8_readAll 13 = .ok (.invokevirtual 175, 3) := by decide +kernel
theorem dX8_readAll_16 : decode cX8_readAll 16 = .ok (.aload_n 0, 1) := by decide +kernel
theorem dX8_readAll_17 : decode cX8_readAll 17 = .ok (.iload_n 2, 1) := by decide +kernel
theorem dX8_readAll_18 : decode cX8_readAll 18 = .ok (.invokevirtual 145, 3) := by decide +kernel
theorem dX8_readAll_21 : decode cX8_readAll 21 = .ok (.ifCond .ne 8, 3) := by decide +kernel
theorem dX8_readAll_24 : decode cX8_readAll 24 = .ok (.aload_n 0, 1) := by decide +kernel
theorem dX8_readAll_25 : decode cX8_readAll 25 = .ok (.getfield 97, 3) := by decide +kernel
theorem dX8_readAll_28 : decode cX8_readAll 28 = .ok (.ireturn, 1) := by decide +kernel
theorem dX8_readAll_29 : decode cX8_readAll 29 = .ok (.aload_n 0, 1) := by decide +kernel
theorem dX8_readAll_30 : decode cX8_readAll 30 = .ok (.invokevirtual 175, 3) := by decide +kernel
theorem dX8_readAll_33 : decode cX8_readAll 33 = .ok (.aload_n 0, 1) := by decide +kernel
theorem dX8_readAll_34 : decode cX8_readAll 34 = .ok (.iconst 3, 1) := by decide +kernel
theorem dX8_readAll_35 : decode cX8_readAll 35 = .ok (.iload_n 1, 1) := by decide +kernel
theorem dX8_readAll_36 : decode cX8_readAll 36 = .ok (.imul, 1) := by decide +kernel
theorem dX8_readAll_37 : decode cX8_readAll 37 = .ok (.iload_n 2, 1) := by decide +kernel
theorem dX8_readAll_38 : decode cX8_readAll 38 = .ok (.iadd, 1) := by decide +kernel
theorem dX8_readAll_39 : decode cX8_readAll 39 = .ok (.invokevirtual 178, 3) := by decide +kernel
theorem dX8_readAll_42 : decode cX8_readAll 42 = .ok (.ifCond .ne 8, 3) := by decide +kernel
theorem dX8_readAll_45 : decode cX8_readAll 45 = .ok (.aload_n 0, 1) := by decide +kernel
theorem dX8_readAll_46 : decode cX8_readAll 46 = .ok (.getfield 97, 3) := by decide +kernel
theorem dX8_readAll_49 : decode cX8_readAll 49 = .ok (.ireturn, 1) := by decide +kernel
theorem dX8_readAll_50 : decode cX8_readAll 50 = .ok (.iinc 2 1, 3) := by decide +kernel
theorem dX8_readAll_53 : decode cX8_readAll 53 = .ok (.goto (-46), 3) := by decide +kernel
theorem dX8_readAll_56 : decode cX8_readAll 56 = .ok (.aload_n 0, 1) := by decide +kernel
theorem dX8_readAll_57 : decode cX8_readAll 57 = .ok (.invokevirtual 175, 3) := by decide +kernel
theorem dX8_readAll_60 : decode cX8_readAll 60 = .ok (.aload_n 0, 1) := by decide +kernel
theorem dX8_readAll_61 : decode cX8_readAll 61 = .ok (.getfield 91, 3) := by decide +kernel
theorem dX8_readAll_64 : decode cX8_readAll 64 = .ok (.iconst 5, 1) := by decide +kernel
theorem dX8_readAll_65 : decode cX8_readAll 65 = .ok (.if_icmp .ne 7, 3) := by decide +kernel
theorem dX8_readAll_68 : decode cX8_readAll 68 = .ok (.iconst (-1), 1) := by decide +kernel
theorem dX8_readAll_69 : decode cX8_readAll 69 = .ok (.goto 7, 3) := by decide +kernel
theorem dX8_readAll_72 : decode cX8_readAll 72 = .ok (.aload_n 0, 1) := by decide +kernel
theorem dX8_readAll_73 : decode cX8_readAll 73 = .ok (.getfield 97, 3) := by decide +kernel
theorem dX8_readAll_76 : decode cX8_readAll 76 = .ok (.ireturn, 1) := by decide +kernel
theorem dX8_text_0 : decode cX8_text 0 = .ok (.aload_n 0, 1) := by decide +kernel
theorem dX8_text_1 : decode cX8_text 1 = .ok (.getfield 181, 3) := by decide +kernel
theorem dX8_text_4 : decode cX8_text 4 = .ok (.bipush 6, 2) := by decide +kernel
theorem dX8_text_6 : decode cX8_text 6 = .ok (.if_icmp .ne 6, 3) := by decide +kernel
theorem dX8_text_9 : decode cX8_text 9 = .ok (.bipush (-4), 2) := by decide +kernel
theorem dX8_text_11 : decode cX8_text 11 = .ok (.ireturn, 1) := by decide +kernel
theorem dX8_text_12 : decode cX8_text 12 = .ok (.aload_n 0, 1) := by decide +kernel
theorem dX8_text_13 : decode cX8_text 13 = .ok (.aload_n 0, 1) := by decide +kernel
theorem dX8_text_14 : decode cX8_text 14 = .ok (.getfield 181, 3) := by decide +kernel
theorem dX8_text_17 : decode cX8_text 17 = .ok (.invokevirtual 184, 3) := by decide +kernel
theorem dX8_text_20 : decode cX8_text 20 = .ok (.istore_n 1, 1) := by decide +kernel
theorem dX8_text_21 : decode cX8_text 21 = .ok (.aload_n 0, 1) := by decide +kernel
theorem dX8_text_22 : decode cX8_text 22 = .ok (.iconst 0, 1) := by decide +kernel
theorem dX8_text_23 : decode cX8_text 23 = .ok (.putfield 79, 3) := by decide +kernel
theorem dX8_text_26 : decode cX8_text 26 = .ok (.iload_n 1, 1) := by decide +kernel
theorem dX8_text_27 : decode cX8_text 27 = .ok (.iconst (-1), 1) := by decide +kernel
theorem dX8_text_28 : decode cX8_text 28 = .ok (.if_icmp .eq 8, 3) := by decide +kernel
theorem dX8_text_31 : decode cX8_text 31 = .ok (.bipush (-100), 2) := by decide +kernel
theorem dX8_text_33 : decode cX8_text 33 = .ok (.iload_n 1, 1) := by decide +kernel
theorem dX8_text_34 : decode cX8_text 34 = .ok (.isub, 1) := by decide +kernel
theorem dX8_text_35 : decode cX8_text 35 = .ok (.ireturn, 1) := by decide +kernel
theorem dX8_text_36 : decode cX8_text 36 = .ok (.aload_n 0, 1) := by decide +kernel
theorem dX8_text_37 : decode cX8_text 37 = .ok (.dup, 1) := by decide +kernel
theorem dX8_text_38 : decode cX8_text 38 = .ok (.getfield 181, 3) := by decide +kernel
theorem dX8_text_41 : decode cX8_text 41 = .ok (.iconst 1, 1) := by decide +kernel
theorem dX8_text_42 : decode cX8_text 42 = .ok (.iadd, 1) := by decide +kernel
theorem dX8_text_43 : decode cX8_text 43 = .ok (.putfield 181, 3) := by decide +kernel
theorem dX8_text_46 : decode cX8_text 46 = .ok (.aload_n 0, 1) := by decide +kernel
theorem dX8_text_47 : decode cX8_text 47 = .ok (.getfield 181, 3) := by decide +kernel
theorem dX8_text_50 : decode cX8_text 50 = .ok (.iconst 1, 1) := by decide +kernel
theorem dX8_text_51 : decode cX8_text 51 = .ok (.isub, 1) := by decide +kernel
theorem dX8_text_52 : decode cX8_text 52 = .ok (.ireturn, 1) := by decide +kernel
theorem dX8_force_0 : decode cX8_force 0 = .ok (.iload_n 1, 1) := by decide +kernel
theorem dX8_force_1 : decode cX8_force 1 = .ok (.iconst 0, 1) := by decide +kernel
theorem dX8_force_2 : decode cX8_force 2 = .ok (.aload_n 0, 1) := by decide +kernel
theorem dX8_force_3 : decode cX8_force 3 = .ok (.getfield 181, 3) := by decide +kernel
theorem dX8_force_6 : decode cX8_force 6 = .ok (.iconst 1, 1) := by decide +kernel
theorem dX8_force_7 : decode cX8_force 7 = .ok (.isub, 1) := by decide +kernel
theorem dX8_force_8 : decode cX8_force 8 = .ok (.invokestatic 3, 3) := by decide +kernel
theorem dX8_force_11 : decode cX8_force 11 = .ok (.ifCond .ne 6, 3) := by decide +kernel
theorem dX8_force_14 : decode cX8_force 14 = .ok (.bipush (-2), 2) := by decide +kernel
theorem dX8_force_16 : decode cX8_force 16 = .ok (.ireturn, 1) := by decide +kernel
theorem dX8_force_17 : decode cX8_force 17 = .ok (.aload_n 0, 1) := by decide +kernel
theorem dX8_force_18 : decode cX8_force 18 = .ok (.getfield 187, 3) := by decide +kernel
theorem dX8_force_21 : decode cX8_force 21 = .ok (.istore_n 2, 1) := by decide +kernel
theorem dX8_force_22 : decode cX8_force 22 = .ok (.aload_n 0, 1) := by decide +kernel
theorem dX8_force_23 : decode cX8_force 23 = .ok (.iload_n 1, 1) := by decide +kernel
theorem dX8_force_24 : decode cX8_force 24 = .ok (.putfield 187, 3) := by decide +kernel
theorem dX8_force_27 : decode cX8_force 27 = .ok (.iload_n 2, 1) := by decide +kernel
theorem dX8_force_28 : decode cX8_force 28 = .ok (.ireturn, 1) := by decide +kernel
theorem dX8_init_0 : decode cX8_init 0 = .ok (.aload_n 0, 1) := by decide +kernel
theorem dX8_init_1 : decode cX8_init 1 = .ok (.invokespecial 190, 3) := by decide +kernel
theorem dX8_init_4 : decode cX8_init 4 = .ok (.aload_n 0, 1) := by decide +kernel
theorem dX8_init_5 : decode cX8_init 5 = .ok (.bipush 49, 2) := by decide +kernel
theorem dX8_init_7 : decode cX8_init 7 = .ok (.newarray .int, 2) := by decide +kernel
theorem dX8_init_9 : decode cX8_init 9 = .ok (.putfield 14, 3) := by decide +kernel
theorem dX8_init_12 : decode cX8_init 12 = .ok (.aload_n 0, 1) := by decide +kernel
theorem dX8_init_13 : decode cX8_init 13 = .ok (.iconst 4, 1) := by decide +kernel
theorem dX8_init_14 : decode cX8_init 14 = .ok (.newarray .int, 2) := by decide +kernel
theorem dX8_init_16 : decode cX8_init 16 = .ok (.putfield 26, 3) := by decide +kernel
theorem dX8_init_19 : decode cX8_init 19 = .ok (.aload_n 0, 1) := by decide +kernel
theorem dX8_init_20 : decode cX8_init 20 = .ok (.iconst 4, 1) := by decide +kernel
theorem dX8_init_21 : decode cX8_init 21 = .ok (.newarray .int, 2) := by decide +kernel
theorem dX8_init_23 : decode cX8_init 23 = .ok (.putfield 29, 3) := by decide +kernel
theorem dX8_init_26 : decode cX8_init 26 = .ok (.aload_n 0, 1) := by decide +kernel
theorem dX8_init_27 : decode cX8_init 27 = .ok (.bipush 8, 2) := by decide +kernel
theorem dX8_init_29 : decode cX8_init 29 = .ok (.newarray .int, 2) := by decide +kernel
theorem dX8_init_31 : decode cX8_init 31 = .ok (.putfield 35, 3) := by decide +kernel
theorem dX8_init_34 : decode cX8_init 34 = .ok (.aload_n 0, 1) := by decide +kernel
theorem dX8_init_35 : decode cX8_init 35 = .ok (.bipush 8, 2) := by decide +kernel
theorem dX8_init_37 : decode cX8_init 37 = .ok (.newarray .int, 2) := by decide +kernel
theorem dX8_init_39 : decode cX8_init 39 = .ok (.putfield 38, 3) := by decide +kernel
theorem dX8_init_42 : decode cX8_init 42 = .ok (.aload_n 0, 1) := by decide +kernel
theorem dX8_init_43 : decode cX8_init 43 = .ok (.bipush 8, 2) := by decide +kernel
theorem dX8_init_45 : decode cX8_init 45 = .ok (.newarray .int, 2) := by decide +kernel
theorem dX8_init_47 : decode cX8_init 47 = .ok (.putfield 41, 3) := by decide +kernel
theorem dX8_init_50 : decode cX8_init 50 = .ok (.aload_n 0, 1) := by decide +kernel
theorem dX8_init_51 : decode cX8_init 51 = .ok (.bipush 8, 2) := by decide +kernel
theorem dX8_init_53 : decode cX8_init 53 = .ok (.newarray .int, 2) := by decide +kernel
theorem dX8_init_55 : decode cX8_init 55 = .ok (.putfield 44, 3) := by decide +kernel
theorem dX8_init_58 : decode cX8_init 58 = .ok (.aload_n 0, 1) := by decide +kernel
theorem dX8_init_59 : decode cX8_init 59 = .ok (.bipush 8, 2) := by decide +kernel
theorem dX8_init_61 : decode cX8_init 61 = .ok (.newarray .int, 2) := by decide +kernel
theorem dX8_init_63 : decode cX8_init 63 = .ok (.putfield 47, 3) := by decide +kernel
theorem dX8_init_66 : decode cX8_init 66 = .ok (.aload_n 0, 1) := by decide +kernel
theorem dX8_init_67 : decode cX8_init 67 = .ok (.bipush 8, 2) := by decide +kernel
theorem dX8_init_69 : decode cX8_init 69 = .ok (.newarray .int, 2) := by decide +kernel
theorem dX8_init_71 : decode cX8_init 71 = .ok (.putfield 50, 3) := by decide +kernel
theorem dX8_init_74 : decode cX8_init 74 = .ok (.aload_n 0, 1) := by decide +kernel
theorem dX8_init_75 : decode cX8_init 75 = .ok (.sipush 160, 3) := by decide +kernel
theorem dX8_init_78 : decode cX8_init 78 = .ok (.newarray .int, 2) := by decide +kernel
theorem dX8_init_80 : decode cX8_init 80 = .ok (.putfield 82, 3) := by decide +kernel
theorem dX8_init_83 : decode cX8_init 83 = .ok (.aload_n 0, 1) := by decide +kernel
theorem dX8_init_84 : decode cX8_init 84 = .ok (.sipush 2880, 3) := by decide +kernel
theorem dX8_init_87 : decode cX8_init 87 = .ok (.newarray .int, 2) := by decide +kernel
theorem dX8_init_89 : decode cX8_init 89 = .ok (.putfield 117, 3) := by decide +kernel
theorem dX8_init_92 : decode cX8_init 92 = .ok (.aload_n 0, 1) := by decide +kernel
theorem dX8_init_93 : decode cX8_init 93 = .ok (.bipush 18, 2) := by decide +kernel
theorem dX8_init_95 : decode cX8_init 95 = .ok (.newarray .int, 2) := by decide +kernel
theorem dX8_init_97 : decode cX8_init 97 = .ok (.putfield 165, 3) := by decide +kernel
theorem dX8_init_100 : decode cX8_init 100 = .ok (.aload_n 0, 1) := by decide +kernel
theorem dX8_init_101 : decode cX8_init 101 = .ok (.bipush 41, 2) := by decide +kernel
theorem dX8_init_103 : decode cX8_init 103 = .ok (.newarray .char, 2) := by decide +kernel
theorem dX8_init_105 : decode cX8_init 105 = .ok (.dup, 1) := by decide +kernel
theorem dX8_init_106 : decode cX8_init 106 = .ok (.iconst 0, 1) := by decide +kernel
theorem dX8_init_107 : decode cX8_init 107 = .ok (.bipush 116, 2) := by decide +kernel
theorem dX8_init_109 : decode cX8_init 109 = .ok (.castore, 1) := by decide +kernel
theorem dX8_init_110 : decode cX8_init 110 = .ok (.dup, 1) := by decide +kernel
theorem dX8_init_111 : decode cX8_init 111 = .ok (.iconst 1, 1) := by decide +kernel
theorem dX8_init_112 : decode cX8_init 112 = .ok (.bipush 111, 2) := by decide +kernel
theorem dX8_init_114 : decode cX8_init 114 = .ok (.castore, 1) := by decide +kernel
theorem dX8_init_115 : decode cX8_init 115 = .ok (.dup, 1) := by decide +kernel
theorem dX8_init_116 : decode cX8_init 116 = .ok (.iconst 2, 1) := by decide +kernel
theorem dX8_init_117 : decode cX8_init 117 = .ok (.bipush 108, 2) := by decide +kernel
theorem dX8_init_119 : decode cX8_init 119 = .ok (.castore, 1) := by decide +kernel
theorem dX8_init_120 : decode cX8_init 120 = .ok (.dup, 1) := by decide +kernel
theorem dX8_init_121 : decode cX8_init 121 = .ok (.iconst 3, 1) := by decide +kernel
theorem dX8_init_122 : decode cX8_init 122 = .ok (.bipush 100, 2) := by decide +kernel
theorem dX8_init_124 : decode cX8_init 124 = .ok (.castore, 1) := by decide +kernel
theorem dX8_init_125 : decode cX8_init 125 = .ok (.dup, 1) := by decide +kernel
theorem dX8_init_126 : decode cX8_init 126 = .ok (.iconst 4, 1) := by decide +kernel
theorem dX8_init_127 : decode cX8_init 127 = .ok (.bipush 109, 2) := by decide +kernel
theorem dX8_init_129 : decode cX8_init 129 = .ok (.castore, 1) := by decide +kernel
theorem dX8_init_130 : decode cX8_init 130 = .ok (.dup, 1) := by decide +kernel
theorem dX8_init_131 : decode cX8_init 131 = .ok (.iconst 5, 1) := by decide +kernel
theorem dX8_init_132 : decode cX8_init 132 = .ok (.bipush 111, 2) := by decide +kernel
theorem dX8_init_134 : decode cX8_init 134 = .ok (.castore, 1) := by decide +kernel
theorem dX8_init_135 : decode cX8_init 135 = .ok (.dup, 1) := by decide +kernel
theorem dX8_init_136 : decode cX8_init 136 = .ok (.bipush 6, 2) := by decide +kernel
theorem dX8_init_138 : decode cX8_init 138 = .ok (.bipush 114, 2) := by decide +kernel
theorem dX8_init_140 : decode cX8_init 140 = .ok (.castore, 1) := by decide +kernel
theorem dX8_init_141 : decode cX8_init 141 = .ok (.dup, 1) := by decide +kernel
theorem dX8_init_142 : decode cX8_init 142 = .ok (.bipush 7, 2) := by decide +kernel
theorem dX8_init_144 : decode cX8_init 144 = .ok (.bipush 101, 2) := by decide +kernel
theorem dX8_init_146 : decode cX8_init 146 = .ok (.castore, 1) := by decide +kernel
theorem dX8_init_147 : decode cX8_init 147 = .ok (.dup, 1) := by decide +kernel
theorem dX8_init_148 : decode cX8_init 148 = .ok (.bipush 8, 2) := by decide +kernel
theorem dX8_init_150 : decode cX8_init 150 = .ok (.bipush 102, 2) := by decide +kernel
theorem dX8_init_152 : decode cX8_init 152 = .ok (.castore, 1) := by decide +kernel
theorem dX8_init_153 : decode cX8_init 153 = .ok (.dup, 1) := by decide +kernel
theorem dX8_init_154 : decode cX8_init 154 = .ok (.bipush 9, 2) := by decide +kernel
theorem dX8_init_156 : decode cX8_init 156 = .ok (.bipush 114, 2) := by decide +kernel
theorem dX8_init_158 : decode cX8_init 158 = .ok (.castore, 1) := by decide +kernel
theorem dX8_init_159 : decode cX8_init 159 = .ok (.dup, 1) := by decide +kernel
theorem dX8_init_160 : decode cX8_init 160 = .ok (.bipush 10, 2) := by decide +kernel
theorem dX8_init_162 : decode cX8_init 162 = .ok (.bipush 111, 2) := by decide +kernel
theorem dX8_init_164 : decode cX8_init 164 = .ok (.castore, 1) := by decide +kernel
theorem dX8_init_165 : decode cX8_init 165 = .ok (.dup, 1) := by decide +kernel
theorem dX8_init_166 : decode cX8_init 166 = .ok (.bipush 11, 2) := by decide +kernel
theorem dX8_init_168 : decode cX8_init 168 = .ok (.bipush 109, 2) := by decide +kernel
theorem dX8_init_170 : decode cX8_init 170 = .ok (.castore, 1) := by decide +kernel
theorem dX8_init_171 : decode cX8_init 171 = .ok (.dup, 1) := by decide +kernel
theorem dX8_init_172 : decode cX8_init 172 = .ok (.bipush 12, 2) := by decide +kernel
theorem dX8_init_174 : decode cX8_init 174 = .ok (.bipush 116, 2) := by decide +kernel
theorem dX8_init_176 : decode cX8_init 176 = .ok (.castore, 1) := by decide +kernel
theorem dX8_init_177 : decode cX8_init 177 = .ok (.dup, 1) := by decide +kernel
theorem dX8_init_178 : decode cX8_init 178 = .ok (.bipush 13, 2) := by decide +kernel
theorem dX8_init_180 : decode cX8_init 180 = .ok (.bipush 111, 2) := by decide +kernel
theorem dX8_init_182 : decode cX8_init 182 = .ok (.castore, 1) := by decide +kernel
theorem dX8_init_183 : decode cX8_init 183 = .ok (.dup, 1) := by decide +kernel
theorem dX8_init_184 : decode cX8_init 184 = .ok (.bipush 14, 2) := by decide +kernel
theorem dX8_init_186 : decode cX8_init 186 = .ok (.bipush 114, 2) := by decide +kernel
theorem dX8_init_188 : decode cX8_init 188 = .ok (.castore, 1) := by decide +kernel
theorem dX8_init_189 : decode cX8_init 189 = .ok (.dup, 1) := by decide +kernel
theorem dX8_init_190 : decode cX8_init 190 = .ok (.bipush 15, 2) := by decide +kernel
theorem dX8_init_192 : decode cX8_init 192 = .ok (.bipush 101, 2) := by decide +kernel
theorem dX8_init_194 : decode cX8_init 194 = .ok (.castore, 1) := by decide +kernel
theorem dX8_init_195 : decode cX8_init 195 = .ok (.dup, 1) := by decide +kernel
theorem dX8_init_196 : decode cX8_init 196 = .ok (.bipush 16, 2) := by decide +kernel
theorem dX8_init_198 : decode cX8_init 198 = .ok (.bipush 97, 2) := by decide +kernel
theorem dX8_init_200 : decode cX8_init 200 = .ok (.castore, 1) := by decide +kernel
theorem dX8_init_201 : decode cX8_init 201 = .ok (.dup, 1) := by decide +kernel
theorem dX8_init_202 : decode cX8_init 202 = .ok (.bipush 17, 2) := by decide +kernel
theorem dX8_init_204 : decode cX8_init 204 = .ok (.bipush 100, 2) := by decide +kernel
theorem dX8_init_206 : decode cX8_init 206 = .ok (.castore, 1) := by decide +kernel
theorem dX8_init_207 : decode cX8_init 207 = .ok (.dup, 1) := by decide +kernel
theorem dX8_init_208 : decode cX8_init 208 = .ok (.bipush 18, 2) := by decide +kernel
theorem dX8_init_210 : decode cX8_init 210 = .ok (.bipush 121, 2) := by decide +kernel
theorem dX8_init_212 : decode cX8_init 212 = .ok (.castore, 1) := by decide +kernel
theorem dX8_init_213 : decode cX8_init 213 = .ok (.dup, 1) := by decide +kernel
theorem dX8_init_214 : decode cX8_init 214 = .ok (.bipush 19, 2) := by decide +kernel
theorem dX8_init_216 : decode cX8_init 216 = .ok (.bipush 102, 2) := by decide +kernel
theorem dX8_init_218 : decode cX8_init 218 = .ok (.castore, 1) := by decide +kernel
theorem dX8_init_219 : decode cX8_init 219 = .ok (.dup, 1) := by decide +kernel
theorem dX8_init_220 : decode cX8_init 220 = .ok (.bipush 20, 2) := by decide +kernel
theorem dX8_init_222 : decode cX8_init 222 = .ok (.bipush 97, 2) := by decide +kernel
theorem dX8_init_224 : decode cX8_init 224 = .ok (.castore, 1) := by decide +kernel
theorem dX8_init_225 : decode cX8_init 225 = .ok (.dup, 1) := by decide +kernel
theorem dX8_init_226 : decode cX8_init 226 = .ok (.bipush 21, 2) := by decide +kernel
theorem dX8_init_228 : decode cX8_init 228 = .ok (.bipush 114, 2) := by decide +kernel
theorem dX8_init_230 : decode cX8_init 230 = .ok (.castore, 1) := by decide +kernel
theorem dX8_init_231 : decode cX8_init 231 = .ok (.dup, 1) := by decide +kernel
theorem dX8_init_232 : decode cX8_init 232 = .ok (.bipush 22, 2) := by decide +kernel
theorem dX8_init_234 : decode cX8_init 234 = .ok (.bipush 111, 2) := by decide +kernel
theorem dX8_init_236 : decode cX8_init 236 = .ok (.castore, 1) := by decide +kernel
theorem dX8_init_237 : decode cX8_init 237 = .ok (.dup, 1) := by decide +kernel
theorem dX8_init_238 : decode cX8_init 238 = .ok (.bipush 23, 2) := by decide +kernel
theorem dX8_init_240 : decode cX8_init 240 = .ok (.bipush 117, 2) := by decide +kernel
theorem dX8_init_242 : decode cX8_init 242 = .ok (.castore, 1) := by decide +kernel
theorem dX8_init_243 : decode cX8_init 243 = .ok (.dup, 1) := by decide +kernel
theorem dX8_init_244 : decode cX8_init 244 = .ok (.bipush 24, 2) := by decide +kernel
theorem dX8_init_246 : decode cX8_init 246 = .ok (.bipush 116, 2) := by decide +kernel
theorem dX8_init_248 : decode cX8_init 248 = .ok (.castore, 1) := by decide +kernel
theorem dX8_init_249 : decode cX8_init 249 = .ok (.dup, 1) := by decide +kernel
theorem dX8_init_250 : decode cX8_init 250 = .ok (.bipush 25, 2) := by decide +kernel
theorem dX8_init_252 : decode cX8_init 252 = .ok (.bipush 104, 2) := by decide +kernel
theorem dX8_init_254 : decode cX8_init 254 = .ok (.castore, 1) := by decide +kernel
theorem dX8_init_255 : decode cX8_init 255 = .ok (.dup, 1) := by decide +kernel
theorem dX8_init_256 : decode cX8_init 256 = .ok (.bipush 26, 2) := by decide +kernel
theorem dX8_init_258 : decode cX8_init 258 = .ok (.bipush 111, 2) := by decide +kernel
theorem dX8_init_260 : decode cX8_init 260 = .ok (.castore, 1) := by decide +kernel
theorem dX8_init_261 : decode cX8_init 261 = .ok (.dup, 1) := by decide +kernel
theorem dX8_init_262 : decode cX8_init 262 = .ok (.bipush 27, 2) := by decide +kernel
theorem dX8_init_264 : decode cX8_init 264 = .ok (.bipush 109, 2) := by decide +kernel
theorem dX8_init_266 : decode cX8_init 266 = .ok (.castore, 1) := by decide +kernel
theorem dX8_init_267 : decode cX8_init 267 = .ok (.dup, 1) := by decide +kernel
theorem dX8_init_268 : decode cX8_init 268 = .ok (.bipush 28, 2) := by decide +kernel
theorem dX8_init_270 : decode cX8_init 270 = .ok (.bipush 101, 2) := by decide +kernel
theorem dX8_init_272 : decode cX8_init 272 = .ok (.castore, 1) := by decide +kernel
theorem dX8_init_273 : decode cX8_init 273 = .ok (.dup, 1) := by decide +kernel
theorem dX8_init_274 : decode cX8_init 274 = .ok (.bipush 29, 2) := by decide +kernel
theorem dX8_init_276 : decode cX8_init 276 = .ok (.bipush 100, 2) := by decide +kernel
theorem dX8_init_278 : decode cX8_init 278 = .ok (.castore, 1) := by decide +kernel
theorem dX8_init_279 : decode cX8_init 279 = .ok (.dup, 1) := by decide +kernel
theorem dX8_init_280 : decode cX8_init 280 = .ok (.bipush 30, 2) := by decide +kernel
theorem dX8_init_282 : decode cX8_init 282 = .ok (.bipush 105, 2) := by decide +kernel
theorem dX8_init_284 : decode cX8_init 284 = .ok (.castore, 1) := by decide +kernel
theorem dX8_init_285 : decode cX8_init 285 = .ok (.dup, 1) := by decide +kernel
theorem dX8_init_286 : decode cX8_init 286 = .ok (.bipush 31, 2) := by decide +kernel
theorem dX8_init_288 : decode cX8_init 288 = .ok (.bipush 101, 2) := by decide +kernel
theorem dX8_init_290 : decode cX8_init 290 = .ok (.castore, 1) := by decide +kernel
theorem dX8_init_291 : decode cX8_init 291 = .ok (.dup, 1) := by decide +kernel
theorem dX8_init_292 : decode cX8_init 292 = .ok (.bipush 32, 2) := by decide +kernel
theorem dX8_init_294 : decode cX8_init 294 = .ok (.bipush 115, 2) := by decide +kernel
theorem dX8_init_296 : decode cX8_init 296 = .ok (.castore, 1) := by decide +kernel
theorem dX8_init_297 : decode cX8_init 297 = .ok (.dup, 1) := by decide +kernel
theorem dX8_init_298 : decode cX8_init 298 = .ok (.bipush 33, 2) := by decide +kernel
theorem dX8_init_300 : decode cX8_init 300 = .ok (.bipush 111, 2) := by decide +kernel
theorem dX8_init_302 : decode cX8_init 302 = .ok (.castore, 1) := by decide +kernel
theorem dX8_init_303 : decode cX8_init 303 = .ok (.dup, 1) := by decide +kernel
theorem dX8_init_304 : decode cX8_init 304 = .ok (.bipush 34, 2) := by decide +kernel
theorem dX8_init_306 : decode cX8_init 306 = .ok (.bipush 114, 2) := by decide +kernel
theorem dX8_init_308 : decode cX8_init 308 = .ok (.castore, 1) := by decide +kernel
theorem dX8_init_309 : decode cX8_init 309 = .ok (.dup, 1) := by decide +kernel
theorem dX8_init_310 : decode cX8_init 310 = .ok (.bipush 35, 2) := by decide +kernel
theorem dX8_init_312 : decode cX8_init 312 = .ok (.bipush 97, 2) := by decide +kernel
theorem dX8_init_314 : decode cX8_init 314 = .ok (.castore, 1) := by decide +kernel
theorem dX8_init_315 : decode cX8_init 315 = .ok (.dup, 1) := by decide +kernel
theorem dX8_init_316 : decode cX8_init 316 = .ok (.bipush 36, 2) := by decide +kernel
theorem dX8_init_318 : decode cX8_init 318 = .ok (.bipush 110, 2) := by decide +kernel
theorem dX8_init_320 : decode cX8_init 320 = .ok (.castore, 1) := by decide +kernel
theorem dX8_init_321 : decode cX8_init 321 = .ok (.dup, 1) := by decide +kernel
theorem dX8_init_322 : decode cX8_init 322 = .ok (.bipush 37, 2) := by decide +kernel
theorem dX8_init_324 : decode cX8_init 324 = .ok (.bipush 100, 2) := by decide +kernel
theorem dX8_init_326 : decode cX8_init 326 = .ok (.castore, 1) := by decide +kernel
theorem dX8_init_327 : decode cX8_init 327 = .ok (.dup, 1) := by decide +kernel
theorem dX8_init_328 : decode cX8_init 328 = .ok (.bipush 38, 2) := by decide +kernel
theorem dX8_init_330 : decode cX8_init 330 = .ok (.bipush 110, 2) := by decide +kernel
theorem dX8_init_332 : decode cX8_init 332 = .ok (.castore, 1) := by decide +kernel
theorem dX8_init_333 : decode cX8_init 333 = .ok (.dup, 1) := by decide +kernel
theorem dX8_init_334 : decode cX8_init 334 = .ok (.bipush 39, 2) := by decide +kernel
theorem dX8_init_336 : decode cX8_init 336 = .ok (.bipush 111, 2) := by decide +kernel
theorem dX8_init_338 : decode cX8_init 338 = .ok (.castore, 1) := by decide +kernel
theorem dX8_init_339 : decode cX8_init 339 = .ok (.dup, 1) := by decide +kernel
theorem dX8_init_340 : decode cX8_init 340 = .ok (.bipush 40, 2) := by decide +kernel
theorem dX8_init_342 : decode cX8_init 342 = .ok (.bipush 116, 2) := by decide +kernel
theorem dX8_init_344 : decode cX8_init 344 = .ok (.castore, 1) := by decide +kernel
theorem dX8_init_345 : decode cX8_init 345 = .ok (.putfield 100, 3) := by decide +kernel
theorem dX8_init_348 : decode cX8_init 348 = .ok (.aload_n 0, 1) := by decide +kernel
theorem dX8_init_349 : decode cX8_init 349 = .ok (.bipush 13, 2) := by decide +kernel
theorem dX8_init_351 : decode cX8_init 351 = .ok (.newarray .int, 2) := by decide +kernel
theorem dX8_init_353 : decode cX8_init 353 = .ok (.dup, 1) := by decide +kernel
theorem dX8_init_354 : decode cX8_init 354 = .ok (.iconst 0, 1) := by decide +kernel
theorem dX8_init_355 : decode cX8_init 355 = .ok (.iconst 0, 1) := by decide +kernel
theorem dX8_init_356 : decode cX8_init 356 = .ok (.iastore, 1) := by decide +kernel
theorem dX8_init_357 : decode cX8_init 357 = .ok (.dup, 1) := by decide +kernel
theorem dX8_init_358 : decode cX8_init 358 = .ok (.iconst 1, 1) := by decide +kernel
theorem dX8_init_359 : decode cX8_init 359 = .ok (.iconst 4, 1) := by decide +kernel
theorem dX8_init_360 : decode cX8_init 360 = .ok (.iastore, 1) := by decide +kernel
theorem dX8_init_361 : decode cX8_init 361 = .ok (.dup, 1) := by decide +kernel
theorem dX8_init_362 : decode cX8_init 362 = .ok (.iconst 2, 1) := by decide +kernel
theorem dX8_init_363 : decode cX8_init 363 = .ok (.bipush 8, 2) := by decide +kernel
theorem dX8_init_365 : decode cX8_init 365 = .ok (.iastore, 1) := by decide +kernel
theorem dX8_init_366 : decode cX8_init 366 = .ok (.dup, 1) := by decide +kernel
theorem dX8_init_367 : decode cX8_init 367 = .ok (.iconst 3, 1) := by decide +kernel
theorem dX8_init_368 : decode cX8_init 368 = .ok (.bipush 12, 2) := by decide +kernel
theorem dX8_init_370 : decode cX8_init 370 = .ok (.iastore, 1) := by decide +kernel
theorem dX8_init_371 : decode cX8_init 371 = .ok (.dup, 1) := by decide +kernel
theorem dX8_init_372 : decode cX8_init 372 = .ok (.iconst 4, 1) := by decide +kernel
theorem dX8_init_373 : decode cX8_init 373 = .ok (.bipush 14, 2) := by decide +kernel
theorem dX8_init_375 : decode cX8_init 375 = .ok (.iastore, 1) := by decide +kernel
theorem dX8_init_376 : decode cX8_init 376 = .ok (.dup, 1) := by decide +kernel
theorem dX8_init_377 : decode cX8_init 377 = .ok (.iconst 5, 1) := by decide +kernel
theorem dX8_init_378 : decode cX8_init 378 = .ok (.bipush 19, 2) := by decide +kernel
theorem dX8_init_380 : decode cX8_init 380 = .ok (.iastore, 1) := by decide +kernel
theorem dX8_init_381 : decode cX8_init 381 = .ok (.dup, 1) := by decide +kernel
theorem dX8_init_382 : decode cX8_init 382 = .ok (.bipush 6, 2) := by decide +kernel
theorem dX8_init_384 : decode cX8_init 384 = .ok (.bipush 22, 2) := by decide +kernel
theorem dX8_init_386 : decode cX8_init 386 = .ok (.iastore, 1) := by decide +kernel
theorem dX8_init_387 : decode cX8_init 387 = .ok (.dup, 1) := by decide +kernel
theorem dX8_init_388 : decode cX8_init 388 = .ok (.bipush 7, 2) := by decide +kernel
theorem dX8_init_390 : decode cX8_init 390 = .ok (.bipush 25, 2) := by decide +kernel
theorem dX8_init_392 : decode cX8_init 392 = .ok (.iastore, 1) := by decide +kernel
theorem dX8_init_393 : decode cX8_init 393 = .ok (.dup, 1) := by decide +kernel
theorem dX8_init_394 : decode cX8_init 394 = .ok (.bipush 8, 2) := by decide +kernel
theorem dX8_init_396 : decode cX8_init 396 = .ok (.bipush 29, 2) := by decide +kernel
theorem dX8_init_398 : decode cX8_init 398 = .ok (.iastore, 1) := by decide +kernel
theorem dX8_init_399 : decode cX8_init 399 = .ok (.dup, 1) := by decide +kernel
theorem dX8_init_400 : decode cX8_init 400 = .ok (.bipush 9, 2) := by decide +kernel
theorem dX8_init_402 : decode cX8_init 402 = .ok (.bipush 33, 2) := by decide +kernel
theorem dX8_init_404 : decode cX8_init 404 = .ok (.iastore, 1) := by decide +kernel
theorem dX8_init_405 : decode cX8_init 405 = .ok (.dup, 1) := by decide +kernel
theorem dX8_init_406 : decode cX8_init 406 = .ok (.bipush 10, 2) := by decide +kernel
theorem dX8_init_408 : decode cX8_init 408 = .ok (.bipush 35, 2) := by decide +kernel
theorem dX8_init_410 : decode cX8_init 410 = .ok (.iastore, 1) := by decide +kernel
theorem dX8_init_411 : decode cX8_init 411 = .ok (.dup, 1) := by decide +kernel
theorem dX8_init_412 : decode cX8_init 412 = .ok (.bipush 11, 2) := by decide +kernel
theorem dX8_init_414 : decode cX8_init 414 = .ok (.bipush 38, 2) := by decide +kernel
theorem dX8_init_416 : decode cX8_init 416 = .ok (.iastore, 1) := by decide +kernel
theorem dX8_init_417 : decode cX8_init 417 = .ok (.dup, 1) := by decide +kernel
theorem dX8_init_418 : decode cX8_init 418 = .ok (.bipush 12, 2) := by decide +kernel
theorem dX8_init_420 : decode cX8_init 420 = .ok (.bipush 41, 2) := by decide +kernel
theorem dX8_init_422 : decode cX8_init 422 = .ok (.iastore, 1) := by decide +kernel
theorem dX8_init_423 : decode cX8_init 423 = .ok (.putfield 94, 3) := by decide +kernel
theorem dX8_init_426 : decode cX8_init 426 = .ok (.aload_n 0, 1) := by decide +kernel
theorem dX8_init_427 : decode cX8_init 427 = .ok (.sipush 170, 3) := by decide +kernel
theorem dX8_init_430 : decode cX8_init 430 = .ok (.newarray .int, 2) := by decide +kernel
theorem dX8_init_432 : decode cX8_init 432 = .ok (.putfield 129, 3) := by decide +kernel
theorem dX8_init_435 : decode cX8_init 435 = .ok (.aload_n 0, 1) := by decide +kernel
theorem dX8_init_436 : decode cX8_init 436 = .ok (.bipush 8, 2) := by decide +kernel
theorem dX8_init_438 : decode cX8_init 438 = .ok (.newarray .boolean, 2) := by decide +kernel
theorem dX8_init_440 : decode cX8_init 440 = .ok (.putfield 148, 3) := by decide +kernel
theorem dX8_init_443 : decode cX8_init 443 = .ok (.aload_n 0, 1) := by decide +kernel
theorem dX8_init_444 : decode cX8_init 444 = .ok (.sipush 170, 3) := by decide +kernel
theorem dX8_init_447 : decode cX8_init 447 = .ok (.newarray .int, 2) := by decide +kernel
theorem dX8_init_449 : decode cX8_init 449 = .ok (.putfield 195, 3) := by decide +kernel
theorem dX8_init_452 : decode cX8_init 452 = .ok (.aload_n 0, 1) := by decide +kernel
theorem dX8_init_453 : decode cX8_init 453 = .ok (.bipush 6, 2) := by decide +kernel
theorem dX8_init_455 : decode cX8_init 455 = .ok (.newarray .int, 2) := by decide +kernel
theorem dX8_init_457 : decode cX8_init 457 = .ok (.putfield 198, 3) := by decide +kernel
theorem dX8_init_460 : decode cX8_init 460 = .ok (.aload_n 0, 1) := by decide +kernel
theorem dX8_init_461 : decode cX8_init 461 = .ok (.bipush 7, 2) := by decide +kernel
theorem dX8_init_463 : decode cX8_init 463 = .ok (.newarray .int, 2) := by decide +kernel
theorem dX8_init_465 : decode cX8_init 465 = .ok (.putfield 201, 3) := by decide +kernel
theorem dX8_init_468 : decode cX8_init 468 = .ok (.aload_n 0, 1) := by decide +kernel
theorem dX8_init_469 : decode cX8_init 469 = .ok (.bipush 7, 2) := by decide +kernel
theorem dX8_init_471 : decode cX8_init 471 = .ok (.newarray .int, 2) := by decide +kernel
theorem dX8_init_473 : decode cX8_init 473 = .ok (.putfield 204, 3) := by decide +kernel
theorem dX8_init_476 : decode cX8_init 476 = .ok (.aload_n 0, 1) := by decide +kernel
theorem dX8_init_477 : decode cX8_init 477 = .ok (.bipush 7, 2) := by decide +kernel
theorem dX8_init_479 : decode cX8_init 479 = .ok (.newarray .int, 2) := by decide +kernel
theorem dX8_init_481 : decode cX8_init 481 = .ok (.putfield 207, 3) := by decide +kernel
theorem dX8_init_484 : decode cX8_init 484 = .ok (.aload_n 0, 1) := by decide +kernel
theorem dX8_init_485 : decode cX8_init 485 = .ok (.bipush 7, 2) := by decide +kernel
theorem dX8_init_487 : decode cX8_init 487 = .ok (.newarray .boolean, 2) := by decide +kernel
theorem dX8_init_489 : decode cX8_init 489 = .ok (.putfield 210, 3) := by decide +kernel
theorem dX8_init_492 : decode cX8_init 492 = .ok (.aload_n 0, 1) := by decide +kernel
theorem dX8_init_493 : decode cX8_init 493 = .ok (.bipush 8, 2) := by decide +kernel
theorem dX8_init_495 : decode cX8_init 495 = .ok (.newarray .int, 2) := by decide +kernel
theorem dX8_init_497 : decode cX8_init 497 = .ok (.putfield 213, 3) := by decide +kernel
theorem dX8_init_500 : decode cX8_init 500 = .ok (.aload_n 0, 1) := by decide +kernel
theorem dX8_init_501 : decode cX8_init 501 = .ok (.bipush 7, 2) := by decide +kernel
theorem dX8_init_503 : decode cX8_init 503 = .ok (.newarray .int, 2) := by decide +kernel
theorem dX8_init_505 : decode cX8_init 505 = .ok (.putfield 216, 3) := by decide +kernel
theorem dX8_init_508 : decode cX8_init 508 = .ok (.aload_n 0, 1) := by decide +kernel
theorem dX8_init_509 : decode cX8_init 509 = .ok (.bipush 49, 2) := by decide +kernel
theorem dX8_init_511 : decode cX8_init 511 = .ok (.newarray .int, 2) := by decide +kernel
theorem dX8_init_513 : decode cX8_init 513 = .ok (.putfield 219, 3) := by decide +kernel
theorem dX8_init_516 : decode cX8_init 516 = .ok (.aload_n 0, 1) := by decide +kernel
theorem dX8_init_517 : decode cX8_init 517 = .ok (.bipush 8, 2) := by decide +kernel
theorem dX8_init_519 : decode cX8_init 519 = .ok (.newarray .int, 2) := by decide +kernel
theorem dX8_init_521 : decode cX8_init 521 = .ok (.putfield 222, 3) := by decide +kernel
theorem dX8_init_524 : decode cX8_init 524 = .ok (.aload_n 0, 1) := by decide +kernel
theorem dX8_init_525 : decode cX8_init 525 = .ok (.iconst 4, 1) := by decide +kernel
theorem dX8_init_526 : decode cX8_init 526 = .ok (.newarray .int, 2) := by decide +kernel
theorem dX8_init_528 : decode cX8_init 528 = .ok (.dup, 1) := by decide +kernel
theorem dX8_init_529 : decode cX8_init 529 = .ok (.iconst 0, 1) := by decide +kernel
theorem dX8_init_530 : decode cX8_init 530 = .ok (.iconst (-1), 1) := by decide +kernel
theorem dX8_init_531 : decode cX8_init 531 = .ok (.iastore, 1) := by decide +kernel
theorem dX8_init_532 : decode cX8_init 532 = .ok (.dup, 1) := by decide +kernel
theorem dX8_init_533 : decode cX8_init 533 = .ok (.iconst 1, 1) := by decide +kernel
theorem dX8_init_534 : decode cX8_init 534 = .ok (.iconst (-1), 1) := by decide +kernel
theorem dX8_init_535 : decode cX8_init 535 = .ok (.iastore, 1) := by decide +kernel
theorem dX8_init_536 : decode cX8_init 536 = .ok (.dup, 1) := by decide +kernel
theorem dX8_init_537 : decode cX8_init 537 = .ok (.iconst 2, 1) := by decide +kernel
theorem dX8_init_538 : decode cX8_init 538 = .ok (.iconst (-1), 1) := by decide +kernel
theorem dX8_init_539 : decode cX8_init 539 = .ok (.iastore, 1) := by decide +kernel
theorem dX8_init_540 : decode cX8_init 540 = .ok (.dup, 1) := by decide +kernel
theorem dX8_init_541 : decode cX8_init 541 = .ok (.iconst 3, 1) := by decide +kernel
theorem dX8_init_542 : decode cX8_init 542 = .ok (.iconst (-1), 1) := by decide +kernel
theorem dX8_init_543 : decode cX8_init 543 = .ok (.iastore, 1) := by decide +kernel
theorem dX8_init_544 : decode cX8_init 544 = .ok (.putfield 225, 3) := by decide +kernel
theorem dX8_init_547 : decode cX8_init 547 = .ok (.aload_n 0, 1) := by decide +kernel
theorem dX8_init_548 : decode cX8_init 548 = .ok (.iconst 4, 1) := by decide +kernel
theorem dX8_init_549 : decode cX8_init 549 = .ok (.newarray .int, 2) := by decide +kernel
theorem dX8_init_551 : decode cX8_init 551 = .ok (.putfield 228, 3) := by decide +kernel
theorem dX8_init_554 : decode cX8_init 554 = .ok (.aload_n 0, 1) := by decide +kernel
theorem dX8_init_555 : decode cX8_init 555 = .ok (.sipush 160, 3) := by decide +kernel
theorem dX8_init_558 : decode cX8_init 558 = .ok (.newarray .int, 2) := by decide +kernel
theorem dX8_init_560 : decode cX8_init 560 = .ok (.putfield 231, 3) := by decide +kernel
theorem dX8_init_563 : decode cX8_init 563 = .ok (.aload_n 0, 1) := by decide +kernel
theorem dX8_init_564 : decode cX8_init 564 = .ok (.bipush 40, 2) := by decide +kernel
theorem dX8_init_566 : decode cX8_init 566 = .ok (.newarray .int, 2) := by decide +kernel
theorem dX8_init_568 : decode cX8_init 568 = .ok (.putfield 234, 3) := by decide +kernel
theorem dX8_init_571 : decode cX8_init 571 = .ok (.aload_n 0, 1) := by decide +kernel
theorem dX8_init_572 : decode cX8_init 572 = .ok (.getfield 117, 3) := by decide +kernel
theorem dX8_init_575 : decode cX8_init 575 = .ok (.iconst 0, 1) := by decide +kernel
theorem dX8_init_576 : decode cX8_init 576 = .ok (.iconst 0, 1) := by decide +kernel
theorem dX8_init_577 : decode cX8_init 577 = .ok (.iastore, 1) := by decide +kernel
theorem dX8_init_578 : decode cX8_init 578 = .ok (.aload_n 0, 1) := by decide +kernel
theorem dX8_init_579 : decode cX8_init 579 = .ok (.getfield 165, 3) := by decide +kernel
theorem dX8_init_582 : decode cX8_init 582 = .ok (.iconst 0, 1) := by decide +kernel
theorem dX8_init_583 : decode cX8_init 583 = .ok (.iconst 1, 1) := by decide +kernel
theorem dX8_init_584 : decode cX8_init 584 = .ok (.iastore, 1) := by decide +kernel
theorem dX8_init_585 : decode cX8_init 585 = .ok (.aload_n 0, 1) := by decide +kernel
theorem dX8_init_586 : decode cX8_init 586 = .ok (.getfield 117, 3) := by decide +kernel
theorem dX8_init_589 : decode cX8_init 589 = .ok (.sipush 160, 3) := by decide +kernel
theorem dX8_init_592 : decode cX8_init 592 = .ok (.iconst 0, 1) := by decide +kernel
theorem dX8_init_593 : decode cX8_init 593 = .ok (.iastore, 1) := by decide +kernel
theorem dX8_init_594 : decode cX8_init 594 = .ok (.aload_n 0, 1) := by decide +kernel
theorem dX8_init_595 : decode cX8_init 595 = .ok (.getfield 165, 3) := by decide +kernel
theorem dX8_init_598 : decode cX8_init 598 = .ok (.iconst 1, 1) := by decide +kernel
theorem dX8_init_599 : decode cX8_init 599 = .ok (.iconst 1, 1) := by decide +kernel
theorem dX8_init_600 : decode cX8_init 600 = .ok (.iastore, 1) := by decide +kernel
theorem dX8_init_601 : decode cX8_init 601 = .ok (.aload_n 0, 1) := by decide +kernel
theorem dX8_init_602 : decode cX8_init 602 = .ok (.getfield 117, 3) := by decide +kernel
theorem dX8_init_605 : decode cX8_init 605 = .ok (.sipush 320, 3) := by decide +kernel
theorem dX8_init_608 : decode cX8_init 608 = .ok (.iconst 1, 1) := by decide +kernel
theorem dX8_init_609 : decode cX8_init 609 = .ok (.iastore, 1) := by decide +kernel
theorem dX8_init_610 : decode cX8_init 610 = .ok (.aload_n 0, 1) := by decide +kernel
theorem dX8_init_611 : decode cX8_init 611 = .ok (.getfield 165, 3) := by decide +kernel
theorem dX8_init_614 : decode cX8_init 614 = .ok (.iconst 2, 1) := by decide +kernel
theorem dX8_init_615 : decode cX8_init 615 = .ok (.iconst 1, 1) := by decide +kernel
theorem dX8_init_616 : decode cX8_init 616 = .ok (.iastore, 1) := by decide +kernel
theorem dX8_init_617 : decode cX8_init 617 = .ok (.aload_n 0, 1) := by decide +kernel
theorem dX8_init_618 : decode cX8_init 618 = .ok (.iconst 1, 1) := by decide +kernel
theorem dX8_init_619 : decode cX8_init 619 = .ok (.putfield 181, 3) := by decide +kernel
theorem dX8_init_622 : decode cX8_init 622 = .ok (.iconst 0, 1) := by decide +kernel
theorem dX8_init_623 : decode cX8_init 623 = .ok (.istore_n 1, 1) := by decide +kernel
theorem dX8_init_624 : decode cX8_init 624 = .ok (.iload_n 1, 1) := by decide +kernel
theorem dX8_init_625 : decode cX8_init 625 = .ok (.bipush 7, 2) := by decide +kernel
theorem dX8_init_627 : decode cX8_init 627 = .ok (.if_icmp .ge 43, 3) := by decide +kernel
theorem dX8_init_630 : decode cX8_init 630 = .ok (.iconst 0, 1) := by decide +kernel
theorem dX8_init_631 : decode cX8_init 631 = .ok (.istore_n 2, 1) := by decide +kernel
theorem dX8_init_632 : decode cX8_init 632 = .ok (.iload_n 2, 1) := by decide +kernel
theorem dX8_init_633 : decode cX8_init 633 = .ok (.bipush 7, 2) := by decide +kernel
theorem dX8_init_635 : decode cX8_init 635 = .ok (.if_icmp .ge 29, 3) := by decide +kernel
theorem dX8_init_638 : decode cX8_init 638 = .ok (.aload_n 0, 1) := by decide +kernel
theorem dX8_init_639 : decode cX8_init 639 = .ok (.getfield 14, 3) := by decide +kernel
theorem dX8_init_642 : decode cX8_init 642 = .ok (.bipush 7, 2) := by decide +kernel
theorem dX8_init_644 : decode cX8_init 644 = .ok (.iload_n 1, 1) := by decide +kernel
theorem dX8_init_645 : decode cX8_init 645 = .ok (.imul, 1) := by decide +kernel
theorem dX8_init_646 : decode cX8_init 646 = .ok (.iload_n 2, 1) := by decide +kernel
theorem dX8_init_647 : decode cX8_init 647 = .ok (.iadd, 1) := by decide +kernel
theorem dX8_init_648 : decode cX8_init 648 = .ok (.bipush 30, 2) := by decide +kernel
theorem dX8_init_650 : decode cX8_init 650 = .ok (.iload_n 1, 1) := by decide +kernel
theorem dX8_init_651 : decode cX8_init 651 = .ok (.iload_n 2, 1) := by decide +kernel
theorem dX8_init_652 : decode cX8_init 652 = .ok (.isub, 1) := by decide +kernel
theorem dX8_init_653 : decode cX8_init 653 = .ok (.invokestatic 237, 3) := by decide +kernel
theorem dX8_init_656 : decode cX8_init 656 = .ok (.imul, 1) := by decide +kernel
theorem dX8_init_657 : decode cX8_init 657 = .ok (.iastore, 1) := by decide +kernel
theorem dX8_init_658 : decode cX8_init 658 = .ok (.iinc 2 1, 3) := by decide +kernel
theorem dX8_init_661 : decode cX8_init 661 = .ok (.goto (-29), 3) := by decide +kernel
theorem dX8_init_664 : decode cX8_init 664 = .ok (.iinc 1 1, 3) := by decide +kernel
theorem dX8_init_667 : decode cX8_init 667 = .ok (.goto (-43), 3) := by decide +kernel
theorem dX8_init_670 : decode cX8_init 670 = .ok (.return_, 1) := by decide +kernel
theorem dX8_done_0 : decode cX8_done 0 = .ok (.iload_n 0, 1) := by decide +kernel
theorem dX8_done_1 : decode cX8_done 1 = .ok (.tableswitch 91 11 17 #[77, 91, 55, 66, 43, 47, 51], 43) := by decide +kernel
theorem dX8_done_44 : decode cX8_done 44 = .ok (.iload_n 1, 1) := by decide +kernel
theorem dX8_done_45 : decode cX8_done 45 = .ok (.iload_n 2, 1) := by decide +kernel
theorem dX8_done_46 : decode cX8_done 46 = .ok (.iadd, 1) := by decide +kernel
theorem dX8_done_47 : decode cX8_done 47 = .ok (.ireturn, 1) := by decide +kernel
theorem dX8_done_48 : decode cX8_done 48 = .ok (.iload_n 1, 1) := by decide +kernel
theorem dX8_done_49 : decode cX8_done 49 = .ok (.iload_n 2, 1) := by decide +kernel
theorem dX8_done_50 : decode cX8_done 50 = .ok (.isub, 1) := by decide +kernel
theorem dX8_done_51 : decode cX8_done 51 = .ok (.ireturn, 1) := by decide +kernel
theorem dX8_done_52 : decode cX8_done 52 = .ok (.iload_n 1, 1) := by decide +kernel
theorem dX8_done_53 : decode cX8_done 53 = .ok (.iload_n 2, 1) := by decide +kernel
theorem dX8_done_54 : decode cX8_done 54 = .ok (.imul, 1) := by decide +kernel
theorem dX8_done_55 : decode cX8_done 55 = .ok (.ireturn, 1) := by decide +kernel
theorem dX8_done_56 : decode cX8_done 56 = .ok (.iload_n 1, 1) := by decide +kernel
theorem dX8_done_57 : decode cX8_done 57 = .ok (.iload_n 2, 1) := by decide +kernel
theorem dX8_done_58 : decode cX8_done 58 = .ok (.if_icmp .ge 7, 3) := by decide +kernel
theorem dX8_done_61 : decode cX8_done 61 = .ok (.iconst 1, 1) := by decide +kernel
theorem dX8_done_62 : decode cX8_done 62 = .ok (.goto 4, 3) := by decide +kernel
theorem dX8_done_65 : decode cX8_done 65 = .ok (.iconst 0, 1) := by decide +kernel
theorem dX8_done_66 : decode cX8_done 66 = .ok (.ireturn, 1) := by decide +kernel
theorem dX8_done_67 : decode cX8_done 67 = .ok (.iload_n 1, 1) := by decide +kernel
theorem dX8_done_68 : decode cX8_done 68 = .ok (.iload_n 2, 1) := by decide +kernel
theorem dX8_done_69 : decode cX8_done 69 = .ok (.if_icmp .ne 7, 3) := by decide +kernel
theorem dX8_done_72 : decode cX8_done 72 = .ok (.iconst 1, 1) := by decide +kernel
theorem dX8_done_73 : decode cX8_done 73 = .ok (.goto 4, 3) := by decide +kernel
theorem dX8_done_76 : decode cX8_done 76 = .ok (.iconst 0, 1) := by decide +kernel
theorem dX8_done_77 : decode cX8_done 77 = .ok (.ireturn, 1) := by decide +kernel
theorem dX8_done_78 : decode cX8_done 78 = .ok (.iload_n 1, 1) := by decide +kernel
theorem dX8_done_79 : decode cX8_done 79 = .ok (.ifCond .eq 11, 3) := by decide +kernel
theorem dX8_done_82 : decode cX8_done 82 = .ok (.iload_n 2, 1) := by decide +kernel
theorem dX8_done_83 : decode cX8_done 83 = .ok (.ifCond .eq 7, 3) := by decide +kernel
theorem dX8_done_86 : decode cX8_done 86 = .ok (.iconst 1, 1) := by decide +kernel
theorem dX8_done_87 : decode cX8_done 87 = .ok (.goto 4, 3) := by decide +kernel
theorem dX8_done_90 : decode cX8_done 90 = .ok (.iconst 0, 1) := by decide +kernel
theorem dX8_done_91 : decode cX8_done 91 = .ok (.ireturn, 1) := by decide +kernel
theorem dX8_done_92 : decode cX8_done 92 = .ok (.iload_n 1, 1) := by decide +kernel
theorem dX8_done_93 : decode cX8_done 93 = .ok (.ifCond .ne 7, 3) := by decide +kernel
theorem dX8_done_96 : decode cX8_done 96 = .ok (.iload_n 2, 1) := by decide +kernel
theorem dX8_done_97 : decode cX8_done 97 = .ok (.ifCond .eq 7, 3) := by decide +kernel
theorem dX8_done_100 : decode cX8_done 100 = .ok (.iconst 1, 1) := by decide +kernel
theorem dX8_done_101 : decode cX8_done 101 = .ok (.goto 4, 3) := by decide +kernel
theorem dX8_done_104 : decode cX8_done 104 = .ok (.iconst 0, 1) := by decide +kernel
theorem dX8_done_105 : decode cX8_done 105 = .ok (.ireturn, 1) := by decide +kernel
theorem dX8_worthOf_0 : decode cX8_worthOf 0 = .ok (.aload_n 0, 1) := by decide +kernel
theorem dX8_worthOf_1 : decode cX8_worthOf 1 = .ok (.getfield 198, 3) := by decide +kernel
theorem dX8_worthOf_4 : decode cX8_worthOf 4 = .ok (.iconst 0, 1) := by decide +kernel
theorem dX8_worthOf_5 : decode cX8_worthOf 5 = .ok (.aload_n 0, 1) := by decide +kernel
theorem dX8_worthOf_6 : decode cX8_worthOf 6 = .ok (.getfield 44, 3) := by decide +kernel
theorem dX8_worthOf_9 : decode cX8_worthOf 9 = .ok (.iload_n 2, 1) := by decide +kernel
theorem dX8_worthOf_10 : decode cX8_worthOf 10 = .ok (.iaload, 1) := by decide +kernel
theorem dX8_worthOf_11 : decode cX8_worthOf 11 = .ok (.iastore, 1) := by decide +kernel
theorem dX8_worthOf_12 : decode cX8_worthOf 12 = .ok (.aload_n 0, 1) := by decide +kernel
theorem dX8_worthOf_13 : decode cX8_worthOf 13 = .ok (.getfield 198, 3) := by decide +kernel
theorem dX8_worthOf_16 : decode cX8_worthOf 16 = .ok (.iconst 1, 1) := by decide +kernel
theorem dX8_worthOf_17 : decode cX8_worthOf 17 = .ok (.aload_n 0, 1) := by decide +kernel
theorem dX8_worthOf_18 : decode cX8_worthOf 18 = .ok (.getfield 47, 3) := by decide +kernel
theorem dX8_worthOf_21 : decode cX8_worthOf 21 = .ok (.iload_n 2, 1) := by decide +kernel
theorem dX8_worthOf_22 : decode cX8_worthOf 22 = .ok (.iaload, 1) := by decide +kernel
theorem dX8_worthOf_23 : decode cX8_worthOf 23 = .ok (.iastore, 1) := by decide +kernel
theorem dX8_worthOf_24 : decode cX8_worthOf 24 = .ok (.aload_n 0, 1) := by decide +kernel
theorem dX8_worthOf_25 : decode cX8_worthOf 25 = .ok (.getfield 198, 3) := by decide +kernel
theorem dX8_worthOf_28 : decode cX8_worthOf 28 = .ok (.iconst 2, 1) := by decide +kernel
theorem dX8_worthOf_29 : decode cX8_worthOf 29 = .ok (.aload_n 0, 1) := by decide +kernel
theorem dX8_worthOf_30 : decode cX8_worthOf 30 = .ok (.getfield 38, 3) := by decide +kernel
theorem dX8_worthOf_33 : decode cX8_worthOf 33 = .ok (.iload_n 2, 1) := by decide +kernel
theorem dX8_worthOf_34 : decode cX8_worthOf 34 = .ok (.iaload, 1) := by decide +kernel
theorem dX8_worthOf_35 : decode cX8_worthOf 35 = .ok (.iastore, 1) := by decide +kernel
theorem dX8_worthOf_36 : decode cX8_worthOf 36 = .ok (.aload_n 0, 1) := by decide +kernel
theorem dX8_worthOf_37 : decode cX8_worthOf 37 = .ok (.getfield 198, 3) := by decide +kernel
theorem dX8_worthOf_40 : decode cX8_worthOf 40 = .ok (.iconst 3, 1) := by decide +kernel
theorem dX8_worthOf_41 : decode cX8_worthOf 41 = .ok (.aload_n 0, 1) := by decide +kernel
theorem dX8_worthOf_42 : decode cX8_worthOf 42 = .ok (.getfield 41, 3) := by decide +kernel
theorem dX8_worthOf_45 : decode cX8_worthOf 45 = .ok (.iload_n 2, 1) := by decide +kernel
theorem dX8_worthOf_46 : decode cX8_worthOf 46 = .ok (.iaload, 1) := by decide +kernel
theorem dX8_worthOf_47 : decode cX8_worthOf 47 = .ok (.iastore, 1) := by decide +kernel
theorem dX8_worthOf_48 : decode cX8_worthOf 48 = .ok (.aload_n 0, 1) := by decide +kernel
theorem dX8_worthOf_49 : decode cX8_worthOf 49 = .ok (.getfield 198, 3) := by decide +kernel
theorem dX8_worthOf_52 : decode cX8_worthOf 52 = .ok (.iconst 4, 1) := by decide +kernel
theorem dX8_worthOf_53 : decode cX8_worthOf 53 = .ok (.aload_n 0, 1) := by decide +kernel
theorem dX8_worthOf_54 : decode cX8_worthOf 54 = .ok (.getfield 50, 3) := by decide +kernel
theorem dX8_worthOf_57 : decode cX8_worthOf 57 = .ok (.iload_n 2, 1) := by decide +kernel
theorem dX8_worthOf_58 : decode cX8_worthOf 58 = .ok (.iaload, 1) := by decide +kernel
theorem dX8_worthOf_59 : decode cX8_worthOf 59 = .ok (.iastore, 1) := by decide +kernel
theorem dX8_worthOf_60 : decode cX8_worthOf 60 = .ok (.aload_n 0, 1) := by decide +kernel
theorem dX8_worthOf_61 : decode cX8_worthOf 61 = .ok (.getfield 198, 3) := by decide +kernel
theorem dX8_worthOf_64 : decode cX8_worthOf 64 = .ok (.iconst 5, 1) := by decide +kernel
theorem dX8_worthOf_65 : decode cX8_worthOf 65 = .ok (.aload_n 0, 1) := by decide +kernel
theorem dX8_worthOf_66 : decode cX8_worthOf 66 = .ok (.getfield 14, 3) := by decide +kernel
theorem dX8_worthOf_69 : decode cX8_worthOf 69 = .ok (.bipush 7, 2) := by decide +kernel
theorem dX8_worthOf_71 : decode cX8_worthOf 71 = .ok (.aload_n 0, 1) := by decide +kernel
theorem dX8_worthOf_72 : decode cX8_worthOf 72 = .ok (.getfield 38, 3) := by decide +kernel
theorem dX8_worthOf_75 : decode cX8_worthOf 75 = .ok (.iload_n 2, 1) := by decide +kernel
theorem dX8_worthOf_76 : decode cX8_worthOf 76 = .ok (.iaload, 1) := by decide +kernel
theorem dX8_worthOf_77 : decode cX8_worthOf 77 = .ok (.imul, 1) := by decide +kernel
theorem dX8_worthOf_78 : decode cX8_worthOf 78 = .ok (.aload_n 0, 1) := by decide +kernel
theorem dX8_worthOf_79 : decode cX8_worthOf 79 = .ok (.getfield 41, 3) := by decide +kernel
theorem dX8_worthOf_82 : decode cX8_worthOf 82 = .ok (.iload_n 2, 1) := by decide +kernel
theorem dX8_worthOf_83 : decode cX8_worthOf 83 = .ok (.iaload, 1) := by decide +kernel
theorem dX8_worthOf_84 : decode cX8_worthOf 84 = .ok (.iadd, 1) := by decide +kernel
theorem dX8_worthOf_85 : decode cX8_worthOf 85 = .ok (.iaload, 1) := by decide +kernel
theorem dX8_worthOf_86 : decode cX8_worthOf 86 = .ok (.iastore, 1) := by decide +kernel
theorem dX8_worthOf_87 : decode cX8_worthOf 87 = .ok (.iconst 3, 1) := by decide +kernel
theorem dX8_worthOf_88 : decode cX8_worthOf 88 = .ok (.aload_n 0, 1) := by decide +kernel
theorem dX8_worthOf_89 : decode cX8_worthOf 89 = .ok (.getfield 187, 3) := by decide +kernel
theorem dX8_worthOf_92 : decode cX8_worthOf 92 = .ok (.imul, 1) := by decide +kernel
theorem dX8_worthOf_93 : decode cX8_worthOf 93 = .ok (.iload_n 1, 1) := by decide +kernel
theorem dX8_worthOf_94 : decode cX8_worthOf 94 = .ok (.iadd, 1) := by decide +kernel
theorem dX8_worthOf_95 : decode cX8_worthOf 95 = .ok (.istore_n 3, 1) := by decide +kernel
theorem dX8_worthOf_96 : decode cX8_worthOf 96 = .ok (.iconst 0, 1) := by decide +kernel
theorem dX8_worthOf_97 : decode cX8_worthOf 97 = .ok (.istore 4, 2) := by decide +kernel
theorem dX8_worthOf_99 : decode cX8_worthOf 99 = .ok (.iconst 0, 1) := by decide +kernel
theorem dX8_worthOf_100 : decode cX8_worthOf 100 = .ok (.istore 5, 2) := by decide +kernel
theorem dX8_worthOf_102 : decode cX8_worthOf 102 = .ok (.iload 5, 2) := by decide +kernel
theorem dX8_worthOf_104 : decode cX8_worthOf 104 = .ok (.aload_n 0, 1) := by decide +kernel
theorem dX8_worthOf_105 : decode cX8_worthOf 105 = .ok (.getfield 165, 3) := by decide +kernel
theorem dX8_worthOf_108 : decode cX8_worthOf 108 = .ok (.iload_n 3, 1) := by decide +kernel
theorem dX8_worthOf_109 : decode cX8_worthOf 109 = .ok (.iaload, 1) := by decide +kernel
theorem dX8_worthOf_110 : decode cX8_worthOf 110 = .ok (.if_icmp .ge 171, 3) := by decide +kernel
theorem dX8_worthOf_113 : decode cX8_worthOf 113 = .ok (.aload_n 0, 1) := by decide +kernel
theorem dX8_worthOf_114 : decode cX8_worthOf 114 = .ok (.getfield 117, 3) := by decide +kernel
theorem dX8_worthOf_117 : decode cX8_worthOf 117 = .ok (.sipush 160, 3) := by decide +kernel
theorem dX8_worthOf_120 : decode cX8_worthOf 120 = .ok (.iload_n 3, 1) := by decide +kernel
theorem dX8_worthOf_121 : decode cX8_worthOf 121 = .ok (.imul, 1) := by decide +kernel
theorem dX8_worthOf_122 : decode cX8_worthOf 122 = .ok (.iload 5, 2) := by decide +kernel
theorem dX8_worthOf_124 : decode cX8_worthOf 124 = .ok (.iadd, 1) := by decide +kernel
theorem dX8_worthOf_125 : decode cX8_worthOf 125 = .ok (.iaload, 1) := by decide +kernel
theorem dX8_worthOf_126 : decode cX8_worthOf 126 = .ok (.istore 6, 2) := by decide +kernel
theorem dX8_worthOf_128 : decode cX8_worthOf 128 = .ok (.iload 6, 2) := by decide +kernel
theorem dX8_worthOf_130 : decode cX8_worthOf 130 = .ok (.ifCond .ge 20, 3) := by decide +kernel
theorem dX8_worthOf_133 : decode cX8_worthOf 133 = .ok (.aload_n 0, 1) := by decide +kernel
theorem dX8_worthOf_134 : decode cX8_worthOf 134 = .ok (.getfield 195, 3) := by decide +kernel
theorem dX8_worthOf_137 : decode cX8_worthOf 137 = .ok (.iload 4, 2) := by decide +kernel
theorem dX8_worthOf_139 : decode cX8_worthOf 139 = .ok (.iconst (-1), 1) := by decide +kernel
theorem dX8_worthOf_140 : decode cX8_worthOf 140 = .ok (.iload 6, 2) := by decide +kernel
theorem dX8_worthOf_142 : decode cX8_worthOf 142 = .ok (.isub, 1) := by decide +kernel
theorem dX8_worthOf_143 : decode cX8_worthOf 143 = .ok (.iastore, 1) := by decide +kernel
theorem dX8_worthOf_144 : decode cX8_worthOf 144 = .ok (.iinc 4 1, 3) := by decide +kernel
theorem dX8_worthOf_147 : decode cX8_worthOf 147 = .ok (.goto 128, 3) := by decide +kernel
theorem dX8_worthOf_150 : decode cX8_worthOf 150 = .ok (.iload 6, 2) := by decide +kernel
theorem dX8_worthOf_152 : decode cX8_worthOf 152 = .ok (.bipush 6, 2) := by decide +kernel
theorem dX8_worthOf_154 : decode cX8_worthOf 154 = .ok (.if_icmp .ge 23, 3) := by decide +kernel
theorem dX8_worthOf_157 : decode cX8_worthOf 157 = .ok (.aload_n 0, 1) := by decide +kernel
theorem dX8_worthOf_158 : decode cX8_worthOf 158 = .ok (.getfield 195, 3) := by decide +kernel
theorem dX8_worthOf_161 : decode cX8_worthOf 161 = .ok (.iload 4, 2) := by decide +kernel
theorem dX8_worthOf_163 : decode cX8_worthOf 163 = .ok (.aload_n 0, 1) := by decide +kernel
theorem dX8_worthOf_164 : decode cX8_worthOf 164 = .ok (.getfield 198, 3) := by decide +kernel
theorem dX8_worthOf_167 : decode cX8_worthOf 167 = .ok (.iload 6, 2) := by decide +kernel
theorem dX8_worthOf_169 : decode cX8_worthOf 169 = .ok (.iaload, 1) := by decide +kernel
theorem dX8_worthOf_170 : decode cX8_worthOf 170 = .ok (.iastore, 1) := by decide +kernel
theorem dX8_worthOf_171 : decode cX8_worthOf 171 = .ok (.iinc 4 1, 3) := by decide +kernel
theorem dX8_worthOf_174 : decode cX8_worthOf 174 = .ok (.goto 101, 3) := by decide +kernel
theorem dX8_worthOf_177 : decode cX8_worthOf 177 = .ok (.iload 6, 2) := by decide +kernel
theorem dX8_worthOf_179 : decode cX8_worthOf 179 = .ok (.bipush 12, 2) := by decide +kernel
theorem dX8_worthOf_181 : decode cX8_worthOf 181 = .ok (.if_icmp .ne 32, 3) := by decide +kernel
theorem dX8_worthOf_184 : decode cX8_worthOf 184 = .ok (.aload_n 0, 1) := by decide +kernel
theorem dX8_worthOf_185 : decode cX8_worthOf 185 = .ok (.getfield 195, 3) := by decide +kernel
theorem dX8_worthOf_188 : decode cX8_worthOf 188 = .ok (.iload 4, 2) := by decide +kernel
theorem dX8_worthOf_190 : decode cX8_worthOf 190 = .ok (.iconst 1, 1) := by decide +kernel
theorem dX8_worthOf_191 : decode cX8_worthOf 191 = .ok (.isub, 1) := by decide +kernel
theorem dX8_worthOf_192 : decode cX8_worthOf 192 = .ok (.aload_n 0, 1) := by decide +kernel
theorem dX8_worthOf_193 : decode cX8_worthOf 193 = .ok (.getfield 195, 3) := by decide +kernel
theorem dX8_worthOf_196 : decode cX8_worthOf 196 = .ok (.iload 4, 2) := by decide +kernel
theorem dX8_worthOf_198 : decode cX8_worthOf 198 = .ok (.iconst 1, 1) := by decide +kernel
theorem dX8_worthOf_199 : decode cX8_worthOf 199 = .ok (.isub, 1) := by decide +kernel
theorem dX8_worthOf_200 : decode cX8_worthOf 200 = .ok (.iaload, 1) := by decide +kernel
theorem dX8_worthOf_201 : decode cX8_worthOf 201 = .ok (.ifCond .ne 7, 3) := by decide +kernel
theorem dX8_worthOf_204 : decode cX8_worthOf 204 = .ok (.iconst 1, 1) := by decide +kernel
theorem dX8_worthOf_205 : decode cX8_worthOf 205 = .ok (.goto 4, 3) := by decide +kernel
theorem dX8_worthOf_208 : decode cX8_worthOf 208 = .ok (.iconst 0, 1) := by decide +kernel
theorem dX8_worthOf_209 : decode cX8_worthOf 209 = .ok (.iastore, 1) := by decide +kernel
theorem dX8_worthOf_210 : decode cX8_worthOf 210 = .ok (.goto 65, 3) := by decide +kernel
theorem dX8_worthOf_213 : decode cX8_worthOf 213 = .ok (.iload 6, 2) := by decide +kernel
theorem dX8_worthOf_215 : decode cX8_worthOf 215 = .ok (.bipush 18, 2) := by decide +kernel
theorem dX8_worthOf_217 : decode cX8_worthOf 217 = .ok (.if_icmp .ne 25, 3) := by decide +kernel
theorem dX8_worthOf_220 : decode cX8_worthOf 220 = .ok (.aload_n 0, 1) := by decide +kernel
theorem dX8_worthOf_221 : decode cX8_worthOf 221 = .ok (.getfield 195, 3) := by decide +kernel
theorem dX8_worthOf_224 : decode cX8_worthOf 224 = .ok (.iload 4, 2) := by decide +kernel
theorem dX8_worthOf_226 : decode cX8_worthOf 226 = .ok (.iconst 1, 1) := by decide +kernel
theorem dX8_worthOf_227 : decode cX8_worthOf 227 = .ok (.isub, 1) := by decide +kernel
theorem dX8_worthOf_228 : decode cX8_worthOf 228 = .ok (.aload_n 0, 1) := by decide +kernel
theorem dX8_worthOf_229 : decode cX8_worthOf 229 = .ok (.getfield 195, 3) := by decide +kernel
theorem dX8_worthOf_232 : decode cX8_worthOf 232 = .ok (.iload 4, 2) := by decide +kernel
theorem dX8_worthOf_234 : decode cX8_worthOf 234 = .ok (.iconst 1, 1) := by decide +kernel
theorem dX8_worthOf_235 : decode cX8_worthOf 235 = .ok (.isub, 1) := by decide +kernel
theorem dX8_worthOf_236 : decode cX8_worthOf 236 = .ok (.iaload, 1) := by decide +kernel
theorem dX8_worthOf_237 : decode cX8_worthOf 237 = .ok (.ineg, 1) := by decide +kernel
theorem dX8_worthOf_238 : decode cX8_worthOf 238 = .ok (.iastore, 1) := by decide +kernel
theorem dX8_worthOf_239 : decode cX8_worthOf 239 = .ok (.goto 36, 3) := by decide +kernel
theorem dX8_worthOf_242 : decode cX8_worthOf 242 = .ok (.iinc 4 (-1), 3) := by decide +kernel
theorem dX8_worthOf_245 : decode cX8_worthOf 245 = .ok (.aload_n 0, 1) := by decide +kernel
theorem dX8_worthOf_246 : decode cX8_worthOf 246 = .ok (.getfield 195, 3) := by decide +kernel
theorem dX8_worthOf_249 : decode cX8_worthOf 249 = .ok (.iload 4, 2) := by decide +kernel
theorem dX8_worthOf_251 : decode cX8_worthOf 251 = .ok (.iconst 1, 1) := by decide +kernel
theorem dX8_worthOf_252 : decode cX8_worthOf 252 = .ok (.isub, 1) := by decide +kernel
theorem dX8_worthOf_253 : decode cX8_worthOf 253 = .ok (.iload 6, 2) := by decide +kernel
theorem dX8_worthOf_255 : decode cX8_worthOf 255 = .ok (.aload_n 0, 1) := by decide +kernel
theorem dX8_worthOf_256 : decode cX8_worthOf 256 = .ok (.getfield 195, 3) := by decide +kernel
theorem dX8_worthOf_259 : decode cX8_worthOf 259 = .ok (.iload 4, 2) := by decide +kernel
theorem dX8_worthOf_261 : decode cX8_worthOf 261 = .ok (.iconst 1, 1) := by decide +kernel
theorem dX8_worthOf_262 : decode cX8_worthOf 262 = .ok (.isub, 1) := by decide +kernel
theorem dX8_worthOf_263 : decode cX8_worthOf 263 = .ok (.iaload, 1) := by decide +kernel
theorem dX8_worthOf_264 : decode cX8_worthOf 264 = .ok (.aload_n 0, 1) := by decide +kernel
theorem dX8_worthOf_265 : decode cX8_worthOf 265 = .ok (.getfield 195, 3) := by decide +kernel
theorem dX8_worthOf_268 : decode cX8_worthOf 268 = .ok (.iload 4, 2) := by decide +kernel
theorem dX8_worthOf_270 : decode cX8_worthOf 270 = .ok (.iaload, 1) := by decide +kernel
theorem dX8_worthOf_271 : decode cX8_worthOf 271 = .ok (.invokestatic 240, 3) := by decide +kernel
theorem dX8_worthOf_274 : decode cX8_worthOf 274 = .ok (.iastore, 1) := by decide +kernel
theorem dX8_worthOf_275 : decode cX8_worthOf 275 = .ok (.iinc 5 1, 3) := by decide +kernel
theorem dX8_worthOf_278 : decode cX8_worthOf 278 = .ok (.goto (-176), 3) := by decide +kernel
theorem dX8_worthOf_281 : decode cX8_worthOf 281 = .ok (.iload_n 1, 1) := by decide +kernel
theorem dX8_worthOf_282 : decode cX8_worthOf 282 = .ok (.iconst 2, 1) := by decide +kernel
theorem dX8_worthOf_283 : decode cX8_worthOf 283 = .ok (.if_icmp .ne 7, 3) := by decide +kernel
theorem dX8_worthOf_286 : decode cX8_worthOf 286 = .ok (.iconst 0, 1) := by decide +kernel
theorem dX8_worthOf_287 : decode cX8_worthOf 287 = .ok (.goto 4, 3) := by decide +kernel
theorem dX8_worthOf_290 : decode cX8_worthOf 290 = .ok (.iconst 1, 1) := by decide +kernel
theorem dX8_worthOf_291 : decode cX8_worthOf 291 = .ok (.istore 5, 2) := by decide +kernel
theorem dX8_worthOf_293 : decode cX8_worthOf 293 = .ok (.iload_n 1, 1) := by decide +kernel
theorem dX8_worthOf_294 : decode cX8_worthOf 294 = .ok (.iconst 2, 1) := by decide +kernel
theorem dX8_worthOf_295 : decode cX8_worthOf 295 = .ok (.if_icmp .ne 8, 3) := by decide +kernel
theorem dX8_worthOf_298 : decode cX8_worthOf 298 = .ok (.bipush 100, 2) := by decide +kernel
theorem dX8_worthOf_300 : decode cX8_worthOf 300 = .ok (.goto 6, 3) := by decide +kernel
theorem dX8_worthOf_303 : decode cX8_worthOf 303 = .ok (.sipush 999, 3) := by decide +kernel
theorem dX8_worthOf_306 : decode cX8_worthOf 306 = .ok (.istore 6, 2) := by decide +kernel
theorem dX8_worthOf_308 : decode cX8_worthOf 308 = .ok (.iload 5, 2) := by decide +kernel
theorem dX8_worthOf_310 : decode cX8_worthOf 310 = .ok (.iload 6, 2) := by decide +kernel
theorem dX8_worthOf_312 : decode cX8_worthOf 312 = .ok (.aload_n 0, 1) := by decide +kernel
theorem dX8_worthOf_313 : decode cX8_worthOf 313 = .ok (.getfield 195, 3) := by decide +kernel
theorem dX8_worthOf_316 : decode cX8_worthOf 316 = .ok (.iconst 0, 1) := by decide +kernel
theorem dX8_worthOf_317 : decode cX8_worthOf 317 = .ok (.iaload, 1) := by decide +kernel
theorem dX8_worthOf_318 : decode cX8_worthOf 318 = .ok (.invokestatic 244, 3) := by decide +kernel
theorem dX8_worthOf_321 : decode cX8_worthOf 321 = .ok (.invokestatic 64, 3) := by decide +kernel
theorem dX8_worthOf_324 : decode cX8_worthOf 324 = .ok (.ireturn, 1) := by decide +kernel
theorem dX8_asks_0 : decode cX8_asks 0 = .ok (.aload_n 0, 1) := by decide +kernel
theorem dX8_asks_1 : decode cX8_asks 1 = .ok (.iload_n 2, 1) := by decide +kernel
theorem dX8_asks_2 : decode cX8_asks 2 = .ok (.invokevirtual 57, 3) := by decide +kernel
theorem dX8_asks_5 : decode cX8_asks 5 = .ok (.ifCond .ne 6, 3) := by decide +kernel
theorem dX8_asks_8 : decode cX8_asks 8 = .ok (.bipush (-5), 2) := by decide +kernel
theorem dX8_asks_10 : decode cX8_asks 10 = .ok (.ireturn, 1) := by decide +kernel
theorem dX8_asks_11 : decode cX8_asks 11 = .ok (.iload_n 1, 1) := by decide +kernel
theorem dX8_asks_12 : decode cX8_asks 12 = .ok (.iconst 0, 1) := by decide +kernel
theorem dX8_asks_13 : decode cX8_asks 13 = .ok (.iconst 2, 1) := by decide +kernel
theorem dX8_asks_14 : decode cX8_asks 14 = .ok (.invokestatic 3, 3) := by decide +kernel
theorem dX8_asks_17 : decode cX8_asks 17 = .ok (.ifCond .eq 12, 3) := by decide +kernel
theorem dX8_asks_20 : decode cX8_asks 20 = .ok (.aload_n 0, 1) := by decide +kernel
theorem dX8_asks_21 : decode cX8_asks 21 = .ok (.iload_n 1, 1) := by decide +kernel
theorem dX8_asks_22 : decode cX8_asks 22 = .ok (.iload_n 2, 1) := by decide +kernel
theorem dX8_asks_23 : decode cX8_asks 23 = .ok (.invokevirtual 60, 3) := by decide +kernel
theorem dX8_asks_26 : decode cX8_asks 26 = .ok (.goto 5, 3) := by decide +kernel
theorem dX8_asks_29 : decode cX8_asks 29 = .ok (.bipush (-7), 2) := by decide +kernel
theorem dX8_asks_31 : decode cX8_asks 31 = .ok (.ireturn, 1) := by decide +kernel
theorem dX8_count_0 : decode cX8_count 0 = .ok (.iload_n 1, 1) := by decide +kernel
theorem dX8_count_1 : decode cX8_count 1 = .ok (.tableswitch 60 0 4 #[35, 40, 45, 50, 55], 35) := by decide +kernel
theorem dX8_count_36 : decode cX8_count 36 = .ok (.aload_n 0, 1) := by decide +kernel
theorem dX8_count_37 : decode cX8_count 37 = .ok (.getfield 7, 3) := by decide +kernel
theorem dX8_count_40 : decode cX8_count 40 = .ok (.ireturn, 1) := by decide +kernel
theorem dX8_count_41 : decode cX8_count 41 = .ok (.aload_n 0, 1) := by decide +kernel
theorem dX8_count_42 : decode cX8_count 42 = .ok (.getfield 11, 3) := by decide +kernel
theorem dX8_count_45 : decode cX8_count 45 = .ok (.ireturn, 1) := by decide +kernel
theorem dX8_count_46 : decode cX8_count 46 = .ok (.aload_n 0, 1) := by decide +kernel
theorem dX8_count_47 : decode cX8_count 47 = .ok (.getfield 181, 3) := by decide +kernel
theorem dX8_count_50 : decode cX8_count 50 = .ok (.ireturn, 1) := by decide +kernel
theorem dX8_count_51 : decode cX8_count 51 = .ok (.aload_n 0, 1) := by decide +kernel
theorem dX8_count_52 : decode cX8_count 52 = .ok (.getfield 187, 3) := by decide +kernel
theorem dX8_count_55 : decode cX8_count 55 = .ok (.ireturn, 1) := by decide +kernel
theorem dX8_count_56 : decode cX8_count 56 = .ok (.aload_n 0, 1) := by decide +kernel
theorem dX8_count_57 : decode cX8_count 57 = .ok (.getfield 79, 3) := by decide +kernel
theorem dX8_count_60 : decode cX8_count 60 = .ok (.ireturn, 1) := by decide +kernel
theorem dX8_count_61 : decode cX8_count 61 = .ok (.bipush (-2), 2) := by decide +kernel
theorem dX8_count_63 : decode cX8_count 63 = .ok (.ireturn, 1) := by decide +kernel
theorem dX8_come_0 : decode cX8_come 0 = .ok (.iload_n 2, 1) := by decide +kernel
theorem dX8_come_1 : decode cX8_come 1 = .ok (.aload_n 0, 1) := by decide +kernel
theorem dX8_come_2 : decode cX8_come 2 = .ok (.getfield 201, 3) := by decide +kernel
theorem dX8_come_5 : decode cX8_come 5 = .ok (.iload_n 1, 1) := by decide +kernel
theorem dX8_come_6 : decode cX8_come 6 = .ok (.iaload, 1) := by decide +kernel
theorem dX8_come_7 : decode cX8_come 7 = .ok (.if_icmp .ge 25, 3) := by decide +kernel
theorem dX8_come_10 : decode cX8_come 10 = .ok (.aload_n 0, 1) := by decide +kernel
theorem dX8_come_11 : decode cX8_come 11 = .ok (.getfield 201, 3) := by decide +kernel
theorem dX8_come_14 : decode cX8_come 14 = .ok (.iload_n 1, 1) := by decide +kernel
theorem dX8_come_15 : decode cX8_come 15 = .ok (.iload_n 2, 1) := by decide +kernel
theorem dX8_come_16 : decode cX8_come 16 = .ok (.iastore, 1) := by decide +kernel
theorem dX8_come_17 : decode cX8_come 17 = .ok (.aload_n 0, 1) := by decide +kernel
theorem dX8_come_18 : decode cX8_come 18 = .ok (.getfield 204, 3) := by decide +kernel
theorem dX8_come_21 : decode cX8_come 21 = .ok (.iload_n 1, 1) := by decide +kernel
theorem dX8_come_22 : decode cX8_come 22 = .ok (.iload_n 3, 1) := by decide +kernel
theorem dX8_come_23 : decode cX8_come 23 = .ok (.iastore, 1) := by decide +kernel
theorem dX8_come_24 : decode cX8_come 24 = .ok (.aload_n 0, 1) := by decide +kernel
theorem dX8_come_25 : decode cX8_come 25 = .ok (.getfield 207, 3) := by decide +kernel
theorem dX8_come_28 : decode cX8_come 28 = .ok (.iload_n 1, 1) := by decide +kernel
theorem dX8_come_29 : decode cX8_come 29 = .ok (.iload 4, 2) := by decide +kernel
theorem dX8_come_31 : decode cX8_come 31 = .ok (.iastore, 1) := by decide +kernel
theorem dX8_come_32 : decode cX8_come 32 = .ok (.return_, 1) := by decide +kernel
theorem dX8_leave_0 : decode cX8_leave 0 = .ok (.aload_n 0, 1) := by decide +kernel
theorem dX8_leave_1 : decode cX8_leave 1 = .ok (.getfield 210, 3) := by decide +kernel
theorem dX8_leave_4 : decode cX8_leave 4 = .ok (.iload_n 1, 1) := by decide +kernel
theorem dX8_leave_5 : decode cX8_leave 5 = .ok (.iconst 1, 1) := by decide +kernel
theorem dX8_leave_6 : decode cX8_leave 6 = .ok (.bastore, 1) := by decide +kernel
theorem dX8_leave_7 : decode cX8_leave 7 = .ok (.iconst 0, 1) := by decide +kernel
theorem dX8_leave_8 : decode cX8_leave 8 = .ok (.istore_n 3, 1) := by decide +kernel
theorem dX8_leave_9 : decode cX8_leave 9 = .ok (.iload_n 3, 1) := by decide +kernel
theorem dX8_leave_10 : decode cX8_leave 10 = .ok (.aload_n 0, 1) := by decide +kernel
theorem dX8_leave_11 : decode cX8_leave 11 = .ok (.getfield 7, 3) := by decide +kernel
theorem dX8_leave_14 : decode cX8_leave 14 = .ok (.if_icmp .ge 72, 3) := by decide +kernel
theorem dX8_leave_17 : decode cX8_leave 17 = .ok (.iload_n 2, 1) := by decide +kernel
theorem dX8_leave_18 : decode cX8_leave 18 = .ok (.iload_n 3, 1) := by decide +kernel
theorem dX8_leave_19 : decode cX8_leave 19 = .ok (.ishr, 1) := by decide +kernel
theorem dX8_leave_20 : decode cX8_leave 20 = .ok (.iconst 1, 1) := by decide +kernel
theorem dX8_leave_21 : decode cX8_leave 21 = .ok (.iand, 1) := by decide +kernel
theorem dX8_leave_22 : decode cX8_leave 22 = .ok (.iconst 1, 1) := by decide +kernel
theorem dX8_leave_23 : decode cX8_leave 23 = .ok (.if_icmp .ne 12, 3) := by decide +kernel
theorem dX8_leave_26 : decode cX8_leave 26 = .ok (.aload_n 0, 1) := by decide +kernel
theorem dX8_leave_27 : decode cX8_leave 27 = .ok (.iload_n 3, 1) := by decide +kernel
theorem dX8_leave_28 : decode cX8_leave 28 = .ok (.iload_n 1, 1) := by decide +kernel
theorem dX8_leave_29 : decode cX8_leave 29 = .ok (.invokevirtual 76, 3) := by decide +kernel
theorem dX8_leave_32 : decode cX8_leave 32 = .ok (.goto 4, 3) := by decide +kernel
theorem dX8_leave_35 : decode cX8_leave 35 = .ok (.iconst (-1), 1) := by decide +kernel
theorem dX8_leave_36 : decode cX8_leave 36 = .ok (.istore 4, 2) := by decide +kernel
theorem dX8_leave_38 : decode cX8_leave 38 = .ok (.iload 4, 2) := by decide +kernel
theorem dX8_leave_40 : decode cX8_leave 40 = .ok (.iconst (-1), 1) := by decide +kernel
theorem dX8_leave_41 : decode cX8_leave 41 = .ok (.if_icmp .eq 39, 3) := by decide +kernel
theorem dX8_leave_44 : decode cX8_leave 44 = .ok (.iload 4, 2) := by decide +kernel
theorem dX8_leave_46 : decode cX8_leave 46 = .ok (.iload_n 1, 1) := by decide +kernel
theorem dX8_leave_47 : decode cX8_leave 47 = .ok (.if_icmp .eq 33, 3) := by decide +kernel
theorem dX8_leave_50 : decode cX8_leave 50 = .ok (.aload_n 0, 1) := by decide +kernel
theorem dX8_leave_51 : decode cX8_leave 51 = .ok (.iload 4, 2) := by decide +kernel
theorem dX8_leave_53 : decode cX8_leave 53 = .ok (.aload_n 0, 1) := by decide +kernel
theorem dX8_leave_54 : decode cX8_leave 54 = .ok (.getfield 201, 3) := by decide +kernel
theorem dX8_leave_57 : decode cX8_leave 57 = .ok (.iload_n 1, 1) := by decide +kernel
theorem dX8_leave_58 : decode cX8_leave 58 = .ok (.iaload, 1) := by decide +kernel
theorem dX8_leave_59 : decode cX8_leave 59 = .ok (.aload_n 0, 1) := by decide +kernel
theorem dX8_leave_60 : decode cX8_leave 60 = .ok (.getfield 50, 3) := by decide +kernel
theorem dX8_leave_63 : decode cX8_leave 63 = .ok (.iload_n 3, 1) := by decide +kernel
theorem dX8_leave_64 : decode cX8_leave 64 = .ok (.iaload, 1) := by decide +kernel
theorem dX8_leave_65 : decode cX8_leave 65 = .ok (.invokestatic 64, 3) := by decide +kernel
theorem dX8_leave_68 : decode cX8_leave 68 = .ok (.aload_n 0, 1) := by decide +kernel
theorem dX8_leave_69 : decode cX8_leave 69 = .ok (.getfield 213, 3) := by decide +kernel
theorem dX8_leave_72 : decode cX8_leave 72 = .ok (.iload_n 3, 1) := by decide +kernel
theorem dX8_leave_73 : decode cX8_leave 73 = .ok (.iaload, 1) := by decide +kernel
theorem dX8_leave_74 : decode cX8_leave 74 = .ok (.iadd, 1) := by decide +kernel
theorem dX8_leave_75 : decode cX8_leave 75 = .ok (.iload_n 3, 1) := by decide +kernel
theorem dX8_leave_76 : decode cX8_leave 76 = .ok (.iload_n 1, 1) := by decide +kernel
theorem dX8_leave_77 : decode cX8_leave 77 = .ok (.invokevirtual 247, 3) := by decide +kernel
theorem dX8_leave_80 : decode cX8_leave 80 = .ok (.iinc 3 1, 3) := by decide +kernel
theorem dX8_leave_83 : decode cX8_leave 83 = .ok (.goto (-74), 3) := by decide +kernel
theorem dX8_leave_86 : decode cX8_leave 86 = .ok (.iconst 0, 1) := by decide +kernel
theorem dX8_leave_87 : decode cX8_leave 87 = .ok (.istore_n 3, 1) := by decide +kernel
theorem dX8_leave_88 : decode cX8_leave 88 = .ok (.iload_n 3, 1) := by decide +kernel
theorem dX8_leave_89 : decode cX8_leave 89 = .ok (.bipush 7, 2) := by decide +kernel
theorem dX8_leave_91 : decode cX8_leave 91 = .ok (.if_icmp .ge 40, 3) := by decide +kernel
theorem dX8_leave_94 : decode cX8_leave 94 = .ok (.iload_n 3, 1) := by decide +kernel
theorem dX8_leave_95 : decode cX8_leave 95 = .ok (.iload_n 1, 1) := by decide +kernel
theorem dX8_leave_96 : decode cX8_leave 96 = .ok (.if_icmp .eq 29, 3) := by decide +kernel
theorem dX8_leave_99 : decode cX8_leave 99 = .ok (.aload_n 0, 1) := by decide +kernel
theorem dX8_leave_100 : decode cX8_leave 100 = .ok (.iload_n 3, 1) := by decide +kernel
theorem dX8_leave_101 : decode cX8_leave 101 = .ok (.aload_n 0, 1) := by decide +kernel
theorem dX8_leave_102 : decode cX8_leave 102 = .ok (.getfield 201, 3) := by decide +kernel
theorem dX8_leave_105 : decode cX8_leave 105 = .ok (.iload_n 1, 1) := by decide +kernel
theorem dX8_leave_106 : decode cX8_leave 106 = .ok (.iaload, 1) := by decide +kernel
theorem dX8_leave_107 : decode cX8_leave 107 = .ok (.aload_n 0, 1) := by decide +kernel
theorem dX8_leave_108 : decode cX8_leave 108 = .ok (.getfield 14, 3) := by decide +kernel
theorem dX8_leave_111 : decode cX8_leave 111 = .ok (.bipush 7, 2) := by decide +kernel
theorem dX8_leave_113 : decode cX8_leave 113 = .ok (.iload_n 1, 1) := by decide +kernel
theorem dX8_leave_114 : decode cX8_leave 114 = .ok (.imul, 1) := by decide +kernel
theorem dX8_leave_115 : decode cX8_leave 115 = .ok (.iload_n 3, 1) := by decide +kernel
theorem dX8_leave_116 : decode cX8_leave 116 = .ok (.iadd, 1) := by decide +kernel
theorem dX8_leave_117 : decode cX8_leave 117 = .ok (.iaload, 1) := by decide +kernel
theorem dX8_leave_118 : decode cX8_leave 118 = .ok (.iadd, 1) := by decide +kernel
theorem dX8_leave_119 : decode cX8_leave 119 = .ok (.bipush 7, 2) := by decide +kernel
theorem dX8_leave_121 : decode cX8_leave 121 = .ok (.iload_n 1, 1) := by decide +kernel
theorem dX8_leave_122 : decode cX8_leave 122 = .ok (.invokevirtual 247, 3) := by decide +kernel
theorem dX8_leave_125 : decode cX8_leave 125 = .ok (.iinc 3 1, 3) := by decide +kernel
theorem dX8_leave_128 : decode cX8_leave 128 = .ok (.goto (-40), 3) := by decide +kernel
theorem dX8_leave_131 : decode cX8_leave 131 = .ok (.return_, 1) := by decide +kernel
theorem dX8_goFrom_0 : decode cX8_goFrom 0 = .ok (.iconst 0, 1) := by decide +kernel
theorem dX8_goFrom_1 : decode cX8_goFrom 1 = .ok (.istore_n 3, 1) := by decide +kernel
theorem dX8_goFrom_2 : decode cX8_goFrom 2 = .ok (.iload_n 3, 1) := by decide +kernel
theorem dX8_goFrom_3 : decode cX8_goFrom 3 = .ok (.aload_n 0, 1) := by decide +kernel
theorem dX8_goFrom_4 : decode cX8_goFrom 4 = .ok (.getfield 7, 3) := by decide +kernel
theorem dX8_goFrom_7 : decode cX8_goFrom 7 = .ok (.if_icmp .ge 20, 3) := by decide +kernel
theorem dX8_goFrom_10 : decode cX8_goFrom 10 = .ok (.aload_n 0, 1) := by decide +kernel
theorem dX8_goFrom_11 : decode cX8_goFrom 11 = .ok (.getfield 213, 3) := by decide +kernel
theorem dX8_goFrom_14 : decode cX8_goFrom 14 = .ok (.iload_n 3, 1) := by decide +kernel
theorem dX8_goFrom_15 : decode cX8_goFrom 15 = .ok (.aload_n 0, 1) := by decide +kernel
theorem dX8_goFrom_16 : decode cX8_goFrom 16 = .ok (.iload_n 3, 1) := by decide +kernel
theorem dX8_goFrom_17 : decode cX8_goFrom 17 = .ok (.invokevirtual 69, 3) := by decide +kernel
theorem dX8_goFrom_20 : decode cX8_goFrom 20 = .ok (.iastore, 1) := by decide +kernel
theorem dX8_goFrom_21 : decode cX8_goFrom 21 = .ok (.iinc 3 1, 3) := by decide +kernel
theorem dX8_goFrom_24 : decode cX8_goFrom 24 = .ok (.goto (-22), 3) := by decide +kernel
theorem dX8_goFrom_27 : decode cX8_goFrom 27 = .ok (.iconst 0, 1) := by decide +kernel
theorem dX8_goFrom_28 : decode cX8_goFrom 28 = .ok (.istore_n 3, 1) := by decide +kernel
theorem dX8_goFrom_29 : decode cX8_goFrom 29 = .ok (.iload_n 3, 1) := by decide +kernel
theorem dX8_goFrom_30 : decode cX8_goFrom 30 = .ok (.bipush 7, 2) := by decide +kernel
theorem dX8_goFrom_32 : decode cX8_goFrom 32 = .ok (.if_icmp .ge 38, 3) := by decide +kernel
theorem dX8_goFrom_35 : decode cX8_goFrom 35 = .ok (.aload_n 0, 1) := by decide +kernel
theorem dX8_goFrom_36 : decode cX8_goFrom 36 = .ok (.getfield 201, 3) := by decide +kernel
theorem dX8_goFrom_39 : decode cX8_goFrom 39 = .ok (.iload_n 3, 1) := by decide +kernel
theorem dX8_goFrom_40 : decode cX8_goFrom 40 = .ok (.ldc 251, 2) := by decide +kernel
theorem dX8_goFrom_42 : decode cX8_goFrom 42 = .ok (.iastore, 1) := by decide +kernel
theorem dX8_goFrom_43 : decode cX8_goFrom 43 = .ok (.aload_n 0, 1) := by decide +kernel
theorem dX8_goFrom_44 : decode cX8_goFrom 44 = .ok (.getfield 204, 3) := by decide +kernel
theorem dX8_goFrom_47 : decode cX8_goFrom 47 = .ok (.iload_n 3, 1) := by decide +kernel
theorem dX8_goFrom_48 : decode cX8_goFrom 48 = .ok (.iconst (-1), 1) := by decide +kernel
theorem dX8_goFrom_49 : decode cX8_goFrom 49 = .ok (.iastore, 1) := by decide +kernel
theorem dX8_goFrom_50 : decode cX8_goFrom 50 = .ok (.aload_n 0, 1) := by decide +kernel
theorem dX8_goFrom_51 : decode cX8_goFrom 51 = .ok (.getfield 207, 3) := by decide +kernel
theorem dX8_goFrom_54 : decode cX8_goFrom 54 = .ok (.iload_n 3, 1) := by decide +kernel
theorem dX8_goFrom_55 : decode cX8_goFrom 55 = .ok (.iconst (-1), 1) := by decide +kernel
theorem dX8_goFrom_56 : decode cX8_goFrom 56 = .ok (.iastore, 1) := by decide +kernel
theorem dX8_goFrom_57 : decode cX8_goFrom 57 = .ok (.aload_n 0, 1) := by decide +kernel
theorem dX8_goFrom_58 : decode cX8_goFrom 58 = .ok (.getfield 210, 3) := by decide +kernel
theorem dX8_goFrom_61 : decode cX8_goFrom 61 = .ok (.iload_n 3, 1) := by decide +kernel
theorem dX8_goFrom_62 : decode cX8_goFrom 62 = .ok (.iconst 0, 1) := by decide +kernel
theorem dX8_goFrom_63 : decode cX8_goFrom 63 = .ok (.bastore, 1) := by decide +kernel
theorem dX8_goFrom_64 : decode cX8_goFrom 64 = .ok (.iinc 3 1, 3) := by decide +kernel
theorem dX8_goFrom_67 : decode cX8_goFrom 67 = .ok (.goto (-38), 3) := by decide +kernel
theorem dX8_goFrom_70 : decode cX8_goFrom 70 = .ok (.aload_n 0, 1) := by decide +kernel
theorem dX8_goFrom_71 : decode cX8_goFrom 71 = .ok (.getfield 201, 3) := by decide +kernel
theorem dX8_goFrom_74 : decode cX8_goFrom 74 = .ok (.iload_n 1, 1) := by decide +kernel
theorem dX8_goFrom_75 : decode cX8_goFrom 75 = .ok (.iconst 0, 1) := by decide +kernel
theorem dX8_goFrom_76 : decode cX8_goFrom 76 = .ok (.iastore, 1) := by decide +kernel
theorem dX8_goFrom_77 : decode cX8_goFrom 77 = .ok (.iconst 0, 1) := by decide +kernel
theorem dX8_goFrom_78 : decode cX8_goFrom 78 = .ok (.istore_n 3, 1) := by decide +kernel
theorem dX8_goFrom_79 : decode cX8_goFrom 79 = .ok (.iload_n 3, 1) := by decide +kernel
theorem dX8_goFrom_80 : decode cX8_goFrom 80 = .ok (.bipush 7, 2) := by decide +kernel
theorem dX8_goFrom_82 : decode cX8_goFrom 82 = .ok (.if_icmp .ge 77, 3) := by decide +kernel
theorem dX8_goFrom_85 : decode cX8_goFrom 85 = .ok (.iconst (-1), 1) := by decide +kernel
theorem dX8_goFrom_86 : decode cX8_goFrom 86 = .ok (.istore 4, 2) := by decide +kernel
theorem dX8_goFrom_88 : decode cX8_goFrom 88 = .ok (.iconst 0, 1) := by decide +kernel
theorem dX8_goFrom_89 : decode cX8_goFrom 89 = .ok (.istore 5, 2) := by decide +kernel
theorem dX8_goFrom_91 : decode cX8_goFrom 91 = .ok (.iload 5, 2) := by decide +kernel
theorem dX8_goFrom_93 : decode cX8_goFrom 93 = .ok (.bipush 7, 2) := by decide +kernel
theorem dX8_goFrom_95 : decode cX8_goFrom 95 = .ok (.if_icmp .ge 51, 3) := by decide +kernel
theorem dX8_goFrom_98 : decode cX8_goFrom 98 = .ok (.aload_n 0, 1) := by decide +kernel
theorem dX8_goFrom_99 : decode cX8_goFrom 99 = .ok (.getfield 210, 3) := by decide +kernel
theorem dX8_goFrom_102 : decode cX8_goFrom 102 = .ok (.iload 5, 2) := by decide +kernel
theorem dX8_goFrom_104 : decode cX8_goFrom 104 = .ok (.baload, 1) := by decide +kernel
theorem dX8_goFrom_105 : decode cX8_goFrom 105 = .ok (.ifCond .ne 31, 3) := by decide +kernel
theorem dX8_goFrom_108 : decode cX8_goFrom 108 = .ok (.iload 4, 2) := by decide +kernel
theorem dX8_goFrom_110 : decode cX8_goFrom 110 = .ok (.iconst (-1), 1) := by decide +kernel
theorem dX8_goFrom_111 : decode cX8_goFrom 111 = .ok (.if_icmp .eq 20, 3) := by decide +kernel
theorem dX8_goFrom_114 : decode cX8_goFrom 114 = .ok (.aload_n 0, 1) := by decide +kernel
theorem dX8_goFrom_115 : decode cX8_goFrom 115 = .ok (.getfield 201, 3) := by decide +kernel
theorem dX8_goFrom_118 : decode cX8_goFrom 118 = .ok (.iload 5, 2) := by decide +kernel
theorem dX8_goFrom_120 : decode cX8_goFrom 120 = .ok (.iaload, 1) := by decide +kernel
theorem dX8_goFrom_121 : decode cX8_goFrom 121 = .ok (.aload_n 0, 1) := by decide +kernel
theorem dX8_goFrom_122 : decode cX8_goFrom 122 = .ok (.getfield 201, 3) := by decide +kernel
theorem dX8_goFrom_125 : decode cX8_goFrom 125 = .ok (.iload 4, 2) := by decide +kernel
theorem dX8_goFrom_127 : decode cX8_goFrom 127 = .ok (.iaload, 1) := by decide +kernel
theorem dX8_goFrom_128 : decode cX8_goFrom 128 = .ok (.if_icmp .ge 8, 3) := by decide +kernel
theorem dX8_goFrom_131 : decode cX8_goFrom 131 = .ok (.iload 5, 2) := by decide +kernel
theorem dX8_goFrom_133 : decode cX8_goFrom 133 = .ok (.goto 5, 3) := by decide +kernel
theorem dX8_goFrom_136 : decode cX8_goFrom 136 = .ok (.iload 4, 2) := by decide +kernel
theorem dX8_goFrom_138 : decode cX8_goFrom 138 = .ok (.istore 4, 2) := by decide +kernel
theorem dX8_goFrom_140 : decode cX8_goFrom 140 = .ok (.iinc 5 1, 3) := by decide +kernel
theorem dX8_goFrom_143 : decode cX8_goFrom 143 = .ok (.goto (-52), 3) := by decide +kernel
theorem dX8_goFrom_146 : decode cX8_goFrom 146 = .ok (.aload_n 0, 1) := by decide +kernel
theorem dX8_goFrom_147 : decode cX8_goFrom 147 = .ok (.iload 4, 2) := by decide +kernel
theorem dX8_goFrom_149 : decode cX8_goFrom 149 = .ok (.iload_n 2, 1) := by decide +kernel
theorem dX8_goFrom_150 : decode cX8_goFrom 150 = .ok (.invokevirtual 252, 3) := by decide +kernel
theorem dX8_goFrom_153 : decode cX8_goFrom 153 = .ok (.iinc 3 1, 3) := by decide +kernel
theorem dX8_goFrom_156 : decode cX8_goFrom 156 = .ok (.goto (-77), 3) := by decide +kernel
theorem dX8_goFrom_159 : decode cX8_goFrom 159 = .ok (.return_, 1) := by decide +kernel
theorem dX8_everyOne_0 : decode cX8_everyOne 0 = .ok (.iconst 1, 1) := by decide +kernel
theorem dX8_everyOne_1 : decode cX8_everyOne 1 = .ok (.aload_n 0, 1) := by decide +kernel
theorem dX8_everyOne_2 : decode cX8_everyOne 2 = .ok (.getfield 7, 3) := by decide +kernel
theorem dX8_everyOne_5 : decode cX8_everyOne 5 = .ok (.ishl, 1) := by decide +kernel
theorem dX8_everyOne_6 : decode cX8_everyOne 6 = .ok (.iconst 1, 1) := by decide +kernel
theorem dX8_everyOne_7 : decode cX8_everyOne 7 = .ok (.isub, 1) := by decide +kernel
theorem dX8_everyOne_8 : decode cX8_everyOne 8 = .ok (.ireturn, 1) := by decide +kernel
theorem dX8_soonTo_0 : decode cX8_soonTo 0 = .ok (.aload_n 0, 1) := by decide +kernel
theorem dX8_soonTo_1 : decode cX8_soonTo 1 = .ok (.iload_n 1, 1) := by decide +kernel
theorem dX8_soonTo_2 : decode cX8_soonTo 2 = .ok (.iload_n 3, 1) := by decide +kernel
theorem dX8_soonTo_3 : decode cX8_soonTo 3 = .ok (.invokevirtual 256, 3) := by decide +kernel
theorem dX8_soonTo_6 : decode cX8_soonTo 6 = .ok (.aload_n 0, 1) := by decide +kernel
theorem dX8_soonTo_7 : decode cX8_soonTo 7 = .ok (.getfield 201, 3) := by decide +kernel
theorem dX8_soonTo_10 : decode cX8_soonTo 10 = .ok (.iload_n 2, 1) := by decide +kernel
theorem dX8_soonTo_11 : decode cX8_soonTo 11 = .ok (.iaload, 1) := by decide +kernel
theorem dX8_soonTo_12 : decode cX8_soonTo 12 = .ok (.ireturn, 1) := by decide +kernel
theorem dX8_wayTo_0 : decode cX8_wayTo 0 = .ok (.aload_n 0, 1) := by decide +kernel
theorem dX8_wayTo_1 : decode cX8_wayTo 1 = .ok (.iconst 0, 1) := by decide +kernel
theorem dX8_wayTo_2 : decode cX8_wayTo 2 = .ok (.putfield 259, 3) := by decide +kernel
theorem dX8_wayTo_5 : decode cX8_wayTo 5 = .ok (.iload_n 1, 1) := by decide +kernel
theorem dX8_wayTo_6 : decode cX8_wayTo 6 = .ok (.istore_n 2, 1) := by decide +kernel
theorem dX8_wayTo_7 : decode cX8_wayTo 7 = .ok (.aload_n 0, 1) := by decide +kernel
theorem dX8_wayTo_8 : decode cX8_wayTo 8 = .ok (.getfield 207, 3) := by decide +kernel
theorem dX8_wayTo_11 : decode cX8_wayTo 11 = .ok (.iload_n 2, 1) := by decide +kernel
theorem dX8_wayTo_12 : decode cX8_wayTo 12 = .ok (.iaload, 1) := by decide +kernel
theorem dX8_wayTo_13 : decode cX8_wayTo 13 = .ok (.iconst (-1), 1) := by decide +kernel
theorem dX8_wayTo_14 : decode cX8_wayTo 14 = .ok (.if_icmp .eq 23, 3) := by decide +kernel
theorem dX8_wayTo_17 : decode cX8_wayTo 17 = .ok (.aload_n 0, 1) := by decide +kernel
theorem dX8_wayTo_18 : decode cX8_wayTo 18 = .ok (.dup, 1) := by decide +kernel
theorem dX8_wayTo_19 : decode cX8_wayTo 19 = .ok (.getfield 259, 3) := by decide +kernel
theorem dX8_wayTo_22 : decode cX8_wayTo 22 = .ok (.iconst 1, 1) := by decide +kernel
theorem dX8_wayTo_23 : decode cX8_wayTo 23 = .ok (.iadd, 1) := by decide +kernel
theorem dX8_wayTo_24 : decode cX8_wayTo 24 = .ok (.putfield 259, 3) := by decide +kernel
theorem dX8_wayTo_27 : decode cX8_wayTo 27 = .ok (.aload_n 0, 1) := by decide +kernel
theorem dX8_wayTo_28 : decode cX8_wayTo 28 = .ok (.getfield 207, 3) := by decide +kernel
theorem dX8_wayTo_31 : decode cX8_wayTo 31 = .ok (.iload_n 2, 1) := by decide +kernel
theorem dX8_wayTo_32 : decode cX8_wayTo 32 = .ok (.iaload, 1) := by decide +kernel
theorem dX8_wayTo_33 : decode cX8_wayTo 33 = .ok (.istore_n 2, 1) := by decide +kernel
theorem dX8_wayTo_34 : decode cX8_wayTo 34 = .ok (.goto (-27), 3) := by decide +kernel
theorem dX8_wayTo_37 : decode cX8_wayTo 37 = .ok (.aload_n 0, 1) := by decide +kernel
theorem dX8_wayTo_38 : decode cX8_wayTo 38 = .ok (.getfield 259, 3) := by decide +kernel
theorem dX8_wayTo_41 : decode cX8_wayTo 41 = .ok (.istore_n 2, 1) := by decide +kernel
theorem dX8_wayTo_42 : decode cX8_wayTo 42 = .ok (.iload_n 1, 1) := by decide +kernel
theorem dX8_wayTo_43 : decode cX8_wayTo 43 = .ok (.istore_n 3, 1) := by decide +kernel
theorem dX8_wayTo_44 : decode cX8_wayTo 44 = .ok (.aload_n 0, 1) := by decide +kernel
theorem dX8_wayTo_45 : decode cX8_wayTo 45 = .ok (.getfield 207, 3) := by decide +kernel
theorem dX8_wayTo_48 : decode cX8_wayTo 48 = .ok (.iload_n 3, 1) := by decide +kernel
theorem dX8_wayTo_49 : decode cX8_wayTo 49 = .ok (.iaload, 1) := by decide +kernel
theorem dX8_wayTo_50 : decode cX8_wayTo 50 = .ok (.iconst (-1), 1) := by decide +kernel
theorem dX8_wayTo_51 : decode cX8_wayTo 51 = .ok (.if_icmp .eq 23, 3) := by decide +kernel
theorem dX8_wayTo_54 : decode cX8_wayTo 54 = .ok (.iinc 2 (-1), 3) := by decide +kernel
theorem dX8_wayTo_57 : decode cX8_wayTo 57 = .ok (.aload_n 0, 1) := by decide +kernel
theorem dX8_wayTo_58 : decode cX8_wayTo 58 = .ok (.getfield 216, 3) := by decide +kernel
theorem dX8_wayTo_61 : decode cX8_wayTo 61 = .ok (.iload_n 2, 1) := by decide +kernel
theorem dX8_wayTo_62 : decode cX8_wayTo 62 = .ok (.iload_n 3, 1) := by decide +kernel
theorem dX8_wayTo_63 : decode cX8_wayTo 63 = .ok (.iastore, 1) := by decide +kernel
theorem dX8_wayTo_64 : decode cX8_wayTo 64 = .ok (.aload_n 0, 1) := by decide +kernel
theorem dX8_wayTo_65 : decode cX8_wayTo 65 = .ok (.getfield 207, 3) := by decide +kernel
theorem dX8_wayTo_68 : decode cX8_wayTo 68 = .ok (.iload_n 3, 1) := by decide +kernel
theorem dX8_wayTo_69 : decode cX8_wayTo 69 = .ok (.iaload, 1) := by decide +kernel
theorem dX8_wayTo_70 : decode cX8_wayTo 70 = .ok (.istore_n 3, 1) := by decide +kernel
theorem dX8_wayTo_71 : decode cX8_wayTo 71 = .ok (.goto (-27), 3) := by decide +kernel
theorem dX8_wayTo_74 : decode cX8_wayTo 74 = .ok (.return_, 1) := by decide +kernel
theorem dX8_waySet_0 : decode cX8_waySet 0 = .ok (.iconst 0, 1) := by decide +kernel
theorem dX8_waySet_1 : decode cX8_waySet 1 = .ok (.istore_n 1, 1) := by decide +kernel
theorem dX8_waySet_2 : decode cX8_waySet 2 = .ok (.iconst 0, 1) := by decide +kernel
theorem dX8_waySet_3 : decode cX8_waySet 3 = .ok (.istore_n 2, 1) := by decide +kernel
theorem dX8_waySet_4 : decode cX8_waySet 4 = .ok (.iload_n 2, 1) := by decide +kernel
theorem dX8_waySet_5 : decode cX8_waySet 5 = .ok (.aload_n 0, 1) := by decide +kernel
theorem dX8_waySet_6 : decode cX8_waySet 6 = .ok (.getfield 259, 3) := by decide +kernel
theorem dX8_waySet_9 : decode cX8_waySet 9 = .ok (.if_icmp .ge 45, 3) := by decide +kernel
theorem dX8_waySet_12 : decode cX8_waySet 12 = .ok (.iload_n 1, 1) := by decide +kernel
theorem dX8_waySet_13 : decode cX8_waySet 13 = .ok (.aload_n 0, 1) := by decide +kernel
theorem dX8_waySet_14 : decode cX8_waySet 14 = .ok (.getfield 204, 3) := by decide +kernel
theorem dX8_waySet_17 : decode cX8_waySet 17 = .ok (.aload_n 0, 1) := by decide +kernel
theorem dX8_waySet_18 : decode cX8_waySet 18 = .ok (.getfield 216, 3) := by decide +kernel
theorem dX8_waySet_21 : decode cX8_waySet 21 = .ok (.iload_n 2, 1) := by decide +kernel
theorem dX8_waySet_22 : decode cX8_waySet 22 = .ok (.iaload, 1) := by decide +kernel
theorem dX8_waySet_23 : decode cX8_waySet 23 = .ok (.iaload, 1) := by decide +kernel
theorem dX8_waySet_24 : decode cX8_waySet 24 = .ok (.bipush 7, 2) := by decide +kernel
theorem dX8_waySet_26 : decode cX8_waySet 26 = .ok (.if_icmp .ne 7, 3) := by decide +kernel
theorem dX8_waySet_29 : decode cX8_waySet 29 = .ok (.iconst 0, 1) := by decide +kernel
theorem dX8_waySet_30 : decode cX8_waySet 30 = .ok (.goto 16, 3) := by decide +kernel
theorem dX8_waySet_33 : decode cX8_waySet 33 = .ok (.iconst 1, 1) := by decide +kernel
theorem dX8_waySet_34 : decode cX8_waySet 34 = .ok (.aload_n 0, 1) := by decide +kernel
theorem dX8_waySet_35 : decode cX8_waySet 35 = .ok (.getfield 204, 3) := by decide +kernel
theorem dX8_waySet_38 : decode cX8_waySet 38 = .ok (.aload_n 0, 1) := by decide +kernel
theorem dX8_waySet_39 : decode cX8_waySet 39 = .ok (.getfield 216, 3) := by decide +kernel
theorem dX8_waySet_42 : decode cX8_waySet 42 = .ok (.iload_n 2, 1) := by decide +kernel
theorem dX8_waySet_43 : decode cX8_waySet 43 = .ok (.iaload, 1) := by decide +kernel
theorem dX8_waySet_44 : decode cX8_waySet 44 = .ok (.iaload, 1) := by decide +kernel
theorem dX8_waySet_45 : decode cX8_waySet 45 = .ok (.ishl, 1) := by decide +kernel
theorem dX8_waySet_46 : decode cX8_waySet 46 = .ok (.ior, 1) := by decide +kernel
theorem dX8_waySet_47 : decode cX8_waySet 47 = .ok (.istore_n 1, 1) := by decide +kernel
theorem dX8_waySet_48 : decode cX8_waySet 48 = .ok (.iinc 2 1, 3) := by decide +kernel
theorem dX8_waySet_51 : decode cX8_waySet 51 = .ok (.goto (-47), 3) := by decide +kernel
theorem dX8_waySet_54 : decode cX8_waySet 54 = .ok (.iload_n 1, 1) := by decide +kernel
theorem dX8_waySet_55 : decode cX8_waySet 55 = .ok (.ireturn, 1) := by decide +kernel
theorem dX8_soonest_0 : decode cX8_soonest 0 = .ok (.iload_n 1, 1) := by decide +kernel
theorem dX8_soonest_1 : decode cX8_soonest 1 = .ok (.invokestatic 18, 3) := by decide +kernel
theorem dX8_soonest_4 : decode cX8_soonest 4 = .ok (.ifCond .eq 10, 3) := by decide +kernel
theorem dX8_soonest_7 : decode cX8_soonest 7 = .ok (.iload_n 2, 1) := by decide +kernel
theorem dX8_soonest_8 : decode cX8_soonest 8 = .ok (.invokestatic 18, 3) := by decide +kernel
theorem dX8_soonest_11 : decode cX8_soonest 11 = .ok (.ifCond .ne 6, 3) := by decide +kernel
theorem dX8_soonest_14 : decode cX8_soonest 14 = .ok (.bipush (-5), 2) := by decide +kernel
theorem dX8_soonest_16 : decode cX8_soonest 16 = .ok (.ireturn, 1) := by decide +kernel
theorem dX8_soonest_17 : decode cX8_soonest 17 = .ok (.iload_n 3, 1) := by decide +kernel
theorem dX8_soonest_18 : decode cX8_soonest 18 = .ok (.iconst 0, 1) := by decide +kernel
theorem dX8_soonest_19 : decode cX8_soonest 19 = .ok (.iconst 4, 1) := by decide +kernel
theorem dX8_soonest_20 : decode cX8_soonest 20 = .ok (.invokestatic 3, 3) := by decide +kernel
theorem dX8_soonest_23 : decode cX8_soonest 23 = .ok (.ifCond .ne 6, 3) := by decide +kernel
theorem dX8_soonest_26 : decode cX8_soonest 26 = .ok (.bipush (-7), 2) := by decide +kernel
theorem dX8_soonest_28 : decode cX8_soonest 28 = .ok (.ireturn, 1) := by decide +kernel
theorem dX8_soonest_29 : decode cX8_soonest 29 = .ok (.aload_n 0, 1) := by decide +kernel
theorem dX8_soonest_30 : decode cX8_soonest 30 = .ok (.iload_n 1, 1) := by decide +kernel
theorem dX8_soonest_31 : decode cX8_soonest 31 = .ok (.aload_n 0, 1) := by decide +kernel
theorem dX8_soonest_32 : decode cX8_soonest 32 = .ok (.invokevirtual 262, 3) := by decide +kernel
theorem dX8_soonest_35 : decode cX8_soonest 35 = .ok (.invokevirtual 256, 3) := by decide +kernel
theorem dX8_soonest_38 : decode cX8_soonest 38 = .ok (.aload_n 0, 1) := by decide +kernel
theorem dX8_soonest_39 : decode cX8_soonest 39 = .ok (.iload_n 2, 1) := by decide +kernel
theorem dX8_soonest_40 : decode cX8_soonest 40 = .ok (.invokevirtual 266, 3) := by decide +kernel
theorem dX8_soonest_43 : decode cX8_soonest 43 = .ok (.iconst 0, 1) := by decide +kernel
theorem dX8_soonest_44 : decode cX8_soonest 44 = .ok (.istore 4, 2) := by decide +kernel
theorem dX8_soonest_46 : decode cX8_soonest 46 = .ok (.iconst 0, 1) := by decide +kernel
theorem dX8_soonest_47 : decode cX8_soonest 47 = .ok (.istore 5, 2) := by decide +kernel
theorem dX8_soonest_49 : decode cX8_soonest 49 = .ok (.iload 5, 2) := by decide +kernel
theorem dX8_soonest_51 : decode cX8_soonest 51 = .ok (.aload_n 0, 1) := by decide +kernel
theorem dX8_soonest_52 : decode cX8_soonest 52 = .ok (.getfield 259, 3) := by decide +kernel
theorem dX8_soonest_55 : decode cX8_soonest 55 = .ok (.if_icmp .ge 63, 3) := by decide +kernel
theorem dX8_soonest_58 : decode cX8_soonest 58 = .ok (.iload 4, 2) := by decide +kernel
theorem dX8_soonest_60 : decode cX8_soonest 60 = .ok (.aload_n 0, 1) := by decide +kernel
theorem dX8_soonest_61 : decode cX8_soonest 61 = .ok (.getfield 204, 3) := by decide +kernel
theorem dX8_soonest_64 : decode cX8_soonest 64 = .ok (.aload_n 0, 1) := by decide +kernel
theorem dX8_soonest_65 : decode cX8_soonest 65 = .ok (.getfield 216, 3) := by decide +kernel
theorem dX8_soonest_68 : decode cX8_soonest 68 = .ok (.iload 5, 2) := by decide +kernel
theorem dX8_soonest_70 : decode cX8_soonest 70 = .ok (.iaload, 1) := by decide +kernel
theorem dX8_soonest_71 : decode cX8_soonest 71 = .ok (.iaload, 1) := by decide +kernel
theorem dX8_soonest_72 : decode cX8_soonest 72 = .ok (.bipush 7, 2) := by decide +kernel
theorem dX8_soonest_74 : decode cX8_soonest 74 = .ok (.if_icmp .ne 34, 3) := by decide +kernel
theorem dX8_soonest_77 : decode cX8_soonest 77 = .ok (.aload_n 0, 1) := by decide +kernel
theorem dX8_soonest_78 : decode cX8_soonest 78 = .ok (.getfield 14, 3) := by decide +kernel
theorem dX8_soonest_81 : decode cX8_soonest 81 = .ok (.bipush 7, 2) := by decide +kernel
theorem dX8_soonest_83 : decode cX8_soonest 83 = .ok (.aload_n 0, 1) := by decide +kernel
theorem dX8_soonest_84 : decode cX8_soonest 84 = .ok (.getfield 207, 3) := by decide +kernel
theorem dX8_soonest_87 : decode cX8_soonest 87 = .ok (.aload_n 0, 1) := by decide +kernel
theorem dX8_soonest_88 : decode cX8_soonest 88 = .ok (.getfield 216, 3) := by decide +kernel
theorem dX8_soonest_91 : decode cX8_soonest 91 = .ok (.iload 5, 2) := by decide +kernel
theorem dX8_soonest_93 : decode cX8_soonest 93 = .ok (.iaload, 1) := by decide +kernel
theorem dX8_soonest_94 : decode cX8_soonest 94 = .ok (.iaload, 1) := by decide +kernel
theorem dX8_soonest_95 : decode cX8_soonest 95 = .ok (.imul, 1) := by decide +kernel
theorem dX8_soonest_96 : decode cX8_soonest 96 = .ok (.aload_n 0, 1) := by decide +kernel
theorem dX8_soonest_97 : decode cX8_soonest 97 = .ok (.getfield 216, 3) := by decide +kernel
theorem dX8_soonest_100 : decode cX8_soonest 100 = .ok (.iload 5, 2) := by decide +kernel
theorem dX8_soonest_102 : decode cX8_soonest 102 = .ok (.iaload, 1) := by decide +kernel
theorem dX8_soonest_103 : decode cX8_soonest 103 = .ok (.iadd, 1) := by decide +kernel
theorem dX8_soonest_104 : decode cX8_soonest 104 = .ok (.iaload, 1) := by decide +kernel
theorem dX8_soonest_105 : decode cX8_soonest 105 = .ok (.goto 4, 3) := by decide +kernel
theorem dX8_soonest_108 : decode cX8_soonest 108 = .ok (.iconst 0, 1) := by decide +kernel
theorem dX8_soonest_109 : decode cX8_soonest 109 = .ok (.iadd, 1) := by decide +kernel
theorem dX8_soonest_110 : decode cX8_soonest 110 = .ok (.istore 4, 2) := by decide +kernel
theorem dX8_soonest_112 : decode cX8_soonest 112 = .ok (.iinc 5 1, 3) := by decide +kernel
theorem dX8_soonest_115 : decode cX8_soonest 115 = .ok (.goto (-66), 3) := by decide +kernel
theorem dX8_soonest_118 : decode cX8_soonest 118 = .ok (.aload_n 0, 1) := by decide +kernel
theorem dX8_soonest_119 : decode cX8_soonest 119 = .ok (.getfield 259, 3) := by decide +kernel
theorem dX8_soonest_122 : decode cX8_soonest 122 = .ok (.ifCond .eq 19, 3) := by decide +kernel
theorem dX8_soonest_125 : decode cX8_soonest 125 = .ok (.aload_n 0, 1) := by decide +kernel
theorem dX8_soonest_126 : decode cX8_soonest 126 = .ok (.getfield 204, 3) := by decide +kernel
theorem dX8_soonest_129 : decode cX8_soonest 129 = .ok (.aload_n 0, 1) := by decide +kernel
theorem dX8_soonest_130 : decode cX8_soonest 130 = .ok (.getfield 216, 3) := by decide +kernel
theorem dX8_soonest_133 : decode cX8_soonest 133 = .ok (.iconst 0, 1) := by decide +kernel
theorem dX8_soonest_134 : decode cX8_soonest 134 = .ok (.iaload, 1) := by decide +kernel
theorem dX8_soonest_135 : decode cX8_soonest 135 = .ok (.iaload, 1) := by decide +kernel
theorem dX8_soonest_136 : decode cX8_soonest 136 = .ok (.bipush 7, 2) := by decide +kernel
theorem dX8_soonest_138 : decode cX8_soonest 138 = .ok (.if_icmp .ne 7, 3) := by decide +kernel
theorem dX8_soonest_141 : decode cX8_soonest 141 = .ok (.iconst (-1), 1) := by decide +kernel
theorem dX8_soonest_142 : decode cX8_soonest 142 = .ok (.goto 14, 3) := by decide +kernel
theorem dX8_soonest_145 : decode cX8_soonest 145 = .ok (.aload_n 0, 1) := by decide +kernel
theorem dX8_soonest_146 : decode cX8_soonest 146 = .ok (.getfield 204, 3) := by decide +kernel
theorem dX8_soonest_149 : decode cX8_soonest 149 = .ok (.aload_n 0, 1) := by decide +kernel
theorem dX8_soonest_150 : decode cX8_soonest 150 = .ok (.getfield 216, 3) := by decide +kernel
theorem dX8_soonest_153 : decode cX8_soonest 153 = .ok (.iconst 0, 1) := by decide +kernel
theorem dX8_soonest_154 : decode cX8_soonest 154 = .ok (.iaload, 1) := by decide +kernel
theorem dX8_soonest_155 : decode cX8_soonest 155 = .ok (.iaload, 1) := by decide +kernel
theorem dX8_soonest_156 : decode cX8_soonest 156 = .ok (.istore 5, 2) := by decide +kernel
theorem dX8_soonest_158 : decode cX8_soonest 158 = .ok (.iload_n 3, 1) := by decide +kernel
theorem dX8_soonest_159 : decode cX8_soonest 159 = .ok (.ifCond .ne 12, 3) := by decide +kernel
theorem dX8_soonest_162 : decode cX8_soonest 162 = .ok (.aload_n 0, 1) := by decide +kernel
theorem dX8_soonest_163 : decode cX8_soonest 163 = .ok (.getfield 201, 3) := by decide +kernel
theorem dX8_soonest_166 : decode cX8_soonest 166 = .ok (.iload_n 2, 1) := by decide +kernel
theorem dX8_soonest_167 : decode cX8_soonest 167 = .ok (.iaload, 1) := by decide +kernel
theorem dX8_soonest_168 : decode cX8_soonest 168 = .ok (.goto 39, 3) := by decide +kernel
theorem dX8_soonest_171 : decode cX8_soonest 171 = .ok (.iload_n 3, 1) := by decide +kernel
theorem dX8_soonest_172 : decode cX8_soonest 172 = .ok (.iconst 1, 1) := by decide +kernel
theorem dX8_soonest_173 : decode cX8_soonest 173 = .ok (.if_icmp .ne 10, 3) := by decide +kernel
theorem dX8_soonest_176 : decode cX8_soonest 176 = .ok (.aload_n 0, 1) := by decide +kernel
theorem dX8_soonest_177 : decode cX8_soonest 177 = .ok (.invokevirtual 269, 3) := by decide +kernel
theorem dX8_soonest_180 : decode cX8_soonest 180 = .ok (.goto 27, 3) := by decide +kernel
theorem dX8_soonest_183 : decode cX8_soonest 183 = .ok (.iload_n 3, 1) := by decide +kernel
theorem dX8_soonest_184 : decode cX8_soonest 184 = .ok (.iconst 2, 1) := by decide +kernel
theorem dX8_soonest_185 : decode cX8_soonest 185 = .ok (.if_icmp .ne 8, 3) := by decide +kernel
theorem dX8_soonest_188 : decode cX8_soonest 188 = .ok (.iload 4, 2) := by decide +kernel
theorem dX8_soonest_190 : decode cX8_soonest 190 = .ok (.goto 17, 3) := by decide +kernel
theorem dX8_soonest_193 : decode cX8_soonest 193 = .ok (.iload_n 3, 1) := by decide +kernel
theorem dX8_soonest_194 : decode cX8_soonest 194 = .ok (.iconst 3, 1) := by decide +kernel
theorem dX8_soonest_195 : decode cX8_soonest 195 = .ok (.if_icmp .ne 10, 3) := by decide +kernel
theorem dX8_soonest_198 : decode cX8_soonest 198 = .ok (.aload_n 0, 1) := by decide +kernel
theorem dX8_soonest_199 : decode cX8_soonest 199 = .ok (.getfield 259, 3) := by decide +kernel
theorem dX8_soonest_202 : decode cX8_soonest 202 = .ok (.goto 5, 3) := by decide +kernel
theorem dX8_soonest_205 : decode cX8_soonest 205 = .ok (.iload 5, 2) := by decide +kernel
theorem dX8_soonest_207 : decode cX8_soonest 207 = .ok (.ireturn, 1) := by decide +kernel
theorem dX8_piece_0 : decode cX8_piece 0 = .ok (.iload_n 1, 1) := by decide +kernel
theorem dX8_piece_1 : decode cX8_piece 1 = .ok (.invokestatic 18, 3) := by decide +kernel
theorem dX8_piece_4 : decode cX8_piece 4 = .ok (.ifCond .eq 10, 3) := by decide +kernel
theorem dX8_piece_7 : decode cX8_piece 7 = .ok (.iload_n 2, 1) := by decide +kernel
theorem dX8_piece_8 : decode cX8_piece 8 = .ok (.invokestatic 18, 3) := by decide +kernel
theorem dX8_piece_11 : decode cX8_piece 11 = .ok (.ifCond .ne 6, 3) := by decide +kernel
theorem dX8_piece_14 : decode cX8_piece 14 = .ok (.bipush (-5), 2) := by decide +kernel
theorem dX8_piece_16 : decode cX8_piece 16 = .ok (.ireturn, 1) := by decide +kernel
theorem dX8_piece_17 : decode cX8_piece 17 = .ok (.iload_n 3, 1) := by decide +kernel
theorem dX8_piece_18 : decode cX8_piece 18 = .ok (.ifCond .ge 6, 3) := by decide +kernel
theorem dX8_piece_21 : decode cX8_piece 21 = .ok (.bipush (-7), 2) := by decide +kernel
theorem dX8_piece_23 : decode cX8_piece 23 = .ok (.ireturn, 1) := by decide +kernel
theorem dX8_piece_24 : decode cX8_piece 24 = .ok (.aload_n 0, 1) := by decide +kernel
theorem dX8_piece_25 : decode cX8_piece 25 = .ok (.iload_n 1, 1) := by decide +kernel
theorem dX8_piece_26 : decode cX8_piece 26 = .ok (.aload_n 0, 1) := by decide +kernel
theorem dX8_piece_27 : decode cX8_piece 27 = .ok (.invokevirtual 262, 3) := by decide +kernel
theorem dX8_piece_30 : decode cX8_piece 30 = .ok (.invokevirtual 256, 3) := by decide +kernel
theorem dX8_piece_33 : decode cX8_piece 33 = .ok (.aload_n 0, 1) := by decide +kernel
theorem dX8_piece_34 : decode cX8_piece 34 = .ok (.iload_n 2, 1) := by decide +kernel
theorem dX8_piece_35 : decode cX8_piece 35 = .ok (.invokevirtual 266, 3) := by decide +kernel
theorem dX8_piece_38 : decode cX8_piece 38 = .ok (.iload_n 3, 1) := by decide +kernel
theorem dX8_piece_39 : decode cX8_piece 39 = .ok (.aload_n 0, 1) := by decide +kernel
theorem dX8_piece_40 : decode cX8_piece 40 = .ok (.getfield 259, 3) := by decide +kernel
theorem dX8_piece_43 : decode cX8_piece 43 = .ok (.if_icmp .ge 27, 3) := by decide +kernel
theorem dX8_piece_46 : decode cX8_piece 46 = .ok (.bipush 10, 2) := by decide +kernel
theorem dX8_piece_48 : decode cX8_piece 48 = .ok (.aload_n 0, 1) := by decide +kernel
theorem dX8_piece_49 : decode cX8_piece 49 = .ok (.getfield 204, 3) := by decide +kernel
theorem dX8_piece_52 : decode cX8_piece 52 = .ok (.aload_n 0, 1) := by decide +kernel
theorem dX8_piece_53 : decode cX8_piece 53 = .ok (.getfield 216, 3) := by decide +kernel
theorem dX8_piece_56 : decode cX8_piece 56 = .ok (.iload_n 3, 1) := by decide +kernel
theorem dX8_piece_57 : decode cX8_piece 57 = .ok (.iaload, 1) := by decide +kernel
theorem dX8_piece_58 : decode cX8_piece 58 = .ok (.iaload, 1) := by decide +kernel
theorem dX8_piece_59 : decode cX8_piece 59 = .ok (.imul, 1) := by decide +kernel
theorem dX8_piece_60 : decode cX8_piece 60 = .ok (.aload_n 0, 1) := by decide +kernel
theorem dX8_piece_61 : decode cX8_piece 61 = .ok (.getfield 216, 3) := by decide +kernel
theorem dX8_piece_64 : decode cX8_piece 64 = .ok (.iload_n 3, 1) := by decide +kernel
theorem dX8_piece_65 : decode cX8_piece 65 = .ok (.iaload, 1) := by decide +kernel
theorem dX8_piece_66 : decode cX8_piece 66 = .ok (.iadd, 1) := by decide +kernel
theorem dX8_piece_67 : decode cX8_piece 67 = .ok (.goto 4, 3) := by decide +kernel
theorem dX8_piece_70 : decode cX8_piece 70 = .ok (.iconst (-1), 1) := by decide +kernel
theorem dX8_piece_71 : decode cX8_piece 71 = .ok (.ireturn, 1) := by decide +kernel
theorem dX8_both_0 : decode cX8_both 0 = .ok (.aload_n 0, 1) := by decide +kernel
theorem dX8_both_1 : decode cX8_both 1 = .ok (.iload_n 1, 1) := by decide +kernel
theorem dX8_both_2 : decode cX8_both 2 = .ok (.invokevirtual 32, 3) := by decide +kernel
theorem dX8_both_5 : decode cX8_both 5 = .ok (.ifCond .eq 11, 3) := by decide +kernel
theorem dX8_both_8 : decode cX8_both 8 = .ok (.aload_n 0, 1) := by decide +kernel
theorem dX8_both_9 : decode cX8_both 9 = .ok (.iload_n 2, 1) := by decide +kernel
theorem dX8_both_10 : decode cX8_both 10 = .ok (.invokevirtual 32, 3) := by decide +kernel
theorem dX8_both_13 : decode cX8_both 13 = .ok (.ifCond .ne 6, 3) := by decide +kernel
theorem dX8_both_16 : decode cX8_both 16 = .ok (.bipush (-5), 2) := by decide +kernel
theorem dX8_both_18 : decode cX8_both 18 = .ok (.ireturn, 1) := by decide +kernel
theorem dX8_both_19 : decode cX8_both 19 = .ok (.iload_n 3, 1) := by decide +kernel
theorem dX8_both_20 : decode cX8_both 20 = .ok (.iconst 0, 1) := by decide +kernel
theorem dX8_both_21 : decode cX8_both 21 = .ok (.iconst 2, 1) := by decide +kernel
theorem dX8_both_22 : decode cX8_both 22 = .ok (.invokestatic 3, 3) := by decide +kernel
theorem dX8_both_25 : decode cX8_both 25 = .ok (.ifCond .ne 6, 3) := by decide +kernel
theorem dX8_both_28 : decode cX8_both 28 = .ok (.bipush (-7), 2) := by decide +kernel
theorem dX8_both_30 : decode cX8_both 30 = .ok (.ireturn, 1) := by decide +kernel
theorem dX8_both_31 : decode cX8_both 31 = .ok (.iconst (-1), 1) := by decide +kernel
theorem dX8_both_32 : decode cX8_both 32 = .ok (.istore 4, 2) := by decide +kernel
theorem dX8_both_34 : decode cX8_both 34 = .ok (.iconst 0, 1) := by decide +kernel
theorem dX8_both_35 : decode cX8_both 35 = .ok (.istore 5, 2) := by decide +kernel
theorem dX8_both_37 : decode cX8_both 37 = .ok (.iconst 0, 1) := by decide +kernel
theorem dX8_both_38 : decode cX8_both 38 = .ok (.istore 6, 2) := by decide +kernel
theorem dX8_both_40 : decode cX8_both 40 = .ok (.iconst 0, 1) := by decide +kernel
theorem dX8_both_41 : decode cX8_both 41 = .ok (.istore 7, 2) := by decide +kernel
theorem dX8_both_43 : decode cX8_both 43 = .ok (.iload 7, 2) := by decide +kernel
theorem dX8_both_45 : decode cX8_both 45 = .ok (.aload_n 0, 1) := by decide +kernel
theorem dX8_both_46 : decode cX8_both 46 = .ok (.invokevirtual 262, 3) := by decide +kernel
theorem dX8_both_49 : decode cX8_both 49 = .ok (.if_icmp .gt 110, 3) := by decide +kernel
theorem dX8_both_52 : decode cX8_both 52 = .ok (.aload_n 0, 1) := by decide +kernel
theorem dX8_both_53 : decode cX8_both 53 = .ok (.aload_n 0, 1) := by decide +kernel
theorem dX8_both_54 : decode cX8_both 54 = .ok (.getfield 26, 3) := by decide +kernel
theorem dX8_both_57 : decode cX8_both 57 = .ok (.iload_n 1, 1) := by decide +kernel
theorem dX8_both_58 : decode cX8_both 58 = .ok (.iaload, 1) := by decide +kernel
theorem dX8_both_59 : decode cX8_both 59 = .ok (.aload_n 0, 1) := by decide +kernel
theorem dX8_both_60 : decode cX8_both 60 = .ok (.getfield 29, 3) := by decide +kernel
theorem dX8_both_63 : decode cX8_both 63 = .ok (.iload_n 1, 1) := by decide +kernel
theorem dX8_both_64 : decode cX8_both 64 = .ok (.iaload, 1) := by decide +kernel
theorem dX8_both_65 : decode cX8_both 65 = .ok (.iload 7, 2) := by decide +kernel
theorem dX8_both_67 : decode cX8_both 67 = .ok (.invokevirtual 272, 3) := by decide +kernel
theorem dX8_both_70 : decode cX8_both 70 = .ok (.istore 8, 2) := by decide +kernel
theorem dX8_both_72 : decode cX8_both 72 = .ok (.aload_n 0, 1) := by decide +kernel
theorem dX8_both_73 : decode cX8_both 73 = .ok (.aload_n 0, 1) := by decide +kernel
theorem dX8_both_74 : decode cX8_both 74 = .ok (.getfield 26, 3) := by decide +kernel
theorem dX8_both_77 : decode cX8_both 77 = .ok (.iload_n 2, 1) := by decide +kernel
theorem dX8_both_78 : decode cX8_both 78 = .ok (.iaload, 1) := by decide +kernel
theorem dX8_both_79 : decode cX8_both 79 = .ok (.aload_n 0, 1) := by decide +kernel
theorem dX8_both_80 : decode cX8_both 80 = .ok (.getfield 29, 3) := by decide +kernel
theorem dX8_both_83 : decode cX8_both 83 = .ok (.iload_n 2, 1) := by decide +kernel
theorem dX8_both_84 : decode cX8_both 84 = .ok (.iaload, 1) := by decide +kernel
theorem dX8_both_85 : decode cX8_both 85 = .ok (.aload_n 0, 1) := by decide +kernel
theorem dX8_both_86 : decode cX8_both 86 = .ok (.invokevirtual 262, 3) := by decide +kernel
theorem dX8_both_89 : decode cX8_both 89 = .ok (.iload 7, 2) := by decide +kernel
theorem dX8_both_91 : decode cX8_both 91 = .ok (.iconst (-1), 1) := by decide +kernel
theorem dX8_both_92 : decode cX8_both 92 = .ok (.ixor, 1) := by decide +kernel
theorem dX8_both_93 : decode cX8_both 93 = .ok (.iand, 1) := by decide +kernel
theorem dX8_both_94 : decode cX8_both 94 = .ok (.invokevirtual 272, 3) := by decide +kernel
theorem dX8_both_97 : decode cX8_both 97 = .ok (.istore 9, 2) := by decide +kernel
theorem dX8_both_99 : decode cX8_both 99 = .ok (.iload 8, 2) := by decide +kernel
theorem dX8_both_101 : decode cX8_both 101 = .ok (.iload 9, 2) := by decide +kernel
theorem dX8_both_103 : decode cX8_both 103 = .ok (.invokestatic 64, 3) := by decide +kernel
theorem dX8_both_106 : decode cX8_both 106 = .ok (.istore 10, 2) := by decide +kernel
theorem dX8_both_108 : decode cX8_both 108 = .ok (.iload 4, 2) := by decide +kernel
theorem dX8_both_110 : decode cX8_both 110 = .ok (.iconst (-1), 1) := by decide +kernel
theorem dX8_both_111 : decode cX8_both 111 = .ok (.if_icmp .eq 27, 3) := by decide +kernel
theorem dX8_both_114 : decode cX8_both 114 = .ok (.iload 10, 2) := by decide +kernel
theorem dX8_both_116 : decode cX8_both 116 = .ok (.iload 5, 2) := by decide +kernel
theorem dX8_both_118 : decode cX8_both 118 = .ok (.if_icmp .lt 20, 3) := by decide +kernel
theorem dX8_both_121 : decode cX8_both 121 = .ok (.iload 10, 2) := by decide +kernel
theorem dX8_both_123 : decode cX8_both 123 = .ok (.iload 5, 2) := by decide +kernel
theorem dX8_both_125 : decode cX8_both 125 = .ok (.if_icmp .ne 28, 3) := by decide +kernel
theorem dX8_both_128 : decode cX8_both 128 = .ok (.iload 8, 2) := by decide +kernel
theorem dX8_both_130 : decode cX8_both 130 = .ok (.iload 9, 2) := by decide +kernel
theorem dX8_both_132 : decode cX8_both 132 = .ok (.iadd, 1) := by decide +kernel
theorem dX8_both_133 : decode cX8_both 133 = .ok (.iload 6, 2) := by decide +kernel
theorem dX8_both_135 : decode cX8_both 135 = .ok (.if_icmp .ge 18, 3) := by decide +kernel
theorem dX8_both_138 : decode cX8_both 138 = .ok (.iload 7, 2) := by decide +kernel
theorem dX8_both_140 : decode cX8_both 140 = .ok (.istore 4, 2) := by decide +kernel
theorem dX8_both_142 : decode cX8_both 142 = .ok (.iload 10, 2) := by decide +kernel
theorem dX8_both_144 : decode cX8_both 144 = .ok (.istore 5, 2) := by decide +kernel
theorem dX8_both_146 : decode cX8_both 146 = .ok (.iload 8, 2) := by decide +kernel
theorem dX8_both_148 : decode cX8_both 148 = .ok (.iload 9, 2) := by decide +kernel
theorem dX8_both_150 : decode cX8_both 150 = .ok (.iadd, 1) := by decide +kernel
theorem dX8_both_151 : decode cX8_both 151 = .ok (.istore 6, 2) := by decide +kernel
theorem dX8_both_153 : decode cX8_both 153 = .ok (.iinc 7 1, 3) := by decide +kernel
theorem dX8_both_156 : decode cX8_both 156 = .ok (.goto (-113), 3) := by decide +kernel
theorem dX8_both_159 : decode cX8_both 159 = .ok (.iload_n 3, 1) := by decide +kernel
theorem dX8_both_160 : decode cX8_both 160 = .ok (.ifCond .ne 8, 3) := by decide +kernel
theorem dX8_both_163 : decode cX8_both 163 = .ok (.iload 5, 2) := by decide +kernel
theorem dX8_both_165 : decode cX8_both 165 = .ok (.goto 15, 3) := by decide +kernel
theorem dX8_both_168 : decode cX8_both 168 = .ok (.iload_n 3, 1) := by decide +kernel
theorem dX8_both_169 : decode cX8_both 169 = .ok (.iconst 1, 1) := by decide +kernel
theorem dX8_both_170 : decode cX8_both 170 = .ok (.if_icmp .ne 8, 3) := by decide +kernel
theorem dX8_both_173 : decode cX8_both 173 = .ok (.iload 6, 2) := by decide +kernel
theorem dX8_both_175 : decode cX8_both 175 = .ok (.goto 5, 3) := by decide +kernel
theorem dX8_both_178 : decode cX8_both 178 = .ok (.iload 4, 2) := by decide +kernel
theorem dX8_both_180 : decode cX8_both 180 = .ok (.ireturn, 1) := by decide +kernel
theorem dX8_ridden_0 : decode cX8_ridden 0 = .ok (.iconst 0, 1) := by decide +kernel
theorem dX8_ridden_1 : decode cX8_ridden 1 = .ok (.istore_n 2, 1) := by decide +kernel
theorem dX8_ridden_2 : decode cX8_ridden 2 = .ok (.iconst 0, 1) := by decide +kernel
theorem dX8_ridden_3 : decode cX8_ridden 3 = .ok (.istore_n 3, 1) := by decide +kernel
theorem dX8_ridden_4 : decode cX8_ridden 4 = .ok (.iload_n 3, 1) := by decide +kernel
theorem dX8_ridden_5 : decode cX8_ridden 5 = .ok (.aload_n 0, 1) := by decide +kernel
theorem dX8_ridden_6 : decode cX8_ridden 6 = .ok (.getfield 11, 3) := by decide +kernel
theorem dX8_ridden_9 : decode cX8_ridden 9 = .ok (.if_icmp .ge 29, 3) := by decide +kernel
theorem dX8_ridden_12 : decode cX8_ridden 12 = .ok (.iload_n 2, 1) := by decide +kernel
theorem dX8_ridden_13 : decode cX8_ridden 13 = .ok (.aload_n 0, 1) := by decide +kernel
theorem dX8_ridden_14 : decode cX8_ridden 14 = .ok (.aload_n 0, 1) := by decide +kernel
theorem dX8_ridden_15 : decode cX8_ridden 15 = .ok (.getfield 26, 3) := by decide +kernel
theorem dX8_ridden_18 : decode cX8_ridden 18 = .ok (.iload_n 3, 1) := by decide +kernel
theorem dX8_ridden_19 : decode cX8_ridden 19 = .ok (.iaload, 1) := by decide +kernel
theorem dX8_ridden_20 : decode cX8_ridden 20 = .ok (.aload_n 0, 1) := by decide +kernel
theorem dX8_ridden_21 : decode cX8_ridden 21 = .ok (.getfield 29, 3) := by decide +kernel
theorem dX8_ridden_24 : decode cX8_ridden 24 = .ok (.iload_n 3, 1) := by decide +kernel
theorem dX8_ridden_25 : decode cX8_ridden 25 = .ok (.iaload, 1) := by decide +kernel
theorem dX8_ridden_26 : decode cX8_ridden 26 = .ok (.iload_n 1, 1) := by decide +kernel
theorem dX8_ridden_27 : decode cX8_ridden 27 = .ok (.invokevirtual 272, 3) := by decide +kernel
theorem dX8_ridden_30 : decode cX8_ridden 30 = .ok (.iadd, 1) := by decide +kernel
theorem dX8_ridden_31 : decode cX8_ridden 31 = .ok (.istore_n 2, 1) := by decide +kernel
theorem dX8_ridden_32 : decode cX8_ridden 32 = .ok (.iinc 3 1, 3) := by decide +kernel
theorem dX8_ridden_35 : decode cX8_ridden 35 = .ok (.goto (-31), 3) := by decide +kernel
theorem dX8_ridden_38 : decode cX8_ridden 38 = .ok (.iload_n 2, 1) := by decide +kernel
theorem dX8_ridden_39 : decode cX8_ridden 39 = .ok (.ireturn, 1) := by decide +kernel
theorem dX8_all_0 : decode cX8_all 0 = .ok (.aload_n 0, 1) := by decide +kernel
theorem dX8_all_1 : decode cX8_all 1 = .ok (.aload_n 0, 1) := by decide +kernel
theorem dX8_all_2 : decode cX8_all 2 = .ok (.invokevirtual 262, 3) := by decide +kernel
theorem dX8_all_5 : decode cX8_all 5 = .ok (.invokevirtual 275, 3) := by decide +kernel
theorem dX8_all_8 : decode cX8_all 8 = .ok (.ireturn, 1) := by decide +kernel
theorem dX8_worth_0 : decode cX8_worth 0 = .ok (.aload_n 0, 1) := by decide +kernel
theorem dX8_worth_1 : decode cX8_worth 1 = .ok (.iload_n 1, 1) := by decide +kernel
theorem dX8_worth_2 : decode cX8_worth 2 = .ok (.invokevirtual 57, 3) := by decide +kernel
theorem dX8_worth_5 : decode cX8_worth 5 = .ok (.ifCond .eq 25, 3) := by decide +kernel
theorem dX8_worth_8 : decode cX8_worth 8 = .ok (.aload_n 0, 1) := by decide +kernel
theorem dX8_worth_9 : decode cX8_worth 9 = .ok (.aload_n 0, 1) := by decide +kernel
theorem dX8_worth_10 : decode cX8_worth 10 = .ok (.invokevirtual 262, 3) := by decide +kernel
theorem dX8_worth_13 : decode cX8_worth 13 = .ok (.iconst 1, 1) := by decide +kernel
theorem dX8_worth_14 : decode cX8_worth 14 = .ok (.iload_n 1, 1) := by decide +kernel
theorem dX8_worth_15 : decode cX8_worth 15 = .ok (.ishl, 1) := by decide +kernel
theorem dX8_worth_16 : decode cX8_worth 16 = .ok (.iconst (-1), 1) := by decide +kernel
theorem dX8_worth_17 : decode cX8_worth 17 = .ok (.ixor, 1) := by decide +kernel
theorem dX8_worth_18 : decode cX8_worth 18 = .ok (.iand, 1) := by decide +kernel
theorem dX8_worth_19 : decode cX8_worth 19 = .ok (.invokevirtual 275, 3) := by decide +kernel
theorem dX8_worth_22 : decode cX8_worth 22 = .ok (.aload_n 0, 1) := by decide +kernel
theorem dX8_worth_23 : decode cX8_worth 23 = .ok (.invokevirtual 278, 3) := by decide +kernel
theorem dX8_worth_26 : decode cX8_worth 26 = .ok (.isub, 1) := by decide +kernel
theorem dX8_worth_27 : decode cX8_worth 27 = .ok (.goto 5, 3) := by decide +kernel
theorem dX8_worth_30 : decode cX8_worth 30 = .ok (.bipush (-5), 2) := by decide +kernel
theorem dX8_worth_32 : decode cX8_worth 32 = .ok (.ireturn, 1) := by decide +kernel
theorem dX8_teach_0 : decode cX8_teach 0 = .ok (.iload_n 1, 1) := by decide +kernel
theorem dX8_teach_1 : decode cX8_teach 1 = .ok (.iconst 0, 1) := by decide +kernel
theorem dX8_teach_2 : decode cX8_teach 2 = .ok (.iconst 1, 1) := by decide +kernel
theorem dX8_teach_3 : decode cX8_teach 3 = .ok (.invokestatic 3, 3) := by decide +kernel
theorem dX8_teach_6 : decode cX8_teach 6 = .ok (.ifCond .ne 6, 3) := by decide +kernel
theorem dX8_teach_9 : decode cX8_teach 9 = .ok (.bipush (-2), 2) := by decide +kernel
theorem dX8_teach_11 : decode cX8_teach 11 = .ok (.ireturn, 1) := by decide +kernel
theorem dX8_teach_12 : decode cX8_teach 12 = .ok (.aload_n 0, 1) := by decide +kernel
theorem dX8_teach_13 : decode cX8_teach 13 = .ok (.getfield 7, 3) := by decide +kernel
theorem dX8_teach_16 : decode cX8_teach 16 = .ok (.bipush 7, 2) := by decide +kernel
theorem dX8_teach_18 : decode cX8_teach 18 = .ok (.if_icmp .ne 6, 3) := by decide +kernel
theorem dX8_teach_21 : decode cX8_teach 21 = .ok (.bipush (-3), 2) := by decide +kernel
theorem dX8_teach_23 : decode cX8_teach 23 = .ok (.ireturn, 1) := by decide +kernel
theorem dX8_teach_24 : decode cX8_teach 24 = .ok (.iconst (-1), 1) := by decide +kernel
theorem dX8_teach_25 : decode cX8_teach 25 = .ok (.istore_n 2, 1) := by decide +kernel
theorem dX8_teach_26 : decode cX8_teach 26 = .ok (.aload_n 0, 1) := by decide +kernel
theorem dX8_teach_27 : decode cX8_teach 27 = .ok (.invokevirtual 278, 3) := by decide +kernel
theorem dX8_teach_30 : decode cX8_teach 30 = .ok (.istore_n 3, 1) := by decide +kernel
theorem dX8_teach_31 : decode cX8_teach 31 = .ok (.aload_n 0, 1) := by decide +kernel
theorem dX8_teach_32 : decode cX8_teach 32 = .ok (.getfield 7, 3) := by decide +kernel
theorem dX8_teach_35 : decode cX8_teach 35 = .ok (.istore 4, 2) := by decide +kernel
theorem dX8_teach_37 : decode cX8_teach 37 = .ok (.iconst 0, 1) := by decide +kernel
theorem dX8_teach_38 : decode cX8_teach 38 = .ok (.istore 5, 2) := by decide +kernel
theorem dX8_teach_40 : decode cX8_teach 40 = .ok (.iload 5, 2) := by decide +kernel
theorem dX8_teach_42 : decode cX8_teach 42 = .ok (.bipush 7, 2) := by decide +kernel
theorem dX8_teach_44 : decode cX8_teach 44 = .ok (.if_icmp .ge 109, 3) := by decide +kernel
theorem dX8_teach_47 : decode cX8_teach 47 = .ok (.iconst 0, 1) := by decide +kernel
theorem dX8_teach_48 : decode cX8_teach 48 = .ok (.istore 6, 2) := by decide +kernel
theorem dX8_teach_50 : decode cX8_teach 50 = .ok (.iload 6, 2) := by decide +kernel
theorem dX8_teach_52 : decode cX8_teach 52 = .ok (.bipush 7, 2) := by decide +kernel
theorem dX8_teach_54 : decode cX8_teach 54 = .ok (.if_icmp .ge 93, 3) := by decide +kernel
theorem dX8_teach_57 : decode cX8_teach 57 = .ok (.iload 5, 2) := by decide +kernel
theorem dX8_teach_59 : decode cX8_teach 59 = .ok (.iload 6, 2) := by decide +kernel
theorem dX8_teach_61 : decode cX8_teach 61 = .ok (.if_icmp .eq 80, 3) := by decide +kernel
theorem dX8_teach_64 : decode cX8_teach 64 = .ok (.aload_n 0, 1) := by decide +kernel
theorem dX8_teach_65 : decode cX8_teach 65 = .ok (.iload 4, 2) := by decide +kernel
theorem dX8_teach_67 : decode cX8_teach 67 = .ok (.iconst 0, 1) := by decide +kernel
theorem dX8_teach_68 : decode cX8_teach 68 = .ok (.iload 5, 2) := by decide +kernel
theorem dX8_teach_70 : decode cX8_teach 70 = .ok (.iload 6, 2) := by decide +kernel
theorem dX8_teach_72 : decode cX8_teach 72 = .ok (.iconst 1, 1) := by decide +kernel
theorem dX8_teach_73 : decode cX8_teach 73 = .ok (.aload_n 0, 1) := by decide +kernel
theorem dX8_teach_74 : decode cX8_teach 74 = .ok (.getfield 14, 3) := by decide +kernel
theorem dX8_teach_77 : decode cX8_teach 77 = .ok (.bipush 7, 2) := by decide +kernel
theorem dX8_teach_79 : decode cX8_teach 79 = .ok (.iload 5, 2) := by decide +kernel
theorem dX8_teach_81 : decode cX8_teach 81 = .ok (.imul, 1) := by decide +kernel
theorem dX8_teach_82 : decode cX8_teach 82 = .ok (.iload 6, 2) := by decide +kernel
theorem dX8_teach_84 : decode cX8_teach 84 = .ok (.iadd, 1) := by decide +kernel
theorem dX8_teach_85 : decode cX8_teach 85 = .ok (.iaload, 1) := by decide +kernel
theorem dX8_teach_86 : decode cX8_teach 86 = .ok (.iconst 3, 1) := by decide +kernel
theorem dX8_teach_87 : decode cX8_teach 87 = .ok (.idiv, 1) := by decide +kernel
theorem dX8_teach_88 : decode cX8_teach 88 = .ok (.invokestatic 64, 3) := by decide +kernel
theorem dX8_teach_91 : decode cX8_teach 91 = .ok (.iconst 0, 1) := by decide +kernel
theorem dX8_teach_92 : decode cX8_teach 92 = .ok (.invokevirtual 53, 3) := by decide +kernel
theorem dX8_teach_95 : decode cX8_teach 95 = .ok (.aload_n 0, 1) := by decide +kernel
theorem dX8_teach_96 : decode cX8_teach 96 = .ok (.iload 4, 2) := by decide +kernel
theorem dX8_teach_98 : decode cX8_teach 98 = .ok (.iconst 1, 1) := by decide +kernel
theorem dX8_teach_99 : decode cX8_teach 99 = .ok (.iadd, 1) := by decide +kernel
theorem dX8_teach_100 : decode cX8_teach 100 = .ok (.putfield 7, 3) := by decide +kernel
theorem dX8_teach_103 : decode cX8_teach 103 = .ok (.aload_n 0, 1) := by decide +kernel
theorem dX8_teach_104 : decode cX8_teach 104 = .ok (.invokevirtual 278, 3) := by decide +kernel
theorem dX8_teach_107 : decode cX8_teach 107 = .ok (.istore 7, 2) := by decide +kernel
theorem dX8_teach_109 : decode cX8_teach 109 = .ok (.aload_n 0, 1) := by decide +kernel
theorem dX8_teach_110 : decode cX8_teach 110 = .ok (.iload 4, 2) := by decide +kernel
theorem dX8_teach_112 : decode cX8_teach 112 = .ok (.putfield 7, 3) := by decide +kernel
theorem dX8_teach_115 : decode cX8_teach 115 = .ok (.iload 7, 2) := by decide +kernel
theorem dX8_teach_117 : decode cX8_teach 117 = .ok (.iload_n 3, 1) := by decide +kernel
theorem dX8_teach_118 : decode cX8_teach 118 = .ok (.if_icmp .ge 14, 3) := by decide +kernel
theorem dX8_teach_121 : decode cX8_teach 121 = .ok (.bipush 10, 2) := by decide +kernel
theorem dX8_teach_123 : decode cX8_teach 123 = .ok (.iload 5, 2) := by decide +kernel
theorem dX8_teach_125 : decode cX8_teach 125 = .ok (.imul, 1) := by decide +kernel
theorem dX8_teach_126 : decode cX8_teach 126 = .ok (.iload 6, 2) := by decide +kernel
theorem dX8_teach_128 : decode cX8_teach 128 = .ok (.iadd, 1) := by decide +kernel
theorem dX8_teach_129 : decode cX8_teach 129 = .ok (.goto 4, 3) := by decide +kernel
theorem dX8_teach_132 : decode cX8_teach 132 = .ok (.iload_n 2, 1) := by decide +kernel
theorem dX8_teach_133 : decode cX8_teach 133 = .ok (.istore_n 2, 1) := by decide +kernel
theorem dX8_teach_134 : decode cX8_teach 134 = .ok (.iload_n 3, 1) := by decide +kernel
theorem dX8_teach_135 : decode cX8_teach 135 = .ok (.iload 7, 2) := by decide +kernel
theorem dX8_teach_137 : decode cX8_teach 137 = .ok (.invokestatic 244, 3) := by decide +kernel
theorem dX8_teach_140 : decode cX8_teach 140 = .ok (.istore_n 3, 1) := by decide +kernel
theorem dX8_teach_141 : decode cX8_teach 141 = .ok (.iinc 6 1, 3) := by decide +kernel
theorem dX8_teach_144 : decode cX8_teach 144 = .ok (.goto (-94), 3) := by decide +kernel
theorem dX8_teach_147 : decode cX8_teach 147 = .ok (.iinc 5 1, 3) := by decide +kernel
theorem dX8_teach_150 : decode cX8_teach 150 = .ok (.goto (-110), 3) := by decide +kernel
theorem dX8_teach_153 : decode cX8_teach 153 = .ok (.iload_n 1, 1) := by decide +kernel
theorem dX8_teach_154 : decode cX8_teach 154 = .ok (.ifCond .ne 7, 3) := by decide +kernel
theorem dX8_teach_157 : decode cX8_teach 157 = .ok (.iload_n 2, 1) := by decide +kernel
theorem dX8_teach_158 : decode cX8_teach 158 = .ok (.goto 4, 3) := by decide +kernel
theorem dX8_teach_161 : decode cX8_teach 161 = .ok (.iload_n 3, 1) := by decide +kernel
theorem dX8_teach_162 : decode cX8_teach 162 = .ok (.ireturn, 1) := by decide +kernel
theorem dX8_move_0 : decode cX8_move 0 = .ok (.aload_n 0, 1) := by decide +kernel
theorem dX8_move_1 : decode cX8_move 1 = .ok (.iload_n 1, 1) := by decide +kernel
theorem dX8_move_2 : decode cX8_move 2 = .ok (.invokevirtual 57, 3) := by decide +kernel
theorem dX8_move_5 : decode cX8_move 5 = .ok (.ifCond .ne 6, 3) := by decide +kernel
theorem dX8_move_8 : decode cX8_move 8 = .ok (.bipush (-5), 2) := by decide +kernel
theorem dX8_move_10 : decode cX8_move 10 = .ok (.ireturn, 1) := by decide +kernel
theorem dX8_move_11 : decode cX8_move 11 = .ok (.iload_n 2, 1) := by decide +kernel
theorem dX8_move_12 : decode cX8_move 12 = .ok (.iconst 0, 1) := by decide +kernel
theorem dX8_move_13 : decode cX8_move 13 = .ok (.iconst 1, 1) := by decide +kernel
theorem dX8_move_14 : decode cX8_move 14 = .ok (.invokestatic 3, 3) := by decide +kernel
theorem dX8_move_17 : decode cX8_move 17 = .ok (.ifCond .ne 6, 3) := by decide +kernel
theorem dX8_move_20 : decode cX8_move 20 = .ok (.bipush (-7), 2) := by decide +kernel
theorem dX8_move_22 : decode cX8_move 22 = .ok (.ireturn, 1) := by decide +kernel
theorem dX8_move_23 : decode cX8_move 23 = .ok (.aload_n 0, 1) := by decide +kernel
theorem dX8_move_24 : decode cX8_move 24 = .ok (.getfield 38, 3) := by decide +kernel
theorem dX8_move_27 : decode cX8_move 27 = .ok (.iload_n 1, 1) := by decide +kernel
theorem dX8_move_28 : decode cX8_move 28 = .ok (.iaload, 1) := by decide +kernel
theorem dX8_move_29 : decode cX8_move 29 = .ok (.istore_n 3, 1) := by decide +kernel
theorem dX8_move_30 : decode cX8_move 30 = .ok (.iconst (-1), 1) := by decide +kernel
theorem dX8_move_31 : decode cX8_move 31 = .ok (.istore 4, 2) := by decide +kernel
theorem dX8_move_33 : decode cX8_move 33 = .ok (.iconst 0, 1) := by decide +kernel
theorem dX8_move_34 : decode cX8_move 34 = .ok (.istore 5, 2) := by decide +kernel
theorem dX8_move_36 : decode cX8_move 36 = .ok (.iconst 0, 1) := by decide +kernel
theorem dX8_move_37 : decode cX8_move 37 = .ok (.istore 6, 2) := by decide +kernel
theorem dX8_move_39 : decode cX8_move 39 = .ok (.iload 6, 2) := by decide +kernel
theorem dX8_move_41 : decode cX8_move 41 = .ok (.bipush 7, 2) := by decide +kernel
theorem dX8_move_43 : decode cX8_move 43 = .ok (.if_icmp .ge 55, 3) := by decide +kernel
theorem dX8_move_46 : decode cX8_move 46 = .ok (.iload 6, 2) := by decide +kernel
theorem dX8_move_48 : decode cX8_move 48 = .ok (.aload_n 0, 1) := by decide +kernel
theorem dX8_move_49 : decode cX8_move 49 = .ok (.getfield 41, 3) := by decide +kernel
theorem dX8_move_52 : decode cX8_move 52 = .ok (.iload_n 1, 1) := by decide +kernel
theorem dX8_move_53 : decode cX8_move 53 = .ok (.iaload, 1) := by decide +kernel
theorem dX8_move_54 : decode cX8_move 54 = .ok (.if_icmp .eq 38, 3) := by decide +kernel
theorem dX8_move_57 : decode cX8_move 57 = .ok (.aload_n 0, 1) := by decide +kernel
theorem dX8_move_58 : decode cX8_move 58 = .ok (.getfield 38, 3) := by decide +kernel
theorem dX8_move_61 : decode cX8_move 61 = .ok (.iload_n 1, 1) := by decide +kernel
theorem dX8_move_62 : decode cX8_move 62 = .ok (.iload 6, 2) := by decide +kernel
theorem dX8_move_64 : decode cX8_move 64 = .ok (.iastore, 1) := by decide +kernel
theorem dX8_move_65 : decode cX8_move 65 = .ok (.aload_n 0, 1) := by decide +kernel
theorem dX8_move_66 : decode cX8_move 66 = .ok (.invokevirtual 278, 3) := by decide +kernel
theorem dX8_move_69 : decode cX8_move 69 = .ok (.istore 7, 2) := by decide +kernel
theorem dX8_move_71 : decode cX8_move 71 = .ok (.iload 4, 2) := by decide +kernel
theorem dX8_move_73 : decode cX8_move 73 = .ok (.iconst (-1), 1) := by decide +kernel
theorem dX8_move_74 : decode cX8_move 74 = .ok (.if_icmp .eq 10, 3) := by decide +kernel
theorem dX8_move_77 : decode cX8_move 77 = .ok (.iload 7, 2) := by decide +kernel
theorem dX8_move_79 : decode cX8_move 79 = .ok (.iload 5, 2) := by decide +kernel
theorem dX8_move_81 : decode cX8_move 81 = .ok (.if_icmp .ge 11, 3) := by decide +kernel
theorem dX8_move_84 : decode cX8_move 84 = .ok (.iload 6, 2) := by decide +kernel
theorem dX8_move_86 : decode cX8_move 86 = .ok (.istore 4, 2) := by decide +kernel
theorem dX8_move_88 : decode cX8_move 88 = .ok (.iload 7, 2) := by decide +kernel
theorem dX8_move_90 : decode cX8_move 90 = .ok (.istore 5, 2) := by decide +kernel
theorem dX8_move_92 : decode cX8_move 92 = .ok (.iinc 6 1, 3) := by decide +kernel
theorem dX8_move_95 : decode cX8_move 95 = .ok (.goto (-56), 3) := by decide +kernel
theorem dX8_move_98 : decode cX8_move 98 = .ok (.aload_n 0, 1) := by decide +kernel
theorem dX8_move_99 : decode cX8_move 99 = .ok (.getfield 38, 3) := by decide +kernel
theorem dX8_move_102 : decode cX8_move 102 = .ok (.iload_n 1, 1) := by decide +kernel
theorem dX8_move_103 : decode cX8_move 103 = .ok (.iload_n 3, 1) := by decide +kernel
theorem dX8_move_104 : decode cX8_move 104 = .ok (.iastore, 1) := by decide +kernel
theorem dX8_move_105 : decode cX8_move 105 = .ok (.iload_n 2, 1) := by decide +kernel
theorem dX8_move_106 : decode cX8_move 106 = .ok (.ifCond .ne 8, 3) := by decide +kernel
theorem dX8_move_109 : decode cX8_move 109 = .ok (.iload 4, 2) := by decide +kernel
theorem dX8_move_111 : decode cX8_move 111 = .ok (.goto 5, 3) := by decide +kernel
theorem dX8_move_114 : decode cX8_move 114 = .ok (.iload 5, 2) := by decide +kernel
theorem dX8_move_116 : decode cX8_move 116 = .ok (.ireturn, 1) := by decide +kernel
theorem dX8_cut_0 : decode cX8_cut 0 = .ok (.iload_n 1, 1) := by decide +kernel
theorem dX8_cut_1 : decode cX8_cut 1 = .ok (.invokestatic 18, 3) := by decide +kernel
theorem dX8_cut_4 : decode cX8_cut 4 = .ok (.ifCond .eq 26, 3) := by decide +kernel
theorem dX8_cut_7 : decode cX8_cut 7 = .ok (.iload_n 2, 1) := by decide +kernel
theorem dX8_cut_8 : decode cX8_cut 8 = .ok (.invokestatic 18, 3) := by decide +kernel
theorem dX8_cut_11 : decode cX8_cut 11 = .ok (.ifCond .eq 19, 3) := by decide +kernel
theorem dX8_cut_14 : decode cX8_cut 14 = .ok (.iload_n 1, 1) := by decide +kernel
theorem dX8_cut_15 : decode cX8_cut 15 = .ok (.iload_n 2, 1) := by decide +kernel
theorem dX8_cut_16 : decode cX8_cut 16 = .ok (.if_icmp .eq 14, 3) := by decide +kernel
theorem dX8_cut_19 : decode cX8_cut 19 = .ok (.iload_n 3, 1) := by decide +kernel
theorem dX8_cut_20 : decode cX8_cut 20 = .ok (.iconst 1, 1) := by decide +kernel
theorem dX8_cut_21 : decode cX8_cut 21 = .ok (.sipush 999, 3) := by decide +kernel
theorem dX8_cut_24 : decode cX8_cut 24 = .ok (.invokestatic 3, 3) := by decide +kernel
theorem dX8_cut_27 : decode cX8_cut 27 = .ok (.ifCond .ne 7, 3) := by decide +kernel
theorem dX8_cut_30 : decode cX8_cut 30 = .ok (.ldc_w 281, 3) := by decide +kernel
theorem dX8_cut_33 : decode cX8_cut 33 = .ok (.ireturn, 1) := by decide +kernel
theorem dX8_cut_34 : decode cX8_cut 34 = .ok (.aload_n 0, 1) := by decide +kernel
theorem dX8_cut_35 : decode cX8_cut 35 = .ok (.invokevirtual 278, 3) := by decide +kernel
theorem dX8_cut_38 : decode cX8_cut 38 = .ok (.istore 4, 2) := by decide +kernel
theorem dX8_cut_40 : decode cX8_cut 40 = .ok (.aload_n 0, 1) := by decide +kernel
theorem dX8_cut_41 : decode cX8_cut 41 = .ok (.getfield 14, 3) := by decide +kernel
theorem dX8_cut_44 : decode cX8_cut 44 = .ok (.bipush 7, 2) := by decide +kernel
theorem dX8_cut_46 : decode cX8_cut 46 = .ok (.iload_n 1, 1) := by decide +kernel
theorem dX8_cut_47 : decode cX8_cut 47 = .ok (.imul, 1) := by decide +kernel
theorem dX8_cut_48 : decode cX8_cut 48 = .ok (.iload_n 2, 1) := by decide +kernel
theorem dX8_cut_49 : decode cX8_cut 49 = .ok (.iadd, 1) := by decide +kernel
theorem dX8_cut_50 : decode cX8_cut 50 = .ok (.iaload, 1) := by decide +kernel
theorem dX8_cut_51 : decode cX8_cut 51 = .ok (.istore 5, 2) := by decide +kernel
theorem dX8_cut_53 : decode cX8_cut 53 = .ok (.aload_n 0, 1) := by decide +kernel
theorem dX8_cut_54 : decode cX8_cut 54 = .ok (.iload_n 1, 1) := by decide +kernel
theorem dX8_cut_55 : decode cX8_cut 55 = .ok (.iload_n 2, 1) := by decide +kernel
theorem dX8_cut_56 : decode cX8_cut 56 = .ok (.iload_n 3, 1) := by decide +kernel
theorem dX8_cut_57 : decode cX8_cut 57 = .ok (.invokevirtual 22, 3) := by decide +kernel
theorem dX8_cut_60 : decode cX8_cut 60 = .ok (.aload_n 0, 1) := by decide +kernel
theorem dX8_cut_61 : decode cX8_cut 61 = .ok (.invokevirtual 278, 3) := by decide +kernel
theorem dX8_cut_64 : decode cX8_cut 64 = .ok (.istore 6, 2) := by decide +kernel
theorem dX8_cut_66 : decode cX8_cut 66 = .ok (.aload_n 0, 1) := by decide +kernel
theorem dX8_cut_67 : decode cX8_cut 67 = .ok (.iload_n 1, 1) := by decide +kernel
theorem dX8_cut_68 : decode cX8_cut 68 = .ok (.iload_n 2, 1) := by decide +kernel
theorem dX8_cut_69 : decode cX8_cut 69 = .ok (.iload 5, 2) := by decide +kernel
theorem dX8_cut_71 : decode cX8_cut 71 = .ok (.invokevirtual 22, 3) := by decide +kernel
theorem dX8_cut_74 : decode cX8_cut 74 = .ok (.iload 4, 2) := by decide +kernel
theorem dX8_cut_76 : decode cX8_cut 76 = .ok (.iload 6, 2) := by decide +kernel
theorem dX8_cut_78 : decode cX8_cut 78 = .ok (.isub, 1) := by decide +kernel
theorem dX8_cut_79 : decode cX8_cut 79 = .ok (.ireturn, 1) := by decide +kernel
theorem dX8_lost_0 : decode cX8_lost 0 = .ok (.iload_n 1, 1) := by decide +kernel
theorem dX8_lost_1 : decode cX8_lost 1 = .ok (.invokestatic 18, 3) := by decide +kernel
theorem dX8_lost_4 : decode cX8_lost 4 = .ok (.ifCond .eq 21, 3) := by decide +kernel
theorem dX8_lost_7 : decode cX8_lost 7 = .ok (.iload_n 2, 1) := by decide +kernel
theorem dX8_lost_8 : decode cX8_lost 8 = .ok (.invokestatic 18, 3) := by decide +kernel
theorem dX8_lost_11 : decode cX8_lost 11 = .ok (.ifCond .eq 14, 3) := by decide +kernel
theorem dX8_lost_14 : decode cX8_lost 14 = .ok (.iload_n 3, 1) := by decide +kernel
theorem dX8_lost_15 : decode cX8_lost 15 = .ok (.iconst 0, 1) := by decide +kernel
theorem dX8_lost_16 : decode cX8_lost 16 = .ok (.sipush 9999, 3) := by decide +kernel
theorem dX8_lost_19 : decode cX8_lost 19 = .ok (.invokestatic 3, 3) := by decide +kernel
theorem dX8_lost_22 : decode cX8_lost 22 = .ok (.ifCond .ne 7, 3) := by decide +kernel
theorem dX8_lost_25 : decode cX8_lost 25 = .ok (.ldc2_w 282, 3) := by decide +kernel
theorem dX8_lost_28 : decode cX8_lost 28 = .ok (.lreturn, 1) := by decide +kernel
theorem dX8_lost_29 : decode cX8_lost 29 = .ok (.lconst 0, 1) := by decide +kernel
theorem dX8_lost_30 : decode cX8_lost 30 = .ok (.lstore 4, 2) := by decide +kernel
theorem dX8_lost_32 : decode cX8_lost 32 = .ok (.iconst 0, 1) := by decide +kernel
theorem dX8_lost_33 : decode cX8_lost 33 = .ok (.istore 6, 2) := by decide +kernel
theorem dX8_lost_35 : decode cX8_lost 35 = .ok (.iload 6, 2) := by decide +kernel
theorem dX8_lost_37 : decode cX8_lost 37 = .ok (.aload_n 0, 1) := by decide +kernel
theorem dX8_lost_38 : decode cX8_lost 38 = .ok (.invokevirtual 262, 3) := by decide +kernel
theorem dX8_lost_41 : decode cX8_lost 41 = .ok (.if_icmp .gt 95, 3) := by decide +kernel
theorem dX8_lost_44 : decode cX8_lost 44 = .ok (.ldc2_w 284, 3) := by decide +kernel
theorem dX8_lost_47 : decode cX8_lost 47 = .ok (.lstore 7, 2) := by decide +kernel
theorem dX8_lost_49 : decode cX8_lost 49 = .ok (.iconst 0, 1) := by decide +kernel
theorem dX8_lost_50 : decode cX8_lost 50 = .ok (.istore 9, 2) := by decide +kernel
theorem dX8_lost_52 : decode cX8_lost 52 = .ok (.iload 9, 2) := by decide +kernel
theorem dX8_lost_54 : decode cX8_lost 54 = .ok (.aload_n 0, 1) := by decide +kernel
theorem dX8_lost_55 : decode cX8_lost 55 = .ok (.getfield 7, 3) := by decide +kernel
theorem dX8_lost_58 : decode cX8_lost 58 = .ok (.if_icmp .ge 49, 3) := by decide +kernel
theorem dX8_lost_61 : decode cX8_lost 61 = .ok (.aload_n 0, 1) := by decide +kernel
theorem dX8_lost_62 : decode cX8_lost 62 = .ok (.iconst 2, 1) := by decide +kernel
theorem dX8_lost_63 : decode cX8_lost 63 = .ok (.iload 9, 2) := by decide +kernel
theorem dX8_lost_65 : decode cX8_lost 65 = .ok (.invokevirtual 60, 3) := by decide +kernel
theorem dX8_lost_68 : decode cX8_lost 68 = .ok (.istore 10, 2) := by decide +kernel
theorem dX8_lost_70 : decode cX8_lost 70 = .ok (.lload 7, 2) := by decide +kernel
theorem dX8_lost_72 : decode cX8_lost 72 = .ok (.iload 6, 2) := by decide +kernel
theorem dX8_lost_74 : decode cX8_lost 74 = .ok (.iload 9, 2) := by decide +kernel
theorem dX8_lost_76 : decode cX8_lost 76 = .ok (.ishr, 1) := by decide +kernel
theorem dX8_lost_77 : decode cX8_lost 77 = .ok (.iconst 1, 1) := by decide +kernel
theorem dX8_lost_78 : decode cX8_lost 78 = .ok (.iand, 1) := by decide +kernel
theorem dX8_lost_79 : decode cX8_lost 79 = .ok (.iconst 1, 1) := by decide +kernel
theorem dX8_lost_80 : decode cX8_lost 80 = .ok (.if_icmp .ne 11, 3) := by decide +kernel
theorem dX8_lost_83 : decode cX8_lost 83 = .ok (.bipush 100, 2) := by decide +kernel
theorem dX8_lost_85 : decode cX8_lost 85 = .ok (.iload 10, 2) := by decide +kernel
theorem dX8_lost_87 : decode cX8_lost 87 = .ok (.isub, 1) := by decide +kernel
theorem dX8_lost_88 : decode cX8_lost 88 = .ok (.goto 5, 3) := by decide +kernel
theorem dX8_lost_91 : decode cX8_lost 91 = .ok (.iload 10, 2) := by decide +kernel
theorem dX8_lost_93 : decode cX8_lost 93 = .ok (.i2l, 1) := by decide +kernel
theorem dX8_lost_94 : decode cX8_lost 94 = .ok (.lmul, 1) := by decide +kernel
theorem dX8_lost_95 : decode cX8_lost 95 = .ok (.ldc2_w 286, 3) := by decide +kernel
theorem dX8_lost_98 : decode cX8_lost 98 = .ok (.ldiv, 1) := by decide +kernel
theorem dX8_lost_99 : decode cX8_lost 99 = .ok (.lstore 7, 2) := by decide +kernel
theorem dX8_lost_101 : decode cX8_lost 101 = .ok (.iinc 9 1, 3) := by decide +kernel
theorem dX8_lost_104 : decode cX8_lost 104 = .ok (.goto (-52), 3) := by decide +kernel
theorem dX8_lost_107 : decode cX8_lost 107 = .ok (.lload 4, 2) := by decide +kernel
theorem dX8_lost_109 : decode cX8_lost 109 = .ok (.aload_n 0, 1) := by decide +kernel
theorem dX8_lost_110 : decode cX8_lost 110 = .ok (.iload_n 1, 1) := by decide +kernel
theorem dX8_lost_111 : decode cX8_lost 111 = .ok (.iload_n 2, 1) := by decide +kernel
theorem dX8_lost_112 : decode cX8_lost 112 = .ok (.iload 6, 2) := by decide +kernel
theorem dX8_lost_114 : decode cX8_lost 114 = .ok (.invokevirtual 272, 3) := by decide +kernel
theorem dX8_lost_117 : decode cX8_lost 117 = .ok (.iload_n 3, 1) := by decide +kernel
theorem dX8_lost_118 : decode cX8_lost 118 = .ok (.if_icmp .le 8, 3) := by decide +kernel
theorem dX8_lost_121 : decode cX8_lost 121 = .ok (.lload 7, 2) := by decide +kernel
theorem dX8_lost_123 : decode cX8_lost 123 = .ok (.goto 4, 3) := by decide +kernel
theorem dX8_lost_126 : decode cX8_lost 126 = .ok (.lconst 0, 1) := by decide +kernel
theorem dX8_lost_127 : decode cX8_lost 127 = .ok (.ladd, 1) := by decide +kernel
theorem dX8_lost_128 : decode cX8_lost 128 = .ok (.lstore 4, 2) := by decide +kernel
theorem dX8_lost_130 : decode cX8_lost 130 = .ok (.iinc 6 1, 3) := by decide +kernel
theorem dX8_lost_133 : decode cX8_lost 133 = .ok (.goto (-98), 3) := by decide +kernel
theorem dX8_lost_136 : decode cX8_lost 136 = .ok (.lload 4, 2) := by decide +kernel
theorem dX8_lost_138 : decode cX8_lost 138 = .ok (.lreturn, 1) := by decide +kernel
theorem dX8_needed_0 : decode cX8_needed 0 = .ok (.iload_n 1, 1) := by decide +kernel
theorem dX8_needed_1 : decode cX8_needed 1 = .ok (.invokestatic 18, 3) := by decide +kernel
theorem dX8_needed_4 : decode cX8_needed 4 = .ok (.ifCond .eq 10, 3) := by decide +kernel
theorem dX8_needed_7 : decode cX8_needed 7 = .ok (.iload_n 2, 1) := by decide +kernel
theorem dX8_needed_8 : decode cX8_needed 8 = .ok (.invokestatic 18, 3) := by decide +kernel
theorem dX8_needed_11 : decode cX8_needed 11 = .ok (.ifCond .ne 6, 3) := by decide +kernel
theorem dX8_needed_14 : decode cX8_needed 14 = .ok (.bipush (-5), 2) := by decide +kernel
theorem dX8_needed_16 : decode cX8_needed 16 = .ok (.ireturn, 1) := by decide +kernel
theorem dX8_needed_17 : decode cX8_needed 17 = .ok (.iload_n 3, 1) := by decide +kernel
theorem dX8_needed_18 : decode cX8_needed 18 = .ok (.iconst 0, 1) := by decide +kernel
theorem dX8_needed_19 : decode cX8_needed 19 = .ok (.iconst 1, 1) := by decide +kernel
theorem dX8_needed_20 : decode cX8_needed 20 = .ok (.invokestatic 3, 3) := by decide +kernel
theorem dX8_needed_23 : decode cX8_needed 23 = .ok (.ifCond .ne 6, 3) := by decide +kernel
theorem dX8_needed_26 : decode cX8_needed 26 = .ok (.bipush (-7), 2) := by decide +kernel
theorem dX8_needed_28 : decode cX8_needed 28 = .ok (.ireturn, 1) := by decide +kernel
theorem dX8_needed_29 : decode cX8_needed 29 = .ok (.iconst (-1), 1) := by decide +kernel
theorem dX8_needed_30 : decode cX8_needed 30 = .ok (.istore 4, 2) := by decide +kernel
theorem dX8_needed_32 : decode cX8_needed 32 = .ok (.aload_n 0, 1) := by decide +kernel
theorem dX8_needed_33 : decode cX8_needed 33 = .ok (.iload_n 1, 1) := by decide +kernel
theorem dX8_needed_34 : decode cX8_needed 34 = .ok (.iload_n 2, 1) := by decide +kernel
theorem dX8_needed_35 : decode cX8_needed 35 = .ok (.aload_n 0, 1) := by decide +kernel
theorem dX8_needed_36 : decode cX8_needed 36 = .ok (.invokevirtual 262, 3) := by decide +kernel
theorem dX8_needed_39 : decode cX8_needed 39 = .ok (.invokevirtual 272, 3) := by decide +kernel
theorem dX8_needed_42 : decode cX8_needed 42 = .ok (.istore 5, 2) := by decide +kernel
theorem dX8_needed_44 : decode cX8_needed 44 = .ok (.iconst 0, 1) := by decide +kernel
theorem dX8_needed_45 : decode cX8_needed 45 = .ok (.istore 6, 2) := by decide +kernel
theorem dX8_needed_47 : decode cX8_needed 47 = .ok (.iload 6, 2) := by decide +kernel
theorem dX8_needed_49 : decode cX8_needed 49 = .ok (.aload_n 0, 1) := by decide +kernel
theorem dX8_needed_50 : decode cX8_needed 50 = .ok (.getfield 7, 3) := by decide +kernel
theorem dX8_needed_53 : decode cX8_needed 53 = .ok (.if_icmp .ge 53, 3) := by decide +kernel
theorem dX8_needed_56 : decode cX8_needed 56 = .ok (.aload_n 0, 1) := by decide +kernel
theorem dX8_needed_57 : decode cX8_needed 57 = .ok (.iload_n 1, 1) := by decide +kernel
theorem dX8_needed_58 : decode cX8_needed 58 = .ok (.iload_n 2, 1) := by decide +kernel
theorem dX8_needed_59 : decode cX8_needed 59 = .ok (.aload_n 0, 1) := by decide +kernel
theorem dX8_needed_60 : decode cX8_needed 60 = .ok (.invokevirtual 262, 3) := by decide +kernel
theorem dX8_needed_63 : decode cX8_needed 63 = .ok (.iconst 1, 1) := by decide +kernel
theorem dX8_needed_64 : decode cX8_needed 64 = .ok (.iload 6, 2) := by decide +kernel
theorem dX8_needed_66 : decode cX8_needed 66 = .ok (.ishl, 1) := by decide +kernel
theorem dX8_needed_67 : decode cX8_needed 67 = .ok (.iconst (-1), 1) := by decide +kernel
theorem dX8_needed_68 : decode cX8_needed 68 = .ok (.ixor, 1) := by decide +kernel
theorem dX8_needed_69 : decode cX8_needed 69 = .ok (.iand, 1) := by decide +kernel
theorem dX8_needed_70 : decode cX8_needed 70 = .ok (.invokevirtual 272, 3) := by decide +kernel
theorem dX8_needed_73 : decode cX8_needed 73 = .ok (.istore 7, 2) := by decide +kernel
theorem dX8_needed_75 : decode cX8_needed 75 = .ok (.iload 7, 2) := by decide +kernel
theorem dX8_needed_77 : decode cX8_needed 77 = .ok (.iload 5, 2) := by decide +kernel
theorem dX8_needed_79 : decode cX8_needed 79 = .ok (.if_icmp .le 8, 3) := by decide +kernel
theorem dX8_needed_82 : decode cX8_needed 82 = .ok (.iload 6, 2) := by decide +kernel
theorem dX8_needed_84 : decode cX8_needed 84 = .ok (.goto 5, 3) := by decide +kernel
theorem dX8_needed_87 : decode cX8_needed 87 = .ok (.iload 4, 2) := by decide +kernel
theorem dX8_needed_89 : decode cX8_needed 89 = .ok (.istore 4, 2) := by decide +kernel
theorem dX8_needed_91 : decode cX8_needed 91 = .ok (.iload 5, 2) := by decide +kernel
theorem dX8_needed_93 : decode cX8_needed 93 = .ok (.iload 7, 2) := by decide +kernel
theorem dX8_needed_95 : decode cX8_needed 95 = .ok (.invokestatic 64, 3) := by decide +kernel
theorem dX8_needed_98 : decode cX8_needed 98 = .ok (.istore 5, 2) := by decide +kernel
theorem dX8_needed_100 : decode cX8_needed 100 = .ok (.iinc 6 1, 3) := by decide +kernel
theorem dX8_needed_103 : decode cX8_needed 103 = .ok (.goto (-56), 3) := by decide +kernel
theorem dX8_needed_106 : decode cX8_needed 106 = .ok (.iload_n 3, 1) := by decide +kernel
theorem dX8_needed_107 : decode cX8_needed 107 = .ok (.ifCond .ne 8, 3) := by decide +kernel
theorem dX8_needed_110 : decode cX8_needed 110 = .ok (.iload 4, 2) := by decide +kernel
theorem dX8_needed_112 : decode cX8_needed 112 = .ok (.goto 5, 3) := by decide +kernel
theorem dX8_needed_115 : decode cX8_needed 115 = .ok (.iload 5, 2) := by decide +kernel
theorem dX8_needed_117 : decode cX8_needed 117 = .ok (.ireturn, 1) := by decide +kernel
theorem dX8_again_0 : decode cX8_again 0 = .ok (.iload_n 1, 1) := by decide +kernel
theorem dX8_again_1 : decode cX8_again 1 = .ok (.invokestatic 18, 3) := by decide +kernel
theorem dX8_again_4 : decode cX8_again 4 = .ok (.ifCond .eq 10, 3) := by decide +kernel
theorem dX8_again_7 : decode cX8_again 7 = .ok (.iload_n 2, 1) := by decide +kernel
theorem dX8_again_8 : decode cX8_again 8 = .ok (.invokestatic 18, 3) := by decide +kernel
theorem dX8_again_11 : decode cX8_again 11 = .ok (.ifCond .ne 6, 3) := by decide +kernel
theorem dX8_again_14 : decode cX8_again 14 = .ok (.bipush (-5), 2) := by decide +kernel
theorem dX8_again_16 : decode cX8_again 16 = .ok (.ireturn, 1) := by decide +kernel
theorem dX8_again_17 : decode cX8_again 17 = .ok (.aload_n 0, 1) := by decide +kernel
theorem dX8_again_18 : decode cX8_again 18 = .ok (.iload_n 1, 1) := by decide +kernel
theorem dX8_again_19 : decode cX8_again 19 = .ok (.aload_n 0, 1) := by decide +kernel
theorem dX8_again_20 : decode cX8_again 20 = .ok (.invokevirtual 262, 3) := by decide +kernel
theorem dX8_again_23 : decode cX8_again 23 = .ok (.invokevirtual 256, 3) := by decide +kernel
theorem dX8_again_26 : decode cX8_again 26 = .ok (.aload_n 0, 1) := by decide +kernel
theorem dX8_again_27 : decode cX8_again 27 = .ok (.iload_n 2, 1) := by decide +kernel
theorem dX8_again_28 : decode cX8_again 28 = .ok (.invokevirtual 266, 3) := by decide +kernel
theorem dX8_again_31 : decode cX8_again 31 = .ok (.iconst 0, 1) := by decide +kernel
theorem dX8_again_32 : decode cX8_again 32 = .ok (.istore_n 3, 1) := by decide +kernel
theorem dX8_again_33 : decode cX8_again 33 = .ok (.iconst 0, 1) := by decide +kernel
theorem dX8_again_34 : decode cX8_again 34 = .ok (.istore 4, 2) := by decide +kernel
theorem dX8_again_36 : decode cX8_again 36 = .ok (.iload 4, 2) := by decide +kernel
theorem dX8_again_38 : decode cX8_again 38 = .ok (.aload_n 0, 1) := by decide +kernel
theorem dX8_again_39 : decode cX8_again 39 = .ok (.getfield 7, 3) := by decide +kernel
theorem dX8_again_42 : decode cX8_again 42 = .ok (.if_icmp .ge 44, 3) := by decide +kernel
theorem dX8_again_45 : decode cX8_again 45 = .ok (.aload_n 0, 1) := by decide +kernel
theorem dX8_again_46 : decode cX8_again 46 = .ok (.invokevirtual 269, 3) := by decide +kernel
theorem dX8_again_49 : decode cX8_again 49 = .ok (.iload 4, 2) := by decide +kernel
theorem dX8_again_51 : decode cX8_again 51 = .ok (.ishr, 1) := by decide +kernel
theorem dX8_again_52 : decode cX8_again 52 = .ok (.iconst 1, 1) := by decide +kernel
theorem dX8_again_53 : decode cX8_again 53 = .ok (.iand, 1) := by decide +kernel
theorem dX8_again_54 : decode cX8_again 54 = .ok (.iconst 1, 1) := by decide +kernel
theorem dX8_again_55 : decode cX8_again 55 = .ok (.if_icmp .ne 23, 3) := by decide +kernel
theorem dX8_again_58 : decode cX8_again 58 = .ok (.iload_n 3, 1) := by decide +kernel
theorem dX8_again_59 : decode cX8_again 59 = .ok (.aload_n 0, 1) := by decide +kernel
theorem dX8_again_60 : decode cX8_again 60 = .ok (.iload 4, 2) := by decide +kernel
theorem dX8_again_62 : decode cX8_again 62 = .ok (.invokevirtual 69, 3) := by decide +kernel
theorem dX8_again_65 : decode cX8_again 65 = .ok (.aload_n 0, 1) := by decide +kernel
theorem dX8_again_66 : decode cX8_again 66 = .ok (.iload 4, 2) := by decide +kernel
theorem dX8_again_68 : decode cX8_again 68 = .ok (.invokevirtual 73, 3) := by decide +kernel
theorem dX8_again_71 : decode cX8_again 71 = .ok (.iadd, 1) := by decide +kernel
theorem dX8_again_72 : decode cX8_again 72 = .ok (.invokestatic 64, 3) := by decide +kernel
theorem dX8_again_75 : decode cX8_again 75 = .ok (.goto 4, 3) := by decide +kernel
theorem dX8_again_78 : decode cX8_again 78 = .ok (.iload_n 3, 1) := by decide +kernel
theorem dX8_again_79 : decode cX8_again 79 = .ok (.istore_n 3, 1) := by decide +kernel
theorem dX8_again_80 : decode cX8_again 80 = .ok (.iinc 4 1, 3) := by decide +kernel
theorem dX8_again_83 : decode cX8_again 83 = .ok (.goto (-47), 3) := by decide +kernel
theorem dX8_again_86 : decode cX8_again 86 = .ok (.iload_n 3, 1) := by decide +kernel
theorem dX8_again_87 : decode cX8_again 87 = .ok (.ireturn, 1) := by decide +kernel
theorem dX8_doctor_0 : decode cX8_doctor 0 = .ok (.iload_n 1, 1) := by decide +kernel
theorem dX8_doctor_1 : decode cX8_doctor 1 = .ok (.iconst 0, 1) := by decide +kernel
theorem dX8_doctor_2 : decode cX8_doctor 2 = .ok (.iconst 1, 1) := by decide +kernel
theorem dX8_doctor_3 : decode cX8_doctor 3 = .ok (.invokestatic 3, 3) := by decide +kernel
theorem dX8_doctor_6 : decode cX8_doctor 6 = .ok (.ifCond .ne 6, 3) := by decide +kernel
theorem dX8_doctor_9 : decode cX8_doctor 9 = .ok (.bipush (-2), 2) := by decide +kernel
theorem dX8_doctor_11 : decode cX8_doctor 11 = .ok (.ireturn, 1) := by decide +kernel
theorem dX8_doctor_12 : decode cX8_doctor 12 = .ok (.iconst (-1), 1) := by decide +kernel
theorem dX8_doctor_13 : decode cX8_doctor 13 = .ok (.istore_n 2, 1) := by decide +kernel
theorem dX8_doctor_14 : decode cX8_doctor 14 = .ok (.iconst 0, 1) := by decide +kernel
theorem dX8_doctor_15 : decode cX8_doctor 15 = .ok (.istore_n 3, 1) := by decide +kernel
theorem dX8_doctor_16 : decode cX8_doctor 16 = .ok (.iconst 0, 1) := by decide +kernel
theorem dX8_doctor_17 : decode cX8_doctor 17 = .ok (.istore 4, 2) := by decide +kernel
theorem dX8_doctor_19 : decode cX8_doctor 19 = .ok (.iload 4, 2) := by decide +kernel
theorem dX8_doctor_21 : decode cX8_doctor 21 = .ok (.bipush 7, 2) := by decide +kernel
theorem dX8_doctor_23 : decode cX8_doctor 23 = .ok (.if_icmp .ge 69, 3) := by decide +kernel
theorem dX8_doctor_26 : decode cX8_doctor 26 = .ok (.aload_n 0, 1) := by decide +kernel
theorem dX8_doctor_27 : decode cX8_doctor 27 = .ok (.iload 4, 2) := by decide +kernel
theorem dX8_doctor_29 : decode cX8_doctor 29 = .ok (.aload_n 0, 1) := by decide +kernel
theorem dX8_doctor_30 : decode cX8_doctor 30 = .ok (.invokevirtual 262, 3) := by decide +kernel
theorem dX8_doctor_33 : decode cX8_doctor 33 = .ok (.invokevirtual 256, 3) := by decide +kernel
theorem dX8_doctor_36 : decode cX8_doctor 36 = .ok (.iconst 0, 1) := by decide +kernel
theorem dX8_doctor_37 : decode cX8_doctor 37 = .ok (.istore 5, 2) := by decide +kernel
theorem dX8_doctor_39 : decode cX8_doctor 39 = .ok (.iconst 0, 1) := by decide +kernel
theorem dX8_doctor_40 : decode cX8_doctor 40 = .ok (.istore 6, 2) := by decide +kernel
theorem dX8_doctor_42 : decode cX8_doctor 42 = .ok (.iload 6, 2) := by decide +kernel
theorem dX8_doctor_44 : decode cX8_doctor 44 = .ok (.bipush 7, 2) := by decide +kernel
theorem dX8_doctor_46 : decode cX8_doctor 46 = .ok (.if_icmp .ge 23, 3) := by decide +kernel
theorem dX8_doctor_49 : decode cX8_doctor 49 = .ok (.iload 5, 2) := by decide +kernel
theorem dX8_doctor_51 : decode cX8_doctor 51 = .ok (.aload_n 0, 1) := by decide +kernel
theorem dX8_doctor_52 : decode cX8_doctor 52 = .ok (.getfield 201, 3) := by decide +kernel
theorem dX8_doctor_55 : decode cX8_doctor 55 = .ok (.iload 6, 2) := by decide +kernel
theorem dX8_doctor_57 : decode cX8_doctor 57 = .ok (.iaload, 1) := by decide +kernel
theorem dX8_doctor_58 : decode cX8_doctor 58 = .ok (.invokestatic 64, 3) := by decide +kernel
theorem dX8_doctor_61 : decode cX8_doctor 61 = .ok (.istore 5, 2) := by decide +kernel
theorem dX8_doctor_63 : decode cX8_doctor 63 = .ok (.iinc 6 1, 3) := by decide +kernel
theorem dX8_doctor_66 : decode cX8_doctor 66 = .ok (.goto (-24), 3) := by decide +kernel
theorem dX8_doctor_69 : decode cX8_doctor 69 = .ok (.iload_n 2, 1) := by decide +kernel
theorem dX8_doctor_70 : decode cX8_doctor 70 = .ok (.iconst (-1), 1) := by decide +kernel
theorem dX8_doctor_71 : decode cX8_doctor 71 = .ok (.if_icmp .eq 9, 3) := by decide +kernel
theorem dX8_doctor_74 : decode cX8_doctor 74 = .ok (.iload 5, 2) := by decide +kernel
theorem dX8_doctor_76 : decode cX8_doctor 76 = .ok (.iload_n 3, 1) := by decide +kernel
theorem dX8_doctor_77 : decode cX8_doctor 77 = .ok (.if_icmp .ge 9, 3) := by decide +kernel
theorem dX8_doctor_80 : decode cX8_doctor 80 = .ok (.iload 4, 2) := by decide +kernel
theorem dX8_doctor_82 : decode cX8_doctor 82 = .ok (.istore_n 2, 1) := by decide +kernel
theorem dX8_doctor_83 : decode cX8_doctor 83 = .ok (.iload 5, 2) := by decide +kernel
theorem dX8_doctor_85 : decode cX8_doctor 85 = .ok (.istore_n 3, 1) := by decide +kernel
theorem dX8_doctor_86 : decode cX8_doctor 86 = .ok (.iinc 4 1, 3) := by decide +kernel
theorem dX8_doctor_89 : decode cX8_doctor 89 = .ok (.goto (-70), 3) := by decide +kernel
theorem dX8_doctor_92 : decode cX8_doctor 92 = .ok (.iload_n 1, 1) := by decide +kernel
theorem dX8_doctor_93 : decode cX8_doctor 93 = .ok (.ifCond .ne 7, 3) := by decide +kernel
theorem dX8_doctor_96 : decode cX8_doctor 96 = .ok (.iload_n 3, 1) := by decide +kernel
theorem dX8_doctor_97 : decode cX8_doctor 97 = .ok (.goto 4, 3) := by decide +kernel
theorem dX8_doctor_100 : decode cX8_doctor 100 = .ok (.iload_n 2, 1) := by decide +kernel
theorem dX8_doctor_101 : decode cX8_doctor 101 = .ok (.ireturn, 1) := by decide +kernel
theorem dX8_judge_0 : decode cX8_judge 0 = .ok (.iload_n 1, 1) := by decide +kernel
theorem dX8_judge_1 : decode cX8_judge 1 = .ok (.invokestatic 288, 3) := by decide +kernel
theorem dX8_judge_4 : decode cX8_judge 4 = .ok (.ifCond .ne 6, 3) := by decide +kernel
theorem dX8_judge_7 : decode cX8_judge 7 = .ok (.bipush (-2), 2) := by decide +kernel
theorem dX8_judge_9 : decode cX8_judge 9 = .ok (.ireturn, 1) := by decide +kernel
theorem dX8_judge_10 : decode cX8_judge 10 = .ok (.aload_n 0, 1) := by decide +kernel
theorem dX8_judge_11 : decode cX8_judge 11 = .ok (.getfield 225, 3) := by decide +kernel
theorem dX8_judge_14 : decode cX8_judge 14 = .ok (.iload_n 1, 1) := by decide +kernel
theorem dX8_judge_15 : decode cX8_judge 15 = .ok (.iaload, 1) := by decide +kernel
theorem dX8_judge_16 : decode cX8_judge 16 = .ok (.ifCond .ge 6, 3) := by decide +kernel
theorem dX8_judge_19 : decode cX8_judge 19 = .ok (.bipush (-11), 2) := by decide +kernel
theorem dX8_judge_21 : decode cX8_judge 21 = .ok (.ireturn, 1) := by decide +kernel
theorem dX8_judge_22 : decode cX8_judge 22 = .ok (.iload_n 2, 1) := by decide +kernel
theorem dX8_judge_23 : decode cX8_judge 23 = .ok (.invokestatic 18, 3) := by decide +kernel
theorem dX8_judge_26 : decode cX8_judge 26 = .ok (.ifCond .ne 6, 3) := by decide +kernel
theorem dX8_judge_29 : decode cX8_judge 29 = .ok (.bipush (-5), 2) := by decide +kernel
theorem dX8_judge_31 : decode cX8_judge 31 = .ok (.ireturn, 1) := by decide +kernel
theorem dX8_judge_32 : decode cX8_judge 32 = .ok (.iload_n 3, 1) := by decide +kernel
theorem dX8_judge_33 : decode cX8_judge 33 = .ok (.iconst 0, 1) := by decide +kernel
theorem dX8_judge_34 : decode cX8_judge 34 = .ok (.iconst 2, 1) := by decide +kernel
theorem dX8_judge_35 : decode cX8_judge 35 = .ok (.invokestatic 3, 3) := by decide +kernel
theorem dX8_judge_38 : decode cX8_judge 38 = .ok (.ifCond .ne 6, 3) := by decide +kernel
theorem dX8_judge_41 : decode cX8_judge 41 = .ok (.bipush (-7), 2) := by decide +kernel
theorem dX8_judge_43 : decode cX8_judge 43 = .ok (.ireturn, 1) := by decide +kernel
theorem dX8_judge_44 : decode cX8_judge 44 = .ok (.iconst 0, 1) := by decide +kernel
theorem dX8_judge_45 : decode cX8_judge 45 = .ok (.istore 4, 2) := by decide +kernel
theorem dX8_judge_47 : decode cX8_judge 47 = .ok (.iload_n 2, 1) := by decide +kernel
theorem dX8_judge_48 : decode cX8_judge 48 = .ok (.istore 5, 2) := by decide +kernel
theorem dX8_judge_50 : decode cX8_judge 50 = .ok (.iconst 0, 1) := by decide +kernel
theorem dX8_judge_51 : decode cX8_judge 51 = .ok (.istore 6, 2) := by decide +kernel
theorem dX8_judge_53 : decode cX8_judge 53 = .ok (.iconst (-1), 1) := by decide +kernel
theorem dX8_judge_54 : decode cX8_judge 54 = .ok (.istore 7, 2) := by decide +kernel
theorem dX8_judge_56 : decode cX8_judge 56 = .ok (.iconst 0, 1) := by decide +kernel
theorem dX8_judge_57 : decode cX8_judge 57 = .ok (.istore 8, 2) := by decide +kernel
theorem dX8_judge_59 : decode cX8_judge 59 = .ok (.iload 8, 2) := by decide +kernel
theorem dX8_judge_61 : decode cX8_judge 61 = .ok (.aload_n 0, 1) := by decide +kernel
theorem dX8_judge_62 : decode cX8_judge 62 = .ok (.getfield 228, 3) := by decide +kernel
theorem dX8_judge_65 : decode cX8_judge 65 = .ok (.iload_n 1, 1) := by decide +kernel
theorem dX8_judge_66 : decode cX8_judge 66 = .ok (.iaload, 1) := by decide +kernel
theorem dX8_judge_67 : decode cX8_judge 67 = .ok (.if_icmp .ge 211, 3) := by decide +kernel
theorem dX8_judge_70 : decode cX8_judge 70 = .ok (.iload 7, 2) := by decide +kernel
theorem dX8_judge_72 : decode cX8_judge 72 = .ok (.iconst (-1), 1) := by decide +kernel
theorem dX8_judge_73 : decode cX8_judge 73 = .ok (.if_icmp .ne 205, 3) := by decide +kernel
theorem dX8_judge_76 : decode cX8_judge 76 = .ok (.aload_n 0, 1) := by decide +kernel
theorem dX8_judge_77 : decode cX8_judge 77 = .ok (.getfield 231, 3) := by decide +kernel
theorem dX8_judge_80 : decode cX8_judge 80 = .ok (.bipush 40, 2) := by decide +kernel
theorem dX8_judge_82 : decode cX8_judge 82 = .ok (.iload_n 1, 1) := by decide +kernel
theorem dX8_judge_83 : decode cX8_judge 83 = .ok (.imul, 1) := by decide +kernel
theorem dX8_judge_84 : decode cX8_judge 84 = .ok (.iload 8, 2) := by decide +kernel
theorem dX8_judge_86 : decode cX8_judge 86 = .ok (.iadd, 1) := by decide +kernel
theorem dX8_judge_87 : decode cX8_judge 87 = .ok (.iaload, 1) := by decide +kernel
theorem dX8_judge_88 : decode cX8_judge 88 = .ok (.istore 9, 2) := by decide +kernel
theorem dX8_judge_90 : decode cX8_judge 90 = .ok (.iload 9, 2) := by decide +kernel
theorem dX8_judge_92 : decode cX8_judge 92 = .ok (.bipush 10, 2) := by decide +kernel
theorem dX8_judge_94 : decode cX8_judge 94 = .ok (.idiv, 1) := by decide +kernel
theorem dX8_judge_95 : decode cX8_judge 95 = .ok (.istore 10, 2) := by decide +kernel
theorem dX8_judge_97 : decode cX8_judge 97 = .ok (.iload 9, 2) := by decide +kernel
theorem dX8_judge_99 : decode cX8_judge 99 = .ok (.bipush 10, 2) := by decide +kernel
theorem dX8_judge_101 : decode cX8_judge 101 = .ok (.irem, 1) := by decide +kernel
theorem dX8_judge_102 : decode cX8_judge 102 = .ok (.istore 11, 2) := by decide +kernel
theorem dX8_judge_104 : decode cX8_judge 104 = .ok (.iload 9, 2) := by decide +kernel
theorem dX8_judge_106 : decode cX8_judge 106 = .ok (.ifCond .lt 29, 3) := by decide +kernel
theorem dX8_judge_109 : decode cX8_judge 109 = .ok (.iload 10, 2) := by decide +kernel
theorem dX8_judge_111 : decode cX8_judge 111 = .ok (.bipush 7, 2) := by decide +kernel
theorem dX8_judge_113 : decode cX8_judge 113 = .ok (.if_icmp .gt 22, 3) := by decide +kernel
theorem dX8_judge_116 : decode cX8_judge 116 = .ok (.iload 11, 2) := by decide +kernel
theorem dX8_judge_118 : decode cX8_judge 118 = .ok (.invokestatic 18, 3) := by decide +kernel
theorem dX8_judge_121 : decode cX8_judge 121 = .ok (.ifCond .eq 14, 3) := by decide +kernel
theorem dX8_judge_124 : decode cX8_judge 124 = .ok (.iload 11, 2) := by decide +kernel
theorem dX8_judge_126 : decode cX8_judge 126 = .ok (.iload 5, 2) := by decide +kernel
theorem dX8_judge_128 : decode cX8_judge 128 = .ok (.if_icmp .eq 7, 3) := by decide +kernel
theorem dX8_judge_131 : decode cX8_judge 131 = .ok (.iconst 1, 1) := by decide +kernel
theorem dX8_judge_132 : decode cX8_judge 132 = .ok (.goto 4, 3) := by decide +kernel
theorem dX8_judge_135 : decode cX8_judge 135 = .ok (.iconst 0, 1) := by decide +kernel
theorem dX8_judge_136 : decode cX8_judge 136 = .ok (.istore 12, 2) := by decide +kernel
theorem dX8_judge_138 : decode cX8_judge 138 = .ok (.iload 12, 2) := by decide +kernel
theorem dX8_judge_140 : decode cX8_judge 140 = .ok (.ifCond .eq 49, 3) := by decide +kernel
theorem dX8_judge_143 : decode cX8_judge 143 = .ok (.iload 10, 2) := by decide +kernel
theorem dX8_judge_145 : decode cX8_judge 145 = .ok (.bipush 7, 2) := by decide +kernel
theorem dX8_judge_147 : decode cX8_judge 147 = .ok (.if_icmp .eq 42, 3) := by decide +kernel
theorem dX8_judge_150 : decode cX8_judge 150 = .ok (.aload_n 0, 1) := by decide +kernel
theorem dX8_judge_151 : decode cX8_judge 151 = .ok (.iload 10, 2) := by decide +kernel
theorem dX8_judge_153 : decode cX8_judge 153 = .ok (.invokevirtual 57, 3) := by decide +kernel
theorem dX8_judge_156 : decode cX8_judge 156 = .ok (.ifCond .eq 30, 3) := by decide +kernel
theorem dX8_judge_159 : decode cX8_judge 159 = .ok (.iload 6, 2) := by decide +kernel
theorem dX8_judge_161 : decode cX8_judge 161 = .ok (.iload 10, 2) := by decide +kernel
theorem dX8_judge_163 : decode cX8_judge 163 = .ok (.ishr, 1) := by decide +kernel
theorem dX8_judge_164 : decode cX8_judge 164 = .ok (.iconst 1, 1) := by decide +kernel
theorem dX8_judge_165 : decode cX8_judge 165 = .ok (.iand, 1) := by decide +kernel
theorem dX8_judge_166 : decode cX8_judge 166 = .ok (.ifCond .ne 20, 3) := by decide +kernel
theorem dX8_judge_169 : decode cX8_judge 169 = .ok (.aload_n 0, 1) := by decide +kernel
theorem dX8_judge_170 : decode cX8_judge 170 = .ok (.iload 10, 2) := by decide +kernel
theorem dX8_judge_172 : decode cX8_judge 172 = .ok (.iload 5, 2) := by decide +kernel
theorem dX8_judge_174 : decode cX8_judge 174 = .ok (.invokevirtual 76, 3) := by decide +kernel
theorem dX8_judge_177 : decode cX8_judge 177 = .ok (.iload 11, 2) := by decide +kernel
theorem dX8_judge_179 : decode cX8_judge 179 = .ok (.if_icmp .ne 7, 3) := by decide +kernel
theorem dX8_judge_182 : decode cX8_judge 182 = .ok (.iconst 1, 1) := by decide +kernel
theorem dX8_judge_183 : decode cX8_judge 183 = .ok (.goto 4, 3) := by decide +kernel
theorem dX8_judge_186 : decode cX8_judge 186 = .ok (.iconst 0, 1) := by decide +kernel
theorem dX8_judge_187 : decode cX8_judge 187 = .ok (.istore 12, 2) := by decide +kernel
theorem dX8_judge_189 : decode cX8_judge 189 = .ok (.iload 12, 2) := by decide +kernel
theorem dX8_judge_191 : decode cX8_judge 191 = .ok (.ifCond .ne 10, 3) := by decide +kernel
theorem dX8_judge_194 : decode cX8_judge 194 = .ok (.iload 8, 2) := by decide +kernel
theorem dX8_judge_196 : decode cX8_judge 196 = .ok (.istore 7, 2) := by decide +kernel
theorem dX8_judge_198 : decode cX8_judge 198 = .ok (.goto 74, 3) := by decide +kernel
theorem dX8_judge_201 : decode cX8_judge 201 = .ok (.iload 10, 2) := by decide +kernel
theorem dX8_judge_203 : decode cX8_judge 203 = .ok (.bipush 7, 2) := by decide +kernel
theorem dX8_judge_205 : decode cX8_judge 205 = .ok (.if_icmp .ne 22, 3) := by decide +kernel
theorem dX8_judge_208 : decode cX8_judge 208 = .ok (.iload 4, 2) := by decide +kernel
theorem dX8_judge_210 : decode cX8_judge 210 = .ok (.aload_n 0, 1) := by decide +kernel
theorem dX8_judge_211 : decode cX8_judge 211 = .ok (.getfield 14, 3) := by decide +kernel
theorem dX8_judge_214 : decode cX8_judge 214 = .ok (.bipush 7, 2) := by decide +kernel
theorem dX8_judge_216 : decode cX8_judge 216 = .ok (.iload 5, 2) := by decide +kernel
theorem dX8_judge_218 : decode cX8_judge 218 = .ok (.imul, 1) := by decide +kernel
theorem dX8_judge_219 : decode cX8_judge 219 = .ok (.iload 11, 2) := by decide +kernel
theorem dX8_judge_221 : decode cX8_judge 221 = .ok (.iadd, 1) := by decide +kernel
theorem dX8_judge_222 : decode cX8_judge 222 = .ok (.iaload, 1) := by decide +kernel
theorem dX8_judge_223 : decode cX8_judge 223 = .ok (.iadd, 1) := by decide +kernel
theorem dX8_judge_224 : decode cX8_judge 224 = .ok (.goto 22, 3) := by decide +kernel
theorem dX8_judge_227 : decode cX8_judge 227 = .ok (.iload 4, 2) := by decide +kernel
theorem dX8_judge_229 : decode cX8_judge 229 = .ok (.aload_n 0, 1) := by decide +kernel
theorem dX8_judge_230 : decode cX8_judge 230 = .ok (.getfield 50, 3) := by decide +kernel
theorem dX8_judge_233 : decode cX8_judge 233 = .ok (.iload 10, 2) := by decide +kernel
theorem dX8_judge_235 : decode cX8_judge 235 = .ok (.iaload, 1) := by decide +kernel
theorem dX8_judge_236 : decode cX8_judge 236 = .ok (.invokestatic 64, 3) := by decide +kernel
theorem dX8_judge_239 : decode cX8_judge 239 = .ok (.aload_n 0, 1) := by decide +kernel
theorem dX8_judge_240 : decode cX8_judge 240 = .ok (.iload 10, 2) := by decide +kernel
theorem dX8_judge_242 : decode cX8_judge 242 = .ok (.invokevirtual 69, 3) := by decide +kernel
theorem dX8_judge_245 : decode cX8_judge 245 = .ok (.iadd, 1) := by decide +kernel
theorem dX8_judge_246 : decode cX8_judge 246 = .ok (.istore 4, 2) := by decide +kernel
theorem dX8_judge_248 : decode cX8_judge 248 = .ok (.iload 6, 2) := by decide +kernel
theorem dX8_judge_250 : decode cX8_judge 250 = .ok (.iload 10, 2) := by decide +kernel
theorem dX8_judge_252 : decode cX8_judge 252 = .ok (.bipush 7, 2) := by decide +kernel
theorem dX8_judge_254 : decode cX8_judge 254 = .ok (.if_icmp .ne 7, 3) := by decide +kernel
theorem dX8_judge_257 : decode cX8_judge 257 = .ok (.iconst 0, 1) := by decide +kernel
theorem dX8_judge_258 : decode cX8_judge 258 = .ok (.goto 7, 3) := by decide +kernel
theorem dX8_judge_261 : decode cX8_judge 261 = .ok (.iconst 1, 1) := by decide +kernel
theorem dX8_judge_262 : decode cX8_judge 262 = .ok (.iload 10, 2) := by decide +kernel
theorem dX8_judge_264 : decode cX8_judge 264 = .ok (.ishl, 1) := by decide +kernel
theorem dX8_judge_265 : decode cX8_judge 265 = .ok (.ior, 1) := by decide +kernel
theorem dX8_judge_266 : decode cX8_judge 266 = .ok (.istore 6, 2) := by decide +kernel
theorem dX8_judge_268 : decode cX8_judge 268 = .ok (.iload 11, 2) := by decide +kernel
theorem dX8_judge_270 : decode cX8_judge 270 = .ok (.istore 5, 2) := by decide +kernel
theorem dX8_judge_272 : decode cX8_judge 272 = .ok (.iinc 8 1, 3) := by decide +kernel
theorem dX8_judge_275 : decode cX8_judge 275 = .ok (.goto (-216), 3) := by decide +kernel
theorem dX8_judge_278 : decode cX8_judge 278 = .ok (.iload_n 3, 1) := by decide +kernel
theorem dX8_judge_279 : decode cX8_judge 279 = .ok (.ifCond .ne 8, 3) := by decide +kernel
theorem dX8_judge_282 : decode cX8_judge 282 = .ok (.iload 7, 2) := by decide +kernel
theorem dX8_judge_284 : decode cX8_judge 284 = .ok (.goto 15, 3) := by decide +kernel
theorem dX8_judge_287 : decode cX8_judge 287 = .ok (.iload_n 3, 1) := by decide +kernel
theorem dX8_judge_288 : decode cX8_judge 288 = .ok (.iconst 1, 1) := by decide +kernel
theorem dX8_judge_289 : decode cX8_judge 289 = .ok (.if_icmp .ne 8, 3) := by decide +kernel
theorem dX8_judge_292 : decode cX8_judge 292 = .ok (.iload 4, 2) := by decide +kernel
theorem dX8_judge_294 : decode cX8_judge 294 = .ok (.goto 5, 3) := by decide +kernel
theorem dX8_judge_297 : decode cX8_judge 297 = .ok (.iload 5, 2) := by decide +kernel
theorem dX8_judge_299 : decode cX8_judge 299 = .ok (.ireturn, 1) := by decide +kernel
theorem dX8_wet_0 : decode cX8_wet 0 = .ok (.iload_n 1, 1) := by decide +kernel
theorem dX8_wet_1 : decode cX8_wet 1 = .ok (.iconst 0, 1) := by decide +kernel
theorem dX8_wet_2 : decode cX8_wet 2 = .ok (.aload_n 0, 1) := by decide +kernel
theorem dX8_wet_3 : decode cX8_wet 3 = .ok (.invokevirtual 262, 3) := by decide +kernel
theorem dX8_wet_6 : decode cX8_wet 6 = .ok (.invokestatic 3, 3) := by decide +kernel
theorem dX8_wet_9 : decode cX8_wet 9 = .ok (.ifCond .eq 12, 3) := by decide +kernel
theorem dX8_wet_12 : decode cX8_wet 12 = .ok (.iload_n 2, 1) := by decide +kernel
theorem dX8_wet_13 : decode cX8_wet 13 = .ok (.iconst 0, 1) := by decide +kernel
theorem dX8_wet_14 : decode cX8_wet 14 = .ok (.iconst 1, 1) := by decide +kernel
theorem dX8_wet_15 : decode cX8_wet 15 = .ok (.invokestatic 3, 3) := by decide +kernel
theorem dX8_wet_18 : decode cX8_wet 18 = .ok (.ifCond .ne 6, 3) := by decide +kernel
theorem dX8_wet_21 : decode cX8_wet 21 = .ok (.bipush (-2), 2) := by decide +kernel
theorem dX8_wet_23 : decode cX8_wet 23 = .ok (.ireturn, 1) := by decide +kernel
theorem dX8_wet_24 : decode cX8_wet 24 = .ok (.iconst 0, 1) := by decide +kernel
theorem dX8_wet_25 : decode cX8_wet 25 = .ok (.istore_n 3, 1) := by decide +kernel
theorem dX8_wet_26 : decode cX8_wet 26 = .ok (.iconst (-1), 1) := by decide +kernel
theorem dX8_wet_27 : decode cX8_wet 27 = .ok (.istore 4, 2) := by decide +kernel
theorem dX8_wet_29 : decode cX8_wet 29 = .ok (.iconst 0, 1) := by decide +kernel
theorem dX8_wet_30 : decode cX8_wet 30 = .ok (.istore 5, 2) := by decide +kernel
theorem dX8_wet_32 : decode cX8_wet 32 = .ok (.iload 5, 2) := by decide +kernel
theorem dX8_wet_34 : decode cX8_wet 34 = .ok (.bipush 7, 2) := by decide +kernel
theorem dX8_wet_36 : decode cX8_wet 36 = .ok (.if_icmp .ge 78, 3) := by decide +kernel
theorem dX8_wet_39 : decode cX8_wet 39 = .ok (.aload_n 0, 1) := by decide +kernel
theorem dX8_wet_40 : decode cX8_wet 40 = .ok (.iload 5, 2) := by decide +kernel
theorem dX8_wet_42 : decode cX8_wet 42 = .ok (.aload_n 0, 1) := by decide +kernel
theorem dX8_wet_43 : decode cX8_wet 43 = .ok (.invokevirtual 262, 3) := by decide +kernel
theorem dX8_wet_46 : decode cX8_wet 46 = .ok (.invokevirtual 256, 3) := by decide +kernel
theorem dX8_wet_49 : decode cX8_wet 49 = .ok (.iconst 0, 1) := by decide +kernel
theorem dX8_wet_50 : decode cX8_wet 50 = .ok (.istore 6, 2) := by decide +kernel
theorem dX8_wet_52 : decode cX8_wet 52 = .ok (.iload 6, 2) := by decide +kernel
theorem dX8_wet_54 : decode cX8_wet 54 = .ok (.bipush 7, 2) := by decide +kernel
theorem dX8_wet_56 : decode cX8_wet 56 = .ok (.if_icmp .ge 52, 3) := by decide +kernel
theorem dX8_wet_59 : decode cX8_wet 59 = .ok (.iload 5, 2) := by decide +kernel
theorem dX8_wet_61 : decode cX8_wet 61 = .ok (.iload 6, 2) := by decide +kernel
theorem dX8_wet_63 : decode cX8_wet 63 = .ok (.if_icmp .eq 39, 3) := by decide +kernel
theorem dX8_wet_66 : decode cX8_wet 66 = .ok (.aload_n 0, 1) := by decide +kernel
theorem dX8_wet_67 : decode cX8_wet 67 = .ok (.iload 6, 2) := by decide +kernel
theorem dX8_wet_69 : decode cX8_wet 69 = .ok (.invokevirtual 266, 3) := by decide +kernel
theorem dX8_wet_72 : decode cX8_wet 72 = .ok (.aload_n 0, 1) := by decide +kernel
theorem dX8_wet_73 : decode cX8_wet 73 = .ok (.invokevirtual 269, 3) := by decide +kernel
theorem dX8_wet_76 : decode cX8_wet 76 = .ok (.iload_n 1, 1) := by decide +kernel
theorem dX8_wet_77 : decode cX8_wet 77 = .ok (.if_icmp .ne 25, 3) := by decide +kernel
theorem dX8_wet_80 : decode cX8_wet 80 = .ok (.iload_n 3, 1) := by decide +kernel
theorem dX8_wet_81 : decode cX8_wet 81 = .ok (.ifCond .ne 14, 3) := by decide +kernel
theorem dX8_wet_84 : decode cX8_wet 84 = .ok (.bipush 10, 2) := by decide +kernel
theorem dX8_wet_86 : decode cX8_wet 86 = .ok (.iload 5, 2) := by decide +kernel
theorem dX8_wet_88 : decode cX8_wet 88 = .ok (.imul, 1) := by decide +kernel
theorem dX8_wet_89 : decode cX8_wet 89 = .ok (.iload 6, 2) := by decide +kernel
theorem dX8_wet_91 : decode cX8_wet 91 = .ok (.iadd, 1) := by decide +kernel
theorem dX8_wet_92 : decode cX8_wet 92 = .ok (.goto 5, 3) := by decide +kernel
theorem dX8_wet_95 : decode cX8_wet 95 = .ok (.iload 4, 2) := by decide +kernel
theorem dX8_wet_97 : decode cX8_wet 97 = .ok (.istore 4, 2) := by decide +kernel
theorem dX8_wet_99 : decode cX8_wet 99 = .ok (.iinc 3 1, 3) := by decide +kernel
theorem dX8_wet_102 : decode cX8_wet 102 = .ok (.iinc 6 1, 3) := by decide +kernel
theorem dX8_wet_105 : decode cX8_wet 105 = .ok (.goto (-53), 3) := by decide +kernel
theorem dX8_wet_108 : decode cX8_wet 108 = .ok (.iinc 5 1, 3) := by decide +kernel
theorem dX8_wet_111 : decode cX8_wet 111 = .ok (.goto (-79), 3) := by decide +kernel
theorem dX8_wet_114 : decode cX8_wet 114 = .ok (.iload_n 2, 1) := by decide +kernel
theorem dX8_wet_115 : decode cX8_wet 115 = .ok (.ifCond .ne 7, 3) := by decide +kernel
theorem dX8_wet_118 : decode cX8_wet 118 = .ok (.iload_n 3, 1) := by decide +kernel
theorem dX8_wet_119 : decode cX8_wet 119 = .ok (.goto 5, 3) := by decide +kernel
theorem dX8_wet_122 : decode cX8_wet 122 = .ok (.iload 4, 2) := by decide +kernel
theorem dX8_wet_124 : decode cX8_wet 124 = .ok (.ireturn, 1) := by decide +kernel
theorem dX8_isTold_0 : decode cX8_isTold 0 = .ok (.aload_n 0, 1) := by decide +kernel
theorem dX8_isTold_1 : decode cX8_isTold 1 = .ok (.iload_n 2, 1) := by decide +kernel
theorem dX8_isTold_2 : decode cX8_isTold 2 = .ok (.aload_n 0, 1) := by decide +kernel
theorem dX8_isTold_3 : decode cX8_isTold 3 = .ok (.invokevirtual 262, 3) := by decide +kernel
theorem dX8_isTold_6 : decode cX8_isTold 6 = .ok (.invokevirtual 256, 3) := by decide +kernel
theorem dX8_isTold_9 : decode cX8_isTold 9 = .ok (.iconst 1, 1) := by decide +kernel
theorem dX8_isTold_10 : decode cX8_isTold 10 = .ok (.istore_n 3, 1) := by decide +kernel
theorem dX8_isTold_11 : decode cX8_isTold 11 = .ok (.iconst 0, 1) := by decide +kernel
theorem dX8_isTold_12 : decode cX8_isTold 12 = .ok (.istore 4, 2) := by decide +kernel
theorem dX8_isTold_14 : decode cX8_isTold 14 = .ok (.iload 4, 2) := by decide +kernel
theorem dX8_isTold_16 : decode cX8_isTold 16 = .ok (.bipush 7, 2) := by decide +kernel
theorem dX8_isTold_18 : decode cX8_isTold 18 = .ok (.if_icmp .ge 41, 3) := by decide +kernel
theorem dX8_isTold_21 : decode cX8_isTold 21 = .ok (.iload_n 3, 1) := by decide +kernel
theorem dX8_isTold_22 : decode cX8_isTold 22 = .ok (.ifCond .eq 29, 3) := by decide +kernel
theorem dX8_isTold_25 : decode cX8_isTold 25 = .ok (.aload_n 0, 1) := by decide +kernel
theorem dX8_isTold_26 : decode cX8_isTold 26 = .ok (.getfield 231, 3) := by decide +kernel
theorem dX8_isTold_29 : decode cX8_isTold 29 = .ok (.bipush 40, 2) := by decide +kernel
theorem dX8_isTold_31 : decode cX8_isTold 31 = .ok (.iload_n 1, 1) := by decide +kernel
theorem dX8_isTold_32 : decode cX8_isTold 32 = .ok (.imul, 1) := by decide +kernel
theorem dX8_isTold_33 : decode cX8_isTold 33 = .ok (.iload 4, 2) := by decide +kernel
theorem dX8_isTold_35 : decode cX8_isTold 35 = .ok (.iadd, 1) := by decide +kernel
theorem dX8_isTold_36 : decode cX8_isTold 36 = .ok (.iaload, 1) := by decide +kernel
theorem dX8_isTold_37 : decode cX8_isTold 37 = .ok (.aload_n 0, 1) := by decide +kernel
theorem dX8_isTold_38 : decode cX8_isTold 38 = .ok (.getfield 201, 3) := by decide +kernel
theorem dX8_isTold_41 : decode cX8_isTold 41 = .ok (.iload 4, 2) := by decide +kernel
theorem dX8_isTold_43 : decode cX8_isTold 43 = .ok (.iaload, 1) := by decide +kernel
theorem dX8_isTold_44 : decode cX8_isTold 44 = .ok (.if_icmp .ne 7, 3) := by decide +kernel
theorem dX8_isTold_47 : decode cX8_isTold 47 = .ok (.iconst 1, 1) := by decide +kernel
theorem dX8_isTold_48 : decode cX8_isTold 48 = .ok (.goto 4, 3) := by decide +kernel
theorem dX8_isTold_51 : decode cX8_isTold 51 = .ok (.iconst 0, 1) := by decide +kernel
theorem dX8_isTold_52 : decode cX8_isTold 52 = .ok (.istore_n 3, 1) := by decide +kernel
theorem dX8_isTold_53 : decode cX8_isTold 53 = .ok (.iinc 4 1, 3) := by decide +kernel
theorem dX8_isTold_56 : decode cX8_isTold 56 = .ok (.goto (-42), 3) := by decide +kernel
theorem dX8_isTold_59 : decode cX8_isTold 59 = .ok (.iload_n 3, 1) := by decide +kernel
theorem dX8_isTold_60 : decode cX8_isTold 60 = .ok (.ireturn, 1) := by decide +kernel
theorem dX8_whence_0 : decode cX8_whence 0 = .ok (.iload_n 1, 1) := by decide +kernel
theorem dX8_whence_1 : decode cX8_whence 1 = .ok (.invokestatic 288, 3) := by decide +kernel
theorem dX8_whence_4 : decode cX8_whence 4 = .ok (.ifCond .ne 6, 3) := by decide +kernel
theorem dX8_whence_7 : decode cX8_whence 7 = .ok (.bipush (-2), 2) := by decide +kernel
theorem dX8_whence_9 : decode cX8_whence 9 = .ok (.ireturn, 1) := by decide +kernel
theorem dX8_whence_10 : decode cX8_whence 10 = .ok (.aload_n 0, 1) := by decide +kernel
theorem dX8_whence_11 : decode cX8_whence 11 = .ok (.getfield 225, 3) := by decide +kernel
theorem dX8_whence_14 : decode cX8_whence 14 = .ok (.iload_n 1, 1) := by decide +kernel
theorem dX8_whence_15 : decode cX8_whence 15 = .ok (.iaload, 1) := by decide +kernel
theorem dX8_whence_16 : decode cX8_whence 16 = .ok (.ifCond .ge 6, 3) := by decide +kernel
theorem dX8_whence_19 : decode cX8_whence 19 = .ok (.bipush (-11), 2) := by decide +kernel
theorem dX8_whence_21 : decode cX8_whence 21 = .ok (.ireturn, 1) := by decide +kernel
theorem dX8_whence_22 : decode cX8_whence 22 = .ok (.aload_n 0, 1) := by decide +kernel
theorem dX8_whence_23 : decode cX8_whence 23 = .ok (.getfield 228, 3) := by decide +kernel
theorem dX8_whence_26 : decode cX8_whence 26 = .ok (.iload_n 1, 1) := by decide +kernel
theorem dX8_whence_27 : decode cX8_whence 27 = .ok (.iaload, 1) := by decide +kernel
theorem dX8_whence_28 : decode cX8_whence 28 = .ok (.bipush 7, 2) := by decide +kernel
theorem dX8_whence_30 : decode cX8_whence 30 = .ok (.if_icmp .eq 6, 3) := by decide +kernel
theorem dX8_whence_33 : decode cX8_whence 33 = .ok (.bipush (-2), 2) := by decide +kernel
theorem dX8_whence_35 : decode cX8_whence 35 = .ok (.ireturn, 1) := by decide +kernel
theorem dX8_whence_36 : decode cX8_whence 36 = .ok (.iconst 0, 1) := by decide +kernel
theorem dX8_whence_37 : decode cX8_whence 37 = .ok (.istore_n 2, 1) := by decide +kernel
theorem dX8_whence_38 : decode cX8_whence 38 = .ok (.iconst 0, 1) := by decide +kernel
theorem dX8_whence_39 : decode cX8_whence 39 = .ok (.istore_n 3, 1) := by decide +kernel
theorem dX8_whence_40 : decode cX8_whence 40 = .ok (.iload_n 3, 1) := by decide +kernel
theorem dX8_whence_41 : decode cX8_whence 41 = .ok (.bipush 7, 2) := by decide +kernel
theorem dX8_whence_43 : decode cX8_whence 43 = .ok (.if_icmp .ge 28, 3) := by decide +kernel
theorem dX8_whence_46 : decode cX8_whence 46 = .ok (.iload_n 2, 1) := by decide +kernel
theorem dX8_whence_47 : decode cX8_whence 47 = .ok (.aload_n 0, 1) := by decide +kernel
theorem dX8_whence_48 : decode cX8_whence 48 = .ok (.iload_n 1, 1) := by decide +kernel
theorem dX8_whence_49 : decode cX8_whence 49 = .ok (.iload_n 3, 1) := by decide +kernel
theorem dX8_whence_50 : decode cX8_whence 50 = .ok (.invokevirtual 291, 3) := by decide +kernel
theorem dX8_whence_53 : decode cX8_whence 53 = .ok (.ifCond .eq 9, 3) := by decide +kernel
theorem dX8_whence_56 : decode cX8_whence 56 = .ok (.iconst 1, 1) := by decide +kernel
theorem dX8_whence_57 : decode cX8_whence 57 = .ok (.iload_n 3, 1) := by decide +kernel
theorem dX8_whence_58 : decode cX8_whence 58 = .ok (.ishl, 1) := by decide +kernel
theorem dX8_whence_59 : decode cX8_whence 59 = .ok (.goto 4, 3) := by decide +kernel
theorem dX8_whence_62 : decode cX8_whence 62 = .ok (.iconst 0, 1) := by decide +kernel
theorem dX8_whence_63 : decode cX8_whence 63 = .ok (.ior, 1) := by decide +kernel
theorem dX8_whence_64 : decode cX8_whence 64 = .ok (.istore_n 2, 1) := by decide +kernel
theorem dX8_whence_65 : decode cX8_whence 65 = .ok (.iinc 3 1, 3) := by decide +kernel
theorem dX8_whence_68 : decode cX8_whence 68 = .ok (.goto (-28), 3) := by decide +kernel
theorem dX8_whence_71 : decode cX8_whence 71 = .ok (.iload_n 2, 1) := by decide +kernel
theorem dX8_whence_72 : decode cX8_whence 72 = .ok (.ireturn, 1) := by decide +kernel
theorem dX8_laws_0 : decode cX8_laws 0 = .ok (.iload_n 1, 1) := by decide +kernel
theorem dX8_laws_1 : decode cX8_laws 1 = .ok (.invokestatic 288, 3) := by decide +kernel
theorem dX8_laws_4 : decode cX8_laws 4 = .ok (.ifCond .ne 6, 3) := by decide +kernel
theorem dX8_laws_7 : decode cX8_laws 7 = .ok (.bipush (-2), 2) := by decide +kernel
theorem dX8_laws_9 : decode cX8_laws 9 = .ok (.ireturn, 1) := by decide +kernel
theorem dX8_laws_10 : decode cX8_laws 10 = .ok (.aload_n 0, 1) := by decide +kernel
theorem dX8_laws_11 : decode cX8_laws 11 = .ok (.getfield 225, 3) := by decide +kernel
theorem dX8_laws_14 : decode cX8_laws 14 = .ok (.iload_n 1, 1) := by decide +kernel
theorem dX8_laws_15 : decode cX8_laws 15 = .ok (.iaload, 1) := by decide +kernel
theorem dX8_laws_16 : decode cX8_laws 16 = .ok (.ifCond .ge 6, 3) := by decide +kernel
theorem dX8_laws_19 : decode cX8_laws 19 = .ok (.bipush (-11), 2) := by decide +kernel
theorem dX8_laws_21 : decode cX8_laws 21 = .ok (.ireturn, 1) := by decide +kernel
theorem dX8_laws_22 : decode cX8_laws 22 = .ok (.aload_n 0, 1) := by decide +kernel
theorem dX8_laws_23 : decode cX8_laws 23 = .ok (.getfield 228, 3) := by decide +kernel
theorem dX8_laws_26 : decode cX8_laws 26 = .ok (.iload_n 1, 1) := by decide +kernel
theorem dX8_laws_27 : decode cX8_laws 27 = .ok (.iaload, 1) := by decide +kernel
theorem dX8_laws_28 : decode cX8_laws 28 = .ok (.bipush 7, 2) := by decide +kernel
theorem dX8_laws_30 : decode cX8_laws 30 = .ok (.if_icmp .eq 6, 3) := by decide +kernel
theorem dX8_laws_33 : decode cX8_laws 33 = .ok (.bipush (-2), 2) := by decide +kernel
theorem dX8_laws_35 : decode cX8_laws 35 = .ok (.ireturn, 1) := by decide +kernel
theorem dX8_laws_36 : decode cX8_laws 36 = .ok (.iload_n 2, 1) := by decide +kernel
theorem dX8_laws_37 : decode cX8_laws 37 = .ok (.invokestatic 18, 3) := by decide +kernel
theorem dX8_laws_40 : decode cX8_laws 40 = .ok (.ifCond .ne 6, 3) := by decide +kernel
theorem dX8_laws_43 : decode cX8_laws 43 = .ok (.bipush (-5), 2) := by decide +kernel
theorem dX8_laws_45 : decode cX8_laws 45 = .ok (.ireturn, 1) := by decide +kernel
theorem dX8_laws_46 : decode cX8_laws 46 = .ok (.aload_n 0, 1) := by decide +kernel
theorem dX8_laws_47 : decode cX8_laws 47 = .ok (.getfield 187, 3) := by decide +kernel
theorem dX8_laws_50 : decode cX8_laws 50 = .ok (.istore_n 3, 1) := by decide +kernel
theorem dX8_laws_51 : decode cX8_laws 51 = .ok (.iconst 0, 1) := by decide +kernel
theorem dX8_laws_52 : decode cX8_laws 52 = .ok (.istore 4, 2) := by decide +kernel
theorem dX8_laws_54 : decode cX8_laws 54 = .ok (.iconst 0, 1) := by decide +kernel
theorem dX8_laws_55 : decode cX8_laws 55 = .ok (.istore 5, 2) := by decide +kernel
theorem dX8_laws_57 : decode cX8_laws 57 = .ok (.iload 5, 2) := by decide +kernel
theorem dX8_laws_59 : decode cX8_laws 59 = .ok (.aload_n 0, 1) := by decide +kernel
theorem dX8_laws_60 : decode cX8_laws 60 = .ok (.getfield 181, 3) := by decide +kernel
theorem dX8_laws_63 : decode cX8_laws 63 = .ok (.if_icmp .ge 37, 3) := by decide +kernel
theorem dX8_laws_66 : decode cX8_laws 66 = .ok (.aload_n 0, 1) := by decide +kernel
theorem dX8_laws_67 : decode cX8_laws 67 = .ok (.iload 5, 2) := by decide +kernel
theorem dX8_laws_69 : decode cX8_laws 69 = .ok (.putfield 187, 3) := by decide +kernel
theorem dX8_laws_72 : decode cX8_laws 72 = .ok (.iload 4, 2) := by decide +kernel
theorem dX8_laws_74 : decode cX8_laws 74 = .ok (.aload_n 0, 1) := by decide +kernel
theorem dX8_laws_75 : decode cX8_laws 75 = .ok (.iload_n 1, 1) := by decide +kernel
theorem dX8_laws_76 : decode cX8_laws 76 = .ok (.iload_n 2, 1) := by decide +kernel
theorem dX8_laws_77 : decode cX8_laws 77 = .ok (.invokevirtual 291, 3) := by decide +kernel
theorem dX8_laws_80 : decode cX8_laws 80 = .ok (.ifCond .eq 10, 3) := by decide +kernel
theorem dX8_laws_83 : decode cX8_laws 83 = .ok (.iconst 1, 1) := by decide +kernel
theorem dX8_laws_84 : decode cX8_laws 84 = .ok (.iload 5, 2) := by decide +kernel
theorem dX8_laws_86 : decode cX8_laws 86 = .ok (.ishl, 1) := by decide +kernel
theorem dX8_laws_87 : decode cX8_laws 87 = .ok (.goto 4, 3) := by decide +kernel
theorem dX8_laws_90 : decode cX8_laws 90 = .ok (.iconst 0, 1) := by decide +kernel
theorem dX8_laws_91 : decode cX8_laws 91 = .ok (.ior, 1) := by decide +kernel
theorem dX8_laws_92 : decode cX8_laws 92 = .ok (.istore 4, 2) := by decide +kernel
theorem dX8_laws_94 : decode cX8_laws 94 = .ok (.iinc 5 1, 3) := by decide +kernel
theorem dX8_laws_97 : decode cX8_laws 97 = .ok (.goto (-40), 3) := by decide +kernel
theorem dX8_laws_100 : decode cX8_laws 100 = .ok (.aload_n 0, 1) := by decide +kernel
theorem dX8_laws_101 : decode cX8_laws 101 = .ok (.iload_n 3, 1) := by decide +kernel
theorem dX8_laws_102 : decode cX8_laws 102 = .ok (.putfield 187, 3) := by decide +kernel
theorem dX8_laws_105 : decode cX8_laws 105 = .ok (.iload 4, 2) := by decide +kernel
theorem dX8_laws_107 : decode cX8_laws 107 = .ok (.ireturn, 1) := by decide +kernel
theorem dX8_film_0 : decode cX8_film 0 = .ok (.iload_n 1, 1) := by decide +kernel
theorem dX8_film_1 : decode cX8_film 1 = .ok (.invokestatic 288, 3) := by decide +kernel
theorem dX8_film_4 : decode cX8_film 4 = .ok (.ifCond .ne 6, 3) := by decide +kernel
theorem dX8_film_7 : decode cX8_film 7 = .ok (.bipush (-2), 2) := by decide +kernel
theorem dX8_film_9 : decode cX8_film 9 = .ok (.ireturn, 1) := by decide +kernel
theorem dX8_film_10 : decode cX8_film 10 = .ok (.iload_n 2, 1) := by decide +kernel
theorem dX8_film_11 : decode cX8_film 11 = .ok (.invokestatic 18, 3) := by decide +kernel
theorem dX8_film_14 : decode cX8_film 14 = .ok (.ifCond .ne 6, 3) := by decide +kernel
theorem dX8_film_17 : decode cX8_film 17 = .ok (.bipush (-5), 2) := by decide +kernel
theorem dX8_film_19 : decode cX8_film 19 = .ok (.ireturn, 1) := by decide +kernel
theorem dX8_film_20 : decode cX8_film 20 = .ok (.aload_n 0, 1) := by decide +kernel
theorem dX8_film_21 : decode cX8_film 21 = .ok (.iload_n 2, 1) := by decide +kernel
theorem dX8_film_22 : decode cX8_film 22 = .ok (.aload_n 0, 1) := by decide +kernel
theorem dX8_film_23 : decode cX8_film 23 = .ok (.invokevirtual 262, 3) := by decide +kernel
theorem dX8_film_26 : decode cX8_film 26 = .ok (.invokevirtual 256, 3) := by decide +kernel
theorem dX8_film_29 : decode cX8_film 29 = .ok (.aload_n 0, 1) := by decide +kernel
theorem dX8_film_30 : decode cX8_film 30 = .ok (.iload_n 1, 1) := by decide +kernel
theorem dX8_film_31 : decode cX8_film 31 = .ok (.iconst 2, 1) := by decide +kernel
theorem dX8_film_32 : decode cX8_film 32 = .ok (.bipush 7, 2) := by decide +kernel
theorem dX8_film_34 : decode cX8_film 34 = .ok (.invokevirtual 295, 3) := by decide +kernel
theorem dX8_film_37 : decode cX8_film 37 = .ok (.pop, 1) := by decide +kernel
theorem dX8_film_38 : decode cX8_film 38 = .ok (.iconst 0, 1) := by decide +kernel
theorem dX8_film_39 : decode cX8_film 39 = .ok (.istore_n 3, 1) := by decide +kernel
theorem dX8_film_40 : decode cX8_film 40 = .ok (.iload_n 3, 1) := by decide +kernel
theorem dX8_film_41 : decode cX8_film 41 = .ok (.bipush 7, 2) := by decide +kernel
theorem dX8_film_43 : decode cX8_film 43 = .ok (.if_icmp .ge 26, 3) := by decide +kernel
theorem dX8_film_46 : decode cX8_film 46 = .ok (.aload_n 0, 1) := by decide +kernel
theorem dX8_film_47 : decode cX8_film 47 = .ok (.getfield 231, 3) := by decide +kernel
theorem dX8_film_50 : decode cX8_film 50 = .ok (.bipush 40, 2) := by decide +kernel
theorem dX8_film_52 : decode cX8_film 52 = .ok (.iload_n 1, 1) := by decide +kernel
theorem dX8_film_53 : decode cX8_film 53 = .ok (.imul, 1) := by decide +kernel
theorem dX8_film_54 : decode cX8_film 54 = .ok (.iload_n 3, 1) := by decide +kernel
theorem dX8_film_55 : decode cX8_film 55 = .ok (.iadd, 1) := by decide +kernel
theorem dX8_film_56 : decode cX8_film 56 = .ok (.aload_n 0, 1) := by decide +kernel
theorem dX8_film_57 : decode cX8_film 57 = .ok (.getfield 201, 3) := by decide +kernel
theorem dX8_film_60 : decode cX8_film 60 = .ok (.iload_n 3, 1) := by decide +kernel
theorem dX8_film_61 : decode cX8_film 61 = .ok (.iaload, 1) := by decide +kernel
theorem dX8_film_62 : decode cX8_film 62 = .ok (.iastore, 1) := by decide +kernel
theorem dX8_film_63 : decode cX8_film 63 = .ok (.iinc 3 1, 3) := by decide +kernel
theorem dX8_film_66 : decode cX8_film 66 = .ok (.goto (-26), 3) := by decide +kernel
theorem dX8_film_69 : decode cX8_film 69 = .ok (.bipush 7, 2) := by decide +kernel
theorem dX8_film_71 : decode cX8_film 71 = .ok (.ireturn, 1) := by decide +kernel
theorem dX8_drawnBy_0 : decode cX8_drawnBy 0 = .ok (.iload_n 1, 1) := by decide +kernel
theorem dX8_drawnBy_1 : decode cX8_drawnBy 1 = .ok (.i2l, 1) := by decide +kernel
theorem dX8_drawnBy_2 : decode cX8_drawnBy 2 = .ok (.lconst 1, 1) := by decide +kernel
theorem dX8_drawnBy_3 : decode cX8_drawnBy 3 = .ok (.ladd, 1) := by decide +kernel
theorem dX8_drawnBy_4 : decode cX8_drawnBy 4 = .ok (.lstore_n 2, 1) := by decide +kernel
theorem dX8_drawnBy_5 : decode cX8_drawnBy 5 = .ok (.iconst 0, 1) := by decide +kernel
theorem dX8_drawnBy_6 : decode cX8_drawnBy 6 = .ok (.istore 4, 2) := by decide +kernel
theorem dX8_drawnBy_8 : decode cX8_drawnBy 8 = .ok (.iconst 0, 1) := by decide +kernel
theorem dX8_drawnBy_9 : decode cX8_drawnBy 9 = .ok (.istore 5, 2) := by decide +kernel
theorem dX8_drawnBy_11 : decode cX8_drawnBy 11 = .ok (.iload 5, 2) := by decide +kernel
theorem dX8_drawnBy_13 : decode cX8_drawnBy 13 = .ok (.aload_n 0, 1) := by decide +kernel
theorem dX8_drawnBy_14 : decode cX8_drawnBy 14 = .ok (.getfield 7, 3) := by decide +kernel
theorem dX8_drawnBy_17 : decode cX8_drawnBy 17 = .ok (.if_icmp .ge 49, 3) := by decide +kernel
theorem dX8_drawnBy_20 : decode cX8_drawnBy 20 = .ok (.lload_n 2, 1) := by decide +kernel
theorem dX8_drawnBy_21 : decode cX8_drawnBy 21 = .ok (.ldc2_w 298, 3) := by decide +kernel
theorem dX8_drawnBy_24 : decode cX8_drawnBy 24 = .ok (.lmul, 1) := by decide +kernel
theorem dX8_drawnBy_25 : decode cX8_drawnBy 25 = .ok (.ldc2_w 300, 3) := by decide +kernel
theorem dX8_drawnBy_28 : decode cX8_drawnBy 28 = .ok (.lrem, 1) := by decide +kernel
theorem dX8_drawnBy_29 : decode cX8_drawnBy 29 = .ok (.lstore_n 2, 1) := by decide +kernel
theorem dX8_drawnBy_30 : decode cX8_drawnBy 30 = .ok (.iload 4, 2) := by decide +kernel
theorem dX8_drawnBy_32 : decode cX8_drawnBy 32 = .ok (.lload_n 2, 1) := by decide +kernel
theorem dX8_drawnBy_33 : decode cX8_drawnBy 33 = .ok (.ldc2_w 286, 3) := by decide +kernel
theorem dX8_drawnBy_36 : decode cX8_drawnBy 36 = .ok (.lrem, 1) := by decide +kernel
theorem dX8_drawnBy_37 : decode cX8_drawnBy 37 = .ok (.aload_n 0, 1) := by decide +kernel
theorem dX8_drawnBy_38 : decode cX8_drawnBy 38 = .ok (.iconst 2, 1) := by decide +kernel
theorem dX8_drawnBy_39 : decode cX8_drawnBy 39 = .ok (.iload 5, 2) := by decide +kernel
theorem dX8_drawnBy_41 : decode cX8_drawnBy 41 = .ok (.invokevirtual 60, 3) := by decide +kernel
theorem dX8_drawnBy_44 : decode cX8_drawnBy 44 = .ok (.i2l, 1) := by decide +kernel
theorem dX8_drawnBy_45 : decode cX8_drawnBy 45 = .ok (.lcmp, 1) := by decide +kernel
theorem dX8_drawnBy_46 : decode cX8_drawnBy 46 = .ok (.ifCond .lt 10, 3) := by decide +kernel
theorem dX8_drawnBy_49 : decode cX8_drawnBy 49 = .ok (.iconst 1, 1) := by decide +kernel
theorem dX8_drawnBy_50 : decode cX8_drawnBy 50 = .ok (.iload 5, 2) := by decide +kernel
theorem dX8_drawnBy_52 : decode cX8_drawnBy 52 = .ok (.ishl, 1) := by decide +kernel
theorem dX8_drawnBy_53 : decode cX8_drawnBy 53 = .ok (.goto 4, 3) := by decide +kernel
theorem dX8_drawnBy_56 : decode cX8_drawnBy 56 = .ok (.iconst 0, 1) := by decide +kernel
theorem dX8_drawnBy_57 : decode cX8_drawnBy 57 = .ok (.ior, 1) := by decide +kernel
theorem dX8_drawnBy_58 : decode cX8_drawnBy 58 = .ok (.istore 4, 2) := by decide +kernel
theorem dX8_drawnBy_60 : decode cX8_drawnBy 60 = .ok (.iinc 5 1, 3) := by decide +kernel
theorem dX8_drawnBy_63 : decode cX8_drawnBy 63 = .ok (.goto (-52), 3) := by decide +kernel
theorem dX8_drawnBy_66 : decode cX8_drawnBy 66 = .ok (.iload 4, 2) := by decide +kernel
theorem dX8_drawnBy_68 : decode cX8_drawnBy 68 = .ok (.ireturn, 1) := by decide +kernel
theorem dX8_drawn_0 : decode cX8_drawn 0 = .ok (.iload_n 1, 1) := by decide +kernel
theorem dX8_drawn_1 : decode cX8_drawn 1 = .ok (.iconst 0, 1) := by decide +kernel
theorem dX8_drawn_2 : decode cX8_drawn 2 = .ok (.ldc_w 302, 3) := by decide +kernel
theorem dX8_drawn_5 : decode cX8_drawn 5 = .ok (.invokestatic 3, 3) := by decide +kernel
theorem dX8_drawn_8 : decode cX8_drawn 8 = .ok (.ifCond .eq 11, 3) := by decide +kernel
theorem dX8_drawn_11 : decode cX8_drawn 11 = .ok (.aload_n 0, 1) := by decide +kernel
theorem dX8_drawn_12 : decode cX8_drawn 12 = .ok (.iload_n 1, 1) := by decide +kernel
theorem dX8_drawn_13 : decode cX8_drawn 13 = .ok (.invokevirtual 303, 3) := by decide +kernel
theorem dX8_drawn_16 : decode cX8_drawn 16 = .ok (.goto 5, 3) := by decide +kernel
theorem dX8_drawn_19 : decode cX8_drawn 19 = .ok (.bipush (-2), 2) := by decide +kernel
theorem dX8_drawn_21 : decode cX8_drawn 21 = .ok (.ireturn, 1) := by decide +kernel
theorem dX8_divisor_0 : decode cX8_divisor 0 = .ok (.lload_n 0, 1) := by decide +kernel
theorem dX8_divisor_1 : decode cX8_divisor 1 = .ok (.lstore 4, 2) := by decide +kernel
theorem dX8_divisor_3 : decode cX8_divisor 3 = .ok (.lload_n 2, 1) := by decide +kernel
theorem dX8_divisor_4 : decode cX8_divisor 4 = .ok (.lstore 6, 2) := by decide +kernel
theorem dX8_divisor_6 : decode cX8_divisor 6 = .ok (.lload 6, 2) := by decide +kernel
theorem dX8_divisor_8 : decode cX8_divisor 8 = .ok (.lconst 0, 1) := by decide +kernel
theorem dX8_divisor_9 : decode cX8_divisor 9 = .ok (.lcmp, 1) := by decide +kernel
theorem dX8_divisor_10 : decode cX8_divisor 10 = .ok (.ifCond .eq 21, 3) := by decide +kernel
theorem dX8_divisor_13 : decode cX8_divisor 13 = .ok (.lload 4, 2) := by decide +kernel
theorem dX8_divisor_15 : decode cX8_divisor 15 = .ok (.lload 6, 2) := by decide +kernel
theorem dX8_divisor_17 : decode cX8_divisor 17 = .ok (.lrem, 1) := by decide +kernel
theorem dX8_divisor_18 : decode cX8_divisor 18 = .ok (.lstore 8, 2) := by decide +kernel
theorem dX8_divisor_20 : decode cX8_divisor 20 = .ok (.lload 6, 2) := by decide +kernel
theorem dX8_divisor_22 : decode cX8_divisor 22 = .ok (.lstore 4, 2) := by decide +kernel
theorem dX8_divisor_24 : decode cX8_divisor 24 = .ok (.lload 8, 2) := by decide +kernel
theorem dX8_divisor_26 : decode cX8_divisor 26 = .ok (.lstore 6, 2) := by decide +kernel
theorem dX8_divisor_28 : decode cX8_divisor 28 = .ok (.goto (-22), 3) := by decide +kernel
theorem dX8_divisor_31 : decode cX8_divisor 31 = .ok (.lload 4, 2) := by decide +kernel
theorem dX8_divisor_33 : decode cX8_divisor 33 = .ok (.lreturn, 1) := by decide +kernel
theorem dX8_mean_0 : decode cX8_mean 0 = .ok (.iload_n 1, 1) := by decide +kernel
theorem dX8_mean_1 : decode cX8_mean 1 = .ok (.invokestatic 18, 3) := by decide +kernel
theorem dX8_mean_4 : decode cX8_mean 4 = .ok (.ifCond .eq 42, 3) := by decide +kernel
theorem dX8_mean_7 : decode cX8_mean 7 = .ok (.iload_n 2, 1) := by decide +kernel
theorem dX8_mean_8 : decode cX8_mean 8 = .ok (.invokestatic 18, 3) := by decide +kernel
theorem dX8_mean_11 : decode cX8_mean 11 = .ok (.ifCond .eq 35, 3) := by decide +kernel
theorem dX8_mean_14 : decode cX8_mean 14 = .ok (.iload_n 3, 1) := by decide +kernel
theorem dX8_mean_15 : decode cX8_mean 15 = .ok (.iconst 0, 1) := by decide +kernel
theorem dX8_mean_16 : decode cX8_mean 16 = .ok (.ldc_w 302, 3) := by decide +kernel
theorem dX8_mean_19 : decode cX8_mean 19 = .ok (.invokestatic 3, 3) := by decide +kernel
theorem dX8_mean_22 : decode cX8_mean 22 = .ok (.ifCond .eq 24, 3) := by decide +kernel
theorem dX8_mean_25 : decode cX8_mean 25 = .ok (.iload 4, 2) := by decide +kernel
theorem dX8_mean_27 : decode cX8_mean 27 = .ok (.iconst 1, 1) := by decide +kernel
theorem dX8_mean_28 : decode cX8_mean 28 = .ok (.bipush 30, 2) := by decide +kernel
theorem dX8_mean_30 : decode cX8_mean 30 = .ok (.invokestatic 3, 3) := by decide +kernel
theorem dX8_mean_33 : decode cX8_mean 33 = .ok (.ifCond .eq 13, 3) := by decide +kernel
theorem dX8_mean_36 : decode cX8_mean 36 = .ok (.iload 5, 2) := by decide +kernel
theorem dX8_mean_38 : decode cX8_mean 38 = .ok (.iconst 0, 1) := by decide +kernel
theorem dX8_mean_39 : decode cX8_mean 39 = .ok (.iconst 1, 1) := by decide +kernel
theorem dX8_mean_40 : decode cX8_mean 40 = .ok (.invokestatic 3, 3) := by decide +kernel
theorem dX8_mean_43 : decode cX8_mean 43 = .ok (.ifCond .ne 7, 3) := by decide +kernel
theorem dX8_mean_46 : decode cX8_mean 46 = .ok (.ldc2_w 282, 3) := by decide +kernel
theorem dX8_mean_49 : decode cX8_mean 49 = .ok (.lreturn, 1) := by decide +kernel
theorem dX8_mean_50 : decode cX8_mean 50 = .ok (.lconst 0, 1) := by decide +kernel
theorem dX8_mean_51 : decode cX8_mean 51 = .ok (.lstore 6, 2) := by decide +kernel
theorem dX8_mean_53 : decode cX8_mean 53 = .ok (.iconst 0, 1) := by decide +kernel
theorem dX8_mean_54 : decode cX8_mean 54 = .ok (.istore 8, 2) := by decide +kernel
theorem dX8_mean_56 : decode cX8_mean 56 = .ok (.iload 8, 2) := by decide +kernel
theorem dX8_mean_58 : decode cX8_mean 58 = .ok (.iload 4, 2) := by decide +kernel
theorem dX8_mean_60 : decode cX8_mean 60 = .ok (.if_icmp .ge 29, 3) := by decide +kernel
theorem dX8_mean_63 : decode cX8_mean 63 = .ok (.lload 6, 2) := by decide +kernel
theorem dX8_mean_65 : decode cX8_mean 65 = .ok (.aload_n 0, 1) := by decide +kernel
theorem dX8_mean_66 : decode cX8_mean 66 = .ok (.iload_n 1, 1) := by decide +kernel
theorem dX8_mean_67 : decode cX8_mean 67 = .ok (.iload_n 2, 1) := by decide +kernel
theorem dX8_mean_68 : decode cX8_mean 68 = .ok (.aload_n 0, 1) := by decide +kernel
theorem dX8_mean_69 : decode cX8_mean 69 = .ok (.iload_n 3, 1) := by decide +kernel
theorem dX8_mean_70 : decode cX8_mean 70 = .ok (.iload 8, 2) := by decide +kernel
theorem dX8_mean_72 : decode cX8_mean 72 = .ok (.iadd, 1) := by decide +kernel
theorem dX8_mean_73 : decode cX8_mean 73 = .ok (.invokevirtual 303, 3) := by decide +kernel
theorem dX8_mean_76 : decode cX8_mean 76 = .ok (.invokevirtual 272, 3) := by decide +kernel
theorem dX8_mean_79 : decode cX8_mean 79 = .ok (.i2l, 1) := by decide +kernel
theorem dX8_mean_80 : decode cX8_mean 80 = .ok (.ladd, 1) := by decide +kernel
theorem dX8_mean_81 : decode cX8_mean 81 = .ok (.lstore 6, 2) := by decide +kernel
theorem dX8_mean_83 : decode cX8_mean 83 = .ok (.iinc 8 1, 3) := by decide +kernel
theorem dX8_mean_86 : decode cX8_mean 86 = .ok (.goto (-30), 3) := by decide +kernel
theorem dX8_mean_89 : decode cX8_mean 89 = .ok (.lload 6, 2) := by decide +kernel
theorem dX8_mean_91 : decode cX8_mean 91 = .ok (.iload 4, 2) := by decide +kernel
theorem dX8_mean_93 : decode cX8_mean 93 = .ok (.i2l, 1) := by decide +kernel
theorem dX8_mean_94 : decode cX8_mean 94 = .ok (.invokestatic 306, 3) := by decide +kernel
theorem dX8_mean_97 : decode cX8_mean 97 = .ok (.lstore 8, 2) := by decide +kernel
theorem dX8_mean_99 : decode cX8_mean 99 = .ok (.iload 5, 2) := by decide +kernel
theorem dX8_mean_101 : decode cX8_mean 101 = .ok (.ifCond .ne 11, 3) := by decide +kernel
theorem dX8_mean_104 : decode cX8_mean 104 = .ok (.lload 6, 2) := by decide +kernel
theorem dX8_mean_106 : decode cX8_mean 106 = .ok (.lload 8, 2) := by decide +kernel
theorem dX8_mean_108 : decode cX8_mean 108 = .ok (.ldiv, 1) := by decide +kernel
theorem dX8_mean_109 : decode cX8_mean 109 = .ok (.goto 9, 3) := by decide +kernel
theorem dX8_mean_112 : decode cX8_mean 112 = .ok (.iload 4, 2) := by decide +kernel
theorem dX8_mean_114 : decode cX8_mean 114 = .ok (.i2l, 1) := by decide +kernel
theorem dX8_mean_115 : decode cX8_mean 115 = .ok (.lload 8, 2) := by decide +kernel
theorem dX8_mean_117 : decode cX8_mean 117 = .ok (.ldiv, 1) := by decide +kernel
theorem dX8_mean_118 : decode cX8_mean 118 = .ok (.lreturn, 1) := by decide +kernel
theorem dX8_move__0 : decode cX8_move_ 0 = .ok (.iconst 0, 1) := by decide +kernel
theorem dX8_move__1 : decode cX8_move_ 1 = .ok (.istore_n 2, 1) := by decide +kernel
theorem dX8_move__2 : decode cX8_move_ 2 = .ok (.iload_n 2, 1) := by decide +kernel
theorem dX8_move__3 : decode cX8_move_ 3 = .ok (.aload_n 0, 1) := by decide +kernel
theorem dX8_move__4 : decode cX8_move_ 4 = .ok (.arraylength, 1) := by decide +kernel
theorem dX8_move__5 : decode cX8_move_ 5 = .ok (.if_icmp .ge 15, 3) := by decide +kernel
theorem dX8_move__8 : decode cX8_move_ 8 = .ok (.aload_n 1, 1) := by decide +kernel
theorem dX8_move__9 : decode cX8_move_ 9 = .ok (.iload_n 2, 1) := by decide +kernel
theorem dX8_move__10 : decode cX8_move_ 10 = .ok (.aload_n 0, 1) := by decide +kernel
theorem dX8_move__11 : decode cX8_move_ 11 = .ok (.iload_n 2, 1) := by decide +kernel
theorem dX8_move__12 : decode cX8_move_ 12 = .ok (.iaload, 1) := by decide +kernel
theorem dX8_move__13 : decode cX8_move_ 13 = .ok (.iastore, 1) := by decide +kernel
theorem dX8_move__14 : decode cX8_move_ 14 = .ok (.iinc 2 1, 3) := by decide +kernel
theorem dX8_move__17 : decode cX8_move_ 17 = .ok (.goto (-15), 3) := by decide +kernel
theorem dX8_move__20 : decode cX8_move_ 20 = .ok (.return_, 1) := by decide +kernel
theorem dX8_image_0 : decode cX8_image 0 = .ok (.aload_n 0, 1) := by decide +kernel
theorem dX8_image_1 : decode cX8_image 1 = .ok (.iconst 1, 1) := by decide +kernel
theorem dX8_image_2 : decode cX8_image 2 = .ok (.putfield 310, 3) := by decide +kernel
theorem dX8_image_5 : decode cX8_image 5 = .ok (.aload_n 0, 1) := by decide +kernel
theorem dX8_image_6 : decode cX8_image 6 = .ok (.getfield 14, 3) := by decide +kernel
theorem dX8_image_9 : decode cX8_image 9 = .ok (.aload_n 0, 1) := by decide +kernel
theorem dX8_image_10 : decode cX8_image 10 = .ok (.getfield 219, 3) := by decide +kernel
theorem dX8_image_13 : decode cX8_image 13 = .ok (.invokestatic 314, 3) := by decide +kernel
theorem dX8_image_16 : decode cX8_image 16 = .ok (.aload_n 0, 1) := by decide +kernel
theorem dX8_image_17 : decode cX8_image 17 = .ok (.getfield 50, 3) := by decide +kernel
theorem dX8_image_20 : decode cX8_image 20 = .ok (.aload_n 0, 1) := by decide +kernel
theorem dX8_image_21 : decode cX8_image 21 = .ok (.getfield 222, 3) := by decide +kernel
theorem dX8_image_24 : decode cX8_image 24 = .ok (.invokestatic 314, 3) := by decide +kernel
theorem dX8_image_27 : decode cX8_image 27 = .ok (.aload_n 0, 1) := by decide +kernel
theorem dX8_image_28 : decode cX8_image 28 = .ok (.aload_n 0, 1) := by decide +kernel
theorem dX8_image_29 : decode cX8_image 29 = .ok (.getfield 7, 3) := by decide +kernel
theorem dX8_image_32 : decode cX8_image 32 = .ok (.putfield 318, 3) := by decide +kernel
theorem dX8_image_35 : decode cX8_image 35 = .ok (.aload_n 0, 1) := by decide +kernel
theorem dX8_image_36 : decode cX8_image 36 = .ok (.aload_n 0, 1) := by decide +kernel
theorem dX8_image_37 : decode cX8_image 37 = .ok (.getfield 11, 3) := by decide +kernel
theorem dX8_image_40 : decode cX8_image 40 = .ok (.putfield 321, 3) := by decide +kernel
theorem dX8_image_43 : decode cX8_image 43 = .ok (.aload_n 0, 1) := by decide +kernel
theorem dX8_image_44 : decode cX8_image 44 = .ok (.aload_n 0, 1) := by decide +kernel
theorem dX8_image_45 : decode cX8_image 45 = .ok (.getfield 187, 3) := by decide +kernel
theorem dX8_image_48 : decode cX8_image 48 = .ok (.putfield 324, 3) := by decide +kernel
theorem dX8_image_51 : decode cX8_image 51 = .ok (.aload_n 0, 1) := by decide +kernel
theorem dX8_image_52 : decode cX8_image 52 = .ok (.getfield 7, 3) := by decide +kernel
theorem dX8_image_55 : decode cX8_image 55 = .ok (.ireturn, 1) := by decide +kernel
theorem dX8_back_0 : decode cX8_back 0 = .ok (.aload_n 0, 1) := by decide +kernel
theorem dX8_back_1 : decode cX8_back 1 = .ok (.getfield 310, 3) := by decide +kernel
theorem dX8_back_4 : decode cX8_back 4 = .ok (.ifCond .ne 6, 3) := by decide +kernel
theorem dX8_back_7 : decode cX8_back 7 = .ok (.bipush (-3), 2) := by decide +kernel
theorem dX8_back_9 : decode cX8_back 9 = .ok (.ireturn, 1) := by decide +kernel
theorem dX8_back_10 : decode cX8_back 10 = .ok (.aload_n 0, 1) := by decide +kernel
theorem dX8_back_11 : decode cX8_back 11 = .ok (.getfield 219, 3) := by decide +kernel
theorem dX8_back_14 : decode cX8_back 14 = .ok (.aload_n 0, 1) := by decide +kernel
theorem dX8_back_15 : decode cX8_back 15 = .ok (.getfield 14, 3) := by decide +kernel
theorem dX8_back_18 : decode cX8_back 18 = .ok (.invokestatic 314, 3) := by decide +kernel
theorem dX8_back_21 : decode cX8_back 21 = .ok (.aload_n 0, 1) := by decide +kernel
theorem dX8_back_22 : decode cX8_back 22 = .ok (.getfield 222, 3) := by decide +kernel
theorem dX8_back_25 : decode cX8_back 25 = .ok (.aload_n 0, 1) := by decide +kernel
theorem dX8_back_26 : decode cX8_back 26 = .ok (.getfield 50, 3) := by decide +kernel
theorem dX8_back_29 : decode cX8_back 29 = .ok (.invokestatic 314, 3) := by decide +kernel
theorem dX8_back_32 : decode cX8_back 32 = .ok (.aload_n 0, 1) := by decide +kernel
theorem dX8_back_33 : decode cX8_back 33 = .ok (.aload_n 0, 1) := by decide +kernel
theorem dX8_back_34 : decode cX8_back 34 = .ok (.getfield 318, 3) := by decide +kernel
theorem dX8_back_37 : decode cX8_back 37 = .ok (.putfield 7, 3) := by decide +kernel
theorem dX8_back_40 : decode cX8_back 40 = .ok (.aload_n 0, 1) := by decide +kernel
theorem dX8_back_41 : decode cX8_back 41 = .ok (.aload_n 0, 1) := by decide +kernel
theorem dX8_back_42 : decode cX8_back 42 = .ok (.getfield 321, 3) := by decide +kernel
theorem dX8_back_45 : decode cX8_back 45 = .ok (.putfield 11, 3) := by decide +kernel
theorem dX8_back_48 : decode cX8_back 48 = .ok (.aload_n 0, 1) := by decide +kernel
theorem dX8_back_49 : decode cX8_back 49 = .ok (.aload_n 0, 1) := by decide +kernel
theorem dX8_back_50 : decode cX8_back 50 = .ok (.getfield 324, 3) := by decide +kernel
theorem dX8_back_53 : decode cX8_back 53 = .ok (.putfield 187, 3) := by decide +kernel
theorem dX8_back_56 : decode cX8_back 56 = .ok (.aload_n 0, 1) := by decide +kernel
theorem dX8_back_57 : decode cX8_back 57 = .ok (.getfield 7, 3) := by decide +kernel
theorem dX8_back_60 : decode cX8_back 60 = .ok (.ireturn, 1) := by decide +kernel
theorem dX8_isSheet_0 : decode cX8_isSheet 0 = .ok (.iload_n 0, 1) := by decide +kernel
theorem dX8_isSheet_1 : decode cX8_isSheet 1 = .ok (.iconst 0, 1) := by decide +kernel
theorem dX8_isSheet_2 : decode cX8_isSheet 2 = .ok (.iconst 3, 1) := by decide +kernel
theorem dX8_isSheet_3 : decode cX8_isSheet 3 = .ok (.invokestatic 3, 3) := by decide +kernel
theorem dX8_isSheet_6 : decode cX8_isSheet 6 = .ok (.ireturn, 1) := by decide +kernel
theorem dX8_sheet_0 : decode cX8_sheet 0 = .ok (.iload_n 1, 1) := by decide +kernel
theorem dX8_sheet_1 : decode cX8_sheet 1 = .ok (.invokestatic 288, 3) := by decide +kernel
theorem dX8_sheet_4 : decode cX8_sheet 4 = .ok (.ifCond .eq 22, 3) := by decide +kernel
theorem dX8_sheet_7 : decode cX8_sheet 7 = .ok (.iload_n 2, 1) := by decide +kernel
theorem dX8_sheet_8 : decode cX8_sheet 8 = .ok (.iconst (-1), 1) := by decide +kernel
theorem dX8_sheet_9 : decode cX8_sheet 9 = .ok (.iconst 2, 1) := by decide +kernel
theorem dX8_sheet_10 : decode cX8_sheet 10 = .ok (.invokestatic 3, 3) := by decide +kernel
theorem dX8_sheet_13 : decode cX8_sheet 13 = .ok (.ifCond .eq 13, 3) := by decide +kernel
theorem dX8_sheet_16 : decode cX8_sheet 16 = .ok (.iload_n 2, 1) := by decide +kernel
theorem dX8_sheet_17 : decode cX8_sheet 17 = .ok (.ifCond .lt 12, 3) := by decide +kernel
theorem dX8_sheet_20 : decode cX8_sheet 20 = .ok (.iload_n 3, 1) := by decide +kernel
theorem dX8_sheet_21 : decode cX8_sheet 21 = .ok (.bipush 40, 2) := by decide +kernel
theorem dX8_sheet_23 : decode cX8_sheet 23 = .ok (.if_icmp .le 6, 3) := by decide +kernel
theorem dX8_sheet_26 : decode cX8_sheet 26 = .ok (.bipush (-2), 2) := by decide +kernel
theorem dX8_sheet_28 : decode cX8_sheet 28 = .ok (.ireturn, 1) := by decide +kernel
theorem dX8_sheet_29 : decode cX8_sheet 29 = .ok (.iload_n 2, 1) := by decide +kernel
theorem dX8_sheet_30 : decode cX8_sheet 30 = .ok (.ifCond .lt 10, 3) := by decide +kernel
theorem dX8_sheet_33 : decode cX8_sheet 33 = .ok (.iload_n 3, 1) := by decide +kernel
theorem dX8_sheet_34 : decode cX8_sheet 34 = .ok (.ifCond .ge 6, 3) := by decide +kernel
theorem dX8_sheet_37 : decode cX8_sheet 37 = .ok (.bipush (-14), 2) := by decide +kernel
theorem dX8_sheet_39 : decode cX8_sheet 39 = .ok (.ireturn, 1) := by decide +kernel
theorem dX8_sheet_40 : decode cX8_sheet 40 = .ok (.aload_n 0, 1) := by decide +kernel
theorem dX8_sheet_41 : decode cX8_sheet 41 = .ok (.getfield 225, 3) := by decide +kernel
theorem dX8_sheet_44 : decode cX8_sheet 44 = .ok (.iload_n 1, 1) := by decide +kernel
theorem dX8_sheet_45 : decode cX8_sheet 45 = .ok (.iload_n 2, 1) := by decide +kernel
theorem dX8_sheet_46 : decode cX8_sheet 46 = .ok (.iastore, 1) := by decide +kernel
theorem dX8_sheet_47 : decode cX8_sheet 47 = .ok (.aload_n 0, 1) := by decide +kernel
theorem dX8_sheet_48 : decode cX8_sheet 48 = .ok (.getfield 228, 3) := by decide +kernel
theorem dX8_sheet_51 : decode cX8_sheet 51 = .ok (.iload_n 1, 1) := by decide +kernel
theorem dX8_sheet_52 : decode cX8_sheet 52 = .ok (.iload_n 2, 1) := by decide +kernel
theorem dX8_sheet_53 : decode cX8_sheet 53 = .ok (.ifCond .ge 7, 3) := by decide +kernel
theorem dX8_sheet_56 : decode cX8_sheet 56 = .ok (.iconst 0, 1) := by decide +kernel
theorem dX8_sheet_57 : decode cX8_sheet 57 = .ok (.goto 4, 3) := by decide +kernel
theorem dX8_sheet_60 : decode cX8_sheet 60 = .ok (.iload_n 3, 1) := by decide +kernel
theorem dX8_sheet_61 : decode cX8_sheet 61 = .ok (.iastore, 1) := by decide +kernel
theorem dX8_sheet_62 : decode cX8_sheet 62 = .ok (.iconst 0, 1) := by decide +kernel
theorem dX8_sheet_63 : decode cX8_sheet 63 = .ok (.istore 4, 2) := by decide +kernel
theorem dX8_sheet_65 : decode cX8_sheet 65 = .ok (.iload 4, 2) := by decide +kernel
theorem dX8_sheet_67 : decode cX8_sheet 67 = .ok (.bipush 40, 2) := by decide +kernel
theorem dX8_sheet_69 : decode cX8_sheet 69 = .ok (.if_icmp .ge 22, 3) := by decide +kernel
theorem dX8_sheet_72 : decode cX8_sheet 72 = .ok (.aload_n 0, 1) := by decide +kernel
theorem dX8_sheet_73 : decode cX8_sheet 73 = .ok (.getfield 231, 3) := by decide +kernel
theorem dX8_sheet_76 : decode cX8_sheet 76 = .ok (.bipush 40, 2) := by decide +kernel
theorem dX8_sheet_78 : decode cX8_sheet 78 = .ok (.iload_n 1, 1) := by decide +kernel
theorem dX8_sheet_79 : decode cX8_sheet 79 = .ok (.imul, 1) := by decide +kernel
theorem dX8_sheet_80 : decode cX8_sheet 80 = .ok (.iload 4, 2) := by decide +kernel
theorem dX8_sheet_82 : decode cX8_sheet 82 = .ok (.iadd, 1) := by decide +kernel
theorem dX8_sheet_83 : decode cX8_sheet 83 = .ok (.iconst 0, 1) := by decide +kernel
theorem dX8_sheet_84 : decode cX8_sheet 84 = .ok (.iastore, 1) := by decide +kernel
theorem dX8_sheet_85 : decode cX8_sheet 85 = .ok (.iinc 4 1, 3) := by decide +kernel
theorem dX8_sheet_88 : decode cX8_sheet 88 = .ok (.goto (-23), 3) := by decide +kernel
theorem dX8_sheet_91 : decode cX8_sheet 91 = .ok (.iconst 1, 1) := by decide +kernel
theorem dX8_sheet_92 : decode cX8_sheet 92 = .ok (.ireturn, 1) := by decide +kernel
theorem dX8_cell_0 : decode cX8_cell 0 = .ok (.iload_n 1, 1) := by decide +kernel
theorem dX8_cell_1 : decode cX8_cell 1 = .ok (.invokestatic 288, 3) := by decide +kernel
theorem dX8_cell_4 : decode cX8_cell 4 = .ok (.ifCond .ne 6, 3) := by decide +kernel
theorem dX8_cell_7 : decode cX8_cell 7 = .ok (.bipush (-2), 2) := by decide +kernel
theorem dX8_cell_9 : decode cX8_cell 9 = .ok (.ireturn, 1) := by decide +kernel
theorem dX8_cell_10 : decode cX8_cell 10 = .ok (.aload_n 0, 1) := by decide +kernel
theorem dX8_cell_11 : decode cX8_cell 11 = .ok (.getfield 225, 3) := by decide +kernel
theorem dX8_cell_14 : decode cX8_cell 14 = .ok (.iload_n 1, 1) := by decide +kernel
theorem dX8_cell_15 : decode cX8_cell 15 = .ok (.iaload, 1) := by decide +kernel
theorem dX8_cell_16 : decode cX8_cell 16 = .ok (.ifCond .ge 6, 3) := by decide +kernel
theorem dX8_cell_19 : decode cX8_cell 19 = .ok (.bipush (-11), 2) := by decide +kernel
theorem dX8_cell_21 : decode cX8_cell 21 = .ok (.ireturn, 1) := by decide +kernel
theorem dX8_cell_22 : decode cX8_cell 22 = .ok (.iload_n 2, 1) := by decide +kernel
theorem dX8_cell_23 : decode cX8_cell 23 = .ok (.iconst 0, 1) := by decide +kernel
theorem dX8_cell_24 : decode cX8_cell 24 = .ok (.aload_n 0, 1) := by decide +kernel
theorem dX8_cell_25 : decode cX8_cell 25 = .ok (.getfield 228, 3) := by decide +kernel
theorem dX8_cell_28 : decode cX8_cell 28 = .ok (.iload_n 1, 1) := by decide +kernel
theorem dX8_cell_29 : decode cX8_cell 29 = .ok (.iaload, 1) := by decide +kernel
theorem dX8_cell_30 : decode cX8_cell 30 = .ok (.iconst 1, 1) := by decide +kernel
theorem dX8_cell_31 : decode cX8_cell 31 = .ok (.isub, 1) := by decide +kernel
theorem dX8_cell_32 : decode cX8_cell 32 = .ok (.invokestatic 3, 3) := by decide +kernel
theorem dX8_cell_35 : decode cX8_cell 35 = .ok (.ifCond .ne 6, 3) := by decide +kernel
theorem dX8_cell_38 : decode cX8_cell 38 = .ok (.bipush (-12), 2) := by decide +kernel
theorem dX8_cell_40 : decode cX8_cell 40 = .ok (.ireturn, 1) := by decide +kernel
theorem dX8_cell_41 : decode cX8_cell 41 = .ok (.aload_n 0, 1) := by decide +kernel
theorem dX8_cell_42 : decode cX8_cell 42 = .ok (.getfield 231, 3) := by decide +kernel
theorem dX8_cell_45 : decode cX8_cell 45 = .ok (.bipush 40, 2) := by decide +kernel
theorem dX8_cell_47 : decode cX8_cell 47 = .ok (.iload_n 1, 1) := by decide +kernel
theorem dX8_cell_48 : decode cX8_cell 48 = .ok (.imul, 1) := by decide +kernel
theorem dX8_cell_49 : decode cX8_cell 49 = .ok (.iload_n 2, 1) := by decide +kernel
theorem dX8_cell_50 : decode cX8_cell 50 = .ok (.iadd, 1) := by decide +kernel
theorem dX8_cell_51 : decode cX8_cell 51 = .ok (.aload_n 0, 1) := by decide +kernel
theorem dX8_cell_52 : decode cX8_cell 52 = .ok (.getfield 225, 3) := by decide +kernel
theorem dX8_cell_55 : decode cX8_cell 55 = .ok (.iload_n 1, 1) := by decide +kernel
theorem dX8_cell_56 : decode cX8_cell 56 = .ok (.iaload, 1) := by decide +kernel
theorem dX8_cell_57 : decode cX8_cell 57 = .ok (.ifCond .ne 8, 3) := by decide +kernel
theorem dX8_cell_60 : decode cX8_cell 60 = .ok (.iload_n 3, 1) := by decide +kernel
theorem dX8_cell_61 : decode cX8_cell 61 = .ok (.i2b, 1) := by decide +kernel
theorem dX8_cell_62 : decode cX8_cell 62 = .ok (.goto 19, 3) := by decide +kernel
theorem dX8_cell_65 : decode cX8_cell 65 = .ok (.aload_n 0, 1) := by decide +kernel
theorem dX8_cell_66 : decode cX8_cell 66 = .ok (.getfield 225, 3) := by decide +kernel
theorem dX8_cell_69 : decode cX8_cell 69 = .ok (.iload_n 1, 1) := by decide +kernel
theorem dX8_cell_70 : decode cX8_cell 70 = .ok (.iaload, 1) := by decide +kernel
theorem dX8_cell_71 : decode cX8_cell 71 = .ok (.iconst 1, 1) := by decide +kernel
theorem dX8_cell_72 : decode cX8_cell 72 = .ok (.if_icmp .ne 8, 3) := by decide +kernel
theorem dX8_cell_75 : decode cX8_cell 75 = .ok (.iload_n 3, 1) := by decide +kernel
theorem dX8_cell_76 : decode cX8_cell 76 = .ok (.i2s, 1) := by decide +kernel
theorem dX8_cell_77 : decode cX8_cell 77 = .ok (.goto 4, 3) := by decide +kernel
theorem dX8_cell_80 : decode cX8_cell 80 = .ok (.iload_n 3, 1) := by decide +kernel
theorem dX8_cell_81 : decode cX8_cell 81 = .ok (.iastore, 1) := by decide +kernel
theorem dX8_cell_82 : decode cX8_cell 82 = .ok (.iconst 1, 1) := by decide +kernel
theorem dX8_cell_83 : decode cX8_cell 83 = .ok (.ireturn, 1) := by decide +kernel
theorem dX8_copy_0 : decode cX8_copy 0 = .ok (.iload_n 1, 1) := by decide +kernel
theorem dX8_copy_1 : decode cX8_copy 1 = .ok (.invokestatic 288, 3) := by decide +kernel
theorem dX8_copy_4 : decode cX8_copy 4 = .ok (.ifCond .eq 10, 3) := by decide +kernel
theorem dX8_copy_7 : decode cX8_copy 7 = .ok (.iload_n 3, 1) := by decide +kernel
theorem dX8_copy_8 : decode cX8_copy 8 = .ok (.invokestatic 288, 3) := by decide +kernel
theorem dX8_copy_11 : decode cX8_copy 11 = .ok (.ifCond .ne 6, 3) := by decide +kernel
theorem dX8_copy_14 : decode cX8_copy 14 = .ok (.bipush (-2), 2) := by decide +kernel
theorem dX8_copy_16 : decode cX8_copy 16 = .ok (.ireturn, 1) := by decide +kernel
theorem dX8_copy_17 : decode cX8_copy 17 = .ok (.aload_n 0, 1) := by decide +kernel
theorem dX8_copy_18 : decode cX8_copy 18 = .ok (.getfield 225, 3) := by decide +kernel
theorem dX8_copy_21 : decode cX8_copy 21 = .ok (.iload_n 1, 1) := by decide +kernel
theorem dX8_copy_22 : decode cX8_copy 22 = .ok (.iaload, 1) := by decide +kernel
theorem dX8_copy_23 : decode cX8_copy 23 = .ok (.ifCond .lt 12, 3) := by decide +kernel
theorem dX8_copy_26 : decode cX8_copy 26 = .ok (.aload_n 0, 1) := by decide +kernel
theorem dX8_copy_27 : decode cX8_copy 27 = .ok (.getfield 225, 3) := by decide +kernel
theorem dX8_copy_30 : decode cX8_copy 30 = .ok (.iload_n 3, 1) := by decide +kernel
theorem dX8_copy_31 : decode cX8_copy 31 = .ok (.iaload, 1) := by decide +kernel
theorem dX8_copy_32 : decode cX8_copy 32 = .ok (.ifCond .ge 6, 3) := by decide +kernel
theorem dX8_copy_35 : decode cX8_copy 35 = .ok (.bipush (-11), 2) := by decide +kernel
theorem dX8_copy_37 : decode cX8_copy 37 = .ok (.ireturn, 1) := by decide +kernel
theorem dX8_copy_38 : decode cX8_copy 38 = .ok (.aload_n 0, 1) := by decide +kernel
theorem dX8_copy_39 : decode cX8_copy 39 = .ok (.getfield 225, 3) := by decide +kernel
theorem dX8_copy_42 : decode cX8_copy 42 = .ok (.iload_n 1, 1) := by decide +kernel
theorem dX8_copy_43 : decode cX8_copy 43 = .ok (.iaload, 1) := by decide +kernel
theorem dX8_copy_44 : decode cX8_copy 44 = .ok (.aload_n 0, 1) := by decide +kernel
theorem dX8_copy_45 : decode cX8_copy 45 = .ok (.getfield 225, 3) := by decide +kernel
theorem dX8_copy_48 : decode cX8_copy 48 = .ok (.iload_n 3, 1) := by decide +kernel
theorem dX8_copy_49 : decode cX8_copy 49 = .ok (.iaload, 1) := by decide +kernel
theorem dX8_copy_50 : decode cX8_copy 50 = .ok (.if_icmp .eq 6, 3) := by decide +kernel
theorem dX8_copy_53 : decode cX8_copy 53 = .ok (.bipush (-13), 2) := by decide +kernel
theorem dX8_copy_55 : decode cX8_copy 55 = .ok (.ireturn, 1) := by decide +kernel
theorem dX8_copy_56 : decode cX8_copy 56 = .ok (.iload 5, 2) := by decide +kernel
theorem dX8_copy_58 : decode cX8_copy 58 = .ok (.ifCond .lt 39, 3) := by decide +kernel
theorem dX8_copy_61 : decode cX8_copy 61 = .ok (.iload_n 2, 1) := by decide +kernel
theorem dX8_copy_62 : decode cX8_copy 62 = .ok (.ifCond .lt 35, 3) := by decide +kernel
theorem dX8_copy_65 : decode cX8_copy 65 = .ok (.iload 4, 2) := by decide +kernel
theorem dX8_copy_67 : decode cX8_copy 67 = .ok (.ifCond .lt 30, 3) := by decide +kernel
theorem dX8_copy_70 : decode cX8_copy 70 = .ok (.iload 5, 2) := by decide +kernel
theorem dX8_copy_72 : decode cX8_copy 72 = .ok (.aload_n 0, 1) := by decide +kernel
theorem dX8_copy_73 : decode cX8_copy 73 = .ok (.getfield 228, 3) := by decide +kernel
theorem dX8_copy_76 : decode cX8_copy 76 = .ok (.iload_n 1, 1) := by decide +kernel
theorem dX8_copy_77 : decode cX8_copy 77 = .ok (.iaload, 1) := by decide +kernel
theorem dX8_copy_78 : decode cX8_copy 78 = .ok (.iload_n 2, 1) := by decide +kernel
theorem dX8_copy_79 : decode cX8_copy 79 = .ok (.isub, 1) := by decide +kernel
theorem dX8_copy_80 : decode cX8_copy 80 = .ok (.if_icmp .gt 17, 3) := by decide +kernel
theorem dX8_copy_83 : decode cX8_copy 83 = .ok (.iload 5, 2) := by decide +kernel
theorem dX8_copy_85 : decode cX8_copy 85 = .ok (.aload_n 0, 1) := by decide +kernel
theorem dX8_copy_86 : decode cX8_copy 86 = .ok (.getfield 228, 3) := by decide +kernel
theorem dX8_copy_89 : decode cX8_copy 89 = .ok (.iload_n 3, 1) := by decide +kernel
theorem dX8_copy_90 : decode cX8_copy 90 = .ok (.iaload, 1) := by decide +kernel
theorem dX8_copy_91 : decode cX8_copy 91 = .ok (.iload 4, 2) := by decide +kernel
theorem dX8_copy_93 : decode cX8_copy 93 = .ok (.isub, 1) := by decide +kernel
theorem dX8_copy_94 : decode cX8_copy 94 = .ok (.if_icmp .le 6, 3) := by decide +kernel
theorem dX8_copy_97 : decode cX8_copy 97 = .ok (.bipush (-12), 2) := by decide +kernel
theorem dX8_copy_99 : decode cX8_copy 99 = .ok (.ireturn, 1) := by decide +kernel
theorem dX8_copy_100 : decode cX8_copy 100 = .ok (.iconst 0, 1) := by decide +kernel
theorem dX8_copy_101 : decode cX8_copy 101 = .ok (.istore 6, 2) := by decide +kernel
theorem dX8_copy_103 : decode cX8_copy 103 = .ok (.iload 6, 2) := by decide +kernel
theorem dX8_copy_105 : decode cX8_copy 105 = .ok (.iload 5, 2) := by decide +kernel
theorem dX8_copy_107 : decode cX8_copy 107 = .ok (.if_icmp .ge 30, 3) := by decide +kernel
theorem dX8_copy_110 : decode cX8_copy 110 = .ok (.aload_n 0, 1) := by decide +kernel
theorem dX8_copy_111 : decode cX8_copy 111 = .ok (.getfield 234, 3) := by decide +kernel
theorem dX8_copy_114 : decode cX8_copy 114 = .ok (.iload 6, 2) := by decide +kernel
theorem dX8_copy_116 : decode cX8_copy 116 = .ok (.aload_n 0, 1) := by decide +kernel
theorem dX8_copy_117 : decode cX8_copy 117 = .ok (.getfield 231, 3) := by decide +kernel
theorem dX8_copy_120 : decode cX8_copy 120 = .ok (.bipush 40, 2) := by decide +kernel
theorem dX8_copy_122 : decode cX8_copy 122 = .ok (.iload_n 1, 1) := by decide +kernel
theorem dX8_copy_123 : decode cX8_copy 123 = .ok (.imul, 1) := by decide +kernel
theorem dX8_copy_124 : decode cX8_copy 124 = .ok (.iload_n 2, 1) := by decide +kernel
theorem dX8_copy_125 : decode cX8_copy 125 = .ok (.iadd, 1) := by decide +kernel
theorem dX8_copy_126 : decode cX8_copy 126 = .ok (.iload 6, 2) := by decide +kernel
theorem dX8_copy_128 : decode cX8_copy 128 = .ok (.iadd, 1) := by decide +kernel
theorem dX8_copy_129 : decode cX8_copy 129 = .ok (.iaload, 1) := by decide +kernel
theorem dX8_copy_130 : decode cX8_copy 130 = .ok (.iastore, 1) := by decide +kernel
theorem dX8_copy_131 : decode cX8_copy 131 = .ok (.iinc 6 1, 3) := by decide +kernel
theorem dX8_copy_134 : decode cX8_copy 134 = .ok (.goto (-31), 3) := by decide +kernel
theorem dX8_copy_137 : decode cX8_copy 137 = .ok (.iconst 0, 1) := by decide +kernel
theorem dX8_copy_138 : decode cX8_copy 138 = .ok (.istore 6, 2) := by decide +kernel
theorem dX8_copy_140 : decode cX8_copy 140 = .ok (.iload 6, 2) := by decide +kernel
theorem dX8_copy_142 : decode cX8_copy 142 = .ok (.iload 5, 2) := by decide +kernel
theorem dX8_copy_144 : decode cX8_copy 144 = .ok (.if_icmp .ge 31, 3) := by decide +kernel
theorem dX8_copy_147 : decode cX8_copy 147 = .ok (.aload_n 0, 1) := by decide +kernel
theorem dX8_copy_148 : decode cX8_copy 148 = .ok (.getfield 231, 3) := by decide +kernel
theorem dX8_copy_151 : decode cX8_copy 151 = .ok (.bipush 40, 2) := by decide +kernel
theorem dX8_copy_153 : decode cX8_copy 153 = .ok (.iload_n 3, 1) := by decide +kernel
theorem dX8_copy_154 : decode cX8_copy 154 = .ok (.imul, 1) := by decide +kernel
theorem dX8_copy_155 : decode cX8_copy 155 = .ok (.iload 4, 2) := by decide +kernel
theorem dX8_copy_157 : decode cX8_copy 157 = .ok (.iadd, 1) := by decide +kernel
theorem dX8_copy_158 : decode cX8_copy 158 = .ok (.iload 6, 2) := by decide +kernel
theorem dX8_copy_160 : decode cX8_copy 160 = .ok (.iadd, 1) := by decide +kernel
theorem dX8_copy_161 : decode cX8_copy 161 = .ok (.aload_n 0, 1) := by decide +kernel
theorem dX8_copy_162 : decode cX8_copy 162 = .ok (.getfield 234, 3) := by decide +kernel
theorem dX8_copy_165 : decode cX8_copy 165 = .ok (.iload 6, 2) := by decide +kernel
theorem dX8_copy_167 : decode cX8_copy 167 = .ok (.iaload, 1) := by decide +kernel
theorem dX8_copy_168 : decode cX8_copy 168 = .ok (.iastore, 1) := by decide +kernel
theorem dX8_copy_169 : decode cX8_copy 169 = .ok (.iinc 6 1, 3) := by decide +kernel
theorem dX8_copy_172 : decode cX8_copy 172 = .ok (.goto (-32), 3) := by decide +kernel
theorem dX8_copy_175 : decode cX8_copy 175 = .ok (.iload 5, 2) := by decide +kernel
theorem dX8_copy_177 : decode cX8_copy 177 = .ok (.ireturn, 1) := by decide +kernel
theorem dX8_horsesBy_0 : decode cX8_horsesBy 0 = .ok (.iload_n 1, 1) := by decide +kernel
theorem dX8_horsesBy_1 : decode cX8_horsesBy 1 = .ok (.invokestatic 288, 3) := by decide +kernel
theorem dX8_horsesBy_4 : decode cX8_horsesBy 4 = .ok (.ifCond .eq 23, 3) := by decide +kernel
theorem dX8_horsesBy_7 : decode cX8_horsesBy 7 = .ok (.iload_n 2, 1) := by decide +kernel
theorem dX8_horsesBy_8 : decode cX8_horsesBy 8 = .ok (.iconst 0, 1) := by decide +kernel
theorem dX8_horsesBy_9 : decode cX8_horsesBy 9 = .ok (.iconst 2, 1) := by decide +kernel
theorem dX8_horsesBy_10 : decode cX8_horsesBy 10 = .ok (.invokestatic 3, 3) := by decide +kernel
theorem dX8_horsesBy_13 : decode cX8_horsesBy 13 = .ok (.ifCond .eq 14, 3) := by decide +kernel
theorem dX8_horsesBy_16 : decode cX8_horsesBy 16 = .ok (.iload 4, 2) := by decide +kernel
theorem dX8_horsesBy_18 : decode cX8_horsesBy 18 = .ok (.iconst 0, 1) := by decide +kernel
theorem dX8_horsesBy_19 : decode cX8_horsesBy 19 = .ok (.bipush 7, 2) := by decide +kernel
theorem dX8_horsesBy_21 : decode cX8_horsesBy 21 = .ok (.invokestatic 3, 3) := by decide +kernel
theorem dX8_horsesBy_24 : decode cX8_horsesBy 24 = .ok (.ifCond .ne 6, 3) := by decide +kernel
theorem dX8_horsesBy_27 : decode cX8_horsesBy 27 = .ok (.bipush (-2), 2) := by decide +kernel
theorem dX8_horsesBy_29 : decode cX8_horsesBy 29 = .ok (.ireturn, 1) := by decide +kernel
theorem dX8_horsesBy_30 : decode cX8_horsesBy 30 = .ok (.aload_n 0, 1) := by decide +kernel
theorem dX8_horsesBy_31 : decode cX8_horsesBy 31 = .ok (.getfield 225, 3) := by decide +kernel
theorem dX8_horsesBy_34 : decode cX8_horsesBy 34 = .ok (.iload_n 1, 1) := by decide +kernel
theorem dX8_horsesBy_35 : decode cX8_horsesBy 35 = .ok (.iaload, 1) := by decide +kernel
theorem dX8_horsesBy_36 : decode cX8_horsesBy 36 = .ok (.ifCond .ge 6, 3) := by decide +kernel
theorem dX8_horsesBy_39 : decode cX8_horsesBy 39 = .ok (.bipush (-11), 2) := by decide +kernel
theorem dX8_horsesBy_41 : decode cX8_horsesBy 41 = .ok (.ireturn, 1) := by decide +kernel
theorem dX8_horsesBy_42 : decode cX8_horsesBy 42 = .ok (.aload_n 0, 1) := by decide +kernel
theorem dX8_horsesBy_43 : decode cX8_horsesBy 43 = .ok (.getfield 225, 3) := by decide +kernel
theorem dX8_horsesBy_46 : decode cX8_horsesBy 46 = .ok (.iload_n 1, 1) := by decide +kernel
theorem dX8_horsesBy_47 : decode cX8_horsesBy 47 = .ok (.iaload, 1) := by decide +kernel
theorem dX8_horsesBy_48 : decode cX8_horsesBy 48 = .ok (.iload_n 2, 1) := by decide +kernel
theorem dX8_horsesBy_49 : decode cX8_horsesBy 49 = .ok (.if_icmp .eq 6, 3) := by decide +kernel
theorem dX8_horsesBy_52 : decode cX8_horsesBy 52 = .ok (.bipush (-13), 2) := by decide +kernel
theorem dX8_horsesBy_54 : decode cX8_horsesBy 54 = .ok (.ireturn, 1) := by decide +kernel
theorem dX8_horsesBy_55 : decode cX8_horsesBy 55 = .ok (.iconst 0, 1) := by decide +kernel
theorem dX8_horsesBy_56 : decode cX8_horsesBy 56 = .ok (.istore 5, 2) := by decide +kernel
theorem dX8_horsesBy_58 : decode cX8_horsesBy 58 = .ok (.iconst 0, 1) := by decide +kernel
theorem dX8_horsesBy_59 : decode cX8_horsesBy 59 = .ok (.istore 6, 2) := by decide +kernel
theorem dX8_horsesBy_61 : decode cX8_horsesBy 61 = .ok (.iload 6, 2) := by decide +kernel
theorem dX8_horsesBy_63 : decode cX8_horsesBy 63 = .ok (.iload 4, 2) := by decide +kernel
theorem dX8_horsesBy_65 : decode cX8_horsesBy 65 = .ok (.if_icmp .ge 109, 3) := by decide +kernel
theorem dX8_horsesBy_68 : decode cX8_horsesBy 68 = .ok (.iload_n 3, 1) := by decide +kernel
theorem dX8_horsesBy_69 : decode cX8_horsesBy 69 = .ok (.i2l, 1) := by decide +kernel
theorem dX8_horsesBy_70 : decode cX8_horsesBy 70 = .ok (.ldc2_w 327, 3) := by decide +kernel
theorem dX8_horsesBy_73 : decode cX8_horsesBy 73 = .ok (.iload 6, 2) := by decide +kernel
theorem dX8_horsesBy_75 : decode cX8_horsesBy 75 = .ok (.i2l, 1) := by decide +kernel
theorem dX8_horsesBy_76 : decode cX8_horsesBy 76 = .ok (.lmul, 1) := by decide +kernel
theorem dX8_horsesBy_77 : decode cX8_horsesBy 77 = .ok (.ladd, 1) := by decide +kernel
theorem dX8_horsesBy_78 : decode cX8_horsesBy 78 = .ok (.lstore 7, 2) := by decide +kernel
theorem dX8_horsesBy_80 : decode cX8_horsesBy 80 = .ok (.lload 7, 2) := by decide +kernel
theorem dX8_horsesBy_82 : decode cX8_horsesBy 82 = .ok (.lconst 0, 1) := by decide +kernel
theorem dX8_horsesBy_83 : decode cX8_horsesBy 83 = .ok (.lcmp, 1) := by decide +kernel
theorem dX8_horsesBy_84 : decode cX8_horsesBy 84 = .ok (.ifCond .lt 20, 3) := by decide +kernel
theorem dX8_horsesBy_87 : decode cX8_horsesBy 87 = .ok (.lload 7, 2) := by decide +kernel
theorem dX8_horsesBy_89 : decode cX8_horsesBy 89 = .ok (.ldc2_w 329, 3) := by decide +kernel
theorem dX8_horsesBy_92 : decode cX8_horsesBy 92 = .ok (.ladd, 1) := by decide +kernel
theorem dX8_horsesBy_93 : decode cX8_horsesBy 93 = .ok (.aload_n 0, 1) := by decide +kernel
theorem dX8_horsesBy_94 : decode cX8_horsesBy 94 = .ok (.getfield 228, 3) := by decide +kernel
theorem dX8_horsesBy_97 : decode cX8_horsesBy 97 = .ok (.iload_n 1, 1) := by decide +kernel
theorem dX8_horsesBy_98 : decode cX8_horsesBy 98 = .ok (.iaload, 1) := by decide +kernel
theorem dX8_horsesBy_99 : decode cX8_horsesBy 99 = .ok (.i2l, 1) := by decide +kernel
theorem dX8_horsesBy_100 : decode cX8_horsesBy 100 = .ok (.lcmp, 1) := by decide +kernel
theorem dX8_horsesBy_101 : decode cX8_horsesBy 101 = .ok (.ifCond .lt 6, 3) := by decide +kernel
theorem dX8_horsesBy_104 : decode cX8_horsesBy 104 = .ok (.bipush (-12), 2) := by decide +kernel
theorem dX8_horsesBy_106 : decode cX8_horsesBy 106 = .ok (.ireturn, 1) := by decide +kernel
theorem dX8_horsesBy_107 : decode cX8_horsesBy 107 = .ok (.bipush 40, 2) := by decide +kernel
theorem dX8_horsesBy_109 : decode cX8_horsesBy 109 = .ok (.iload_n 1, 1) := by decide +kernel
theorem dX8_horsesBy_110 : decode cX8_horsesBy 110 = .ok (.imul, 1) := by decide +kernel
theorem dX8_horsesBy_111 : decode cX8_horsesBy 111 = .ok (.lload 7, 2) := by decide +kernel
theorem dX8_horsesBy_113 : decode cX8_horsesBy 113 = .ok (.l2i, 1) := by decide +kernel
theorem dX8_horsesBy_114 : decode cX8_horsesBy 114 = .ok (.iadd, 1) := by decide +kernel
theorem dX8_horsesBy_115 : decode cX8_horsesBy 115 = .ok (.istore 9, 2) := by decide +kernel
theorem dX8_horsesBy_117 : decode cX8_horsesBy 117 = .ok (.iload 5, 2) := by decide +kernel
theorem dX8_horsesBy_119 : decode cX8_horsesBy 119 = .ok (.aload_n 0, 1) := by decide +kernel
theorem dX8_horsesBy_120 : decode cX8_horsesBy 120 = .ok (.aload_n 0, 1) := by decide +kernel
theorem dX8_horsesBy_121 : decode cX8_horsesBy 121 = .ok (.getfield 231, 3) := by decide +kernel
theorem dX8_horsesBy_124 : decode cX8_horsesBy 124 = .ok (.iload 9, 2) := by decide +kernel
theorem dX8_horsesBy_126 : decode cX8_horsesBy 126 = .ok (.iaload, 1) := by decide +kernel
theorem dX8_horsesBy_127 : decode cX8_horsesBy 127 = .ok (.aload_n 0, 1) := by decide +kernel
theorem dX8_horsesBy_128 : decode cX8_horsesBy 128 = .ok (.getfield 231, 3) := by decide +kernel
theorem dX8_horsesBy_131 : decode cX8_horsesBy 131 = .ok (.iload 9, 2) := by decide +kernel
theorem dX8_horsesBy_133 : decode cX8_horsesBy 133 = .ok (.iconst 1, 1) := by decide +kernel
theorem dX8_horsesBy_134 : decode cX8_horsesBy 134 = .ok (.iadd, 1) := by decide +kernel
theorem dX8_horsesBy_135 : decode cX8_horsesBy 135 = .ok (.iaload, 1) := by decide +kernel
theorem dX8_horsesBy_136 : decode cX8_horsesBy 136 = .ok (.aload_n 0, 1) := by decide +kernel
theorem dX8_horsesBy_137 : decode cX8_horsesBy 137 = .ok (.getfield 231, 3) := by decide +kernel
theorem dX8_horsesBy_140 : decode cX8_horsesBy 140 = .ok (.iload 9, 2) := by decide +kernel
theorem dX8_horsesBy_142 : decode cX8_horsesBy 142 = .ok (.iconst 2, 1) := by decide +kernel
theorem dX8_horsesBy_143 : decode cX8_horsesBy 143 = .ok (.iadd, 1) := by decide +kernel
theorem dX8_horsesBy_144 : decode cX8_horsesBy 144 = .ok (.iaload, 1) := by decide +kernel
theorem dX8_horsesBy_145 : decode cX8_horsesBy 145 = .ok (.aload_n 0, 1) := by decide +kernel
theorem dX8_horsesBy_146 : decode cX8_horsesBy 146 = .ok (.getfield 231, 3) := by decide +kernel
theorem dX8_horsesBy_149 : decode cX8_horsesBy 149 = .ok (.iload 9, 2) := by decide +kernel
theorem dX8_horsesBy_151 : decode cX8_horsesBy 151 = .ok (.iconst 3, 1) := by decide +kernel
theorem dX8_horsesBy_152 : decode cX8_horsesBy 152 = .ok (.iadd, 1) := by decide +kernel
theorem dX8_horsesBy_153 : decode cX8_horsesBy 153 = .ok (.iaload, 1) := by decide +kernel
theorem dX8_horsesBy_154 : decode cX8_horsesBy 154 = .ok (.invokevirtual 331, 3) := by decide +kernel
theorem dX8_horsesBy_157 : decode cX8_horsesBy 157 = .ok (.ifCond .lt 7, 3) := by decide +kernel
theorem dX8_horsesBy_160 : decode cX8_horsesBy 160 = .ok (.iconst 1, 1) := by decide +kernel
theorem dX8_horsesBy_161 : decode cX8_horsesBy 161 = .ok (.goto 4, 3) := by decide +kernel
theorem dX8_horsesBy_164 : decode cX8_horsesBy 164 = .ok (.iconst 0, 1) := by decide +kernel
theorem dX8_horsesBy_165 : decode cX8_horsesBy 165 = .ok (.iadd, 1) := by decide +kernel
theorem dX8_horsesBy_166 : decode cX8_horsesBy 166 = .ok (.istore 5, 2) := by decide +kernel
theorem dX8_horsesBy_168 : decode cX8_horsesBy 168 = .ok (.iinc 6 1, 3) := by decide +kernel
theorem dX8_horsesBy_171 : decode cX8_horsesBy 171 = .ok (.goto (-110), 3) := by decide +kernel
theorem dX8_horsesBy_174 : decode cX8_horsesBy 174 = .ok (.iload 5, 2) := by decide +kernel
theorem dX8_horsesBy_176 : decode cX8_horsesBy 176 = .ok (.ireturn, 1) := by decide +kernel
theorem dX8_taken_0 : decode cX8_taken 0 = .ok (.iload_n 2, 1) := by decide +kernel
theorem dX8_taken_1 : decode cX8_taken 1 = .ok (.iconst 0, 1) := by decide +kernel
theorem dX8_taken_2 : decode cX8_taken 2 = .ok (.bipush 6, 2) := by decide +kernel
theorem dX8_taken_4 : decode cX8_taken 4 = .ok (.invokestatic 3, 3) := by decide +kernel
theorem dX8_taken_7 : decode cX8_taken 7 = .ok (.ifCond .ne 6, 3) := by decide +kernel
theorem dX8_taken_10 : decode cX8_taken 10 = .ok (.bipush (-2), 2) := by decide +kernel
theorem dX8_taken_12 : decode cX8_taken 12 = .ok (.ireturn, 1) := by decide +kernel
theorem dX8_taken_13 : decode cX8_taken 13 = .ok (.iload_n 1, 1) := by decide +kernel
theorem dX8_taken_14 : decode cX8_taken 14 = .ok (.iconst 0, 1) := by decide +kernel
theorem dX8_taken_15 : decode cX8_taken 15 = .ok (.bipush 10, 2) := by decide +kernel
theorem dX8_taken_17 : decode cX8_taken 17 = .ok (.invokestatic 3, 3) := by decide +kernel
theorem dX8_taken_20 : decode cX8_taken 20 = .ok (.ifCond .ne 6, 3) := by decide +kernel
theorem dX8_taken_23 : decode cX8_taken 23 = .ok (.bipush (-12), 2) := by decide +kernel
theorem dX8_taken_25 : decode cX8_taken 25 = .ok (.ireturn, 1) := by decide +kernel
theorem dX8_taken_26 : decode cX8_taken 26 = .ok (.iload_n 1, 1) := by decide +kernel
theorem dX8_taken_27 : decode cX8_taken 27 = .ok (.iconst 4, 1) := by decide +kernel
theorem dX8_taken_28 : decode cX8_taken 28 = .ok (.if_icmp .ge 42, 3) := by decide +kernel
theorem dX8_taken_31 : decode cX8_taken 31 = .ok (.aload_n 0, 1) := by decide +kernel
theorem dX8_taken_32 : decode cX8_taken 32 = .ok (.iload_n 1, 1) := by decide +kernel
theorem dX8_taken_33 : decode cX8_taken 33 = .ok (.invokevirtual 32, 3) := by decide +kernel
theorem dX8_taken_36 : decode cX8_taken 36 = .ok (.ifCond .ne 6, 3) := by decide +kernel
theorem dX8_taken_39 : decode cX8_taken 39 = .ok (.bipush (-11), 2) := by decide +kernel
theorem dX8_taken_41 : decode cX8_taken 41 = .ok (.ireturn, 1) := by decide +kernel
theorem dX8_taken_42 : decode cX8_taken 42 = .ok (.iload_n 2, 1) := by decide +kernel
theorem dX8_taken_43 : decode cX8_taken 43 = .ok (.bipush 6, 2) := by decide +kernel
theorem dX8_taken_45 : decode cX8_taken 45 = .ok (.if_icmp .ne 22, 3) := by decide +kernel
theorem dX8_taken_48 : decode cX8_taken 48 = .ok (.bipush 10, 2) := by decide +kernel
theorem dX8_taken_50 : decode cX8_taken 50 = .ok (.aload_n 0, 1) := by decide +kernel
theorem dX8_taken_51 : decode cX8_taken 51 = .ok (.getfield 26, 3) := by decide +kernel
theorem dX8_taken_54 : decode cX8_taken 54 = .ok (.iload_n 1, 1) := by decide +kernel
theorem dX8_taken_55 : decode cX8_taken 55 = .ok (.iaload, 1) := by decide +kernel
theorem dX8_taken_56 : decode cX8_taken 56 = .ok (.imul, 1) := by decide +kernel
theorem dX8_taken_57 : decode cX8_taken 57 = .ok (.aload_n 0, 1) := by decide +kernel
theorem dX8_taken_58 : decode cX8_taken 58 = .ok (.getfield 29, 3) := by decide +kernel
theorem dX8_taken_61 : decode cX8_taken 61 = .ok (.iload_n 1, 1) := by decide +kernel
theorem dX8_taken_62 : decode cX8_taken 62 = .ok (.iaload, 1) := by decide +kernel
theorem dX8_taken_63 : decode cX8_taken 63 = .ok (.iadd, 1) := by decide +kernel
theorem dX8_taken_64 : decode cX8_taken 64 = .ok (.goto 5, 3) := by decide +kernel
theorem dX8_taken_67 : decode cX8_taken 67 = .ok (.bipush (-13), 2) := by decide +kernel
theorem dX8_taken_69 : decode cX8_taken 69 = .ok (.ireturn, 1) := by decide +kernel
theorem dX8_taken_70 : decode cX8_taken 70 = .ok (.iload_n 1, 1) := by decide +kernel
theorem dX8_taken_71 : decode cX8_taken 71 = .ok (.iconst 4, 1) := by decide +kernel
theorem dX8_taken_72 : decode cX8_taken 72 = .ok (.isub, 1) := by decide +kernel
theorem dX8_taken_73 : decode cX8_taken 73 = .ok (.istore_n 3, 1) := by decide +kernel
theorem dX8_taken_74 : decode cX8_taken 74 = .ok (.aload_n 0, 1) := by decide +kernel
theorem dX8_taken_75 : decode cX8_taken 75 = .ok (.iload_n 3, 1) := by decide +kernel
theorem dX8_taken_76 : decode cX8_taken 76 = .ok (.invokevirtual 57, 3) := by decide +kernel
theorem dX8_taken_79 : decode cX8_taken 79 = .ok (.ifCond .ne 6, 3) := by decide +kernel
theorem dX8_taken_82 : decode cX8_taken 82 = .ok (.bipush (-11), 2) := by decide +kernel
theorem dX8_taken_84 : decode cX8_taken 84 = .ok (.ireturn, 1) := by decide +kernel
theorem dX8_taken_85 : decode cX8_taken 85 = .ok (.aload_n 0, 1) := by decide +kernel
theorem dX8_taken_86 : decode cX8_taken 86 = .ok (.getfield 35, 3) := by decide +kernel
theorem dX8_taken_89 : decode cX8_taken 89 = .ok (.iload_n 3, 1) := by decide +kernel
theorem dX8_taken_90 : decode cX8_taken 90 = .ok (.iaload, 1) := by decide +kernel
theorem dX8_taken_91 : decode cX8_taken 91 = .ok (.istore 4, 2) := by decide +kernel
theorem dX8_taken_93 : decode cX8_taken 93 = .ok (.iload_n 2, 1) := by decide +kernel
theorem dX8_taken_94 : decode cX8_taken 94 = .ok (.ifCond .eq 31, 3) := by decide +kernel
theorem dX8_taken_97 : decode cX8_taken 97 = .ok (.iload_n 2, 1) := by decide +kernel
theorem dX8_taken_98 : decode cX8_taken 98 = .ok (.iload 4, 2) := by decide +kernel
theorem dX8_taken_100 : decode cX8_taken 100 = .ok (.if_icmp .eq 25, 3) := by decide +kernel
theorem dX8_taken_103 : decode cX8_taken 103 = .ok (.iload_n 2, 1) := by decide +kernel
theorem dX8_taken_104 : decode cX8_taken 104 = .ok (.iconst 1, 1) := by decide +kernel
theorem dX8_taken_105 : decode cX8_taken 105 = .ok (.if_icmp .ne 9, 3) := by decide +kernel
theorem dX8_taken_108 : decode cX8_taken 108 = .ok (.iload 4, 2) := by decide +kernel
theorem dX8_taken_110 : decode cX8_taken 110 = .ok (.iconst 3, 1) := by decide +kernel
theorem dX8_taken_111 : decode cX8_taken 111 = .ok (.if_icmp .eq 14, 3) := by decide +kernel
theorem dX8_taken_114 : decode cX8_taken 114 = .ok (.iload_n 2, 1) := by decide +kernel
theorem dX8_taken_115 : decode cX8_taken 115 = .ok (.iconst 2, 1) := by decide +kernel
theorem dX8_taken_116 : decode cX8_taken 116 = .ok (.if_icmp .ne 13, 3) := by decide +kernel
theorem dX8_taken_119 : decode cX8_taken 119 = .ok (.iload 4, 2) := by decide +kernel
theorem dX8_taken_121 : decode cX8_taken 121 = .ok (.iconst 4, 1) := by decide +kernel
theorem dX8_taken_122 : decode cX8_taken 122 = .ok (.if_icmp .ne 7, 3) := by decide +kernel
theorem dX8_taken_125 : decode cX8_taken 125 = .ok (.iconst 1, 1) := by decide +kernel
theorem dX8_taken_126 : decode cX8_taken 126 = .ok (.goto 4, 3) := by decide +kernel
theorem dX8_taken_129 : decode cX8_taken 129 = .ok (.iconst 0, 1) := by decide +kernel
theorem dX8_taken_130 : decode cX8_taken 130 = .ok (.istore 5, 2) := by decide +kernel
theorem dX8_taken_132 : decode cX8_taken 132 = .ok (.iload 5, 2) := by decide +kernel
theorem dX8_taken_134 : decode cX8_taken 134 = .ok (.ifCond .eq 13, 3) := by decide +kernel
theorem dX8_taken_137 : decode cX8_taken 137 = .ok (.iload_n 2, 1) := by decide +kernel
theorem dX8_taken_138 : decode cX8_taken 138 = .ok (.bipush 6, 2) := by decide +kernel
theorem dX8_taken_140 : decode cX8_taken 140 = .ok (.if_icmp .ge 7, 3) := by decide +kernel
theorem dX8_taken_143 : decode cX8_taken 143 = .ok (.iload_n 3, 1) := by decide +kernel
theorem dX8_taken_144 : decode cX8_taken 144 = .ok (.goto 5, 3) := by decide +kernel
theorem dX8_taken_147 : decode cX8_taken 147 = .ok (.bipush (-13), 2) := by decide +kernel
theorem dX8_taken_149 : decode cX8_taken 149 = .ok (.ireturn, 1) := by decide +kernel
