theorem dX0_init_0 : decode cX0_init 0 = .ok (.aload_n 0, 1) := by decide +kernel
theorem dX0_init_1 : decode cX0_init 1 = .ok (.invokespecial 3, 3) := by decide +kernel
theorem dX0_init_4 : decode cX0_init 4 = .ok (.aload_n 0, 1) := by decide +kernel
theorem dX0_init_5 : decode cX0_init 5 = .ok (.iconst 0, 1) := by decide +kernel
theorem dX0_init_6 : decode cX0_init 6 = .ok (.putfield 9, 3) := by decide +kernel
theorem dX0_init_9 : decode cX0_init 9 = .ok (.aload_n 0, 1) := by decide +kernel
theorem dX0_init_10 : decode cX0_init 10 = .ok (.iconst 0, 1) := by decide +kernel
theorem dX0_init_11 : decode cX0_init 11 = .ok (.putfield 15, 3) := by decide +kernel
theorem dX0_init_14 : decode cX0_init 14 = .ok (.aload_n 0, 1) := by decide +kernel
theorem dX0_init_15 : decode cX0_init 15 = .ok (.iconst 1, 1) := by decide +kernel
theorem dX0_init_16 : decode cX0_init 16 = .ok (.putfield 18, 3) := by decide +kernel
theorem dX0_init_19 : decode cX0_init 19 = .ok (.aload_n 0, 1) := by decide +kernel
theorem dX0_init_20 : decode cX0_init 20 = .ok (.iconst 1, 1) := by decide +kernel
theorem dX0_init_21 : decode cX0_init 21 = .ok (.putfield 21, 3) := by decide +kernel
theorem dX0_init_24 : decode cX0_init 24 = .ok (.aload_n 0, 1) := by decide +kernel
theorem dX0_init_25 : decode cX0_init 25 = .ok (.iconst 0, 1) := by decide +kernel
theorem dX0_init_26 : decode cX0_init 26 = .ok (.putfield 24, 3) := by decide +kernel
theorem dX0_init_29 : decode cX0_init 29 = .ok (.aload_n 0, 1) := by decide +kernel
theorem dX0_init_30 : decode cX0_init 30 = .ok (.iconst 0, 1) := by decide +kernel
theorem dX0_init_31 : decode cX0_init 31 = .ok (.putfield 27, 3) := by decide +kernel
theorem dX0_init_34 : decode cX0_init 34 = .ok (.aload_n 0, 1) := by decide +kernel
theorem dX0_init_35 : decode cX0_init 35 = .ok (.iconst 1, 1) := by decide +kernel
theorem dX0_init_36 : decode cX0_init 36 = .ok (.putfield 30, 3) := by decide +kernel
theorem dX0_init_39 : decode cX0_init 39 = .ok (.aload_n 0, 1) := by decide +kernel
theorem dX0_init_40 : decode cX0_init 40 = .ok (.iconst 1, 1) := by decide +kernel
theorem dX0_init_41 : decode cX0_init 41 = .ok (.putfield 33, 3) := by decide +kernel
theorem dX0_init_44 : decode cX0_init 44 = .ok (.aload_n 0, 1) := by decide +kernel
theorem dX0_init_45 : decode cX0_init 45 = .ok (.iconst 0, 1) := by decide +kernel
theorem dX0_init_46 : decode cX0_init 46 = .ok (.putfield 36, 3) := by decide +kernel
theorem dX0_init_49 : decode cX0_init 49 = .ok (.return_, 1) := by decide +kernel
theorem dX0_become_0 : decode cX0_become 0 = .ok (.aload_n 0, 1) := by decide +kernel
theorem dX0_become_1 : decode cX0_become 1 = .ok (.iload_n 1, 1) := by decide +kernel
theorem dX0_become_2 : decode cX0_become 2 = .ok (.putfield 9, 3) := by decide +kernel
theorem dX0_become_5 : decode cX0_become 5 = .ok (.aload_n 0, 1) := by decide +kernel
theorem dX0_become_6 : decode cX0_become 6 = .ok (.iload_n 2, 1) := by decide +kernel
theorem dX0_become_7 : decode cX0_become 7 = .ok (.putfield 15, 3) := by decide +kernel
theorem dX0_become_10 : decode cX0_become 10 = .ok (.aload_n 0, 1) := by decide +kernel
theorem dX0_become_11 : decode cX0_become 11 = .ok (.iload_n 3, 1) := by decide +kernel
theorem dX0_become_12 : decode cX0_become 12 = .ok (.putfield 18, 3) := by decide +kernel
theorem dX0_become_15 : decode cX0_become 15 = .ok (.aload_n 0, 1) := by decide +kernel
theorem dX0_become_16 : decode cX0_become 16 = .ok (.iload 4, 2) := by decide +kernel
theorem dX0_become_18 : decode cX0_become 18 = .ok (.putfield 21, 3) := by decide +kernel
theorem dX0_become_21 : decode cX0_become 21 = .ok (.aload_n 0, 1) := by decide +kernel
theorem dX0_become_22 : decode cX0_become 22 = .ok (.iload 5, 2) := by decide +kernel
theorem dX0_become_24 : decode cX0_become 24 = .ok (.putfield 24, 3) := by decide +kernel
theorem dX0_become_27 : decode cX0_become 27 = .ok (.aload_n 0, 1) := by decide +kernel
theorem dX0_become_28 : decode cX0_become 28 = .ok (.iconst 0, 1) := by decide +kernel
theorem dX0_become_29 : decode cX0_become 29 = .ok (.putfield 27, 3) := by decide +kernel
theorem dX0_become_32 : decode cX0_become 32 = .ok (.return_, 1) := by decide +kernel
theorem dX0_named_0 : decode cX0_named 0 = .ok (.iload_n 1, 1) := by decide +kernel
theorem dX0_named_1 : decode cX0_named 1 = .ok (.tableswitch 60 6 10 #[35, 40, 45, 50, 55], 35) := by decide +kernel
theorem dX0_named_36 : decode cX0_named 36 = .ok (.aload_n 0, 1) := by decide +kernel
theorem dX0_named_37 : decode cX0_named 37 = .ok (.getfield 21, 3) := by decide +kernel
theorem dX0_named_40 : decode cX0_named 40 = .ok (.ireturn, 1) := by decide +kernel
theorem dX0_named_41 : decode cX0_named 41 = .ok (.aload_n 0, 1) := by decide +kernel
theorem dX0_named_42 : decode cX0_named 42 = .ok (.getfield 24, 3) := by decide +kernel
theorem dX0_named_45 : decode cX0_named 45 = .ok (.ireturn, 1) := by decide +kernel
theorem dX0_named_46 : decode cX0_named 46 = .ok (.aload_n 0, 1) := by decide +kernel
theorem dX0_named_47 : decode cX0_named 47 = .ok (.getfield 15, 3) := by decide +kernel
theorem dX0_named_50 : decode cX0_named 50 = .ok (.ireturn, 1) := by decide +kernel
theorem dX0_named_51 : decode cX0_named 51 = .ok (.aload_n 0, 1) := by decide +kernel
theorem dX0_named_52 : decode cX0_named 52 = .ok (.getfield 18, 3) := by decide +kernel
theorem dX0_named_55 : decode cX0_named 55 = .ok (.ireturn, 1) := by decide +kernel
theorem dX0_named_56 : decode cX0_named 56 = .ok (.aload_n 0, 1) := by decide +kernel
theorem dX0_named_57 : decode cX0_named 57 = .ok (.getfield 27, 3) := by decide +kernel
theorem dX0_named_60 : decode cX0_named 60 = .ok (.ireturn, 1) := by decide +kernel
theorem dX0_named_61 : decode cX0_named 61 = .ok (.iload_n 2, 1) := by decide +kernel
theorem dX0_named_62 : decode cX0_named 62 = .ok (.ireturn, 1) := by decide +kernel
theorem dX0_isOne_0 : decode cX0_isOne 0 = .ok (.aload_n 0, 1) := by decide +kernel
theorem dX0_isOne_1 : decode cX0_isOne 1 = .ok (.getfield 9, 3) := by decide +kernel
theorem dX0_isOne_4 : decode cX0_isOne 4 = .ok (.istore_n 2, 1) := by decide +kernel
theorem dX0_isOne_5 : decode cX0_isOne 5 = .ok (.iconst 0, 1) := by decide +kernel
theorem dX0_isOne_6 : decode cX0_isOne 6 = .ok (.istore_n 3, 1) := by decide +kernel
theorem dX0_isOne_7 : decode cX0_isOne 7 = .ok (.iload_n 3, 1) := by decide +kernel
theorem dX0_isOne_8 : decode cX0_isOne 8 = .ok (.bipush 6, 2) := by decide +kernel
theorem dX0_isOne_10 : decode cX0_isOne 10 = .ok (.if_icmp .ge 32, 3) := by decide +kernel
theorem dX0_isOne_13 : decode cX0_isOne 13 = .ok (.iload_n 2, 1) := by decide +kernel
theorem dX0_isOne_14 : decode cX0_isOne 14 = .ok (.iload_n 1, 1) := by decide +kernel
theorem dX0_isOne_15 : decode cX0_isOne 15 = .ok (.if_icmp .eq 27, 3) := by decide +kernel
theorem dX0_isOne_18 : decode cX0_isOne 18 = .ok (.iload_n 2, 1) := by decide +kernel
theorem dX0_isOne_19 : decode cX0_isOne 19 = .ok (.ifCond .lt 23, 3) := by decide +kernel
theorem dX0_isOne_22 : decode cX0_isOne 22 = .ok (.iload_n 2, 1) := by decide +kernel
theorem dX0_isOne_23 : decode cX0_isOne 23 = .ok (.getstatic 39, 3) := by decide +kernel
theorem dX0_isOne_26 : decode cX0_isOne 26 = .ok (.arraylength, 1) := by decide +kernel
theorem dX0_isOne_27 : decode cX0_isOne 27 = .ok (.if_icmp .ge 15, 3) := by decide +kernel
theorem dX0_isOne_30 : decode cX0_isOne 30 = .ok (.getstatic 39, 3) := by decide +kernel
theorem dX0_isOne_33 : decode cX0_isOne 33 = .ok (.iload_n 2, 1) := by decide +kernel
theorem dX0_isOne_34 : decode cX0_isOne 34 = .ok (.iaload, 1) := by decide +kernel
theorem dX0_isOne_35 : decode cX0_isOne 35 = .ok (.istore_n 2, 1) := by decide +kernel
theorem dX0_isOne_36 : decode cX0_isOne 36 = .ok (.iinc 3 1, 3) := by decide +kernel
theorem dX0_isOne_39 : decode cX0_isOne 39 = .ok (.goto (-32), 3) := by decide +kernel
theorem dX0_isOne_42 : decode cX0_isOne 42 = .ok (.iload_n 2, 1) := by decide +kernel
theorem dX0_isOne_43 : decode cX0_isOne 43 = .ok (.iload_n 1, 1) := by decide +kernel
theorem dX0_isOne_44 : decode cX0_isOne 44 = .ok (.if_icmp .ne 7, 3) := by decide +kernel
theorem dX0_isOne_47 : decode cX0_isOne 47 = .ok (.iconst 1, 1) := by decide +kernel
theorem dX0_isOne_48 : decode cX0_isOne 48 = .ok (.goto 4, 3) := by decide +kernel
theorem dX0_isOne_51 : decode cX0_isOne 51 = .ok (.iconst 0, 1) := by decide +kernel
theorem dX0_isOne_52 : decode cX0_isOne 52 = .ok (.ireturn, 1) := by decide +kernel
theorem dX0_goesFrom_0 : decode cX0_goesFrom 0 = .ok (.aload_n 0, 1) := by decide +kernel
theorem dX0_goesFrom_1 : decode cX0_goesFrom 1 = .ok (.getfield 9, 3) := by decide +kernel
theorem dX0_goesFrom_4 : decode cX0_goesFrom 4 = .ok (.tableswitch 93 1 5 #[36, 93, 42, 93, 73], 36) := by decide +kernel
theorem dX0_goesFrom_40 : decode cX0_goesFrom 40 = .ok (.aload_n 0, 1) := by decide +kernel
theorem dX0_goesFrom_41 : decode cX0_goesFrom 41 = .ok (.iload_n 1, 1) := by decide +kernel
theorem dX0_goesFrom_42 : decode cX0_goesFrom 42 = .ok (.invokevirtual 43, 3) := by decide +kernel
theorem dX0_goesFrom_45 : decode cX0_goesFrom 45 = .ok (.ireturn, 1) := by decide +kernel
theorem dX0_goesFrom_46 : decode cX0_goesFrom 46 = .ok (.iload_n 1, 1) := by decide +kernel
theorem dX0_goesFrom_47 : decode cX0_goesFrom 47 = .ok (.aload_n 0, 1) := by decide +kernel
theorem dX0_goesFrom_48 : decode cX0_goesFrom 48 = .ok (.getfield 15, 3) := by decide +kernel
theorem dX0_goesFrom_51 : decode cX0_goesFrom 51 = .ok (.if_icmp .eq 11, 3) := by decide +kernel
theorem dX0_goesFrom_54 : decode cX0_goesFrom 54 = .ok (.iload_n 1, 1) := by decide +kernel
theorem dX0_goesFrom_55 : decode cX0_goesFrom 55 = .ok (.aload_n 0, 1) := by decide +kernel
theorem dX0_goesFrom_56 : decode cX0_goesFrom 56 = .ok (.getfield 18, 3) := by decide +kernel
theorem dX0_goesFrom_59 : decode cX0_goesFrom 59 = .ok (.if_icmp .ne 16, 3) := by decide +kernel
theorem dX0_goesFrom_62 : decode cX0_goesFrom 62 = .ok (.aload_n 0, 1) := by decide +kernel
theorem dX0_goesFrom_63 : decode cX0_goesFrom 63 = .ok (.iload_n 1, 1) := by decide +kernel
theorem dX0_goesFrom_64 : decode cX0_goesFrom 64 = .ok (.invokevirtual 43, 3) := by decide +kernel
theorem dX0_goesFrom_67 : decode cX0_goesFrom 67 = .ok (.iconst 1, 1) := by decide +kernel
theorem dX0_goesFrom_68 : decode cX0_goesFrom 68 = .ok (.iadd, 1) := by decide +kernel
theorem dX0_goesFrom_69 : decode cX0_goesFrom 69 = .ok (.bipush 7, 2) := by decide +kernel
theorem dX0_goesFrom_71 : decode cX0_goesFrom 71 = .ok (.irem, 1) := by decide +kernel
theorem dX0_goesFrom_72 : decode cX0_goesFrom 72 = .ok (.goto 4, 3) := by decide +kernel
theorem dX0_goesFrom_75 : decode cX0_goesFrom 75 = .ok (.iconst (-1), 1) := by decide +kernel
theorem dX0_goesFrom_76 : decode cX0_goesFrom 76 = .ok (.ireturn, 1) := by decide +kernel
theorem dX0_goesFrom_77 : decode cX0_goesFrom 77 = .ok (.iload_n 1, 1) := by decide +kernel
theorem dX0_goesFrom_78 : decode cX0_goesFrom 78 = .ok (.aload_n 0, 1) := by decide +kernel
theorem dX0_goesFrom_79 : decode cX0_goesFrom 79 = .ok (.getfield 15, 3) := by decide +kernel
theorem dX0_goesFrom_82 : decode cX0_goesFrom 82 = .ok (.if_icmp .ne 13, 3) := by decide +kernel
theorem dX0_goesFrom_85 : decode cX0_goesFrom 85 = .ok (.aload_n 0, 1) := by decide +kernel
theorem dX0_goesFrom_86 : decode cX0_goesFrom 86 = .ok (.getfield 24, 3) := by decide +kernel
theorem dX0_goesFrom_89 : decode cX0_goesFrom 89 = .ok (.bipush 7, 2) := by decide +kernel
theorem dX0_goesFrom_91 : decode cX0_goesFrom 91 = .ok (.irem, 1) := by decide +kernel
theorem dX0_goesFrom_92 : decode cX0_goesFrom 92 = .ok (.goto 4, 3) := by decide +kernel
theorem dX0_goesFrom_95 : decode cX0_goesFrom 95 = .ok (.iconst (-1), 1) := by decide +kernel
theorem dX0_goesFrom_96 : decode cX0_goesFrom 96 = .ok (.ireturn, 1) := by decide +kernel
theorem dX0_goesFrom_97 : decode cX0_goesFrom 97 = .ok (.iload_n 1, 1) := by decide +kernel
theorem dX0_goesFrom_98 : decode cX0_goesFrom 98 = .ok (.aload_n 0, 1) := by decide +kernel
theorem dX0_goesFrom_99 : decode cX0_goesFrom 99 = .ok (.getfield 15, 3) := by decide +kernel
theorem dX0_goesFrom_102 : decode cX0_goesFrom 102 = .ok (.if_icmp .ne 10, 3) := by decide +kernel
theorem dX0_goesFrom_105 : decode cX0_goesFrom 105 = .ok (.aload_n 0, 1) := by decide +kernel
theorem dX0_goesFrom_106 : decode cX0_goesFrom 106 = .ok (.getfield 18, 3) := by decide +kernel
theorem dX0_goesFrom_109 : decode cX0_goesFrom 109 = .ok (.goto 4, 3) := by decide +kernel
theorem dX0_goesFrom_112 : decode cX0_goesFrom 112 = .ok (.iconst (-1), 1) := by decide +kernel
theorem dX0_goesFrom_113 : decode cX0_goesFrom 113 = .ok (.ireturn, 1) := by decide +kernel
theorem dX0_goesToAndFro_0 : decode cX0_goesToAndFro 0 = .ok (.iload_n 1, 1) := by decide +kernel
theorem dX0_goesToAndFro_1 : decode cX0_goesToAndFro 1 = .ok (.aload_n 0, 1) := by decide +kernel
theorem dX0_goesToAndFro_2 : decode cX0_goesToAndFro 2 = .ok (.getfield 15, 3) := by decide +kernel
theorem dX0_goesToAndFro_5 : decode cX0_goesToAndFro 5 = .ok (.if_icmp .ne 10, 3) := by decide +kernel
theorem dX0_goesToAndFro_8 : decode cX0_goesToAndFro 8 = .ok (.aload_n 0, 1) := by decide +kernel
theorem dX0_goesToAndFro_9 : decode cX0_goesToAndFro 9 = .ok (.getfield 18, 3) := by decide +kernel
theorem dX0_goesToAndFro_12 : decode cX0_goesToAndFro 12 = .ok (.goto 19, 3) := by decide +kernel
theorem dX0_goesToAndFro_15 : decode cX0_goesToAndFro 15 = .ok (.iload_n 1, 1) := by decide +kernel
theorem dX0_goesToAndFro_16 : decode cX0_goesToAndFro 16 = .ok (.aload_n 0, 1) := by decide +kernel
theorem dX0_goesToAndFro_17 : decode cX0_goesToAndFro 17 = .ok (.getfield 18, 3) := by decide +kernel
theorem dX0_goesToAndFro_20 : decode cX0_goesToAndFro 20 = .ok (.if_icmp .ne 10, 3) := by decide +kernel
theorem dX0_goesToAndFro_23 : decode cX0_goesToAndFro 23 = .ok (.aload_n 0, 1) := by decide +kernel
theorem dX0_goesToAndFro_24 : decode cX0_goesToAndFro 24 = .ok (.getfield 15, 3) := by decide +kernel
theorem dX0_goesToAndFro_27 : decode cX0_goesToAndFro 27 = .ok (.goto 4, 3) := by decide +kernel
theorem dX0_goesToAndFro_30 : decode cX0_goesToAndFro 30 = .ok (.iconst (-1), 1) := by decide +kernel
theorem dX0_goesToAndFro_31 : decode cX0_goesToAndFro 31 = .ok (.ireturn, 1) := by decide +kernel
theorem dX0_out_0 : decode cX0_out 0 = .ok (.aload_n 0, 1) := by decide +kernel
theorem dX0_out_1 : decode cX0_out 1 = .ok (.getfield 9, 3) := by decide +kernel
theorem dX0_out_4 : decode cX0_out 4 = .ok (.tableswitch 53 2 5 #[32, 53, 32, 42], 32) := by decide +kernel
theorem dX0_out_36 : decode cX0_out 36 = .ok (.aload_n 0, 1) := by decide +kernel
theorem dX0_out_37 : decode cX0_out 37 = .ok (.getfield 30, 3) := by decide +kernel
theorem dX0_out_40 : decode cX0_out 40 = .ok (.aload_n 0, 1) := by decide +kernel
theorem dX0_out_41 : decode cX0_out 41 = .ok (.getfield 24, 3) := by decide +kernel
theorem dX0_out_44 : decode cX0_out 44 = .ok (.iadd, 1) := by decide +kernel
theorem dX0_out_45 : decode cX0_out 45 = .ok (.ireturn, 1) := by decide +kernel
theorem dX0_out_46 : decode cX0_out 46 = .ok (.iconst 1, 1) := by decide +kernel
theorem dX0_out_47 : decode cX0_out 47 = .ok (.aload_n 0, 1) := by decide +kernel
theorem dX0_out_48 : decode cX0_out 48 = .ok (.getfield 30, 3) := by decide +kernel
theorem dX0_out_51 : decode cX0_out 51 = .ok (.iconst 2, 1) := by decide +kernel
theorem dX0_out_52 : decode cX0_out 52 = .ok (.idiv, 1) := by decide +kernel
theorem dX0_out_53 : decode cX0_out 53 = .ok (.invokestatic 47, 3) := by decide +kernel
theorem dX0_out_56 : decode cX0_out 56 = .ok (.ireturn, 1) := by decide +kernel
theorem dX0_out_57 : decode cX0_out 57 = .ok (.aload_n 0, 1) := by decide +kernel
theorem dX0_out_58 : decode cX0_out 58 = .ok (.getfield 30, 3) := by decide +kernel
theorem dX0_out_61 : decode cX0_out 61 = .ok (.ireturn, 1) := by decide +kernel
theorem dX0_home_0 : decode cX0_home 0 = .ok (.aload_n 0, 1) := by decide +kernel
theorem dX0_home_1 : decode cX0_home 1 = .ok (.getfield 9, 3) := by decide +kernel
theorem dX0_home_4 : decode cX0_home 4 = .ok (.iconst 4, 1) := by decide +kernel
theorem dX0_home_5 : decode cX0_home 5 = .ok (.if_icmp .ne 17, 3) := by decide +kernel
theorem dX0_home_8 : decode cX0_home 8 = .ok (.iconst 2, 1) := by decide +kernel
theorem dX0_home_9 : decode cX0_home 9 = .ok (.aload_n 0, 1) := by decide +kernel
theorem dX0_home_10 : decode cX0_home 10 = .ok (.getfield 33, 3) := by decide +kernel
theorem dX0_home_13 : decode cX0_home 13 = .ok (.imul, 1) := by decide +kernel
theorem dX0_home_14 : decode cX0_home 14 = .ok (.aload_n 0, 1) := by decide +kernel
theorem dX0_home_15 : decode cX0_home 15 = .ok (.getfield 24, 3) := by decide +kernel
theorem dX0_home_18 : decode cX0_home 18 = .ok (.iadd, 1) := by decide +kernel
theorem dX0_home_19 : decode cX0_home 19 = .ok (.goto 7, 3) := by decide +kernel
theorem dX0_home_22 : decode cX0_home 22 = .ok (.aload_n 0, 1) := by decide +kernel
theorem dX0_home_23 : decode cX0_home 23 = .ok (.getfield 33, 3) := by decide +kernel
theorem dX0_home_26 : decode cX0_home 26 = .ok (.ireturn, 1) := by decide +kernel
theorem dX0_arrives_0 : decode cX0_arrives 0 = .ok (.iload_n 1, 1) := by decide +kernel
theorem dX0_arrives_1 : decode cX0_arrives 1 = .ok (.aload_n 0, 1) := by decide +kernel
theorem dX0_arrives_2 : decode cX0_arrives 2 = .ok (.getfield 27, 3) := by decide +kernel
theorem dX0_arrives_5 : decode cX0_arrives 5 = .ok (.invokestatic 47, 3) := by decide +kernel
theorem dX0_arrives_8 : decode cX0_arrives 8 = .ok (.aload_n 0, 1) := by decide +kernel
theorem dX0_arrives_9 : decode cX0_arrives 9 = .ok (.invokevirtual 53, 3) := by decide +kernel
theorem dX0_arrives_12 : decode cX0_arrives 12 = .ok (.iadd, 1) := by decide +kernel
theorem dX0_arrives_13 : decode cX0_arrives 13 = .ok (.ireturn, 1) := by decide +kernel
theorem dX1_init_0 : decode cX1_init 0 = .ok (.aload_n 0, 1) := by decide +kernel
theorem dX1_init_1 : decode cX1_init 1 = .ok (.invokespecial 3, 3) := by decide +kernel
theorem dX1_init_4 : decode cX1_init 4 = .ok (.aload_n 0, 1) := by decide +kernel
theorem dX1_init_5 : decode cX1_init 5 = .ok (.bipush 7, 2) := by decide +kernel
theorem dX1_init_7 : decode cX1_init 7 = .ok (.bipush 7, 2) := by decide +kernel
theorem dX1_init_9 : decode cX1_init 9 = .ok (.multianewarray 9 2, 4) := by decide +kernel
theorem dX1_init_13 : decode cX1_init 13 = .ok (.putfield 11, 3) := by decide +kernel
theorem dX1_init_16 : decode cX1_init 16 = .ok (.aload_n 0, 1) := by decide +kernel
theorem dX1_init_17 : decode cX1_init 17 = .ok (.bipush 7, 2) := by decide +kernel
theorem dX1_init_19 : decode cX1_init 19 = .ok (.newarray .int, 2) := by decide +kernel
theorem dX1_init_21 : decode cX1_init 21 = .ok (.putfield 16, 3) := by decide +kernel
theorem dX1_init_24 : decode cX1_init 24 = .ok (.aload_n 0, 1) := by decide +kernel
theorem dX1_init_25 : decode cX1_init 25 = .ok (.iconst 0, 1) := by decide +kernel
theorem dX1_init_26 : decode cX1_init 26 = .ok (.putfield 20, 3) := by decide +kernel
theorem dX1_init_29 : decode cX1_init 29 = .ok (.aload_n 0, 1) := by decide +kernel
theorem dX1_init_30 : decode cX1_init 30 = .ok (.iconst 0, 1) := by decide +kernel
theorem dX1_init_31 : decode cX1_init 31 = .ok (.putfield 24, 3) := by decide +kernel
theorem dX1_init_34 : decode cX1_init 34 = .ok (.aload_n 0, 1) := by decide +kernel
theorem dX1_init_35 : decode cX1_init 35 = .ok (.iconst 0, 1) := by decide +kernel
theorem dX1_init_36 : decode cX1_init 36 = .ok (.putfield 28, 3) := by decide +kernel
theorem dX1_init_39 : decode cX1_init 39 = .ok (.aload_n 0, 1) := by decide +kernel
theorem dX1_init_40 : decode cX1_init 40 = .ok (.iconst 0, 1) := by decide +kernel
theorem dX1_init_41 : decode cX1_init 41 = .ok (.putfield 31, 3) := by decide +kernel
theorem dX1_init_44 : decode cX1_init 44 = .ok (.return_, 1) := by decide +kernel
theorem dX2_init_0 : decode cX2_init 0 = .ok (.aload_n 0, 1) := by decide +kernel
theorem dX2_init_1 : decode cX2_init 1 = .ok (.invokespecial 3, 3) := by decide +kernel
theorem dX2_init_4 : decode cX2_init 4 = .ok (.aload_n 0, 1) := by decide +kernel
theorem dX2_init_5 : decode cX2_init 5 = .ok (.new 9, 3) := by decide +kernel
theorem dX2_init_8 : decode cX2_init 8 = .ok (.dup, 1) := by decide +kernel
theorem dX2_init_9 : decode cX2_init 9 = .ok (.invokespecial 11, 3) := by decide +kernel
theorem dX2_init_12 : decode cX2_init 12 = .ok (.putfield 12, 3) := by decide +kernel
theorem dX2_init_15 : decode cX2_init 15 = .ok (.aload_n 0, 1) := by decide +kernel
theorem dX2_init_16 : decode cX2_init 16 = .ok (.bipush 22, 2) := by decide +kernel
theorem dX2_init_18 : decode cX2_init 18 = .ok (.putfield 18, 3) := by decide +kernel
theorem dX2_init_21 : decode cX2_init 21 = .ok (.aload_n 0, 1) := by decide +kernel
theorem dX2_init_22 : decode cX2_init 22 = .ok (.iconst (-1), 1) := by decide +kernel
theorem dX2_init_23 : decode cX2_init 23 = .ok (.putfield 22, 3) := by decide +kernel
theorem dX2_init_26 : decode cX2_init 26 = .ok (.return_, 1) := by decide +kernel
theorem dX2_read_0 : decode cX2_read 0 = .ok (.aload_n 0, 1) := by decide +kernel
theorem dX2_read_1 : decode cX2_read 1 = .ok (.iconst (-1), 1) := by decide +kernel
theorem dX2_read_2 : decode cX2_read 2 = .ok (.putfield 22, 3) := by decide +kernel
theorem dX2_read_5 : decode cX2_read 5 = .ok (.aload_n 0, 1) := by decide +kernel
theorem dX2_read_6 : decode cX2_read 6 = .ok (.getfield 12, 3) := by decide +kernel
theorem dX2_read_9 : decode cX2_read 9 = .ok (.invokevirtual 25, 3) := by decide +kernel
theorem dX2_read_12 : decode cX2_read 12 = .ok (.aload_n 1, 1) := by decide +kernel
theorem dX2_read_13 : decode cX2_read 13 = .ok (.invokevirtual 28, 3) := by decide +kernel
theorem dX2_read_16 : decode cX2_read 16 = .ok (.aload_n 0, 1) := by decide +kernel
theorem dX2_read_17 : decode cX2_read 17 = .ok (.aload_n 0, 1) := by decide +kernel
theorem dX2_read_18 : decode cX2_read 18 = .ok (.getfield 12, 3) := by decide +kernel
theorem dX2_read_21 : decode cX2_read 21 = .ok (.invokevirtual 33, 3) := by decide +kernel
theorem dX2_read_24 : decode cX2_read 24 = .ok (.putfield 18, 3) := by decide +kernel
theorem dX2_read_27 : decode cX2_read 27 = .ok (.iconst 0, 1) := by decide +kernel
theorem dX2_read_28 : decode cX2_read 28 = .ok (.istore_n 2, 1) := by decide +kernel
theorem dX2_read_29 : decode cX2_read 29 = .ok (.iload_n 2, 1) := by decide +kernel
theorem dX2_read_30 : decode cX2_read 30 = .ok (.iconst 3, 1) := by decide +kernel
theorem dX2_read_31 : decode cX2_read 31 = .ok (.if_icmp .ge 33, 3) := by decide +kernel
theorem dX2_read_34 : decode cX2_read 34 = .ok (.aload_n 0, 1) := by decide +kernel
theorem dX2_read_35 : decode cX2_read 35 = .ok (.iconst 0, 1) := by decide +kernel
theorem dX2_read_36 : decode cX2_read 36 = .ok (.iload_n 2, 1) := by decide +kernel
theorem dX2_read_37 : decode cX2_read 37 = .ok (.iadd, 1) := by decide +kernel
theorem dX2_read_38 : decode cX2_read 38 = .ok (.invokevirtual 37, 3) := by decide +kernel
theorem dX2_read_41 : decode cX2_read 41 = .ok (.aload_n 0, 1) := by decide +kernel
theorem dX2_read_42 : decode cX2_read 42 = .ok (.aload_n 1, 1) := by decide +kernel
theorem dX2_read_43 : decode cX2_read 43 = .ok (.iconst 0, 1) := by decide +kernel
theorem dX2_read_44 : decode cX2_read 44 = .ok (.invokevirtual 41, 3) := by decide +kernel
theorem dX2_read_47 : decode cX2_read 47 = .ok (.aload_n 0, 1) := by decide +kernel
theorem dX2_read_48 : decode cX2_read 48 = .ok (.bipush 14, 2) := by decide +kernel
theorem dX2_read_50 : decode cX2_read 50 = .ok (.invokevirtual 37, 3) := by decide +kernel
theorem dX2_read_53 : decode cX2_read 53 = .ok (.aload_n 1, 1) := by decide +kernel
theorem dX2_read_54 : decode cX2_read 54 = .ok (.iload_n 2, 1) := by decide +kernel
theorem dX2_read_55 : decode cX2_read 55 = .ok (.invokevirtual 45, 3) := by decide +kernel
theorem dX2_read_58 : decode cX2_read 58 = .ok (.iinc 2 1, 3) := by decide +kernel
theorem dX2_read_61 : decode cX2_read 61 = .ok (.goto (-32), 3) := by decide +kernel
theorem dX2_read_64 : decode cX2_read 64 = .ok (.aload_n 0, 1) := by decide +kernel
theorem dX2_read_65 : decode cX2_read 65 = .ok (.bipush 21, 2) := by decide +kernel
theorem dX2_read_67 : decode cX2_read 67 = .ok (.invokevirtual 37, 3) := by decide +kernel
theorem dX2_read_70 : decode cX2_read 70 = .ok (.aload_n 0, 1) := by decide +kernel
theorem dX2_read_71 : decode cX2_read 71 = .ok (.getfield 22, 3) := by decide +kernel
theorem dX2_read_74 : decode cX2_read 74 = .ok (.ireturn, 1) := by decide +kernel
theorem dX2_expect_0 : decode cX2_expect 0 = .ok (.aload_n 0, 1) := by decide +kernel
theorem dX2_expect_1 : decode cX2_expect 1 = .ok (.getfield 18, 3) := by decide +kernel
theorem dX2_expect_4 : decode cX2_expect 4 = .ok (.iload_n 1, 1) := by decide +kernel
theorem dX2_expect_5 : decode cX2_expect 5 = .ok (.if_icmp .ne 17, 3) := by decide +kernel
theorem dX2_expect_8 : decode cX2_expect 8 = .ok (.aload_n 0, 1) := by decide +kernel
theorem dX2_expect_9 : decode cX2_expect 9 = .ok (.aload_n 0, 1) := by decide +kernel
theorem dX2_expect_10 : decode cX2_expect 10 = .ok (.getfield 12, 3) := by decide +kernel
theorem dX2_expect_13 : decode cX2_expect 13 = .ok (.invokevirtual 33, 3) := by decide +kernel
theorem dX2_expect_16 : decode cX2_expect 16 = .ok (.putfield 18, 3) := by decide +kernel
theorem dX2_expect_19 : decode cX2_expect 19 = .ok (.goto 7, 3) := by decide +kernel
theorem dX2_expect_22 : decode cX2_expect 22 = .ok (.aload_n 0, 1) := by decide +kernel
theorem dX2_expect_23 : decode cX2_expect 23 = .ok (.invokevirtual 48, 3) := by decide +kernel
theorem dX2_expect_26 : decode cX2_expect 26 = .ok (.return_, 1) := by decide +kernel
theorem dX2_fail_0 : decode cX2_fail 0 = .ok (.aload_n 0, 1) := by decide +kernel
theorem dX2_fail_1 : decode cX2_fail 1 = .ok (.getfield 22, 3) := by decide +kernel
theorem dX2_fail_4 : decode cX2_fail 4 = .ok (.iconst (-1), 1) := by decide +kernel
theorem dX2_fail_5 : decode cX2_fail 5 = .ok (.if_icmp .ne 14, 3) := by decide +kernel
theorem dX2_fail_8 : decode cX2_fail 8 = .ok (.aload_n 0, 1) := by decide +kernel
theorem dX2_fail_9 : decode cX2_fail 9 = .ok (.aload_n 0, 1) := by decide +kernel
theorem dX2_fail_10 : decode cX2_fail 10 = .ok (.getfield 12, 3) := by decide +kernel
theorem dX2_fail_13 : decode cX2_fail 13 = .ok (.getfield 51, 3) := by decide +kernel
theorem dX2_fail_16 : decode cX2_fail 16 = .ok (.putfield 22, 3) := by decide +kernel
theorem dX2_fail_19 : decode cX2_fail 19 = .ok (.aload_n 0, 1) := by decide +kernel
theorem dX2_fail_20 : decode cX2_fail 20 = .ok (.bipush 22, 2) := by decide +kernel
theorem dX2_fail_22 : decode cX2_fail 22 = .ok (.putfield 18, 3) := by decide +kernel
theorem dX2_fail_25 : decode cX2_fail 25 = .ok (.return_, 1) := by decide +kernel
theorem dX2_readOr_0 : decode cX2_readOr 0 = .ok (.aload_n 0, 1) := by decide +kernel
theorem dX2_readOr_1 : decode cX2_readOr 1 = .ok (.aload_n 1, 1) := by decide +kernel
theorem dX2_readOr_2 : decode cX2_readOr 2 = .ok (.iload_n 2, 1) := by decide +kernel
theorem dX2_readOr_3 : decode cX2_readOr 3 = .ok (.invokevirtual 54, 3) := by decide +kernel
theorem dX2_readOr_6 : decode cX2_readOr 6 = .ok (.iconst 0, 1) := by decide +kernel
theorem dX2_readOr_7 : decode cX2_readOr 7 = .ok (.istore_n 3, 1) := by decide +kernel
theorem dX2_readOr_8 : decode cX2_readOr 8 = .ok (.iload_n 3, 1) := by decide +kernel
theorem dX2_readOr_9 : decode cX2_readOr 9 = .ok (.sipush 160, 3) := by decide +kernel
theorem dX2_readOr_12 : decode cX2_readOr 12 = .ok (.if_icmp .ge 33, 3) := by decide +kernel
theorem dX2_readOr_15 : decode cX2_readOr 15 = .ok (.aload_n 0, 1) := by decide +kernel
theorem dX2_readOr_16 : decode cX2_readOr 16 = .ok (.getfield 18, 3) := by decide +kernel
theorem dX2_readOr_19 : decode cX2_readOr 19 = .ok (.iconst 3, 1) := by decide +kernel
theorem dX2_readOr_20 : decode cX2_readOr 20 = .ok (.if_icmp .ne 25, 3) := by decide +kernel
theorem dX2_readOr_23 : decode cX2_readOr 23 = .ok (.aload_n 0, 1) := by decide +kernel
theorem dX2_readOr_24 : decode cX2_readOr 24 = .ok (.iconst 3, 1) := by decide +kernel
theorem dX2_readOr_25 : decode cX2_readOr 25 = .ok (.invokevirtual 37, 3) := by decide +kernel
theorem dX2_readOr_28 : decode cX2_readOr 28 = .ok (.aload_n 0, 1) := by decide +kernel
theorem dX2_readOr_29 : decode cX2_readOr 29 = .ok (.aload_n 1, 1) := by decide +kernel
theorem dX2_readOr_30 : decode cX2_readOr 30 = .ok (.iload_n 2, 1) := by decide +kernel
theorem dX2_readOr_31 : decode cX2_readOr 31 = .ok (.invokevirtual 54, 3) := by decide +kernel
theorem dX2_readOr_34 : decode cX2_readOr 34 = .ok (.aload_n 1, 1) := by decide +kernel
theorem dX2_readOr_35 : decode cX2_readOr 35 = .ok (.iconst 3, 1) := by decide +kernel
theorem dX2_readOr_36 : decode cX2_readOr 36 = .ok (.invokevirtual 57, 3) := by decide +kernel
theorem dX2_readOr_39 : decode cX2_readOr 39 = .ok (.iinc 3 1, 3) := by decide +kernel
theorem dX2_readOr_42 : decode cX2_readOr 42 = .ok (.goto (-34), 3) := by decide +kernel
theorem dX2_readOr_45 : decode cX2_readOr 45 = .ok (.return_, 1) := by decide +kernel
theorem dX2_readAnd_0 : decode cX2_readAnd 0 = .ok (.aload_n 0, 1) := by decide +kernel
theorem dX2_readAnd_1 : decode cX2_readAnd 1 = .ok (.aload_n 1, 1) := by decide +kernel
theorem dX2_readAnd_2 : decode cX2_readAnd 2 = .ok (.iload_n 2, 1) := by decide +kernel
theorem dX2_readAnd_3 : decode cX2_readAnd 3 = .ok (.invokevirtual 60, 3) := by decide +kernel
theorem dX2_readAnd_6 : decode cX2_readAnd 6 = .ok (.iconst 0, 1) := by decide +kernel
theorem dX2_readAnd_7 : decode cX2_readAnd 7 = .ok (.istore_n 3, 1) := by decide +kernel
theorem dX2_readAnd_8 : decode cX2_readAnd 8 = .ok (.iload_n 3, 1) := by decide +kernel
theorem dX2_readAnd_9 : decode cX2_readAnd 9 = .ok (.sipush 160, 3) := by decide +kernel
theorem dX2_readAnd_12 : decode cX2_readAnd 12 = .ok (.if_icmp .ge 33, 3) := by decide +kernel
theorem dX2_readAnd_15 : decode cX2_readAnd 15 = .ok (.aload_n 0, 1) := by decide +kernel
theorem dX2_readAnd_16 : decode cX2_readAnd 16 = .ok (.getfield 18, 3) := by decide +kernel
theorem dX2_readAnd_19 : decode cX2_readAnd 19 = .ok (.iconst 4, 1) := by decide +kernel
theorem dX2_readAnd_20 : decode cX2_readAnd 20 = .ok (.if_icmp .ne 25, 3) := by decide +kernel
theorem dX2_readAnd_23 : decode cX2_readAnd 23 = .ok (.aload_n 0, 1) := by decide +kernel
theorem dX2_readAnd_24 : decode cX2_readAnd 24 = .ok (.iconst 4, 1) := by decide +kernel
theorem dX2_readAnd_25 : decode cX2_readAnd 25 = .ok (.invokevirtual 37, 3) := by decide +kernel
theorem dX2_readAnd_28 : decode cX2_readAnd 28 = .ok (.aload_n 0, 1) := by decide +kernel
theorem dX2_readAnd_29 : decode cX2_readAnd 29 = .ok (.aload_n 1, 1) := by decide +kernel
theorem dX2_readAnd_30 : decode cX2_readAnd 30 = .ok (.iload_n 2, 1) := by decide +kernel
theorem dX2_readAnd_31 : decode cX2_readAnd 31 = .ok (.invokevirtual 60, 3) := by decide +kernel
theorem dX2_readAnd_34 : decode cX2_readAnd 34 = .ok (.aload_n 1, 1) := by decide +kernel
theorem dX2_readAnd_35 : decode cX2_readAnd 35 = .ok (.iconst 4, 1) := by decide +kernel
theorem dX2_readAnd_36 : decode cX2_readAnd 36 = .ok (.invokevirtual 57, 3) := by decide +kernel
theorem dX2_readAnd_39 : decode cX2_readAnd 39 = .ok (.iinc 3 1, 3) := by decide +kernel
theorem dX2_readAnd_42 : decode cX2_readAnd 42 = .ok (.goto (-34), 3) := by decide +kernel
theorem dX2_readAnd_45 : decode cX2_readAnd 45 = .ok (.return_, 1) := by decide +kernel
theorem dX2_readNot_0 : decode cX2_readNot 0 = .ok (.aload_n 0, 1) := by decide +kernel
theorem dX2_readNot_1 : decode cX2_readNot 1 = .ok (.getfield 18, 3) := by decide +kernel
theorem dX2_readNot_4 : decode cX2_readNot 4 = .ok (.iconst 5, 1) := by decide +kernel
theorem dX2_readNot_5 : decode cX2_readNot 5 = .ok (.if_icmp .eq 12, 3) := by decide +kernel
theorem dX2_readNot_8 : decode cX2_readNot 8 = .ok (.aload_n 0, 1) := by decide +kernel
theorem dX2_readNot_9 : decode cX2_readNot 9 = .ok (.aload_n 1, 1) := by decide +kernel
theorem dX2_readNot_10 : decode cX2_readNot 10 = .ok (.iload_n 2, 1) := by decide +kernel
theorem dX2_readNot_11 : decode cX2_readNot 11 = .ok (.invokevirtual 63, 3) := by decide +kernel
theorem dX2_readNot_14 : decode cX2_readNot 14 = .ok (.goto 33, 3) := by decide +kernel
theorem dX2_readNot_17 : decode cX2_readNot 17 = .ok (.iload_n 2, 1) := by decide +kernel
theorem dX2_readNot_18 : decode cX2_readNot 18 = .ok (.iconst 5, 1) := by decide +kernel
theorem dX2_readNot_19 : decode cX2_readNot 19 = .ok (.if_icmp .lt 10, 3) := by decide +kernel
theorem dX2_readNot_22 : decode cX2_readNot 22 = .ok (.aload_n 0, 1) := by decide +kernel
theorem dX2_readNot_23 : decode cX2_readNot 23 = .ok (.invokevirtual 48, 3) := by decide +kernel
theorem dX2_readNot_26 : decode cX2_readNot 26 = .ok (.goto 21, 3) := by decide +kernel
theorem dX2_readNot_29 : decode cX2_readNot 29 = .ok (.aload_n 0, 1) := by decide +kernel
theorem dX2_readNot_30 : decode cX2_readNot 30 = .ok (.iconst 5, 1) := by decide +kernel
theorem dX2_readNot_31 : decode cX2_readNot 31 = .ok (.invokevirtual 37, 3) := by decide +kernel
theorem dX2_readNot_34 : decode cX2_readNot 34 = .ok (.aload_n 0, 1) := by decide +kernel
theorem dX2_readNot_35 : decode cX2_readNot 35 = .ok (.aload_n 1, 1) := by decide +kernel
theorem dX2_readNot_36 : decode cX2_readNot 36 = .ok (.iload_n 2, 1) := by decide +kernel
theorem dX2_readNot_37 : decode cX2_readNot 37 = .ok (.iconst 1, 1) := by decide +kernel
theorem dX2_readNot_38 : decode cX2_readNot 38 = .ok (.iadd, 1) := by decide +kernel
theorem dX2_readNot_39 : decode cX2_readNot 39 = .ok (.invokevirtual 60, 3) := by decide +kernel
theorem dX2_readNot_42 : decode cX2_readNot 42 = .ok (.aload_n 1, 1) := by decide +kernel
theorem dX2_readNot_43 : decode cX2_readNot 43 = .ok (.iconst 5, 1) := by decide +kernel
theorem dX2_readNot_44 : decode cX2_readNot 44 = .ok (.invokevirtual 57, 3) := by decide +kernel
theorem dX2_readNot_47 : decode cX2_readNot 47 = .ok (.return_, 1) := by decide +kernel
theorem dX2_readComparison_0 : decode cX2_readComparison 0 = .ok (.aload_n 0, 1) := by decide +kernel
theorem dX2_readComparison_1 : decode cX2_readComparison 1 = .ok (.aload_n 1, 1) := by decide +kernel
theorem dX2_readComparison_2 : decode cX2_readComparison 2 = .ok (.iload_n 2, 1) := by decide +kernel
theorem dX2_readComparison_3 : decode cX2_readComparison 3 = .ok (.invokevirtual 66, 3) := by decide +kernel
theorem dX2_readComparison_6 : decode cX2_readComparison 6 = .ok (.aload_n 0, 1) := by decide +kernel
theorem dX2_readComparison_7 : decode cX2_readComparison 7 = .ok (.getfield 18, 3) := by decide +kernel
theorem dX2_readComparison_10 : decode cX2_readComparison 10 = .ok (.bipush 18, 2) := by decide +kernel
theorem dX2_readComparison_12 : decode cX2_readComparison 12 = .ok (.if_icmp .eq 12, 3) := by decide +kernel
theorem dX2_readComparison_15 : decode cX2_readComparison 15 = .ok (.aload_n 0, 1) := by decide +kernel
theorem dX2_readComparison_16 : decode cX2_readComparison 16 = .ok (.getfield 18, 3) := by decide +kernel
theorem dX2_readComparison_19 : decode cX2_readComparison 19 = .ok (.bipush 19, 2) := by decide +kernel
theorem dX2_readComparison_21 : decode cX2_readComparison 21 = .ok (.if_icmp .ne 24, 3) := by decide +kernel
theorem dX2_readComparison_24 : decode cX2_readComparison 24 = .ok (.aload_n 0, 1) := by decide +kernel
theorem dX2_readComparison_25 : decode cX2_readComparison 25 = .ok (.getfield 18, 3) := by decide +kernel
theorem dX2_readComparison_28 : decode cX2_readComparison 28 = .ok (.istore_n 3, 1) := by decide +kernel
theorem dX2_readComparison_29 : decode cX2_readComparison 29 = .ok (.aload_n 0, 1) := by decide +kernel
theorem dX2_readComparison_30 : decode cX2_readComparison 30 = .ok (.iload_n 3, 1) := by decide +kernel
theorem dX2_readComparison_31 : decode cX2_readComparison 31 = .ok (.invokevirtual 37, 3) := by decide +kernel
theorem dX2_readComparison_34 : decode cX2_readComparison 34 = .ok (.aload_n 0, 1) := by decide +kernel
theorem dX2_readComparison_35 : decode cX2_readComparison 35 = .ok (.aload_n 1, 1) := by decide +kernel
theorem dX2_readComparison_36 : decode cX2_readComparison 36 = .ok (.iload_n 2, 1) := by decide +kernel
theorem dX2_readComparison_37 : decode cX2_readComparison 37 = .ok (.invokevirtual 66, 3) := by decide +kernel
theorem dX2_readComparison_40 : decode cX2_readComparison 40 = .ok (.aload_n 1, 1) := by decide +kernel
theorem dX2_readComparison_41 : decode cX2_readComparison 41 = .ok (.iload_n 3, 1) := by decide +kernel
theorem dX2_readComparison_42 : decode cX2_readComparison 42 = .ok (.invokevirtual 57, 3) := by decide +kernel
theorem dX2_readComparison_45 : decode cX2_readComparison 45 = .ok (.return_, 1) := by decide +kernel
theorem dX2_readSum_0 : decode cX2_readSum 0 = .ok (.aload_n 0, 1) := by decide +kernel
theorem dX2_readSum_1 : decode cX2_readSum 1 = .ok (.aload_n 1, 1) := by decide +kernel
theorem dX2_readSum_2 : decode cX2_readSum 2 = .ok (.iload_n 2, 1) := by decide +kernel
theorem dX2_readSum_3 : decode cX2_readSum 3 = .ok (.invokevirtual 69, 3) := by decide +kernel
theorem dX2_readSum_6 : decode cX2_readSum 6 = .ok (.iconst 0, 1) := by decide +kernel
theorem dX2_readSum_7 : decode cX2_readSum 7 = .ok (.istore_n 3, 1) := by decide +kernel
theorem dX2_readSum_8 : decode cX2_readSum 8 = .ok (.iload_n 3, 1) := by decide +kernel
theorem dX2_readSum_9 : decode cX2_readSum 9 = .ok (.sipush 160, 3) := by decide +kernel
theorem dX2_readSum_12 : decode cX2_readSum 12 = .ok (.if_icmp .ge 51, 3) := by decide +kernel
theorem dX2_readSum_15 : decode cX2_readSum 15 = .ok (.aload_n 0, 1) := by decide +kernel
theorem dX2_readSum_16 : decode cX2_readSum 16 = .ok (.getfield 18, 3) := by decide +kernel
theorem dX2_readSum_19 : decode cX2_readSum 19 = .ok (.bipush 15, 2) := by decide +kernel
theorem dX2_readSum_21 : decode cX2_readSum 21 = .ok (.if_icmp .eq 12, 3) := by decide +kernel
theorem dX2_readSum_24 : decode cX2_readSum 24 = .ok (.aload_n 0, 1) := by decide +kernel
theorem dX2_readSum_25 : decode cX2_readSum 25 = .ok (.getfield 18, 3) := by decide +kernel
theorem dX2_readSum_28 : decode cX2_readSum 28 = .ok (.bipush 16, 2) := by decide +kernel
theorem dX2_readSum_30 : decode cX2_readSum 30 = .ok (.if_icmp .ne 33, 3) := by decide +kernel
theorem dX2_readSum_33 : decode cX2_readSum 33 = .ok (.aload_n 0, 1) := by decide +kernel
theorem dX2_readSum_34 : decode cX2_readSum 34 = .ok (.getfield 18, 3) := by decide +kernel
theorem dX2_readSum_37 : decode cX2_readSum 37 = .ok (.istore 4, 2) := by decide +kernel
theorem dX2_readSum_39 : decode cX2_readSum 39 = .ok (.aload_n 0, 1) := by decide +kernel
theorem dX2_readSum_40 : decode cX2_readSum 40 = .ok (.iload 4, 2) := by decide +kernel
theorem dX2_readSum_42 : decode cX2_readSum 42 = .ok (.invokevirtual 37, 3) := by decide +kernel
theorem dX2_readSum_45 : decode cX2_readSum 45 = .ok (.aload_n 0, 1) := by decide +kernel
theorem dX2_readSum_46 : decode cX2_readSum 46 = .ok (.aload_n 1, 1) := by decide +kernel
theorem dX2_readSum_47 : decode cX2_readSum 47 = .ok (.iload_n 2, 1) := by decide +kernel
theorem dX2_readSum_48 : decode cX2_readSum 48 = .ok (.invokevirtual 69, 3) := by decide +kernel
theorem dX2_readSum_51 : decode cX2_readSum 51 = .ok (.aload_n 1, 1) := by decide +kernel
theorem dX2_readSum_52 : decode cX2_readSum 52 = .ok (.iload 4, 2) := by decide +kernel
theorem dX2_readSum_54 : decode cX2_readSum 54 = .ok (.invokevirtual 57, 3) := by decide +kernel
theorem dX2_readSum_57 : decode cX2_readSum 57 = .ok (.iinc 3 1, 3) := by decide +kernel
theorem dX2_readSum_60 : decode cX2_readSum 60 = .ok (.goto (-52), 3) := by decide +kernel
theorem dX2_readSum_63 : decode cX2_readSum 63 = .ok (.return_, 1) := by decide +kernel
theorem dX2_readTerm_0 : decode cX2_readTerm 0 = .ok (.aload_n 0, 1) := by decide +kernel
theorem dX2_readTerm_1 : decode cX2_readTerm 1 = .ok (.aload_n 1, 1) := by decide +kernel
theorem dX2_readTerm_2 : decode cX2_readTerm 2 = .ok (.iload_n 2, 1) := by decide +kernel
theorem dX2_readTerm_3 : decode cX2_readTerm 3 = .ok (.invokevirtual 72, 3) := by decide +kernel
theorem dX2_readTerm_6 : decode cX2_readTerm 6 = .ok (.iconst 0, 1) := by decide +kernel
theorem dX2_readTerm_7 : decode cX2_readTerm 7 = .ok (.istore_n 3, 1) := by decide +kernel
theorem dX2_readTerm_8 : decode cX2_readTerm 8 = .ok (.iload_n 3, 1) := by decide +kernel
theorem dX2_readTerm_9 : decode cX2_readTerm 9 = .ok (.sipush 160, 3) := by decide +kernel
theorem dX2_readTerm_12 : decode cX2_readTerm 12 = .ok (.if_icmp .ge 36, 3) := by decide +kernel
theorem dX2_readTerm_15 : decode cX2_readTerm 15 = .ok (.aload_n 0, 1) := by decide +kernel
theorem dX2_readTerm_16 : decode cX2_readTerm 16 = .ok (.getfield 18, 3) := by decide +kernel
theorem dX2_readTerm_19 : decode cX2_readTerm 19 = .ok (.bipush 17, 2) := by decide +kernel
theorem dX2_readTerm_21 : decode cX2_readTerm 21 = .ok (.if_icmp .ne 27, 3) := by decide +kernel
theorem dX2_readTerm_24 : decode cX2_readTerm 24 = .ok (.aload_n 0, 1) := by decide +kernel
theorem dX2_readTerm_25 : decode cX2_readTerm 25 = .ok (.bipush 17, 2) := by decide +kernel
theorem dX2_readTerm_27 : decode cX2_readTerm 27 = .ok (.invokevirtual 37, 3) := by decide +kernel
theorem dX2_readTerm_30 : decode cX2_readTerm 30 = .ok (.aload_n 0, 1) := by decide +kernel
theorem dX2_readTerm_31 : decode cX2_readTerm 31 = .ok (.aload_n 1, 1) := by decide +kernel
theorem dX2_readTerm_32 : decode cX2_readTerm 32 = .ok (.iload_n 2, 1) := by decide +kernel
theorem dX2_readTerm_33 : decode cX2_readTerm 33 = .ok (.invokevirtual 72, 3) := by decide +kernel
theorem dX2_readTerm_36 : decode cX2_readTerm 36 = .ok (.aload_n 1, 1) := by decide +kernel
theorem dX2_readTerm_37 : decode cX2_readTerm 37 = .ok (.bipush 17, 2) := by decide +kernel
theorem dX2_readTerm_39 : decode cX2_readTerm 39 = .ok (.invokevirtual 57, 3) := by decide +kernel
theorem dX2_readTerm_42 : decode cX2_readTerm 42 = .ok (.iinc 3 1, 3) := by decide +kernel
theorem dX2_readTerm_45 : decode cX2_readTerm 45 = .ok (.goto (-37), 3) := by decide +kernel
theorem dX2_readTerm_48 : decode cX2_readTerm 48 = .ok (.return_, 1) := by decide +kernel
theorem dX2_readOne_0 : decode cX2_readOne 0 = .ok (.aload_n 0, 1) := by decide +kernel
theorem dX2_readOne_1 : decode cX2_readOne 1 = .ok (.getfield 18, 3) := by decide +kernel
theorem dX2_readOne_4 : decode cX2_readOne 4 = .ok (.bipush 20, 2) := by decide +kernel
theorem dX2_readOne_6 : decode cX2_readOne 6 = .ok (.if_icmp .ne 26, 3) := by decide +kernel
theorem dX2_readOne_9 : decode cX2_readOne 9 = .ok (.aload_n 1, 1) := by decide +kernel
theorem dX2_readOne_10 : decode cX2_readOne 10 = .ok (.bipush 100, 2) := by decide +kernel
theorem dX2_readOne_12 : decode cX2_readOne 12 = .ok (.aload_n 0, 1) := by decide +kernel
theorem dX2_readOne_13 : decode cX2_readOne 13 = .ok (.getfield 12, 3) := by decide +kernel
theorem dX2_readOne_16 : decode cX2_readOne 16 = .ok (.getfield 75, 3) := by decide +kernel
theorem dX2_readOne_19 : decode cX2_readOne 19 = .ok (.iadd, 1) := by decide +kernel
theorem dX2_readOne_20 : decode cX2_readOne 20 = .ok (.invokevirtual 57, 3) := by decide +kernel
theorem dX2_readOne_23 : decode cX2_readOne 23 = .ok (.aload_n 0, 1) := by decide +kernel
theorem dX2_readOne_24 : decode cX2_readOne 24 = .ok (.bipush 20, 2) := by decide +kernel
theorem dX2_readOne_26 : decode cX2_readOne 26 = .ok (.invokevirtual 37, 3) := by decide +kernel
theorem dX2_readOne_29 : decode cX2_readOne 29 = .ok (.goto 118, 3) := by decide +kernel
theorem dX2_readOne_32 : decode cX2_readOne 32 = .ok (.aload_n 0, 1) := by decide +kernel
theorem dX2_readOne_33 : decode cX2_readOne 33 = .ok (.getfield 18, 3) := by decide +kernel
theorem dX2_readOne_36 : decode cX2_readOne 36 = .ok (.bipush 6, 2) := by decide +kernel
theorem dX2_readOne_38 : decode cX2_readOne 38 = .ok (.bipush 11, 2) := by decide +kernel
theorem dX2_readOne_40 : decode cX2_readOne 40 = .ok (.invokestatic 78, 3) := by decide +kernel
theorem dX2_readOne_43 : decode cX2_readOne 43 = .ok (.ifCond .eq 22, 3) := by decide +kernel
theorem dX2_readOne_46 : decode cX2_readOne 46 = .ok (.aload_n 1, 1) := by decide +kernel
theorem dX2_readOne_47 : decode cX2_readOne 47 = .ok (.aload_n 0, 1) := by decide +kernel
theorem dX2_readOne_48 : decode cX2_readOne 48 = .ok (.getfield 18, 3) := by decide +kernel
theorem dX2_readOne_51 : decode cX2_readOne 51 = .ok (.invokevirtual 57, 3) := by decide +kernel
theorem dX2_readOne_54 : decode cX2_readOne 54 = .ok (.aload_n 0, 1) := by decide +kernel
theorem dX2_readOne_55 : decode cX2_readOne 55 = .ok (.aload_n 0, 1) := by decide +kernel
theorem dX2_readOne_56 : decode cX2_readOne 56 = .ok (.getfield 18, 3) := by decide +kernel
theorem dX2_readOne_59 : decode cX2_readOne 59 = .ok (.invokevirtual 37, 3) := by decide +kernel
theorem dX2_readOne_62 : decode cX2_readOne 62 = .ok (.goto 85, 3) := by decide +kernel
theorem dX2_readOne_65 : decode cX2_readOne 65 = .ok (.iload_n 2, 1) := by decide +kernel
theorem dX2_readOne_66 : decode cX2_readOne 66 = .ok (.iconst 5, 1) := by decide +kernel
theorem dX2_readOne_67 : decode cX2_readOne 67 = .ok (.if_icmp .ge 21, 3) := by decide +kernel
theorem dX2_readOne_70 : decode cX2_readOne 70 = .ok (.aload_n 0, 1) := by decide +kernel
theorem dX2_readOne_71 : decode cX2_readOne 71 = .ok (.getfield 18, 3) := by decide +kernel
theorem dX2_readOne_74 : decode cX2_readOne 74 = .ok (.bipush 16, 2) := by decide +kernel
theorem dX2_readOne_76 : decode cX2_readOne 76 = .ok (.if_icmp .eq 19, 3) := by decide +kernel
theorem dX2_readOne_79 : decode cX2_readOne 79 = .ok (.aload_n 0, 1) := by decide +kernel
theorem dX2_readOne_80 : decode cX2_readOne 80 = .ok (.getfield 18, 3) := by decide +kernel
theorem dX2_readOne_83 : decode cX2_readOne 83 = .ok (.bipush 12, 2) := by decide +kernel
theorem dX2_readOne_85 : decode cX2_readOne 85 = .ok (.if_icmp .eq 10, 3) := by decide +kernel
theorem dX2_readOne_88 : decode cX2_readOne 88 = .ok (.aload_n 0, 1) := by decide +kernel
theorem dX2_readOne_89 : decode cX2_readOne 89 = .ok (.invokevirtual 48, 3) := by decide +kernel
theorem dX2_readOne_92 : decode cX2_readOne 92 = .ok (.goto 55, 3) := by decide +kernel
theorem dX2_readOne_95 : decode cX2_readOne 95 = .ok (.aload_n 0, 1) := by decide +kernel
theorem dX2_readOne_96 : decode cX2_readOne 96 = .ok (.getfield 18, 3) := by decide +kernel
theorem dX2_readOne_99 : decode cX2_readOne 99 = .ok (.bipush 16, 2) := by decide +kernel
theorem dX2_readOne_101 : decode cX2_readOne 101 = .ok (.if_icmp .ne 26, 3) := by decide +kernel
theorem dX2_readOne_104 : decode cX2_readOne 104 = .ok (.aload_n 0, 1) := by decide +kernel
theorem dX2_readOne_105 : decode cX2_readOne 105 = .ok (.bipush 16, 2) := by decide +kernel
theorem dX2_readOne_107 : decode cX2_readOne 107 = .ok (.invokevirtual 37, 3) := by decide +kernel
theorem dX2_readOne_110 : decode cX2_readOne 110 = .ok (.aload_n 0, 1) := by decide +kernel
theorem dX2_readOne_111 : decode cX2_readOne 111 = .ok (.aload_n 1, 1) := by decide +kernel
theorem dX2_readOne_112 : decode cX2_readOne 112 = .ok (.iload_n 2, 1) := by decide +kernel
theorem dX2_readOne_113 : decode cX2_readOne 113 = .ok (.iconst 1, 1) := by decide +kernel
theorem dX2_readOne_114 : decode cX2_readOne 114 = .ok (.iadd, 1) := by decide +kernel
theorem dX2_readOne_115 : decode cX2_readOne 115 = .ok (.invokevirtual 72, 3) := by decide +kernel
theorem dX2_readOne_118 : decode cX2_readOne 118 = .ok (.aload_n 1, 1) := by decide +kernel
theorem dX2_readOne_119 : decode cX2_readOne 119 = .ok (.bipush 23, 2) := by decide +kernel
theorem dX2_readOne_121 : decode cX2_readOne 121 = .ok (.invokevirtual 57, 3) := by decide +kernel
theorem dX2_readOne_124 : decode cX2_readOne 124 = .ok (.goto 23, 3) := by decide +kernel
theorem dX2_readOne_127 : decode cX2_readOne 127 = .ok (.aload_n 0, 1) := by decide +kernel
theorem dX2_readOne_128 : decode cX2_readOne 128 = .ok (.bipush 12, 2) := by decide +kernel
theorem dX2_readOne_130 : decode cX2_readOne 130 = .ok (.invokevirtual 37, 3) := by decide +kernel
theorem dX2_readOne_133 : decode cX2_readOne 133 = .ok (.aload_n 0, 1) := by decide +kernel
theorem dX2_readOne_134 : decode cX2_readOne 134 = .ok (.aload_n 1, 1) := by decide +kernel
theorem dX2_readOne_135 : decode cX2_readOne 135 = .ok (.iload_n 2, 1) := by decide +kernel
theorem dX2_readOne_136 : decode cX2_readOne 136 = .ok (.iconst 1, 1) := by decide +kernel
theorem dX2_readOne_137 : decode cX2_readOne 137 = .ok (.iadd, 1) := by decide +kernel
theorem dX2_readOne_138 : decode cX2_readOne 138 = .ok (.invokevirtual 41, 3) := by decide +kernel
theorem dX2_readOne_141 : decode cX2_readOne 141 = .ok (.aload_n 0, 1) := by decide +kernel
theorem dX2_readOne_142 : decode cX2_readOne 142 = .ok (.bipush 13, 2) := by decide +kernel
theorem dX2_readOne_144 : decode cX2_readOne 144 = .ok (.invokevirtual 37, 3) := by decide +kernel
theorem dX2_readOne_147 : decode cX2_readOne 147 = .ok (.return_, 1) := by decide +kernel
theorem dX3_init_0 : decode cX3_init 0 = .ok (.aload_n 0, 1) := by decide +kernel
theorem dX3_init_1 : decode cX3_init 1 = .ok (.invokespecial 3, 3) := by decide +kernel
theorem dX3_init_4 : decode cX3_init 4 = .ok (.aload_n 0, 1) := by decide +kernel
theorem dX3_init_5 : decode cX3_init 5 = .ok (.bipush 7, 2) := by decide +kernel
theorem dX3_init_7 : decode cX3_init 7 = .ok (.newarray .int, 2) := by decide +kernel
theorem dX3_init_9 : decode cX3_init 9 = .ok (.putfield 9, 3) := by decide +kernel
theorem dX3_init_12 : decode cX3_init 12 = .ok (.aload_n 0, 1) := by decide +kernel
theorem dX3_init_13 : decode cX3_init 13 = .ok (.bipush 7, 2) := by decide +kernel
theorem dX3_init_15 : decode cX3_init 15 = .ok (.newarray .int, 2) := by decide +kernel
theorem dX3_init_17 : decode cX3_init 17 = .ok (.putfield 15, 3) := by decide +kernel
theorem dX3_init_20 : decode cX3_init 20 = .ok (.aload_n 0, 1) := by decide +kernel
theorem dX3_init_21 : decode cX3_init 21 = .ok (.bipush 7, 2) := by decide +kernel
theorem dX3_init_23 : decode cX3_init 23 = .ok (.newarray .int, 2) := by decide +kernel
theorem dX3_init_25 : decode cX3_init 25 = .ok (.putfield 18, 3) := by decide +kernel
theorem dX3_init_28 : decode cX3_init 28 = .ok (.aload_n 0, 1) := by decide +kernel
theorem dX3_init_29 : decode cX3_init 29 = .ok (.bipush 7, 2) := by decide +kernel
theorem dX3_init_31 : decode cX3_init 31 = .ok (.newarray .boolean, 2) := by decide +kernel
theorem dX3_init_33 : decode cX3_init 33 = .ok (.putfield 21, 3) := by decide +kernel
theorem dX3_init_36 : decode cX3_init 36 = .ok (.aload_n 0, 1) := by decide +kernel
theorem dX3_init_37 : decode cX3_init 37 = .ok (.bipush 7, 2) := by decide +kernel
theorem dX3_init_39 : decode cX3_init 39 = .ok (.newarray .int, 2) := by decide +kernel
theorem dX3_init_41 : decode cX3_init 41 = .ok (.putfield 25, 3) := by decide +kernel
theorem dX3_init_44 : decode cX3_init 44 = .ok (.aload_n 0, 1) := by decide +kernel
theorem dX3_init_45 : decode cX3_init 45 = .ok (.iconst 0, 1) := by decide +kernel
theorem dX3_init_46 : decode cX3_init 46 = .ok (.putfield 28, 3) := by decide +kernel
theorem dX3_init_49 : decode cX3_init 49 = .ok (.aload_n 0, 1) := by decide +kernel
theorem dX3_init_50 : decode cX3_init 50 = .ok (.iconst 0, 1) := by decide +kernel
theorem dX3_init_51 : decode cX3_init 51 = .ok (.putfield 32, 3) := by decide +kernel
theorem dX3_init_54 : decode cX3_init 54 = .ok (.aload_n 0, 1) := by decide +kernel
theorem dX3_init_55 : decode cX3_init 55 = .ok (.iconst 0, 1) := by decide +kernel
theorem dX3_init_56 : decode cX3_init 56 = .ok (.putfield 35, 3) := by decide +kernel
theorem dX3_init_59 : decode cX3_init 59 = .ok (.return_, 1) := by decide +kernel
theorem dX3_setOut_0 : decode cX3_setOut 0 = .ok (.iconst 0, 1) := by decide +kernel
theorem dX3_setOut_1 : decode cX3_setOut 1 = .ok (.istore 6, 2) := by decide +kernel
theorem dX3_setOut_3 : decode cX3_setOut 3 = .ok (.iload 6, 2) := by decide +kernel
theorem dX3_setOut_5 : decode cX3_setOut 5 = .ok (.bipush 7, 2) := by decide +kernel
theorem dX3_setOut_7 : decode cX3_setOut 7 = .ok (.if_icmp .ge 54, 3) := by decide +kernel
theorem dX3_setOut_10 : decode cX3_setOut 10 = .ok (.aload_n 0, 1) := by decide +kernel
theorem dX3_setOut_11 : decode cX3_setOut 11 = .ok (.getfield 9, 3) := by decide +kernel
theorem dX3_setOut_14 : decode cX3_setOut 14 = .ok (.iload 6, 2) := by decide +kernel
theorem dX3_setOut_16 : decode cX3_setOut 16 = .ok (.iload 6, 2) := by decide +kernel
theorem dX3_setOut_18 : decode cX3_setOut 18 = .ok (.iload 4, 2) := by decide +kernel
theorem dX3_setOut_20 : decode cX3_setOut 20 = .ok (.if_icmp .ne 7, 3) := by decide +kernel
theorem dX3_setOut_23 : decode cX3_setOut 23 = .ok (.iconst 0, 1) := by decide +kernel
theorem dX3_setOut_24 : decode cX3_setOut 24 = .ok (.goto 5, 3) := by decide +kernel
theorem dX3_setOut_27 : decode cX3_setOut 27 = .ok (.ldc 38, 2) := by decide +kernel
theorem dX3_setOut_29 : decode cX3_setOut 29 = .ok (.iastore, 1) := by decide +kernel
theorem dX3_setOut_30 : decode cX3_setOut 30 = .ok (.aload_n 0, 1) := by decide +kernel
theorem dX3_setOut_31 : decode cX3_setOut 31 = .ok (.getfield 15, 3) := by decide +kernel
theorem dX3_setOut_34 : decode cX3_setOut 34 = .ok (.iload 6, 2) := by decide +kernel
theorem dX3_setOut_36 : decode cX3_setOut 36 = .ok (.iconst (-1), 1) := by decide +kernel
theorem dX3_setOut_37 : decode cX3_setOut 37 = .ok (.iastore, 1) := by decide +kernel
theorem dX3_setOut_38 : decode cX3_setOut 38 = .ok (.aload_n 0, 1) := by decide +kernel
theorem dX3_setOut_39 : decode cX3_setOut 39 = .ok (.getfield 18, 3) := by decide +kernel
theorem dX3_setOut_42 : decode cX3_setOut 42 = .ok (.iload 6, 2) := by decide +kernel
theorem dX3_setOut_44 : decode cX3_setOut 44 = .ok (.iload 4, 2) := by decide +kernel
theorem dX3_setOut_46 : decode cX3_setOut 46 = .ok (.iastore, 1) := by decide +kernel
theorem dX3_setOut_47 : decode cX3_setOut 47 = .ok (.aload_n 0, 1) := by decide +kernel
theorem dX3_setOut_48 : decode cX3_setOut 48 = .ok (.getfield 21, 3) := by decide +kernel
theorem dX3_setOut_51 : decode cX3_setOut 51 = .ok (.iload 6, 2) := by decide +kernel
theorem dX3_setOut_53 : decode cX3_setOut 53 = .ok (.iconst 0, 1) := by decide +kernel
theorem dX3_setOut_54 : decode cX3_setOut 54 = .ok (.bastore, 1) := by decide +kernel
theorem dX3_setOut_55 : decode cX3_setOut 55 = .ok (.iinc 6 1, 3) := by decide +kernel
theorem dX3_setOut_58 : decode cX3_setOut 58 = .ok (.goto (-55), 3) := by decide +kernel
theorem dX3_setOut_61 : decode cX3_setOut 61 = .ok (.iconst 0, 1) := by decide +kernel
theorem dX3_setOut_62 : decode cX3_setOut 62 = .ok (.istore 6, 2) := by decide +kernel
theorem dX3_setOut_64 : decode cX3_setOut 64 = .ok (.iload 6, 2) := by decide +kernel
theorem dX3_setOut_66 : decode cX3_setOut 66 = .ok (.bipush 7, 2) := by decide +kernel
theorem dX3_setOut_68 : decode cX3_setOut 68 = .ok (.if_icmp .ge 55, 3) := by decide +kernel
theorem dX3_setOut_71 : decode cX3_setOut 71 = .ok (.aload_n 0, 1) := by decide +kernel
theorem dX3_setOut_72 : decode cX3_setOut 72 = .ok (.invokevirtual 39, 3) := by decide +kernel
theorem dX3_setOut_75 : decode cX3_setOut 75 = .ok (.istore 7, 2) := by decide +kernel
theorem dX3_setOut_77 : decode cX3_setOut 77 = .ok (.iload 7, 2) := by decide +kernel
theorem dX3_setOut_79 : decode cX3_setOut 79 = .ok (.iload 5, 2) := by decide +kernel
theorem dX3_setOut_81 : decode cX3_setOut 81 = .ok (.if_icmp .eq 9, 3) := by decide +kernel
theorem dX3_setOut_84 : decode cX3_setOut 84 = .ok (.iload 7, 2) := by decide +kernel
theorem dX3_setOut_86 : decode cX3_setOut 86 = .ok (.iconst (-1), 1) := by decide +kernel
theorem dX3_setOut_87 : decode cX3_setOut 87 = .ok (.if_icmp .ne 4, 3) := by decide +kernel
theorem dX3_setOut_90 : decode cX3_setOut 90 = .ok (.return_, 1) := by decide +kernel
theorem dX3_setOut_91 : decode cX3_setOut 91 = .ok (.aload_n 0, 1) := by decide +kernel
theorem dX3_setOut_92 : decode cX3_setOut 92 = .ok (.getfield 21, 3) := by decide +kernel
theorem dX3_setOut_95 : decode cX3_setOut 95 = .ok (.iload 7, 2) := by decide +kernel
theorem dX3_setOut_97 : decode cX3_setOut 97 = .ok (.iconst 1, 1) := by decide +kernel
theorem dX3_setOut_98 : decode cX3_setOut 98 = .ok (.bastore, 1) := by decide +kernel
theorem dX3_setOut_99 : decode cX3_setOut 99 = .ok (.aload_n 0, 1) := by decide +kernel
theorem dX3_setOut_100 : decode cX3_setOut 100 = .ok (.aload_n 2, 1) := by decide +kernel
theorem dX3_setOut_101 : decode cX3_setOut 101 = .ok (.iload_n 3, 1) := by decide +kernel
theorem dX3_setOut_102 : decode cX3_setOut 102 = .ok (.iload 7, 2) := by decide +kernel
theorem dX3_setOut_104 : decode cX3_setOut 104 = .ok (.invokevirtual 43, 3) := by decide +kernel
theorem dX3_setOut_107 : decode cX3_setOut 107 = .ok (.aload_n 0, 1) := by decide +kernel
theorem dX3_setOut_108 : decode cX3_setOut 108 = .ok (.aload_n 1, 1) := by decide +kernel
theorem dX3_setOut_109 : decode cX3_setOut 109 = .ok (.iload 7, 2) := by decide +kernel
theorem dX3_setOut_111 : decode cX3_setOut 111 = .ok (.aaload, 1) := by decide +kernel
theorem dX3_setOut_112 : decode cX3_setOut 112 = .ok (.iload 7, 2) := by decide +kernel
theorem dX3_setOut_114 : decode cX3_setOut 114 = .ok (.invokevirtual 47, 3) := by decide +kernel
theorem dX3_setOut_117 : decode cX3_setOut 117 = .ok (.iinc 6 1, 3) := by decide +kernel
theorem dX3_setOut_120 : decode cX3_setOut 120 = .ok (.goto (-56), 3) := by decide +kernel
theorem dX3_setOut_123 : decode cX3_setOut 123 = .ok (.return_, 1) := by decide +kernel
theorem dX3_soonestNotLeft_0 : decode cX3_soonestNotLeft 0 = .ok (.iconst (-1), 1) := by decide +kernel
theorem dX3_soonestNotLeft_1 : decode cX3_soonestNotLeft 1 = .ok (.istore_n 1, 1) := by decide +kernel
theorem dX3_soonestNotLeft_2 : decode cX3_soonestNotLeft 2 = .ok (.iconst 0, 1) := by decide +kernel
theorem dX3_soonestNotLeft_3 : decode cX3_soonestNotLeft 3 = .ok (.istore_n 2, 1) := by decide +kernel
theorem dX3_soonestNotLeft_4 : decode cX3_soonestNotLeft 4 = .ok (.iload_n 2, 1) := by decide +kernel
theorem dX3_soonestNotLeft_5 : decode cX3_soonestNotLeft 5 = .ok (.bipush 7, 2) := by decide +kernel
theorem dX3_soonestNotLeft_7 : decode cX3_soonestNotLeft 7 = .ok (.if_icmp .ge 40, 3) := by decide +kernel
theorem dX3_soonestNotLeft_10 : decode cX3_soonestNotLeft 10 = .ok (.aload_n 0, 1) := by decide +kernel
theorem dX3_soonestNotLeft_11 : decode cX3_soonestNotLeft 11 = .ok (.getfield 21, 3) := by decide +kernel
theorem dX3_soonestNotLeft_14 : decode cX3_soonestNotLeft 14 = .ok (.iload_n 2, 1) := by decide +kernel
theorem dX3_soonestNotLeft_15 : decode cX3_soonestNotLeft 15 = .ok (.baload, 1) := by decide +kernel
theorem dX3_soonestNotLeft_16 : decode cX3_soonestNotLeft 16 = .ok (.ifCond .ne 25, 3) := by decide +kernel
theorem dX3_soonestNotLeft_19 : decode cX3_soonestNotLeft 19 = .ok (.iload_n 1, 1) := by decide +kernel
theorem dX3_soonestNotLeft_20 : decode cX3_soonestNotLeft 20 = .ok (.iconst (-1), 1) := by decide +kernel
theorem dX3_soonestNotLeft_21 : decode cX3_soonestNotLeft 21 = .ok (.if_icmp .eq 18, 3) := by decide +kernel
theorem dX3_soonestNotLeft_24 : decode cX3_soonestNotLeft 24 = .ok (.aload_n 0, 1) := by decide +kernel
theorem dX3_soonestNotLeft_25 : decode cX3_soonestNotLeft 25 = .ok (.getfield 9, 3) := by decide +kernel
theorem dX3_soonestNotLeft_28 : decode cX3_soonestNotLeft 28 = .ok (.iload_n 2, 1) := by decide +kernel
theorem dX3_soonestNotLeft_29 : decode cX3_soonestNotLeft 29 = .ok (.iaload, 1) := by decide +kernel
theorem dX3_soonestNotLeft_30 : decode cX3_soonestNotLeft 30 = .ok (.aload_n 0, 1) := by decide +kernel
theorem dX3_soonestNotLeft_31 : decode cX3_soonestNotLeft 31 = .ok (.getfield 9, 3) := by decide +kernel
theorem dX3_soonestNotLeft_34 : decode cX3_soonestNotLeft 34 = .ok (.iload_n 1, 1) := by decide +kernel
theorem dX3_soonestNotLeft_35 : decode cX3_soonestNotLeft 35 = .ok (.iaload, 1) := by decide +kernel
theorem dX3_soonestNotLeft_36 : decode cX3_soonestNotLeft 36 = .ok (.if_icmp .ge 5, 3) := by decide +kernel
theorem dX3_soonestNotLeft_39 : decode cX3_soonestNotLeft 39 = .ok (.iload_n 2, 1) := by decide +kernel
theorem dX3_soonestNotLeft_40 : decode cX3_soonestNotLeft 40 = .ok (.istore_n 1, 1) := by decide +kernel
theorem dX3_soonestNotLeft_41 : decode cX3_soonestNotLeft 41 = .ok (.iinc 2 1, 3) := by decide +kernel
theorem dX3_soonestNotLeft_44 : decode cX3_soonestNotLeft 44 = .ok (.goto (-40), 3) := by decide +kernel
theorem dX3_soonestNotLeft_47 : decode cX3_soonestNotLeft 47 = .ok (.iload_n 1, 1) := by decide +kernel
theorem dX3_soonestNotLeft_48 : decode cX3_soonestNotLeft 48 = .ok (.ireturn, 1) := by decide +kernel
theorem dX3_leaveByHorse_0 : decode cX3_leaveByHorse 0 = .ok (.iconst 0, 1) := by decide +kernel
theorem dX3_leaveByHorse_1 : decode cX3_leaveByHorse 1 = .ok (.istore 4, 2) := by decide +kernel
theorem dX3_leaveByHorse_3 : decode cX3_leaveByHorse 3 = .ok (.iload 4, 2) := by decide +kernel
theorem dX3_leaveByHorse_5 : decode cX3_leaveByHorse 5 = .ok (.bipush 7, 2) := by decide +kernel
theorem dX3_leaveByHorse_7 : decode cX3_leaveByHorse 7 = .ok (.if_icmp .ge 62, 3) := by decide +kernel
theorem dX3_leaveByHorse_10 : decode cX3_leaveByHorse 10 = .ok (.iload_n 2, 1) := by decide +kernel
theorem dX3_leaveByHorse_11 : decode cX3_leaveByHorse 11 = .ok (.iload 4, 2) := by decide +kernel
theorem dX3_leaveByHorse_13 : decode cX3_leaveByHorse 13 = .ok (.invokestatic 51, 3) := by decide +kernel
theorem dX3_leaveByHorse_16 : decode cX3_leaveByHorse 16 = .ok (.ifCond .eq 47, 3) := by decide +kernel
theorem dX3_leaveByHorse_19 : decode cX3_leaveByHorse 19 = .ok (.aload_n 1, 1) := by decide +kernel
theorem dX3_leaveByHorse_20 : decode cX3_leaveByHorse 20 = .ok (.iload 4, 2) := by decide +kernel
theorem dX3_leaveByHorse_22 : decode cX3_leaveByHorse 22 = .ok (.aaload, 1) := by decide +kernel
theorem dX3_leaveByHorse_23 : decode cX3_leaveByHorse 23 = .ok (.iload_n 3, 1) := by decide +kernel
theorem dX3_leaveByHorse_24 : decode cX3_leaveByHorse 24 = .ok (.invokevirtual 55, 3) := by decide +kernel
theorem dX3_leaveByHorse_27 : decode cX3_leaveByHorse 27 = .ok (.istore 5, 2) := by decide +kernel
theorem dX3_leaveByHorse_29 : decode cX3_leaveByHorse 29 = .ok (.iload 5, 2) := by decide +kernel
theorem dX3_leaveByHorse_31 : decode cX3_leaveByHorse 31 = .ok (.iconst (-1), 1) := by decide +kernel
theorem dX3_leaveByHorse_32 : decode cX3_leaveByHorse 32 = .ok (.if_icmp .eq 31, 3) := by decide +kernel
theorem dX3_leaveByHorse_35 : decode cX3_leaveByHorse 35 = .ok (.iload 5, 2) := by decide +kernel
theorem dX3_leaveByHorse_37 : decode cX3_leaveByHorse 37 = .ok (.iload_n 3, 1) := by decide +kernel
theorem dX3_leaveByHorse_38 : decode cX3_leaveByHorse 38 = .ok (.if_icmp .eq 25, 3) := by decide +kernel
theorem dX3_leaveByHorse_41 : decode cX3_leaveByHorse 41 = .ok (.aload_n 0, 1) := by decide +kernel
theorem dX3_leaveByHorse_42 : decode cX3_leaveByHorse 42 = .ok (.iload 5, 2) := by decide +kernel
theorem dX3_leaveByHorse_44 : decode cX3_leaveByHorse 44 = .ok (.aload_n 1, 1) := by decide +kernel
theorem dX3_leaveByHorse_45 : decode cX3_leaveByHorse 45 = .ok (.iload 4, 2) := by decide +kernel
theorem dX3_leaveByHorse_47 : decode cX3_leaveByHorse 47 = .ok (.aaload, 1) := by decide +kernel
theorem dX3_leaveByHorse_48 : decode cX3_leaveByHorse 48 = .ok (.aload_n 0, 1) := by decide +kernel
theorem dX3_leaveByHorse_49 : decode cX3_leaveByHorse 49 = .ok (.getfield 9, 3) := by decide +kernel
theorem dX3_leaveByHorse_52 : decode cX3_leaveByHorse 52 = .ok (.iload_n 3, 1) := by decide +kernel
theorem dX3_leaveByHorse_53 : decode cX3_leaveByHorse 53 = .ok (.iaload, 1) := by decide +kernel
theorem dX3_leaveByHorse_54 : decode cX3_leaveByHorse 54 = .ok (.invokevirtual 61, 3) := by decide +kernel
theorem dX3_leaveByHorse_57 : decode cX3_leaveByHorse 57 = .ok (.iload 4, 2) := by decide +kernel
theorem dX3_leaveByHorse_59 : decode cX3_leaveByHorse 59 = .ok (.iload_n 3, 1) := by decide +kernel
theorem dX3_leaveByHorse_60 : decode cX3_leaveByHorse 60 = .ok (.invokevirtual 64, 3) := by decide +kernel
theorem dX3_leaveByHorse_63 : decode cX3_leaveByHorse 63 = .ok (.iinc 4 1, 3) := by decide +kernel
theorem dX3_leaveByHorse_66 : decode cX3_leaveByHorse 66 = .ok (.goto (-63), 3) := by decide +kernel
theorem dX3_leaveByHorse_69 : decode cX3_leaveByHorse 69 = .ok (.return_, 1) := by decide +kernel
theorem dX3_leaveOnFoot_0 : decode cX3_leaveOnFoot 0 = .ok (.iconst 0, 1) := by decide +kernel
theorem dX3_leaveOnFoot_1 : decode cX3_leaveOnFoot 1 = .ok (.istore_n 3, 1) := by decide +kernel
theorem dX3_leaveOnFoot_2 : decode cX3_leaveOnFoot 2 = .ok (.iload_n 3, 1) := by decide +kernel
theorem dX3_leaveOnFoot_3 : decode cX3_leaveOnFoot 3 = .ok (.bipush 7, 2) := by decide +kernel
theorem dX3_leaveOnFoot_5 : decode cX3_leaveOnFoot 5 = .ok (.if_icmp .ge 32, 3) := by decide +kernel
theorem dX3_leaveOnFoot_8 : decode cX3_leaveOnFoot 8 = .ok (.iload_n 3, 1) := by decide +kernel
theorem dX3_leaveOnFoot_9 : decode cX3_leaveOnFoot 9 = .ok (.iload_n 2, 1) := by decide +kernel
theorem dX3_leaveOnFoot_10 : decode cX3_leaveOnFoot 10 = .ok (.if_icmp .eq 21, 3) := by decide +kernel
theorem dX3_leaveOnFoot_13 : decode cX3_leaveOnFoot 13 = .ok (.aload_n 0, 1) := by decide +kernel
theorem dX3_leaveOnFoot_14 : decode cX3_leaveOnFoot 14 = .ok (.iload_n 3, 1) := by decide +kernel
theorem dX3_leaveOnFoot_15 : decode cX3_leaveOnFoot 15 = .ok (.aload_n 0, 1) := by decide +kernel
theorem dX3_leaveOnFoot_16 : decode cX3_leaveOnFoot 16 = .ok (.getfield 9, 3) := by decide +kernel
theorem dX3_leaveOnFoot_19 : decode cX3_leaveOnFoot 19 = .ok (.iload_n 2, 1) := by decide +kernel
theorem dX3_leaveOnFoot_20 : decode cX3_leaveOnFoot 20 = .ok (.iaload, 1) := by decide +kernel
theorem dX3_leaveOnFoot_21 : decode cX3_leaveOnFoot 21 = .ok (.aload_n 1, 1) := by decide +kernel
theorem dX3_leaveOnFoot_22 : decode cX3_leaveOnFoot 22 = .ok (.iload_n 3, 1) := by decide +kernel
theorem dX3_leaveOnFoot_23 : decode cX3_leaveOnFoot 23 = .ok (.iaload, 1) := by decide +kernel
theorem dX3_leaveOnFoot_24 : decode cX3_leaveOnFoot 24 = .ok (.iadd, 1) := by decide +kernel
theorem dX3_leaveOnFoot_25 : decode cX3_leaveOnFoot 25 = .ok (.bipush 7, 2) := by decide +kernel
theorem dX3_leaveOnFoot_27 : decode cX3_leaveOnFoot 27 = .ok (.iload_n 2, 1) := by decide +kernel
theorem dX3_leaveOnFoot_28 : decode cX3_leaveOnFoot 28 = .ok (.invokevirtual 64, 3) := by decide +kernel
theorem dX3_leaveOnFoot_31 : decode cX3_leaveOnFoot 31 = .ok (.iinc 3 1, 3) := by decide +kernel
theorem dX3_leaveOnFoot_34 : decode cX3_leaveOnFoot 34 = .ok (.goto (-32), 3) := by decide +kernel
theorem dX3_leaveOnFoot_37 : decode cX3_leaveOnFoot 37 = .ok (.return_, 1) := by decide +kernel
theorem dX3_arrive_0 : decode cX3_arrive 0 = .ok (.iload_n 2, 1) := by decide +kernel
theorem dX3_arrive_1 : decode cX3_arrive 1 = .ok (.aload_n 0, 1) := by decide +kernel
theorem dX3_arrive_2 : decode cX3_arrive 2 = .ok (.getfield 9, 3) := by decide +kernel
theorem dX3_arrive_5 : decode cX3_arrive 5 = .ok (.iload_n 1, 1) := by decide +kernel
theorem dX3_arrive_6 : decode cX3_arrive 6 = .ok (.iaload, 1) := by decide +kernel
theorem dX3_arrive_7 : decode cX3_arrive 7 = .ok (.if_icmp .ge 25, 3) := by decide +kernel
theorem dX3_arrive_10 : decode cX3_arrive 10 = .ok (.aload_n 0, 1) := by decide +kernel
theorem dX3_arrive_11 : decode cX3_arrive 11 = .ok (.getfield 9, 3) := by decide +kernel
theorem dX3_arrive_14 : decode cX3_arrive 14 = .ok (.iload_n 1, 1) := by decide +kernel
theorem dX3_arrive_15 : decode cX3_arrive 15 = .ok (.iload_n 2, 1) := by decide +kernel
theorem dX3_arrive_16 : decode cX3_arrive 16 = .ok (.iastore, 1) := by decide +kernel
theorem dX3_arrive_17 : decode cX3_arrive 17 = .ok (.aload_n 0, 1) := by decide +kernel
theorem dX3_arrive_18 : decode cX3_arrive 18 = .ok (.getfield 15, 3) := by decide +kernel
theorem dX3_arrive_21 : decode cX3_arrive 21 = .ok (.iload_n 1, 1) := by decide +kernel
theorem dX3_arrive_22 : decode cX3_arrive 22 = .ok (.iload_n 3, 1) := by decide +kernel
theorem dX3_arrive_23 : decode cX3_arrive 23 = .ok (.iastore, 1) := by decide +kernel
theorem dX3_arrive_24 : decode cX3_arrive 24 = .ok (.aload_n 0, 1) := by decide +kernel
theorem dX3_arrive_25 : decode cX3_arrive 25 = .ok (.getfield 18, 3) := by decide +kernel
theorem dX3_arrive_28 : decode cX3_arrive 28 = .ok (.iload_n 1, 1) := by decide +kernel
theorem dX3_arrive_29 : decode cX3_arrive 29 = .ok (.iload 4, 2) := by decide +kernel
theorem dX3_arrive_31 : decode cX3_arrive 31 = .ok (.iastore, 1) := by decide +kernel
theorem dX3_arrive_32 : decode cX3_arrive 32 = .ok (.return_, 1) := by decide +kernel
theorem dX3_soonAt_0 : decode cX3_soonAt 0 = .ok (.aload_n 0, 1) := by decide +kernel
theorem dX3_soonAt_1 : decode cX3_soonAt 1 = .ok (.getfield 9, 3) := by decide +kernel
theorem dX3_soonAt_4 : decode cX3_soonAt 4 = .ok (.iload_n 1, 1) := by decide +kernel
theorem dX3_soonAt_5 : decode cX3_soonAt 5 = .ok (.iaload, 1) := by decide +kernel
theorem dX3_soonAt_6 : decode cX3_soonAt 6 = .ok (.ireturn, 1) := by decide +kernel
theorem dX3_greatestSoon_0 : decode cX3_greatestSoon 0 = .ok (.iconst 0, 1) := by decide +kernel
theorem dX3_greatestSoon_1 : decode cX3_greatestSoon 1 = .ok (.istore_n 1, 1) := by decide +kernel
theorem dX3_greatestSoon_2 : decode cX3_greatestSoon 2 = .ok (.iconst 0, 1) := by decide +kernel
theorem dX3_greatestSoon_3 : decode cX3_greatestSoon 3 = .ok (.istore_n 2, 1) := by decide +kernel
theorem dX3_greatestSoon_4 : decode cX3_greatestSoon 4 = .ok (.iload_n 2, 1) := by decide +kernel
theorem dX3_greatestSoon_5 : decode cX3_greatestSoon 5 = .ok (.bipush 7, 2) := by decide +kernel
theorem dX3_greatestSoon_7 : decode cX3_greatestSoon 7 = .ok (.if_icmp .ge 20, 3) := by decide +kernel
theorem dX3_greatestSoon_10 : decode cX3_greatestSoon 10 = .ok (.iload_n 1, 1) := by decide +kernel
theorem dX3_greatestSoon_11 : decode cX3_greatestSoon 11 = .ok (.aload_n 0, 1) := by decide +kernel
theorem dX3_greatestSoon_12 : decode cX3_greatestSoon 12 = .ok (.getfield 9, 3) := by decide +kernel
theorem dX3_greatestSoon_15 : decode cX3_greatestSoon 15 = .ok (.iload_n 2, 1) := by decide +kernel
theorem dX3_greatestSoon_16 : decode cX3_greatestSoon 16 = .ok (.iaload, 1) := by decide +kernel
theorem dX3_greatestSoon_17 : decode cX3_greatestSoon 17 = .ok (.invokestatic 68, 3) := by decide +kernel
theorem dX3_greatestSoon_20 : decode cX3_greatestSoon 20 = .ok (.istore_n 1, 1) := by decide +kernel
theorem dX3_greatestSoon_21 : decode cX3_greatestSoon 21 = .ok (.iinc 2 1, 3) := by decide +kernel
theorem dX3_greatestSoon_24 : decode cX3_greatestSoon 24 = .ok (.goto (-20), 3) := by decide +kernel
theorem dX3_greatestSoon_27 : decode cX3_greatestSoon 27 = .ok (.iload_n 1, 1) := by decide +kernel
theorem dX3_greatestSoon_28 : decode cX3_greatestSoon 28 = .ok (.ireturn, 1) := by decide +kernel
theorem dX3_traceTo_0 : decode cX3_traceTo 0 = .ok (.aload_n 0, 1) := by decide +kernel
theorem dX3_traceTo_1 : decode cX3_traceTo 1 = .ok (.iconst 0, 1) := by decide +kernel
theorem dX3_traceTo_2 : decode cX3_traceTo 2 = .ok (.putfield 28, 3) := by decide +kernel
theorem dX3_traceTo_5 : decode cX3_traceTo 5 = .ok (.aload_n 0, 1) := by decide +kernel
theorem dX3_traceTo_6 : decode cX3_traceTo 6 = .ok (.iconst 0, 1) := by decide +kernel
theorem dX3_traceTo_7 : decode cX3_traceTo 7 = .ok (.putfield 32, 3) := by decide +kernel
theorem dX3_traceTo_10 : decode cX3_traceTo 10 = .ok (.aload_n 0, 1) := by decide +kernel
theorem dX3_traceTo_11 : decode cX3_traceTo 11 = .ok (.iconst 0, 1) := by decide +kernel
theorem dX3_traceTo_12 : decode cX3_traceTo 12 = .ok (.putfield 35, 3) := by decide +kernel
theorem dX3_traceTo_15 : decode cX3_traceTo 15 = .ok (.iload_n 1, 1) := by decide +kernel
theorem dX3_traceTo_16 : decode cX3_traceTo 16 = .ok (.istore_n 2, 1) := by decide +kernel
theorem dX3_traceTo_17 : decode cX3_traceTo 17 = .ok (.iconst 0, 1) := by decide +kernel
theorem dX3_traceTo_18 : decode cX3_traceTo 18 = .ok (.istore_n 3, 1) := by decide +kernel
theorem dX3_traceTo_19 : decode cX3_traceTo 19 = .ok (.iload_n 3, 1) := by decide +kernel
theorem dX3_traceTo_20 : decode cX3_traceTo 20 = .ok (.bipush 7, 2) := by decide +kernel
theorem dX3_traceTo_22 : decode cX3_traceTo 22 = .ok (.if_icmp .ge 111, 3) := by decide +kernel
theorem dX3_traceTo_25 : decode cX3_traceTo 25 = .ok (.aload_n 0, 1) := by decide +kernel
theorem dX3_traceTo_26 : decode cX3_traceTo 26 = .ok (.getfield 15, 3) := by decide +kernel
theorem dX3_traceTo_29 : decode cX3_traceTo 29 = .ok (.iload_n 2, 1) := by decide +kernel
theorem dX3_traceTo_30 : decode cX3_traceTo 30 = .ok (.iaload, 1) := by decide +kernel
theorem dX3_traceTo_31 : decode cX3_traceTo 31 = .ok (.iconst (-1), 1) := by decide +kernel
theorem dX3_traceTo_32 : decode cX3_traceTo 32 = .ok (.if_icmp .eq 101, 3) := by decide +kernel
theorem dX3_traceTo_35 : decode cX3_traceTo 35 = .ok (.aload_n 0, 1) := by decide +kernel
theorem dX3_traceTo_36 : decode cX3_traceTo 36 = .ok (.getfield 25, 3) := by decide +kernel
theorem dX3_traceTo_39 : decode cX3_traceTo 39 = .ok (.iload_n 3, 1) := by decide +kernel
theorem dX3_traceTo_40 : decode cX3_traceTo 40 = .ok (.bipush 10, 2) := by decide +kernel
theorem dX3_traceTo_42 : decode cX3_traceTo 42 = .ok (.aload_n 0, 1) := by decide +kernel
theorem dX3_traceTo_43 : decode cX3_traceTo 43 = .ok (.getfield 15, 3) := by decide +kernel
theorem dX3_traceTo_46 : decode cX3_traceTo 46 = .ok (.iload_n 2, 1) := by decide +kernel
theorem dX3_traceTo_47 : decode cX3_traceTo 47 = .ok (.iaload, 1) := by decide +kernel
theorem dX3_traceTo_48 : decode cX3_traceTo 48 = .ok (.imul, 1) := by decide +kernel
theorem dX3_traceTo_49 : decode cX3_traceTo 49 = .ok (.iload_n 2, 1) := by decide +kernel
theorem dX3_traceTo_50 : decode cX3_traceTo 50 = .ok (.iadd, 1) := by decide +kernel
theorem dX3_traceTo_51 : decode cX3_traceTo 51 = .ok (.iastore, 1) := by decide +kernel
theorem dX3_traceTo_52 : decode cX3_traceTo 52 = .ok (.aload_n 0, 1) := by decide +kernel
theorem dX3_traceTo_53 : decode cX3_traceTo 53 = .ok (.dup, 1) := by decide +kernel
theorem dX3_traceTo_54 : decode cX3_traceTo 54 = .ok (.getfield 28, 3) := by decide +kernel
theorem dX3_traceTo_57 : decode cX3_traceTo 57 = .ok (.iconst 1, 1) := by decide +kernel
theorem dX3_traceTo_58 : decode cX3_traceTo 58 = .ok (.iadd, 1) := by decide +kernel
theorem dX3_traceTo_59 : decode cX3_traceTo 59 = .ok (.putfield 28, 3) := by decide +kernel
theorem dX3_traceTo_62 : decode cX3_traceTo 62 = .ok (.aload_n 0, 1) := by decide +kernel
theorem dX3_traceTo_63 : decode cX3_traceTo 63 = .ok (.getfield 15, 3) := by decide +kernel
theorem dX3_traceTo_66 : decode cX3_traceTo 66 = .ok (.iload_n 2, 1) := by decide +kernel
theorem dX3_traceTo_67 : decode cX3_traceTo 67 = .ok (.iaload, 1) := by decide +kernel
theorem dX3_traceTo_68 : decode cX3_traceTo 68 = .ok (.bipush 7, 2) := by decide +kernel
theorem dX3_traceTo_70 : decode cX3_traceTo 70 = .ok (.if_icmp .ne 33, 3) := by decide +kernel
theorem dX3_traceTo_73 : decode cX3_traceTo 73 = .ok (.aload_n 0, 1) := by decide +kernel
theorem dX3_traceTo_74 : decode cX3_traceTo 74 = .ok (.dup, 1) := by decide +kernel
theorem dX3_traceTo_75 : decode cX3_traceTo 75 = .ok (.getfield 35, 3) := by decide +kernel
theorem dX3_traceTo_78 : decode cX3_traceTo 78 = .ok (.aload_n 0, 1) := by decide +kernel
theorem dX3_traceTo_79 : decode cX3_traceTo 79 = .ok (.getfield 9, 3) := by decide +kernel
theorem dX3_traceTo_82 : decode cX3_traceTo 82 = .ok (.iload_n 2, 1) := by decide +kernel
theorem dX3_traceTo_83 : decode cX3_traceTo 83 = .ok (.iaload, 1) := by decide +kernel
theorem dX3_traceTo_84 : decode cX3_traceTo 84 = .ok (.aload_n 0, 1) := by decide +kernel
theorem dX3_traceTo_85 : decode cX3_traceTo 85 = .ok (.getfield 9, 3) := by decide +kernel
theorem dX3_traceTo_88 : decode cX3_traceTo 88 = .ok (.aload_n 0, 1) := by decide +kernel
theorem dX3_traceTo_89 : decode cX3_traceTo 89 = .ok (.getfield 18, 3) := by decide +kernel
theorem dX3_traceTo_92 : decode cX3_traceTo 92 = .ok (.iload_n 2, 1) := by decide +kernel
theorem dX3_traceTo_93 : decode cX3_traceTo 93 = .ok (.iaload, 1) := by decide +kernel
theorem dX3_traceTo_94 : decode cX3_traceTo 94 = .ok (.iaload, 1) := by decide +kernel
theorem dX3_traceTo_95 : decode cX3_traceTo 95 = .ok (.isub, 1) := by decide +kernel
theorem dX3_traceTo_96 : decode cX3_traceTo 96 = .ok (.iadd, 1) := by decide +kernel
theorem dX3_traceTo_97 : decode cX3_traceTo 97 = .ok (.putfield 35, 3) := by decide +kernel
theorem dX3_traceTo_100 : decode cX3_traceTo 100 = .ok (.goto 20, 3) := by decide +kernel
theorem dX3_traceTo_103 : decode cX3_traceTo 103 = .ok (.aload_n 0, 1) := by decide +kernel
theorem dX3_traceTo_104 : decode cX3_traceTo 104 = .ok (.dup, 1) := by decide +kernel
theorem dX3_traceTo_105 : decode cX3_traceTo 105 = .ok (.getfield 32, 3) := by decide +kernel
theorem dX3_traceTo_108 : decode cX3_traceTo 108 = .ok (.iconst 1, 1) := by decide +kernel
theorem dX3_traceTo_109 : decode cX3_traceTo 109 = .ok (.aload_n 0, 1) := by decide +kernel
theorem dX3_traceTo_110 : decode cX3_traceTo 110 = .ok (.getfield 15, 3) := by decide +kernel
theorem dX3_traceTo_113 : decode cX3_traceTo 113 = .ok (.iload_n 2, 1) := by decide +kernel
theorem dX3_traceTo_114 : decode cX3_traceTo 114 = .ok (.iaload, 1) := by decide +kernel
theorem dX3_traceTo_115 : decode cX3_traceTo 115 = .ok (.ishl, 1) := by decide +kernel
theorem dX3_traceTo_116 : decode cX3_traceTo 116 = .ok (.ior, 1) := by decide +kernel
theorem dX3_traceTo_117 : decode cX3_traceTo 117 = .ok (.putfield 32, 3) := by decide +kernel
theorem dX3_traceTo_120 : decode cX3_traceTo 120 = .ok (.aload_n 0, 1) := by decide +kernel
theorem dX3_traceTo_121 : decode cX3_traceTo 121 = .ok (.getfield 18, 3) := by decide +kernel
theorem dX3_traceTo_124 : decode cX3_traceTo 124 = .ok (.iload_n 2, 1) := by decide +kernel
theorem dX3_traceTo_125 : decode cX3_traceTo 125 = .ok (.iaload, 1) := by decide +kernel
theorem dX3_traceTo_126 : decode cX3_traceTo 126 = .ok (.istore_n 2, 1) := by decide +kernel
theorem dX3_traceTo_127 : decode cX3_traceTo 127 = .ok (.iinc 3 1, 3) := by decide +kernel
theorem dX3_traceTo_130 : decode cX3_traceTo 130 = .ok (.goto (-111), 3) := by decide +kernel
theorem dX3_traceTo_133 : decode cX3_traceTo 133 = .ok (.return_, 1) := by decide +kernel
theorem dX3_pieceAt_0 : decode cX3_pieceAt 0 = .ok (.iload_n 1, 1) := by decide +kernel
theorem dX3_pieceAt_1 : decode cX3_pieceAt 1 = .ok (.ifCond .lt 27, 3) := by decide +kernel
theorem dX3_pieceAt_4 : decode cX3_pieceAt 4 = .ok (.iload_n 1, 1) := by decide +kernel
theorem dX3_pieceAt_5 : decode cX3_pieceAt 5 = .ok (.aload_n 0, 1) := by decide +kernel
theorem dX3_pieceAt_6 : decode cX3_pieceAt 6 = .ok (.getfield 28, 3) := by decide +kernel
theorem dX3_pieceAt_9 : decode cX3_pieceAt 9 = .ok (.if_icmp .ge 19, 3) := by decide +kernel
theorem dX3_pieceAt_12 : decode cX3_pieceAt 12 = .ok (.aload_n 0, 1) := by decide +kernel
theorem dX3_pieceAt_13 : decode cX3_pieceAt 13 = .ok (.getfield 25, 3) := by decide +kernel
theorem dX3_pieceAt_16 : decode cX3_pieceAt 16 = .ok (.aload_n 0, 1) := by decide +kernel
theorem dX3_pieceAt_17 : decode cX3_pieceAt 17 = .ok (.getfield 28, 3) := by decide +kernel
theorem dX3_pieceAt_20 : decode cX3_pieceAt 20 = .ok (.iconst 1, 1) := by decide +kernel
theorem dX3_pieceAt_21 : decode cX3_pieceAt 21 = .ok (.isub, 1) := by decide +kernel
theorem dX3_pieceAt_22 : decode cX3_pieceAt 22 = .ok (.iload_n 1, 1) := by decide +kernel
theorem dX3_pieceAt_23 : decode cX3_pieceAt 23 = .ok (.isub, 1) := by decide +kernel
theorem dX3_pieceAt_24 : decode cX3_pieceAt 24 = .ok (.iaload, 1) := by decide +kernel
theorem dX3_pieceAt_25 : decode cX3_pieceAt 25 = .ok (.goto 4, 3) := by decide +kernel
theorem dX3_pieceAt_28 : decode cX3_pieceAt 28 = .ok (.iconst (-1), 1) := by decide +kernel
theorem dX3_pieceAt_29 : decode cX3_pieceAt 29 = .ok (.ireturn, 1) := by decide +kernel
theorem dX3_firstHorse_0 : decode cX3_firstHorse 0 = .ok (.aload_n 0, 1) := by decide +kernel
theorem dX3_firstHorse_1 : decode cX3_firstHorse 1 = .ok (.iconst 0, 1) := by decide +kernel
theorem dX3_firstHorse_2 : decode cX3_firstHorse 2 = .ok (.invokevirtual 74, 3) := by decide +kernel
theorem dX3_firstHorse_5 : decode cX3_firstHorse 5 = .ok (.istore_n 1, 1) := by decide +kernel
theorem dX3_firstHorse_6 : decode cX3_firstHorse 6 = .ok (.iload_n 1, 1) := by decide +kernel
theorem dX3_firstHorse_7 : decode cX3_firstHorse 7 = .ok (.iconst (-1), 1) := by decide +kernel
theorem dX3_firstHorse_8 : decode cX3_firstHorse 8 = .ok (.if_icmp .eq 12, 3) := by decide +kernel
theorem dX3_firstHorse_11 : decode cX3_firstHorse 11 = .ok (.iload_n 1, 1) := by decide +kernel
theorem dX3_firstHorse_12 : decode cX3_firstHorse 12 = .ok (.bipush 10, 2) := by decide +kernel
theorem dX3_firstHorse_14 : decode cX3_firstHorse 14 = .ok (.idiv, 1) := by decide +kernel
theorem dX3_firstHorse_15 : decode cX3_firstHorse 15 = .ok (.bipush 7, 2) := by decide +kernel
theorem dX3_firstHorse_17 : decode cX3_firstHorse 17 = .ok (.if_icmp .ne 7, 3) := by decide +kernel
theorem dX3_firstHorse_20 : decode cX3_firstHorse 20 = .ok (.iconst (-1), 1) := by decide +kernel
theorem dX3_firstHorse_21 : decode cX3_firstHorse 21 = .ok (.goto 7, 3) := by decide +kernel
theorem dX3_firstHorse_24 : decode cX3_firstHorse 24 = .ok (.iload_n 1, 1) := by decide +kernel
theorem dX3_firstHorse_25 : decode cX3_firstHorse 25 = .ok (.bipush 10, 2) := by decide +kernel
theorem dX3_firstHorse_27 : decode cX3_firstHorse 27 = .ok (.idiv, 1) := by decide +kernel
theorem dX3_firstHorse_28 : decode cX3_firstHorse 28 = .ok (.ireturn, 1) := by decide +kernel
theorem dX4_init_0 : decode cX4_init 0 = .ok (.aload_n 0, 1) := by decide +kernel
theorem dX4_init_1 : decode cX4_init 1 = .ok (.invokespecial 3, 3) := by decide +kernel
theorem dX4_init_4 : decode cX4_init 4 = .ok (.aload_n 0, 1) := by decide +kernel
theorem dX4_init_5 : decode cX4_init 5 = .ok (.bipush 40, 2) := by decide +kernel
theorem dX4_init_7 : decode cX4_init 7 = .ok (.newarray .int, 2) := by decide +kernel
theorem dX4_init_9 : decode cX4_init 9 = .ok (.putfield 9, 3) := by decide +kernel
theorem dX4_init_12 : decode cX4_init 12 = .ok (.aload_n 0, 1) := by decide +kernel
theorem dX4_init_13 : decode cX4_init 13 = .ok (.iconst (-1), 1) := by decide +kernel
theorem dX4_init_14 : decode cX4_init 14 = .ok (.putfield 15, 3) := by decide +kernel
theorem dX4_init_17 : decode cX4_init 17 = .ok (.aload_n 0, 1) := by decide +kernel
theorem dX4_init_18 : decode cX4_init 18 = .ok (.iconst 0, 1) := by decide +kernel
theorem dX4_init_19 : decode cX4_init 19 = .ok (.putfield 19, 3) := by decide +kernel
theorem dX4_init_22 : decode cX4_init 22 = .ok (.return_, 1) := by decide +kernel
theorem dX4_become_0 : decode cX4_become 0 = .ok (.aload_n 0, 1) := by decide +kernel
theorem dX4_become_1 : decode cX4_become 1 = .ok (.iload_n 1, 1) := by decide +kernel
theorem dX4_become_2 : decode cX4_become 2 = .ok (.putfield 15, 3) := by decide +kernel
theorem dX4_become_5 : decode cX4_become 5 = .ok (.aload_n 0, 1) := by decide +kernel
theorem dX4_become_6 : decode cX4_become 6 = .ok (.iconst 0, 1) := by decide +kernel
theorem dX4_become_7 : decode cX4_become 7 = .ok (.iload_n 2, 1) := by decide +kernel
theorem dX4_become_8 : decode cX4_become 8 = .ok (.bipush 40, 2) := by decide +kernel
theorem dX4_become_10 : decode cX4_become 10 = .ok (.invokestatic 22, 3) := by decide +kernel
theorem dX4_become_13 : decode cX4_become 13 = .ok (.invokestatic 28, 3) := by decide +kernel
theorem dX4_become_16 : decode cX4_become 16 = .ok (.putfield 19, 3) := by decide +kernel
theorem dX4_become_19 : decode cX4_become 19 = .ok (.iconst 0, 1) := by decide +kernel
theorem dX4_become_20 : decode cX4_become 20 = .ok (.istore_n 3, 1) := by decide +kernel
theorem dX4_become_21 : decode cX4_become 21 = .ok (.iload_n 3, 1) := by decide +kernel
theorem dX4_become_22 : decode cX4_become 22 = .ok (.bipush 40, 2) := by decide +kernel
theorem dX4_become_24 : decode cX4_become 24 = .ok (.if_icmp .ge 16, 3) := by decide +kernel
theorem dX4_become_27 : decode cX4_become 27 = .ok (.aload_n 0, 1) := by decide +kernel
theorem dX4_become_28 : decode cX4_become 28 = .ok (.getfield 9, 3) := by decide +kernel
theorem dX4_become_31 : decode cX4_become 31 = .ok (.iload_n 3, 1) := by decide +kernel
theorem dX4_become_32 : decode cX4_become 32 = .ok (.iconst 0, 1) := by decide +kernel
theorem dX4_become_33 : decode cX4_become 33 = .ok (.iastore, 1) := by decide +kernel
theorem dX4_become_34 : decode cX4_become 34 = .ok (.iinc 3 1, 3) := by decide +kernel
theorem dX4_become_37 : decode cX4_become 37 = .ok (.goto (-16), 3) := by decide +kernel
theorem dX4_become_40 : decode cX4_become 40 = .ok (.return_, 1) := by decide +kernel
theorem dX4_isMissing_0 : decode cX4_isMissing 0 = .ok (.aload_n 0, 1) := by decide +kernel
theorem dX4_isMissing_1 : decode cX4_isMissing 1 = .ok (.getfield 15, 3) := by decide +kernel
theorem dX4_isMissing_4 : decode cX4_isMissing 4 = .ok (.iconst (-1), 1) := by decide +kernel
theorem dX4_isMissing_5 : decode cX4_isMissing 5 = .ok (.if_icmp .ne 7, 3) := by decide +kernel
theorem dX4_isMissing_8 : decode cX4_isMissing 8 = .ok (.iconst 1, 1) := by decide +kernel
theorem dX4_isMissing_9 : decode cX4_isMissing 9 = .ok (.goto 4, 3) := by decide +kernel
theorem dX4_isMissing_12 : decode cX4_isMissing 12 = .ok (.iconst 0, 1) := by decide +kernel
theorem dX4_isMissing_13 : decode cX4_isMissing 13 = .ok (.ireturn, 1) := by decide +kernel
theorem dX4_holds_0 : decode cX4_holds 0 = .ok (.iload_n 1, 1) := by decide +kernel
theorem dX4_holds_1 : decode cX4_holds 1 = .ok (.ifCond .lt 29, 3) := by decide +kernel
theorem dX4_holds_4 : decode cX4_holds 4 = .ok (.iload_n 2, 1) := by decide +kernel
theorem dX4_holds_5 : decode cX4_holds 5 = .ok (.ifCond .lt 25, 3) := by decide +kernel
theorem dX4_holds_8 : decode cX4_holds 8 = .ok (.iload_n 2, 1) := by decide +kernel
theorem dX4_holds_9 : decode cX4_holds 9 = .ok (.aload_n 0, 1) := by decide +kernel
theorem dX4_holds_10 : decode cX4_holds 10 = .ok (.getfield 19, 3) := by decide +kernel
theorem dX4_holds_13 : decode cX4_holds 13 = .ok (.if_icmp .gt 17, 3) := by decide +kernel
theorem dX4_holds_16 : decode cX4_holds 16 = .ok (.iload_n 1, 1) := by decide +kernel
theorem dX4_holds_17 : decode cX4_holds 17 = .ok (.aload_n 0, 1) := by decide +kernel
theorem dX4_holds_18 : decode cX4_holds 18 = .ok (.getfield 19, 3) := by decide +kernel
theorem dX4_holds_21 : decode cX4_holds 21 = .ok (.iload_n 2, 1) := by decide +kernel
theorem dX4_holds_22 : decode cX4_holds 22 = .ok (.isub, 1) := by decide +kernel
theorem dX4_holds_23 : decode cX4_holds 23 = .ok (.if_icmp .gt 7, 3) := by decide +kernel
theorem dX4_holds_26 : decode cX4_holds 26 = .ok (.iconst 1, 1) := by decide +kernel
theorem dX4_holds_27 : decode cX4_holds 27 = .ok (.goto 4, 3) := by decide +kernel
theorem dX4_holds_30 : decode cX4_holds 30 = .ok (.iconst 0, 1) := by decide +kernel
theorem dX4_holds_31 : decode cX4_holds 31 = .ok (.ireturn, 1) := by decide +kernel
theorem dX4_numberAt_0 : decode cX4_numberAt 0 = .ok (.aload_n 0, 1) := by decide +kernel
theorem dX4_numberAt_1 : decode cX4_numberAt 1 = .ok (.iload_n 1, 1) := by decide +kernel
theorem dX4_numberAt_2 : decode cX4_numberAt 2 = .ok (.iconst 1, 1) := by decide +kernel
theorem dX4_numberAt_3 : decode cX4_numberAt 3 = .ok (.invokevirtual 31, 3) := by decide +kernel
theorem dX4_numberAt_6 : decode cX4_numberAt 6 = .ok (.ifCond .eq 12, 3) := by decide +kernel
theorem dX4_numberAt_9 : decode cX4_numberAt 9 = .ok (.aload_n 0, 1) := by decide +kernel
theorem dX4_numberAt_10 : decode cX4_numberAt 10 = .ok (.getfield 9, 3) := by decide +kernel
theorem dX4_numberAt_13 : decode cX4_numberAt 13 = .ok (.iload_n 1, 1) := by decide +kernel
theorem dX4_numberAt_14 : decode cX4_numberAt 14 = .ok (.iaload, 1) := by decide +kernel
theorem dX4_numberAt_15 : decode cX4_numberAt 15 = .ok (.goto 4, 3) := by decide +kernel
theorem dX4_numberAt_18 : decode cX4_numberAt 18 = .ok (.iconst 0, 1) := by decide +kernel
theorem dX4_numberAt_19 : decode cX4_numberAt 19 = .ok (.ireturn, 1) := by decide +kernel
theorem dX4_put_0 : decode cX4_put 0 = .ok (.aload_n 0, 1) := by decide +kernel
theorem dX4_put_1 : decode cX4_put 1 = .ok (.iload_n 1, 1) := by decide +kernel
theorem dX4_put_2 : decode cX4_put 2 = .ok (.iconst 1, 1) := by decide +kernel
theorem dX4_put_3 : decode cX4_put 3 = .ok (.invokevirtual 31, 3) := by decide +kernel
theorem dX4_put_6 : decode cX4_put 6 = .ok (.ifCond .eq 35, 3) := by decide +kernel
theorem dX4_put_9 : decode cX4_put 9 = .ok (.aload_n 0, 1) := by decide +kernel
theorem dX4_put_10 : decode cX4_put 10 = .ok (.getfield 9, 3) := by decide +kernel
theorem dX4_put_13 : decode cX4_put 13 = .ok (.iload_n 1, 1) := by decide +kernel
theorem dX4_put_14 : decode cX4_put 14 = .ok (.aload_n 0, 1) := by decide +kernel
theorem dX4_put_15 : decode cX4_put 15 = .ok (.getfield 15, 3) := by decide +kernel
theorem dX4_put_18 : decode cX4_put 18 = .ok (.ifCond .ne 8, 3) := by decide +kernel
theorem dX4_put_21 : decode cX4_put 21 = .ok (.iload_n 2, 1) := by decide +kernel
theorem dX4_put_22 : decode cX4_put 22 = .ok (.i2b, 1) := by decide +kernel
theorem dX4_put_23 : decode cX4_put 23 = .ok (.goto 17, 3) := by decide +kernel
theorem dX4_put_26 : decode cX4_put 26 = .ok (.aload_n 0, 1) := by decide +kernel
theorem dX4_put_27 : decode cX4_put 27 = .ok (.getfield 15, 3) := by decide +kernel
theorem dX4_put_30 : decode cX4_put 30 = .ok (.iconst 1, 1) := by decide +kernel
theorem dX4_put_31 : decode cX4_put 31 = .ok (.if_icmp .ne 8, 3) := by decide +kernel
theorem dX4_put_34 : decode cX4_put 34 = .ok (.iload_n 2, 1) := by decide +kernel
theorem dX4_put_35 : decode cX4_put 35 = .ok (.i2s, 1) := by decide +kernel
theorem dX4_put_36 : decode cX4_put 36 = .ok (.goto 4, 3) := by decide +kernel
theorem dX4_put_39 : decode cX4_put 39 = .ok (.iload_n 2, 1) := by decide +kernel
theorem dX4_put_40 : decode cX4_put 40 = .ok (.iastore, 1) := by decide +kernel
theorem dX4_put_41 : decode cX4_put 41 = .ok (.return_, 1) := by decide +kernel
theorem dX5_init_0 : decode cX5_init 0 = .ok (.aload_n 0, 1) := by decide +kernel
theorem dX5_init_1 : decode cX5_init 1 = .ok (.invokespecial 3, 3) := by decide +kernel
theorem dX5_init_4 : decode cX5_init 4 = .ok (.aload_n 0, 1) := by decide +kernel
theorem dX5_init_5 : decode cX5_init 5 = .ok (.sipush 160, 3) := by decide +kernel
theorem dX5_init_8 : decode cX5_init 8 = .ok (.newarray .int, 2) := by decide +kernel
theorem dX5_init_10 : decode cX5_init 10 = .ok (.putfield 9, 3) := by decide +kernel
theorem dX5_init_13 : decode cX5_init 13 = .ok (.aload_n 0, 1) := by decide +kernel
theorem dX5_init_14 : decode cX5_init 14 = .ok (.iconst 0, 1) := by decide +kernel
theorem dX5_init_15 : decode cX5_init 15 = .ok (.putfield 15, 3) := by decide +kernel
theorem dX5_init_18 : decode cX5_init 18 = .ok (.aload_n 0, 1) := by decide +kernel
theorem dX5_init_19 : decode cX5_init 19 = .ok (.iconst 0, 1) := by decide +kernel
theorem dX5_init_20 : decode cX5_init 20 = .ok (.putfield 19, 3) := by decide +kernel
theorem dX5_init_23 : decode cX5_init 23 = .ok (.aload_n 0, 1) := by decide +kernel
theorem dX5_init_24 : decode cX5_init 24 = .ok (.iconst 0, 1) := by decide +kernel
theorem dX5_init_25 : decode cX5_init 25 = .ok (.putfield 22, 3) := by decide +kernel
theorem dX5_init_28 : decode cX5_init 28 = .ok (.aload_n 0, 1) := by decide +kernel
theorem dX5_init_29 : decode cX5_init 29 = .ok (.iconst 0, 1) := by decide +kernel
theorem dX5_init_30 : decode cX5_init 30 = .ok (.putfield 25, 3) := by decide +kernel
theorem dX5_init_33 : decode cX5_init 33 = .ok (.return_, 1) := by decide +kernel
theorem dX5_add_0 : decode cX5_add 0 = .ok (.aload_n 0, 1) := by decide +kernel
theorem dX5_add_1 : decode cX5_add 1 = .ok (.getfield 15, 3) := by decide +kernel
theorem dX5_add_4 : decode cX5_add 4 = .ok (.aload_n 0, 1) := by decide +kernel
theorem dX5_add_5 : decode cX5_add 5 = .ok (.getfield 9, 3) := by decide +kernel
theorem dX5_add_8 : decode cX5_add 8 = .ok (.arraylength, 1) := by decide +kernel
theorem dX5_add_9 : decode cX5_add 9 = .ok (.if_icmp .ge 23, 3) := by decide +kernel
theorem dX5_add_12 : decode cX5_add 12 = .ok (.aload_n 0, 1) := by decide +kernel
theorem dX5_add_13 : decode cX5_add 13 = .ok (.getfield 9, 3) := by decide +kernel
theorem dX5_add_16 : decode cX5_add 16 = .ok (.aload_n 0, 1) := by decide +kernel
theorem dX5_add_17 : decode cX5_add 17 = .ok (.getfield 15, 3) := by decide +kernel
theorem dX5_add_20 : decode cX5_add 20 = .ok (.iload_n 1, 1) := by decide +kernel
theorem dX5_add_21 : decode cX5_add 21 = .ok (.iastore, 1) := by decide +kernel
theorem dX5_add_22 : decode cX5_add 22 = .ok (.aload_n 0, 1) := by decide +kernel
theorem dX5_add_23 : decode cX5_add 23 = .ok (.dup, 1) := by decide +kernel
theorem dX5_add_24 : decode cX5_add 24 = .ok (.getfield 15, 3) := by decide +kernel
theorem dX5_add_27 : decode cX5_add 27 = .ok (.iconst 1, 1) := by decide +kernel
theorem dX5_add_28 : decode cX5_add 28 = .ok (.iadd, 1) := by decide +kernel
theorem dX5_add_29 : decode cX5_add 29 = .ok (.putfield 15, 3) := by decide +kernel
theorem dX5_add_32 : decode cX5_add 32 = .ok (.return_, 1) := by decide +kernel
theorem dX5_clear_0 : decode cX5_clear 0 = .ok (.aload_n 0, 1) := by decide +kernel
theorem dX5_clear_1 : decode cX5_clear 1 = .ok (.iconst 0, 1) := by decide +kernel
theorem dX5_clear_2 : decode cX5_clear 2 = .ok (.putfield 15, 3) := by decide +kernel
theorem dX5_clear_5 : decode cX5_clear 5 = .ok (.return_, 1) := by decide +kernel
theorem dX5_rewind_0 : decode cX5_rewind 0 = .ok (.aload_n 0, 1) := by decide +kernel
theorem dX5_rewind_1 : decode cX5_rewind 1 = .ok (.iconst 0, 1) := by decide +kernel
theorem dX5_rewind_2 : decode cX5_rewind 2 = .ok (.putfield 19, 3) := by decide +kernel
theorem dX5_rewind_5 : decode cX5_rewind 5 = .ok (.return_, 1) := by decide +kernel
theorem dX5_next_0 : decode cX5_next 0 = .ok (.aload_n 0, 1) := by decide +kernel
theorem dX5_next_1 : decode cX5_next 1 = .ok (.getfield 19, 3) := by decide +kernel
theorem dX5_next_4 : decode cX5_next 4 = .ok (.aload_n 0, 1) := by decide +kernel
theorem dX5_next_5 : decode cX5_next 5 = .ok (.getfield 15, 3) := by decide +kernel
theorem dX5_next_8 : decode cX5_next 8 = .ok (.if_icmp .ge 44, 3) := by decide +kernel
theorem dX5_next_11 : decode cX5_next 11 = .ok (.aload_n 0, 1) := by decide +kernel
theorem dX5_next_12 : decode cX5_next 12 = .ok (.getfield 9, 3) := by decide +kernel
theorem dX5_next_15 : decode cX5_next 15 = .ok (.aload_n 0, 1) := by decide +kernel
theorem dX5_next_16 : decode cX5_next 16 = .ok (.getfield 19, 3) := by decide +kernel
theorem dX5_next_19 : decode cX5_next 19 = .ok (.iaload, 1) := by decide +kernel
theorem dX5_next_20 : decode cX5_next 20 = .ok (.bipush 32, 2) := by decide +kernel
theorem dX5_next_22 : decode cX5_next 22 = .ok (.if_icmp .eq 17, 3) := by decide +kernel
theorem dX5_next_25 : decode cX5_next 25 = .ok (.aload_n 0, 1) := by decide +kernel
theorem dX5_next_26 : decode cX5_next 26 = .ok (.getfield 9, 3) := by decide +kernel
theorem dX5_next_29 : decode cX5_next 29 = .ok (.aload_n 0, 1) := by decide +kernel
theorem dX5_next_30 : decode cX5_next 30 = .ok (.getfield 19, 3) := by decide +kernel
theorem dX5_next_33 : decode cX5_next 33 = .ok (.iaload, 1) := by decide +kernel
theorem dX5_next_34 : decode cX5_next 34 = .ok (.bipush 10, 2) := by decide +kernel
theorem dX5_next_36 : decode cX5_next 36 = .ok (.if_icmp .ne 16, 3) := by decide +kernel
theorem dX5_next_39 : decode cX5_next 39 = .ok (.aload_n 0, 1) := by decide +kernel
theorem dX5_next_40 : decode cX5_next 40 = .ok (.dup, 1) := by decide +kernel
theorem dX5_next_41 : decode cX5_next 41 = .ok (.getfield 19, 3) := by decide +kernel
theorem dX5_next_44 : decode cX5_next 44 = .ok (.iconst 1, 1) := by decide +kernel
theorem dX5_next_45 : decode cX5_next 45 = .ok (.iadd, 1) := by decide +kernel
theorem dX5_next_46 : decode cX5_next 46 = .ok (.putfield 19, 3) := by decide +kernel
theorem dX5_next_49 : decode cX5_next 49 = .ok (.goto (-49), 3) := by decide +kernel
theorem dX5_next_52 : decode cX5_next 52 = .ok (.aload_n 0, 1) := by decide +kernel
theorem dX5_next_53 : decode cX5_next 53 = .ok (.aload_n 0, 1) := by decide +kernel
theorem dX5_next_54 : decode cX5_next 54 = .ok (.getfield 19, 3) := by decide +kernel
theorem dX5_next_57 : decode cX5_next 57 = .ok (.putfield 22, 3) := by decide +kernel
theorem dX5_next_60 : decode cX5_next 60 = .ok (.aload_n 0, 1) := by decide +kernel
theorem dX5_next_61 : decode cX5_next 61 = .ok (.getfield 19, 3) := by decide +kernel
theorem dX5_next_64 : decode cX5_next 64 = .ok (.aload_n 0, 1) := by decide +kernel
theorem dX5_next_65 : decode cX5_next 65 = .ok (.getfield 15, 3) := by decide +kernel
theorem dX5_next_68 : decode cX5_next 68 = .ok (.if_icmp .lt 6, 3) := by decide +kernel
theorem dX5_next_71 : decode cX5_next 71 = .ok (.bipush 21, 2) := by decide +kernel
theorem dX5_next_73 : decode cX5_next 73 = .ok (.ireturn, 1) := by decide +kernel
theorem dX5_next_74 : decode cX5_next 74 = .ok (.aload_n 0, 1) := by decide +kernel
theorem dX5_next_75 : decode cX5_next 75 = .ok (.invokevirtual 28, 3) := by decide +kernel
theorem dX5_next_78 : decode cX5_next 78 = .ok (.ifCond .eq 8, 3) := by decide +kernel
theorem dX5_next_81 : decode cX5_next 81 = .ok (.aload_n 0, 1) := by decide +kernel
theorem dX5_next_82 : decode cX5_next 82 = .ok (.invokevirtual 32, 3) := by decide +kernel
theorem dX5_next_85 : decode cX5_next 85 = .ok (.ireturn, 1) := by decide +kernel
theorem dX5_next_86 : decode cX5_next 86 = .ok (.aload_n 0, 1) := by decide +kernel
theorem dX5_next_87 : decode cX5_next 87 = .ok (.invokevirtual 36, 3) := by decide +kernel
theorem dX5_next_90 : decode cX5_next 90 = .ok (.ifCond .eq 8, 3) := by decide +kernel
theorem dX5_next_93 : decode cX5_next 93 = .ok (.aload_n 0, 1) := by decide +kernel
theorem dX5_next_94 : decode cX5_next 94 = .ok (.invokevirtual 39, 3) := by decide +kernel
theorem dX5_next_97 : decode cX5_next 97 = .ok (.ireturn, 1) := by decide +kernel
theorem dX5_next_98 : decode cX5_next 98 = .ok (.ldc 42, 2) := by decide +kernel
theorem dX5_next_100 : decode cX5_next 100 = .ok (.aload_n 0, 1) := by decide +kernel
theorem dX5_next_101 : decode cX5_next 101 = .ok (.getfield 9, 3) := by decide +kernel
theorem dX5_next_104 : decode cX5_next 104 = .ok (.aload_n 0, 1) := by decide +kernel
theorem dX5_next_105 : decode cX5_next 105 = .ok (.getfield 19, 3) := by decide +kernel
theorem dX5_next_108 : decode cX5_next 108 = .ok (.iaload, 1) := by decide +kernel
theorem dX5_next_109 : decode cX5_next 109 = .ok (.i2c, 1) := by decide +kernel
theorem dX5_next_110 : decode cX5_next 110 = .ok (.invokevirtual 44, 3) := by decide +kernel
theorem dX5_next_113 : decode cX5_next 113 = .ok (.istore_n 1, 1) := by decide +kernel
theorem dX5_next_114 : decode cX5_next 114 = .ok (.aload_n 0, 1) := by decide +kernel
theorem dX5_next_115 : decode cX5_next 115 = .ok (.dup, 1) := by decide +kernel
theorem dX5_next_116 : decode cX5_next 116 = .ok (.getfield 19, 3) := by decide +kernel
theorem dX5_next_119 : decode cX5_next 119 = .ok (.iconst 1, 1) := by decide +kernel
theorem dX5_next_120 : decode cX5_next 120 = .ok (.iadd, 1) := by decide +kernel
theorem dX5_next_121 : decode cX5_next 121 = .ok (.putfield 19, 3) := by decide +kernel
theorem dX5_next_124 : decode cX5_next 124 = .ok (.iload_n 1, 1) := by decide +kernel
theorem dX5_next_125 : decode cX5_next 125 = .ok (.ifCond .ge 8, 3) := by decide +kernel
theorem dX5_next_128 : decode cX5_next 128 = .ok (.bipush 22, 2) := by decide +kernel
theorem dX5_next_130 : decode cX5_next 130 = .ok (.goto 7, 3) := by decide +kernel
theorem dX5_next_133 : decode cX5_next 133 = .ok (.bipush 12, 2) := by decide +kernel
theorem dX5_next_135 : decode cX5_next 135 = .ok (.iload_n 1, 1) := by decide +kernel
theorem dX5_next_136 : decode cX5_next 136 = .ok (.iadd, 1) := by decide +kernel
theorem dX5_next_137 : decode cX5_next 137 = .ok (.ireturn, 1) := by decide +kernel
theorem dX5_isLetter_0 : decode cX5_isLetter 0 = .ok (.aload_n 0, 1) := by decide +kernel
theorem dX5_isLetter_1 : decode cX5_isLetter 1 = .ok (.getfield 9, 3) := by decide +kernel
theorem dX5_isLetter_4 : decode cX5_isLetter 4 = .ok (.aload_n 0, 1) := by decide +kernel
theorem dX5_isLetter_5 : decode cX5_isLetter 5 = .ok (.getfield 19, 3) := by decide +kernel
theorem dX5_isLetter_8 : decode cX5_isLetter 8 = .ok (.iaload, 1) := by decide +kernel
theorem dX5_isLetter_9 : decode cX5_isLetter 9 = .ok (.bipush 97, 2) := by decide +kernel
theorem dX5_isLetter_11 : decode cX5_isLetter 11 = .ok (.if_icmp .lt 21, 3) := by decide +kernel
theorem dX5_isLetter_14 : decode cX5_isLetter 14 = .ok (.aload_n 0, 1) := by decide +kernel
theorem dX5_isLetter_15 : decode cX5_isLetter 15 = .ok (.getfield 9, 3) := by decide +kernel
theorem dX5_isLetter_18 : decode cX5_isLetter 18 = .ok (.aload_n 0, 1) := by decide +kernel
theorem dX5_isLetter_19 : decode cX5_isLetter 19 = .ok (.getfield 19, 3) := by decide +kernel
theorem dX5_isLetter_22 : decode cX5_isLetter 22 = .ok (.iaload, 1) := by decide +kernel
theorem dX5_isLetter_23 : decode cX5_isLetter 23 = .ok (.bipush 122, 2) := by decide +kernel
theorem dX5_isLetter_25 : decode cX5_isLetter 25 = .ok (.if_icmp .gt 7, 3) := by decide +kernel
theorem dX5_isLetter_28 : decode cX5_isLetter 28 = .ok (.iconst 1, 1) := by decide +kernel
theorem dX5_isLetter_29 : decode cX5_isLetter 29 = .ok (.goto 4, 3) := by decide +kernel
theorem dX5_isLetter_32 : decode cX5_isLetter 32 = .ok (.iconst 0, 1) := by decide +kernel
theorem dX5_isLetter_33 : decode cX5_isLetter 33 = .ok (.ireturn, 1) := by decide +kernel
theorem dX5_isDigit_0 : decode cX5_isDigit 0 = .ok (.aload_n 0, 1) := by decide +kernel
theorem dX5_isDigit_1 : decode cX5_isDigit 1 = .ok (.getfield 9, 3) := by decide +kernel
theorem dX5_isDigit_4 : decode cX5_isDigit 4 = .ok (.aload_n 0, 1) := by decide +kernel
theorem dX5_isDigit_5 : decode cX5_isDigit 5 = .ok (.getfield 19, 3) := by decide +kernel
theorem dX5_isDigit_8 : decode cX5_isDigit 8 = .ok (.iaload, 1) := by decide +kernel
theorem dX5_isDigit_9 : decode cX5_isDigit 9 = .ok (.bipush 48, 2) := by decide +kernel
theorem dX5_isDigit_11 : decode cX5_isDigit 11 = .ok (.if_icmp .lt 21, 3) := by decide +kernel
theorem dX5_isDigit_14 : decode cX5_isDigit 14 = .ok (.aload_n 0, 1) := by decide +kernel
theorem dX5_isDigit_15 : decode cX5_isDigit 15 = .ok (.getfield 9, 3) := by decide +kernel
theorem dX5_isDigit_18 : decode cX5_isDigit 18 = .ok (.aload_n 0, 1) := by decide +kernel
theorem dX5_isDigit_19 : decode cX5_isDigit 19 = .ok (.getfield 19, 3) := by decide +kernel
theorem dX5_isDigit_22 : decode cX5_isDigit 22 = .ok (.iaload, 1) := by decide +kernel
theorem dX5_isDigit_23 : decode cX5_isDigit 23 = .ok (.bipush 57, 2) := by decide +kernel
theorem dX5_isDigit_25 : decode cX5_isDigit 25 = .ok (.if_icmp .gt 7, 3) := by decide +kernel
theorem dX5_isDigit_28 : decode cX5_isDigit 28 = .ok (.iconst 1, 1) := by decide +kernel
theorem dX5_isDigit_29 : decode cX5_isDigit 29 = .ok (.goto 4, 3) := by decide +kernel
theorem dX5_isDigit_32 : decode cX5_isDigit 32 = .ok (.iconst 0, 1) := by decide +kernel
theorem dX5_isDigit_33 : decode cX5_isDigit 33 = .ok (.ireturn, 1) := by decide +kernel
theorem dX5_nextWord_0 : decode cX5_nextWord 0 = .ok (.aload_n 0, 1) := by decide +kernel
theorem dX5_nextWord_1 : decode cX5_nextWord 1 = .ok (.getfield 19, 3) := by decide +kernel
theorem dX5_nextWord_4 : decode cX5_nextWord 4 = .ok (.aload_n 0, 1) := by decide +kernel
theorem dX5_nextWord_5 : decode cX5_nextWord 5 = .ok (.getfield 15, 3) := by decide +kernel
theorem dX5_nextWord_8 : decode cX5_nextWord 8 = .ok (.if_icmp .ge 23, 3) := by decide +kernel
theorem dX5_nextWord_11 : decode cX5_nextWord 11 = .ok (.aload_n 0, 1) := by decide +kernel
theorem dX5_nextWord_12 : decode cX5_nextWord 12 = .ok (.invokevirtual 28, 3) := by decide +kernel
theorem dX5_nextWord_15 : decode cX5_nextWord 15 = .ok (.ifCond .eq 16, 3) := by decide +kernel
theorem dX5_nextWord_18 : decode cX5_nextWord 18 = .ok (.aload_n 0, 1) := by decide +kernel
theorem dX5_nextWord_19 : decode cX5_nextWord 19 = .ok (.dup, 1) := by decide +kernel
theorem dX5_nextWord_20 : decode cX5_nextWord 20 = .ok (.getfield 19, 3) := by decide +kernel
theorem dX5_nextWord_23 : decode cX5_nextWord 23 = .ok (.iconst 1, 1) := by decide +kernel
theorem dX5_nextWord_24 : decode cX5_nextWord 24 = .ok (.iadd, 1) := by decide +kernel
theorem dX5_nextWord_25 : decode cX5_nextWord 25 = .ok (.putfield 19, 3) := by decide +kernel
theorem dX5_nextWord_28 : decode cX5_nextWord 28 = .ok (.goto (-28), 3) := by decide +kernel
theorem dX5_nextWord_31 : decode cX5_nextWord 31 = .ok (.iconst 0, 1) := by decide +kernel
theorem dX5_nextWord_32 : decode cX5_nextWord 32 = .ok (.istore_n 1, 1) := by decide +kernel
theorem dX5_nextWord_33 : decode cX5_nextWord 33 = .ok (.iload_n 1, 1) := by decide +kernel
theorem dX5_nextWord_34 : decode cX5_nextWord 34 = .ok (.bipush 12, 2) := by decide +kernel
theorem dX5_nextWord_36 : decode cX5_nextWord 36 = .ok (.if_icmp .ge 19, 3) := by decide +kernel
theorem dX5_nextWord_39 : decode cX5_nextWord 39 = .ok (.aload_n 0, 1) := by decide +kernel
theorem dX5_nextWord_40 : decode cX5_nextWord 40 = .ok (.iload_n 1, 1) := by decide +kernel
theorem dX5_nextWord_41 : decode cX5_nextWord 41 = .ok (.invokevirtual 50, 3) := by decide +kernel
theorem dX5_nextWord_44 : decode cX5_nextWord 44 = .ok (.ifCond .eq 5, 3) := by decide +kernel
theorem dX5_nextWord_47 : decode cX5_nextWord 47 = .ok (.iload_n 1, 1) := by decide +kernel
theorem dX5_nextWord_48 : decode cX5_nextWord 48 = .ok (.ireturn, 1) := by decide +kernel
theorem dX5_nextWord_49 : decode cX5_nextWord 49 = .ok (.iinc 1 1, 3) := by decide +kernel
theorem dX5_nextWord_52 : decode cX5_nextWord 52 = .ok (.goto (-19), 3) := by decide +kernel
theorem dX5_nextWord_55 : decode cX5_nextWord 55 = .ok (.bipush 22, 2) := by decide +kernel
theorem dX5_nextWord_57 : decode cX5_nextWord 57 = .ok (.ireturn, 1) := by decide +kernel
theorem dX5_isWord_0 : decode cX5_isWord 0 = .ok (.aload_n 0, 1) := by decide +kernel
theorem dX5_isWord_1 : decode cX5_isWord 1 = .ok (.getfield 19, 3) := by decide +kernel
theorem dX5_isWord_4 : decode cX5_isWord 4 = .ok (.aload_n 0, 1) := by decide +kernel
theorem dX5_isWord_5 : decode cX5_isWord 5 = .ok (.getfield 22, 3) := by decide +kernel
theorem dX5_isWord_8 : decode cX5_isWord 8 = .ok (.isub, 1) := by decide +kernel
theorem dX5_isWord_9 : decode cX5_isWord 9 = .ok (.istore_n 2, 1) := by decide +kernel
theorem dX5_isWord_10 : decode cX5_isWord 10 = .ok (.iload_n 2, 1) := by decide +kernel
theorem dX5_isWord_11 : decode cX5_isWord 11 = .ok (.iconst 5, 1) := by decide +kernel
theorem dX5_isWord_12 : decode cX5_isWord 12 = .ok (.if_icmp .le 5, 3) := by decide +kernel
theorem dX5_isWord_15 : decode cX5_isWord 15 = .ok (.iconst 0, 1) := by decide +kernel
theorem dX5_isWord_16 : decode cX5_isWord 16 = .ok (.ireturn, 1) := by decide +kernel
theorem dX5_isWord_17 : decode cX5_isWord 17 = .ok (.iconst 0, 1) := by decide +kernel
theorem dX5_isWord_18 : decode cX5_isWord 18 = .ok (.istore_n 3, 1) := by decide +kernel
theorem dX5_isWord_19 : decode cX5_isWord 19 = .ok (.iload_n 3, 1) := by decide +kernel
theorem dX5_isWord_20 : decode cX5_isWord 20 = .ok (.iconst 5, 1) := by decide +kernel
theorem dX5_isWord_21 : decode cX5_isWord 21 = .ok (.if_icmp .ge 49, 3) := by decide +kernel
theorem dX5_isWord_24 : decode cX5_isWord 24 = .ok (.iload_n 3, 1) := by decide +kernel
theorem dX5_isWord_25 : decode cX5_isWord 25 = .ok (.iload_n 2, 1) := by decide +kernel
theorem dX5_isWord_26 : decode cX5_isWord 26 = .ok (.if_icmp .ge 17, 3) := by decide +kernel
theorem dX5_isWord_29 : decode cX5_isWord 29 = .ok (.aload_n 0, 1) := by decide +kernel
theorem dX5_isWord_30 : decode cX5_isWord 30 = .ok (.getfield 9, 3) := by decide +kernel
theorem dX5_isWord_33 : decode cX5_isWord 33 = .ok (.aload_n 0, 1) := by decide +kernel
theorem dX5_isWord_34 : decode cX5_isWord 34 = .ok (.getfield 22, 3) := by decide +kernel
theorem dX5_isWord_37 : decode cX5_isWord 37 = .ok (.iload_n 3, 1) := by decide +kernel
theorem dX5_isWord_38 : decode cX5_isWord 38 = .ok (.iadd, 1) := by decide +kernel
theorem dX5_isWord_39 : decode cX5_isWord 39 = .ok (.iaload, 1) := by decide +kernel
theorem dX5_isWord_40 : decode cX5_isWord 40 = .ok (.goto 5, 3) := by decide +kernel
theorem dX5_isWord_43 : decode cX5_isWord 43 = .ok (.bipush 32, 2) := by decide +kernel
theorem dX5_isWord_45 : decode cX5_isWord 45 = .ok (.istore 4, 2) := by decide +kernel
theorem dX5_isWord_47 : decode cX5_isWord 47 = .ok (.iload 4, 2) := by decide +kernel
theorem dX5_isWord_49 : decode cX5_isWord 49 = .ok (.ldc 54, 2) := by decide +kernel
theorem dX5_isWord_51 : decode cX5_isWord 51 = .ok (.iload_n 1, 1) := by decide +kernel
theorem dX5_isWord_52 : decode cX5_isWord 52 = .ok (.iconst 5, 1) := by decide +kernel
theorem dX5_isWord_53 : decode cX5_isWord 53 = .ok (.imul, 1) := by decide +kernel
theorem dX5_isWord_54 : decode cX5_isWord 54 = .ok (.iload_n 3, 1) := by decide +kernel
theorem dX5_isWord_55 : decode cX5_isWord 55 = .ok (.iadd, 1) := by decide +kernel
theorem dX5_isWord_56 : decode cX5_isWord 56 = .ok (.invokevirtual 56, 3) := by decide +kernel
theorem dX5_isWord_59 : decode cX5_isWord 59 = .ok (.if_icmp .eq 5, 3) := by decide +kernel
theorem dX5_isWord_62 : decode cX5_isWord 62 = .ok (.iconst 0, 1) := by decide +kernel
theorem dX5_isWord_63 : decode cX5_isWord 63 = .ok (.ireturn, 1) := by decide +kernel
theorem dX5_isWord_64 : decode cX5_isWord 64 = .ok (.iinc 3 1, 3) := by decide +kernel
theorem dX5_isWord_67 : decode cX5_isWord 67 = .ok (.goto (-48), 3) := by decide +kernel
theorem dX5_isWord_70 : decode cX5_isWord 70 = .ok (.iconst 1, 1) := by decide +kernel
theorem dX5_isWord_71 : decode cX5_isWord 71 = .ok (.ireturn, 1) := by decide +kernel
theorem dX5_nextNumber_0 : decode cX5_nextNumber 0 = .ok (.aload_n 0, 1) := by decide +kernel
theorem dX5_nextNumber_1 : decode cX5_nextNumber 1 = .ok (.iconst 0, 1) := by decide +kernel
theorem dX5_nextNumber_2 : decode cX5_nextNumber 2 = .ok (.putfield 25, 3) := by decide +kernel
theorem dX5_nextNumber_5 : decode cX5_nextNumber 5 = .ok (.aload_n 0, 1) := by decide +kernel
theorem dX5_nextNumber_6 : decode cX5_nextNumber 6 = .ok (.getfield 19, 3) := by decide +kernel
theorem dX5_nextNumber_9 : decode cX5_nextNumber 9 = .ok (.aload_n 0, 1) := by decide +kernel
theorem dX5_nextNumber_10 : decode cX5_nextNumber 10 = .ok (.getfield 15, 3) := by decide +kernel
theorem dX5_nextNumber_13 : decode cX5_nextNumber 13 = .ok (.if_icmp .ge 47, 3) := by decide +kernel
theorem dX5_nextNumber_16 : decode cX5_nextNumber 16 = .ok (.aload_n 0, 1) := by decide +kernel
theorem dX5_nextNumber_17 : decode cX5_nextNumber 17 = .ok (.invokevirtual 36, 3) := by decide +kernel
theorem dX5_nextNumber_20 : decode cX5_nextNumber 20 = .ok (.ifCond .eq 40, 3) := by decide +kernel
theorem dX5_nextNumber_23 : decode cX5_nextNumber 23 = .ok (.aload_n 0, 1) := by decide +kernel
theorem dX5_nextNumber_24 : decode cX5_nextNumber 24 = .ok (.bipush 10, 2) := by decide +kernel
theorem dX5_nextNumber_26 : decode cX5_nextNumber 26 = .ok (.aload_n 0, 1) := by decide +kernel
theorem dX5_nextNumber_27 : decode cX5_nextNumber 27 = .ok (.getfield 25, 3) := by decide +kernel
theorem dX5_nextNumber_30 : decode cX5_nextNumber 30 = .ok (.imul, 1) := by decide +kernel
theorem dX5_nextNumber_31 : decode cX5_nextNumber 31 = .ok (.aload_n 0, 1) := by decide +kernel
theorem dX5_nextNumber_32 : decode cX5_nextNumber 32 = .ok (.getfield 9, 3) := by decide +kernel
theorem dX5_nextNumber_35 : decode cX5_nextNumber 35 = .ok (.aload_n 0, 1) := by decide +kernel
theorem dX5_nextNumber_36 : decode cX5_nextNumber 36 = .ok (.getfield 19, 3) := by decide +kernel
theorem dX5_nextNumber_39 : decode cX5_nextNumber 39 = .ok (.iaload, 1) := by decide +kernel
theorem dX5_nextNumber_40 : decode cX5_nextNumber 40 = .ok (.iadd, 1) := by decide +kernel
theorem dX5_nextNumber_41 : decode cX5_nextNumber 41 = .ok (.bipush 48, 2) := by decide +kernel
theorem dX5_nextNumber_43 : decode cX5_nextNumber 43 = .ok (.isub, 1) := by decide +kernel
theorem dX5_nextNumber_44 : decode cX5_nextNumber 44 = .ok (.putfield 25, 3) := by decide +kernel
theorem dX5_nextNumber_47 : decode cX5_nextNumber 47 = .ok (.aload_n 0, 1) := by decide +kernel
theorem dX5_nextNumber_48 : decode cX5_nextNumber 48 = .ok (.dup, 1) := by decide +kernel
theorem dX5_nextNumber_49 : decode cX5_nextNumber 49 = .ok (.getfield 19, 3) := by decide +kernel
theorem dX5_nextNumber_52 : decode cX5_nextNumber 52 = .ok (.iconst 1, 1) := by decide +kernel
theorem dX5_nextNumber_53 : decode cX5_nextNumber 53 = .ok (.iadd, 1) := by decide +kernel
theorem dX5_nextNumber_54 : decode cX5_nextNumber 54 = .ok (.putfield 19, 3) := by decide +kernel
theorem dX5_nextNumber_57 : decode cX5_nextNumber 57 = .ok (.goto (-52), 3) := by decide +kernel
theorem dX5_nextNumber_60 : decode cX5_nextNumber 60 = .ok (.aload_n 0, 1) := by decide +kernel
theorem dX5_nextNumber_61 : decode cX5_nextNumber 61 = .ok (.getfield 19, 3) := by decide +kernel
theorem dX5_nextNumber_64 : decode cX5_nextNumber 64 = .ok (.aload_n 0, 1) := by decide +kernel
theorem dX5_nextNumber_65 : decode cX5_nextNumber 65 = .ok (.getfield 22, 3) := by decide +kernel
theorem dX5_nextNumber_68 : decode cX5_nextNumber 68 = .ok (.isub, 1) := by decide +kernel
theorem dX5_nextNumber_69 : decode cX5_nextNumber 69 = .ok (.iconst 4, 1) := by decide +kernel
theorem dX5_nextNumber_70 : decode cX5_nextNumber 70 = .ok (.if_icmp .le 8, 3) := by decide +kernel
theorem dX5_nextNumber_73 : decode cX5_nextNumber 73 = .ok (.bipush 22, 2) := by decide +kernel
theorem dX5_nextNumber_75 : decode cX5_nextNumber 75 = .ok (.goto 5, 3) := by decide +kernel
theorem dX5_nextNumber_78 : decode cX5_nextNumber 78 = .ok (.bipush 20, 2) := by decide +kernel
theorem dX5_nextNumber_80 : decode cX5_nextNumber 80 = .ok (.ireturn, 1) := by decide +kernel
theorem dX6_init_0 : decode cX6_init 0 = .ok (.aload_n 0, 1) := by decide +kernel
theorem dX6_init_1 : decode cX6_init 1 = .ok (.invokespecial 3, 3) := by decide +kernel
theorem dX6_init_4 : decode cX6_init 4 = .ok (.aload_n 0, 1) := by decide +kernel
theorem dX6_init_5 : decode cX6_init 5 = .ok (.sipush 160, 3) := by decide +kernel
theorem dX6_init_8 : decode cX6_init 8 = .ok (.newarray .int, 2) := by decide +kernel
theorem dX6_init_10 : decode cX6_init 10 = .ok (.putfield 9, 3) := by decide +kernel
theorem dX6_init_13 : decode cX6_init 13 = .ok (.aload_n 0, 1) := by decide +kernel
theorem dX6_init_14 : decode cX6_init 14 = .ok (.iconst 3, 1) := by decide +kernel
theorem dX6_init_15 : decode cX6_init 15 = .ok (.newarray .int, 2) := by decide +kernel
theorem dX6_init_17 : decode cX6_init 17 = .ok (.putfield 15, 3) := by decide +kernel
theorem dX6_init_20 : decode cX6_init 20 = .ok (.aload_n 0, 1) := by decide +kernel
theorem dX6_init_21 : decode cX6_init 21 = .ok (.bipush 40, 2) := by decide +kernel
theorem dX6_init_23 : decode cX6_init 23 = .ok (.newarray .int, 2) := by decide +kernel
theorem dX6_init_25 : decode cX6_init 25 = .ok (.putfield 18, 3) := by decide +kernel
theorem dX6_init_28 : decode cX6_init 28 = .ok (.aload_n 0, 1) := by decide +kernel
theorem dX6_init_29 : decode cX6_init 29 = .ok (.iconst 3, 1) := by decide +kernel
theorem dX6_init_30 : decode cX6_init 30 = .ok (.putfield 21, 3) := by decide +kernel
theorem dX6_init_33 : decode cX6_init 33 = .ok (.aload_n 0, 1) := by decide +kernel
theorem dX6_init_34 : decode cX6_init 34 = .ok (.getfield 9, 3) := by decide +kernel
theorem dX6_init_37 : decode cX6_init 37 = .ok (.iconst 0, 1) := by decide +kernel
theorem dX6_init_38 : decode cX6_init 38 = .ok (.bipush 6, 2) := by decide +kernel
theorem dX6_init_40 : decode cX6_init 40 = .ok (.iastore, 1) := by decide +kernel
theorem dX6_init_41 : decode cX6_init 41 = .ok (.aload_n 0, 1) := by decide +kernel
theorem dX6_init_42 : decode cX6_init 42 = .ok (.getfield 9, 3) := by decide +kernel
theorem dX6_init_45 : decode cX6_init 45 = .ok (.iconst 1, 1) := by decide +kernel
theorem dX6_init_46 : decode cX6_init 46 = .ok (.bipush 6, 2) := by decide +kernel
theorem dX6_init_48 : decode cX6_init 48 = .ok (.iastore, 1) := by decide +kernel
theorem dX6_init_49 : decode cX6_init 49 = .ok (.aload_n 0, 1) := by decide +kernel
theorem dX6_init_50 : decode cX6_init 50 = .ok (.getfield 9, 3) := by decide +kernel
theorem dX6_init_53 : decode cX6_init 53 = .ok (.iconst 2, 1) := by decide +kernel
theorem dX6_init_54 : decode cX6_init 54 = .ok (.bipush 7, 2) := by decide +kernel
theorem dX6_init_56 : decode cX6_init 56 = .ok (.iastore, 1) := by decide +kernel
theorem dX6_init_57 : decode cX6_init 57 = .ok (.iconst 0, 1) := by decide +kernel
theorem dX6_init_58 : decode cX6_init 58 = .ok (.istore_n 1, 1) := by decide +kernel
theorem dX6_init_59 : decode cX6_init 59 = .ok (.iload_n 1, 1) := by decide +kernel
theorem dX6_init_60 : decode cX6_init 60 = .ok (.iconst 3, 1) := by decide +kernel
theorem dX6_init_61 : decode cX6_init 61 = .ok (.if_icmp .ge 18, 3) := by decide +kernel
theorem dX6_init_64 : decode cX6_init 64 = .ok (.aload_n 0, 1) := by decide +kernel
theorem dX6_init_65 : decode cX6_init 65 = .ok (.getfield 15, 3) := by decide +kernel
theorem dX6_init_68 : decode cX6_init 68 = .ok (.iload_n 1, 1) := by decide +kernel
theorem dX6_init_69 : decode cX6_init 69 = .ok (.iload_n 1, 1) := by decide +kernel
theorem dX6_init_70 : decode cX6_init 70 = .ok (.iconst 1, 1) := by decide +kernel
theorem dX6_init_71 : decode cX6_init 71 = .ok (.iadd, 1) := by decide +kernel
theorem dX6_init_72 : decode cX6_init 72 = .ok (.iastore, 1) := by decide +kernel
theorem dX6_init_73 : decode cX6_init 73 = .ok (.iinc 1 1, 3) := by decide +kernel
theorem dX6_init_76 : decode cX6_init 76 = .ok (.goto (-17), 3) := by decide +kernel
theorem dX6_init_79 : decode cX6_init 79 = .ok (.return_, 1) := by decide +kernel
theorem dX6_clear_0 : decode cX6_clear 0 = .ok (.aload_n 0, 1) := by decide +kernel
theorem dX6_clear_1 : decode cX6_clear 1 = .ok (.iconst 0, 1) := by decide +kernel
theorem dX6_clear_2 : decode cX6_clear 2 = .ok (.putfield 21, 3) := by decide +kernel
theorem dX6_clear_5 : decode cX6_clear 5 = .ok (.return_, 1) := by decide +kernel
theorem dX6_add_0 : decode cX6_add 0 = .ok (.aload_n 0, 1) := by decide +kernel
theorem dX6_add_1 : decode cX6_add 1 = .ok (.getfield 21, 3) := by decide +kernel
theorem dX6_add_4 : decode cX6_add 4 = .ok (.aload_n 0, 1) := by decide +kernel
theorem dX6_add_5 : decode cX6_add 5 = .ok (.getfield 9, 3) := by decide +kernel
theorem dX6_add_8 : decode cX6_add 8 = .ok (.arraylength, 1) := by decide +kernel
theorem dX6_add_9 : decode cX6_add 9 = .ok (.if_icmp .ge 23, 3) := by decide +kernel
theorem dX6_add_12 : decode cX6_add 12 = .ok (.aload_n 0, 1) := by decide +kernel
theorem dX6_add_13 : decode cX6_add 13 = .ok (.getfield 9, 3) := by decide +kernel
theorem dX6_add_16 : decode cX6_add 16 = .ok (.aload_n 0, 1) := by decide +kernel
theorem dX6_add_17 : decode cX6_add 17 = .ok (.getfield 21, 3) := by decide +kernel
theorem dX6_add_20 : decode cX6_add 20 = .ok (.iload_n 1, 1) := by decide +kernel
theorem dX6_add_21 : decode cX6_add 21 = .ok (.iastore, 1) := by decide +kernel
theorem dX6_add_22 : decode cX6_add 22 = .ok (.aload_n 0, 1) := by decide +kernel
theorem dX6_add_23 : decode cX6_add 23 = .ok (.dup, 1) := by decide +kernel
theorem dX6_add_24 : decode cX6_add 24 = .ok (.getfield 21, 3) := by decide +kernel
theorem dX6_add_27 : decode cX6_add 27 = .ok (.iconst 1, 1) := by decide +kernel
theorem dX6_add_28 : decode cX6_add 28 = .ok (.iadd, 1) := by decide +kernel
theorem dX6_add_29 : decode cX6_add 29 = .ok (.putfield 21, 3) := by decide +kernel
theorem dX6_add_32 : decode cX6_add 32 = .ok (.return_, 1) := by decide +kernel
theorem dX6_endPart_0 : decode cX6_endPart 0 = .ok (.aload_n 0, 1) := by decide +kernel
theorem dX6_endPart_1 : decode cX6_endPart 1 = .ok (.getfield 15, 3) := by decide +kernel
theorem dX6_endPart_4 : decode cX6_endPart 4 = .ok (.iload_n 1, 1) := by decide +kernel
theorem dX6_endPart_5 : decode cX6_endPart 5 = .ok (.aload_n 0, 1) := by decide +kernel
theorem dX6_endPart_6 : decode cX6_endPart 6 = .ok (.getfield 21, 3) := by decide +kernel
theorem dX6_endPart_9 : decode cX6_endPart 9 = .ok (.iastore, 1) := by decide +kernel
theorem dX6_endPart_10 : decode cX6_endPart 10 = .ok (.return_, 1) := by decide +kernel
theorem dX6_says_0 : decode cX6_says 0 = .ok (.iconst 0, 1) := by decide +kernel
theorem dX6_says_1 : decode cX6_says 1 = .ok (.istore 4, 2) := by decide +kernel
theorem dX6_says_3 : decode cX6_says 3 = .ok (.iload_n 1, 1) := by decide +kernel
theorem dX6_says_4 : decode cX6_says 4 = .ok (.ifCond .ne 7, 3) := by decide +kernel
theorem dX6_says_7 : decode cX6_says 7 = .ok (.iconst 0, 1) := by decide +kernel
theorem dX6_says_8 : decode cX6_says 8 = .ok (.goto 11, 3) := by decide +kernel
theorem dX6_says_11 : decode cX6_says 11 = .ok (.aload_n 0, 1) := by decide +kernel
theorem dX6_says_12 : decode cX6_says 12 = .ok (.getfield 15, 3) := by decide +kernel
theorem dX6_says_15 : decode cX6_says 15 = .ok (.iload_n 1, 1) := by decide +kernel
theorem dX6_says_16 : decode cX6_says 16 = .ok (.iconst 1, 1) := by decide +kernel
theorem dX6_says_17 : decode cX6_says 17 = .ok (.isub, 1) := by decide +kernel
theorem dX6_says_18 : decode cX6_says 18 = .ok (.iaload, 1) := by decide +kernel
theorem dX6_says_19 : decode cX6_says 19 = .ok (.istore 5, 2) := by decide +kernel
theorem dX6_says_21 : decode cX6_says 21 = .ok (.iload 5, 2) := by decide +kernel
theorem dX6_says_23 : decode cX6_says 23 = .ok (.aload_n 0, 1) := by decide +kernel
theorem dX6_says_24 : decode cX6_says 24 = .ok (.getfield 15, 3) := by decide +kernel
theorem dX6_says_27 : decode cX6_says 27 = .ok (.iload_n 1, 1) := by decide +kernel
theorem dX6_says_28 : decode cX6_says 28 = .ok (.iaload, 1) := by decide +kernel
theorem dX6_says_29 : decode cX6_says 29 = .ok (.if_icmp .ge 26, 3) := by decide +kernel
theorem dX6_says_32 : decode cX6_says 32 = .ok (.aload_n 0, 1) := by decide +kernel
theorem dX6_says_33 : decode cX6_says 33 = .ok (.aload_n 0, 1) := by decide +kernel
theorem dX6_says_34 : decode cX6_says 34 = .ok (.getfield 9, 3) := by decide +kernel
theorem dX6_says_37 : decode cX6_says 37 = .ok (.iload 5, 2) := by decide +kernel
theorem dX6_says_39 : decode cX6_says 39 = .ok (.iaload, 1) := by decide +kernel
theorem dX6_says_40 : decode cX6_says 40 = .ok (.iload 4, 2) := by decide +kernel
theorem dX6_says_42 : decode cX6_says 42 = .ok (.aload_n 2, 1) := by decide +kernel
theorem dX6_says_43 : decode cX6_says 43 = .ok (.iload_n 3, 1) := by decide +kernel
theorem dX6_says_44 : decode cX6_says 44 = .ok (.invokevirtual 25, 3) := by decide +kernel
theorem dX6_says_47 : decode cX6_says 47 = .ok (.istore 4, 2) := by decide +kernel
theorem dX6_says_49 : decode cX6_says 49 = .ok (.iinc 5 1, 3) := by decide +kernel
theorem dX6_says_52 : decode cX6_says 52 = .ok (.goto (-31), 3) := by decide +kernel
theorem dX6_says_55 : decode cX6_says 55 = .ok (.aload_n 0, 1) := by decide +kernel
theorem dX6_says_56 : decode cX6_says 56 = .ok (.getfield 18, 3) := by decide +kernel
theorem dX6_says_59 : decode cX6_says 59 = .ok (.iconst 0, 1) := by decide +kernel
theorem dX6_says_60 : decode cX6_says 60 = .ok (.iaload, 1) := by decide +kernel
theorem dX6_says_61 : decode cX6_says 61 = .ok (.ireturn, 1) := by decide +kernel
theorem dX6_take_0 : decode cX6_take 0 = .ok (.iload_n 1, 1) := by decide +kernel
theorem dX6_take_1 : decode cX6_take 1 = .ok (.bipush 100, 2) := by decide +kernel
theorem dX6_take_3 : decode cX6_take 3 = .ok (.if_icmp .lt 13, 3) := by decide +kernel
theorem dX6_take_6 : decode cX6_take 6 = .ok (.aload_n 0, 1) := by decide +kernel
theorem dX6_take_7 : decode cX6_take 7 = .ok (.iload_n 1, 1) := by decide +kernel
theorem dX6_take_8 : decode cX6_take 8 = .ok (.bipush 100, 2) := by decide +kernel
theorem dX6_take_10 : decode cX6_take 10 = .ok (.isub, 1) := by decide +kernel
theorem dX6_take_11 : decode cX6_take 11 = .ok (.iload_n 2, 1) := by decide +kernel
theorem dX6_take_12 : decode cX6_take 12 = .ok (.invokevirtual 29, 3) := by decide +kernel
theorem dX6_take_15 : decode cX6_take 15 = .ok (.ireturn, 1) := by decide +kernel
theorem dX6_take_16 : decode cX6_take 16 = .ok (.iload_n 1, 1) := by decide +kernel
theorem dX6_take_17 : decode cX6_take 17 = .ok (.bipush 6, 2) := by decide +kernel
theorem dX6_take_19 : decode cX6_take 19 = .ok (.bipush 11, 2) := by decide +kernel
theorem dX6_take_21 : decode cX6_take 21 = .ok (.invokestatic 33, 3) := by decide +kernel
theorem dX6_take_24 : decode cX6_take 24 = .ok (.ifCond .eq 16, 3) := by decide +kernel
theorem dX6_take_27 : decode cX6_take 27 = .ok (.aload_n 0, 1) := by decide +kernel
theorem dX6_take_28 : decode cX6_take 28 = .ok (.aload_n 3, 1) := by decide +kernel
theorem dX6_take_29 : decode cX6_take 29 = .ok (.iload_n 1, 1) := by decide +kernel
theorem dX6_take_30 : decode cX6_take 30 = .ok (.iload 4, 2) := by decide +kernel
theorem dX6_take_32 : decode cX6_take 32 = .ok (.invokevirtual 37, 3) := by decide +kernel
theorem dX6_take_35 : decode cX6_take 35 = .ok (.iload_n 2, 1) := by decide +kernel
theorem dX6_take_36 : decode cX6_take 36 = .ok (.invokevirtual 29, 3) := by decide +kernel
theorem dX6_take_39 : decode cX6_take 39 = .ok (.ireturn, 1) := by decide +kernel
theorem dX6_take_40 : decode cX6_take 40 = .ok (.iload_n 1, 1) := by decide +kernel
theorem dX6_take_41 : decode cX6_take 41 = .ok (.iconst 5, 1) := by decide +kernel
theorem dX6_take_42 : decode cX6_take 42 = .ok (.if_icmp .eq 9, 3) := by decide +kernel
theorem dX6_take_45 : decode cX6_take 45 = .ok (.iload_n 1, 1) := by decide +kernel
theorem dX6_take_46 : decode cX6_take 46 = .ok (.bipush 23, 2) := by decide +kernel
theorem dX6_take_48 : decode cX6_take 48 = .ok (.if_icmp .ne 50, 3) := by decide +kernel
theorem dX6_take_51 : decode cX6_take 51 = .ok (.iload_n 2, 1) := by decide +kernel
theorem dX6_take_52 : decode cX6_take 52 = .ok (.iconst 1, 1) := by decide +kernel
theorem dX6_take_53 : decode cX6_take 53 = .ok (.if_icmp .lt 43, 3) := by decide +kernel
theorem dX6_take_56 : decode cX6_take 56 = .ok (.aload_n 0, 1) := by decide +kernel
theorem dX6_take_57 : decode cX6_take 57 = .ok (.getfield 18, 3) := by decide +kernel
theorem dX6_take_60 : decode cX6_take 60 = .ok (.iload_n 2, 1) := by decide +kernel
theorem dX6_take_61 : decode cX6_take 61 = .ok (.iconst 1, 1) := by decide +kernel
theorem dX6_take_62 : decode cX6_take 62 = .ok (.isub, 1) := by decide +kernel
theorem dX6_take_63 : decode cX6_take 63 = .ok (.iaload, 1) := by decide +kernel
theorem dX6_take_64 : decode cX6_take 64 = .ok (.istore 5, 2) := by decide +kernel
theorem dX6_take_66 : decode cX6_take 66 = .ok (.aload_n 0, 1) := by decide +kernel
theorem dX6_take_67 : decode cX6_take 67 = .ok (.getfield 18, 3) := by decide +kernel
theorem dX6_take_70 : decode cX6_take 70 = .ok (.iload_n 2, 1) := by decide +kernel
theorem dX6_take_71 : decode cX6_take 71 = .ok (.iconst 1, 1) := by decide +kernel
theorem dX6_take_72 : decode cX6_take 72 = .ok (.isub, 1) := by decide +kernel
theorem dX6_take_73 : decode cX6_take 73 = .ok (.iload_n 1, 1) := by decide +kernel
theorem dX6_take_74 : decode cX6_take 74 = .ok (.bipush 23, 2) := by decide +kernel
theorem dX6_take_76 : decode cX6_take 76 = .ok (.if_icmp .ne 9, 3) := by decide +kernel
theorem dX6_take_79 : decode cX6_take 79 = .ok (.iload 5, 2) := by decide +kernel
theorem dX6_take_81 : decode cX6_take 81 = .ok (.ineg, 1) := by decide +kernel
theorem dX6_take_82 : decode cX6_take 82 = .ok (.goto 13, 3) := by decide +kernel
theorem dX6_take_85 : decode cX6_take 85 = .ok (.iload 5, 2) := by decide +kernel
theorem dX6_take_87 : decode cX6_take 87 = .ok (.ifCond .ne 7, 3) := by decide +kernel
theorem dX6_take_90 : decode cX6_take 90 = .ok (.iconst 1, 1) := by decide +kernel
theorem dX6_take_91 : decode cX6_take 91 = .ok (.goto 4, 3) := by decide +kernel
theorem dX6_take_94 : decode cX6_take 94 = .ok (.iconst 0, 1) := by decide +kernel
theorem dX6_take_95 : decode cX6_take 95 = .ok (.iastore, 1) := by decide +kernel
theorem dX6_take_96 : decode cX6_take 96 = .ok (.iload_n 2, 1) := by decide +kernel
theorem dX6_take_97 : decode cX6_take 97 = .ok (.ireturn, 1) := by decide +kernel
theorem dX6_take_98 : decode cX6_take 98 = .ok (.iload_n 2, 1) := by decide +kernel
theorem dX6_take_99 : decode cX6_take 99 = .ok (.iconst 2, 1) := by decide +kernel
theorem dX6_take_100 : decode cX6_take 100 = .ok (.if_icmp .ge 5, 3) := by decide +kernel
theorem dX6_take_103 : decode cX6_take 103 = .ok (.iload_n 2, 1) := by decide +kernel
theorem dX6_take_104 : decode cX6_take 104 = .ok (.ireturn, 1) := by decide +kernel
theorem dX6_take_105 : decode cX6_take 105 = .ok (.aload_n 0, 1) := by decide +kernel
theorem dX6_take_106 : decode cX6_take 106 = .ok (.getfield 18, 3) := by decide +kernel
theorem dX6_take_109 : decode cX6_take 109 = .ok (.iload_n 2, 1) := by decide +kernel
theorem dX6_take_110 : decode cX6_take 110 = .ok (.iconst 2, 1) := by decide +kernel
theorem dX6_take_111 : decode cX6_take 111 = .ok (.isub, 1) := by decide +kernel
theorem dX6_take_112 : decode cX6_take 112 = .ok (.iload_n 1, 1) := by decide +kernel
theorem dX6_take_113 : decode cX6_take 113 = .ok (.aload_n 0, 1) := by decide +kernel
theorem dX6_take_114 : decode cX6_take 114 = .ok (.getfield 18, 3) := by decide +kernel
theorem dX6_take_117 : decode cX6_take 117 = .ok (.iload_n 2, 1) := by decide +kernel
theorem dX6_take_118 : decode cX6_take 118 = .ok (.iconst 2, 1) := by decide +kernel
theorem dX6_take_119 : decode cX6_take 119 = .ok (.isub, 1) := by decide +kernel
theorem dX6_take_120 : decode cX6_take 120 = .ok (.iaload, 1) := by decide +kernel
theorem dX6_take_121 : decode cX6_take 121 = .ok (.aload_n 0, 1) := by decide +kernel
theorem dX6_take_122 : decode cX6_take 122 = .ok (.getfield 18, 3) := by decide +kernel
theorem dX6_take_125 : decode cX6_take 125 = .ok (.iload_n 2, 1) := by decide +kernel
theorem dX6_take_126 : decode cX6_take 126 = .ok (.iconst 1, 1) := by decide +kernel
theorem dX6_take_127 : decode cX6_take 127 = .ok (.isub, 1) := by decide +kernel
theorem dX6_take_128 : decode cX6_take 128 = .ok (.iaload, 1) := by decide +kernel
theorem dX6_take_129 : decode cX6_take 129 = .ok (.invokestatic 42, 3) := by decide +kernel
theorem dX6_take_132 : decode cX6_take 132 = .ok (.iastore, 1) := by decide +kernel
theorem dX6_take_133 : decode cX6_take 133 = .ok (.iload_n 2, 1) := by decide +kernel
theorem dX6_take_134 : decode cX6_take 134 = .ok (.iconst 1, 1) := by decide +kernel
theorem dX6_take_135 : decode cX6_take 135 = .ok (.isub, 1) := by decide +kernel
theorem dX6_take_136 : decode cX6_take 136 = .ok (.ireturn, 1) := by decide +kernel
theorem dX6_push_0 : decode cX6_push 0 = .ok (.iload_n 2, 1) := by decide +kernel
theorem dX6_push_1 : decode cX6_push 1 = .ok (.aload_n 0, 1) := by decide +kernel
theorem dX6_push_2 : decode cX6_push 2 = .ok (.getfield 18, 3) := by decide +kernel
theorem dX6_push_5 : decode cX6_push 5 = .ok (.arraylength, 1) := by decide +kernel
theorem dX6_push_6 : decode cX6_push 6 = .ok (.if_icmp .lt 5, 3) := by decide +kernel
theorem dX6_push_9 : decode cX6_push 9 = .ok (.iload_n 2, 1) := by decide +kernel
theorem dX6_push_10 : decode cX6_push 10 = .ok (.ireturn, 1) := by decide +kernel
theorem dX6_push_11 : decode cX6_push 11 = .ok (.aload_n 0, 1) := by decide +kernel
theorem dX6_push_12 : decode cX6_push 12 = .ok (.getfield 18, 3) := by decide +kernel
theorem dX6_push_15 : decode cX6_push 15 = .ok (.iload_n 2, 1) := by decide +kernel
theorem dX6_push_16 : decode cX6_push 16 = .ok (.iload_n 1, 1) := by decide +kernel
theorem dX6_push_17 : decode cX6_push 17 = .ok (.iastore, 1) := by decide +kernel
theorem dX6_push_18 : decode cX6_push 18 = .ok (.iload_n 2, 1) := by decide +kernel
theorem dX6_push_19 : decode cX6_push 19 = .ok (.iconst 1, 1) := by decide +kernel
theorem dX6_push_20 : decode cX6_push 20 = .ok (.iadd, 1) := by decide +kernel
theorem dX6_push_21 : decode cX6_push 21 = .ok (.ireturn, 1) := by decide +kernel
theorem dX6_joined_0 : decode cX6_joined 0 = .ok (.iload_n 0, 1) := by decide +kernel
theorem dX6_joined_1 : decode cX6_joined 1 = .ok (.tableswitch 141 3 19 #[83, 97, 141, 141, 141, 141, 141, 141, 141, 141, 141, 141, 133, 137, 141, 111, 122], 83) := by decide +kernel
theorem dX6_joined_84 : decode cX6_joined 84 = .ok (.iload_n 1, 1) := by decide +kernel
theorem dX6_joined_85 : decode cX6_joined 85 = .ok (.ifCond .ne 7, 3) := by decide +kernel
theorem dX6_joined_88 : decode cX6_joined 88 = .ok (.iload_n 2, 1) := by decide +kernel
theorem dX6_joined_89 : decode cX6_joined 89 = .ok (.ifCond .eq 7, 3) := by decide +kernel
theorem dX6_joined_92 : decode cX6_joined 92 = .ok (.iconst 1, 1) := by decide +kernel
theorem dX6_joined_93 : decode cX6_joined 93 = .ok (.goto 4, 3) := by decide +kernel
theorem dX6_joined_96 : decode cX6_joined 96 = .ok (.iconst 0, 1) := by decide +kernel
theorem dX6_joined_97 : decode cX6_joined 97 = .ok (.ireturn, 1) := by decide +kernel
theorem dX6_joined_98 : decode cX6_joined 98 = .ok (.iload_n 1, 1) := by decide +kernel
theorem dX6_joined_99 : decode cX6_joined 99 = .ok (.ifCond .eq 11, 3) := by decide +kernel
theorem dX6_joined_102 : decode cX6_joined 102 = .ok (.iload_n 2, 1) := by decide +kernel
theorem dX6_joined_103 : decode cX6_joined 103 = .ok (.ifCond .eq 7, 3) := by decide +kernel
theorem dX6_joined_106 : decode cX6_joined 106 = .ok (.iconst 1, 1) := by decide +kernel
theorem dX6_joined_107 : decode cX6_joined 107 = .ok (.goto 4, 3) := by decide +kernel
theorem dX6_joined_110 : decode cX6_joined 110 = .ok (.iconst 0, 1) := by decide +kernel
theorem dX6_joined_111 : decode cX6_joined 111 = .ok (.ireturn, 1) := by decide +kernel
theorem dX6_joined_112 : decode cX6_joined 112 = .ok (.iload_n 1, 1) := by decide +kernel
theorem dX6_joined_113 : decode cX6_joined 113 = .ok (.iload_n 2, 1) := by decide +kernel
theorem dX6_joined_114 : decode cX6_joined 114 = .ok (.if_icmp .ge 7, 3) := by decide +kernel
theorem dX6_joined_117 : decode cX6_joined 117 = .ok (.iconst 1, 1) := by decide +kernel
theorem dX6_joined_118 : decode cX6_joined 118 = .ok (.goto 4, 3) := by decide +kernel
theorem dX6_joined_121 : decode cX6_joined 121 = .ok (.iconst 0, 1) := by decide +kernel
theorem dX6_joined_122 : decode cX6_joined 122 = .ok (.ireturn, 1) := by decide +kernel
theorem dX6_joined_123 : decode cX6_joined 123 = .ok (.iload_n 1, 1) := by decide +kernel
theorem dX6_joined_124 : decode cX6_joined 124 = .ok (.iload_n 2, 1) := by decide +kernel
theorem dX6_joined_125 : decode cX6_joined 125 = .ok (.if_icmp .ne 7, 3) := by decide +kernel
theorem dX6_joined_128 : decode cX6_joined 128 = .ok (.iconst 1, 1) := by decide +kernel
theorem dX6_joined_129 : decode cX6_joined 129 = .ok (.goto 4, 3) := by decide +kernel
theorem dX6_joined_132 : decode cX6_joined 132 = .ok (.iconst 0, 1) := by decide +kernel
theorem dX6_joined_133 : decode cX6_joined 133 = .ok (.ireturn, 1) := by decide +kernel
theorem dX6_joined_134 : decode cX6_joined 134 = .ok (.iload_n 1, 1) := by decide +kernel
theorem dX6_joined_135 : decode cX6_joined 135 = .ok (.iload_n 2, 1) := by decide +kernel
theorem dX6_joined_136 : decode cX6_joined 136 = .ok (.iadd, 1) := by decide +kernel
theorem dX6_joined_137 : decode cX6_joined 137 = .ok (.ireturn, 1) := by decide +kernel
theorem dX6_joined_138 : decode cX6_joined 138 = .ok (.iload_n 1, 1) := by decide +kernel
theorem dX6_joined_139 : decode cX6_joined 139 = .ok (.iload_n 2, 1) := by decide +kernel
theorem dX6_joined_140 : decode cX6_joined 140 = .ok (.isub, 1) := by decide +kernel
theorem dX6_joined_141 : decode cX6_joined 141 = .ok (.ireturn, 1) := by decide +kernel
theorem dX6_joined_142 : decode cX6_joined 142 = .ok (.iload_n 1, 1) := by decide +kernel
theorem dX6_joined_143 : decode cX6_joined 143 = .ok (.iload_n 2, 1) := by decide +kernel
theorem dX6_joined_144 : decode cX6_joined 144 = .ok (.imul, 1) := by decide +kernel
theorem dX6_joined_145 : decode cX6_joined 145 = .ok (.ireturn, 1) := by decide +kernel
theorem dX7_init_0 : decode cX7_init 0 = .ok (.aload_n 0, 1) := by decide +kernel
theorem dX7_init_1 : decode cX7_init 1 = .ok (.invokespecial 1, 3) := by decide +kernel
theorem dX7_init_4 : decode cX7_init 4 = .ok (.aload_n 0, 1) := by decide +kernel
theorem dX7_init_5 : decode cX7_init 5 = .ok (.bipush 7, 2) := by decide +kernel
theorem dX7_init_7 : decode cX7_init 7 = .ok (.bipush 7, 2) := by decide +kernel
theorem dX7_init_9 : decode cX7_init 9 = .ok (.multianewarray 9 2, 4) := by decide +kernel
theorem dX7_init_13 : decode cX7_init 13 = .ok (.putfield 11, 3) := by decide +kernel
theorem dX7_init_16 : decode cX7_init 16 = .ok (.aload_n 0, 1) := by decide +kernel
theorem dX7_init_17 : decode cX7_init 17 = .ok (.bipush 7, 2) := by decide +kernel
theorem dX7_init_19 : decode cX7_init 19 = .ok (.anewarray 14, 3) := by decide +kernel
theorem dX7_init_22 : decode cX7_init 22 = .ok (.putfield 16, 3) := by decide +kernel
theorem dX7_init_25 : decode cX7_init 25 = .ok (.aload_n 0, 1) := by decide +kernel
theorem dX7_init_26 : decode cX7_init 26 = .ok (.iconst 4, 1) := by decide +kernel
theorem dX7_init_27 : decode cX7_init 27 = .ok (.newarray .int, 2) := by decide +kernel
theorem dX7_init_29 : decode cX7_init 29 = .ok (.putfield 20, 3) := by decide +kernel
theorem dX7_init_32 : decode cX7_init 32 = .ok (.aload_n 0, 1) := by decide +kernel
theorem dX7_init_33 : decode cX7_init 33 = .ok (.iconst 4, 1) := by decide +kernel
theorem dX7_init_34 : decode cX7_init 34 = .ok (.newarray .int, 2) := by decide +kernel
theorem dX7_init_36 : decode cX7_init 36 = .ok (.putfield 24, 3) := by decide +kernel
theorem dX7_init_39 : decode cX7_init 39 = .ok (.aload_n 0, 1) := by decide +kernel
theorem dX7_init_40 : decode cX7_init 40 = .ok (.bipush 6, 2) := by decide +kernel
theorem dX7_init_42 : decode cX7_init 42 = .ok (.anewarray 27, 3) := by decide +kernel
theorem dX7_init_45 : decode cX7_init 45 = .ok (.putfield 29, 3) := by decide +kernel
theorem dX7_init_48 : decode cX7_init 48 = .ok (.aload_n 0, 1) := by decide +kernel
theorem dX7_init_49 : decode cX7_init 49 = .ok (.new 33, 3) := by decide +kernel
theorem dX7_init_52 : decode cX7_init 52 = .ok (.dup, 1) := by decide +kernel
theorem dX7_init_53 : decode cX7_init 53 = .ok (.invokespecial 35, 3) := by decide +kernel
theorem dX7_init_56 : decode cX7_init 56 = .ok (.putfield 36, 3) := by decide +kernel
theorem dX7_init_59 : decode cX7_init 59 = .ok (.aload_n 0, 1) := by decide +kernel
theorem dX7_init_60 : decode cX7_init 60 = .ok (.new 40, 3) := by decide +kernel
theorem dX7_init_63 : decode cX7_init 63 = .ok (.dup, 1) := by decide +kernel
theorem dX7_init_64 : decode cX7_init 64 = .ok (.invokespecial 42, 3) := by decide +kernel
theorem dX7_init_67 : decode cX7_init 67 = .ok (.putfield 43, 3) := by decide +kernel
theorem dX7_init_70 : decode cX7_init 70 = .ok (.aload_n 0, 1) := by decide +kernel
theorem dX7_init_71 : decode cX7_init 71 = .ok (.new 47, 3) := by decide +kernel
theorem dX7_init_74 : decode cX7_init 74 = .ok (.dup, 1) := by decide +kernel
theorem dX7_init_75 : decode cX7_init 75 = .ok (.invokespecial 49, 3) := by decide +kernel
theorem dX7_init_78 : decode cX7_init 78 = .ok (.putfield 50, 3) := by decide +kernel
theorem dX7_init_81 : decode cX7_init 81 = .ok (.aload_n 0, 1) := by decide +kernel
theorem dX7_init_82 : decode cX7_init 82 = .ok (.iconst 4, 1) := by decide +kernel
theorem dX7_init_83 : decode cX7_init 83 = .ok (.anewarray 54, 3) := by decide +kernel
theorem dX7_init_86 : decode cX7_init 86 = .ok (.putfield 56, 3) := by decide +kernel
theorem dX7_init_89 : decode cX7_init 89 = .ok (.aload_n 0, 1) := by decide +kernel
theorem dX7_init_90 : decode cX7_init 90 = .ok (.iconst 0, 1) := by decide +kernel
theorem dX7_init_91 : decode cX7_init 91 = .ok (.putfield 60, 3) := by decide +kernel
theorem dX7_init_94 : decode cX7_init 94 = .ok (.aload_n 0, 1) := by decide +kernel
theorem dX7_init_95 : decode cX7_init 95 = .ok (.iconst 0, 1) := by decide +kernel
theorem dX7_init_96 : decode cX7_init 96 = .ok (.putfield 64, 3) := by decide +kernel
theorem dX7_init_99 : decode cX7_init 99 = .ok (.aload_n 0, 1) := by decide +kernel
theorem dX7_init_100 : decode cX7_init 100 = .ok (.iconst 1, 1) := by decide +kernel
theorem dX7_init_101 : decode cX7_init 101 = .ok (.putfield 67, 3) := by decide +kernel
theorem dX7_init_104 : decode cX7_init 104 = .ok (.aload_n 0, 1) := by decide +kernel
theorem dX7_init_105 : decode cX7_init 105 = .ok (.iconst 0, 1) := by decide +kernel
theorem dX7_init_106 : decode cX7_init 106 = .ok (.putfield 70, 3) := by decide +kernel
theorem dX7_init_109 : decode cX7_init 109 = .ok (.iconst 0, 1) := by decide +kernel
theorem dX7_init_110 : decode cX7_init 110 = .ok (.istore_n 1, 1) := by decide +kernel
theorem dX7_init_111 : decode cX7_init 111 = .ok (.iload_n 1, 1) := by decide +kernel
theorem dX7_init_112 : decode cX7_init 112 = .ok (.bipush 7, 2) := by decide +kernel
theorem dX7_init_114 : decode cX7_init 114 = .ok (.if_icmp .ge 40, 3) := by decide +kernel
theorem dX7_init_117 : decode cX7_init 117 = .ok (.iconst 0, 1) := by decide +kernel
theorem dX7_init_118 : decode cX7_init 118 = .ok (.istore_n 2, 1) := by decide +kernel
theorem dX7_init_119 : decode cX7_init 119 = .ok (.iload_n 2, 1) := by decide +kernel
theorem dX7_init_120 : decode cX7_init 120 = .ok (.bipush 7, 2) := by decide +kernel
theorem dX7_init_122 : decode cX7_init 122 = .ok (.if_icmp .ge 26, 3) := by decide +kernel
theorem dX7_init_125 : decode cX7_init 125 = .ok (.aload_n 0, 1) := by decide +kernel
theorem dX7_init_126 : decode cX7_init 126 = .ok (.getfield 11, 3) := by decide +kernel
theorem dX7_init_129 : decode cX7_init 129 = .ok (.iload_n 1, 1) := by decide +kernel
theorem dX7_init_130 : decode cX7_init 130 = .ok (.aaload, 1) := by decide +kernel
theorem dX7_init_131 : decode cX7_init 131 = .ok (.iload_n 2, 1) := by decide +kernel
theorem dX7_init_132 : decode cX7_init 132 = .ok (.bipush 30, 2) := by decide +kernel
theorem dX7_init_134 : decode cX7_init 134 = .ok (.iload_n 1, 1) := by decide +kernel
theorem dX7_init_135 : decode cX7_init 135 = .ok (.iload_n 2, 1) := by decide +kernel
theorem dX7_init_136 : decode cX7_init 136 = .ok (.isub, 1) := by decide +kernel
theorem dX7_init_137 : decode cX7_init 137 = .ok (.invokestatic 73, 3) := by decide +kernel
theorem dX7_init_140 : decode cX7_init 140 = .ok (.imul, 1) := by decide +kernel
theorem dX7_init_141 : decode cX7_init 141 = .ok (.iastore, 1) := by decide +kernel
theorem dX7_init_142 : decode cX7_init 142 = .ok (.iinc 2 1, 3) := by decide +kernel
theorem dX7_init_145 : decode cX7_init 145 = .ok (.goto (-26), 3) := by decide +kernel
theorem dX7_init_148 : decode cX7_init 148 = .ok (.iinc 1 1, 3) := by decide +kernel
theorem dX7_init_151 : decode cX7_init 151 = .ok (.goto (-40), 3) := by decide +kernel
theorem dX7_init_154 : decode cX7_init 154 = .ok (.iconst 0, 1) := by decide +kernel
theorem dX7_init_155 : decode cX7_init 155 = .ok (.istore_n 1, 1) := by decide +kernel
theorem dX7_init_156 : decode cX7_init 156 = .ok (.iload_n 1, 1) := by decide +kernel
theorem dX7_init_157 : decode cX7_init 157 = .ok (.bipush 7, 2) := by decide +kernel
theorem dX7_init_159 : decode cX7_init 159 = .ok (.if_icmp .ge 22, 3) := by decide +kernel
theorem dX7_init_162 : decode cX7_init 162 = .ok (.aload_n 0, 1) := by decide +kernel
theorem dX7_init_163 : decode cX7_init 163 = .ok (.getfield 16, 3) := by decide +kernel
theorem dX7_init_166 : decode cX7_init 166 = .ok (.iload_n 1, 1) := by decide +kernel
theorem dX7_init_167 : decode cX7_init 167 = .ok (.new 14, 3) := by decide +kernel
theorem dX7_init_170 : decode cX7_init 170 = .ok (.dup, 1) := by decide +kernel
theorem dX7_init_171 : decode cX7_init 171 = .ok (.invokespecial 79, 3) := by decide +kernel
theorem dX7_init_174 : decode cX7_init 174 = .ok (.aastore, 1) := by decide +kernel
theorem dX7_init_175 : decode cX7_init 175 = .ok (.iinc 1 1, 3) := by decide +kernel
theorem dX7_init_178 : decode cX7_init 178 = .ok (.goto (-22), 3) := by decide +kernel
theorem dX7_init_181 : decode cX7_init 181 = .ok (.iconst 0, 1) := by decide +kernel
theorem dX7_init_182 : decode cX7_init 182 = .ok (.istore_n 1, 1) := by decide +kernel
theorem dX7_init_183 : decode cX7_init 183 = .ok (.iload_n 1, 1) := by decide +kernel
theorem dX7_init_184 : decode cX7_init 184 = .ok (.bipush 6, 2) := by decide +kernel
theorem dX7_init_186 : decode cX7_init 186 = .ok (.if_icmp .ge 22, 3) := by decide +kernel
theorem dX7_init_189 : decode cX7_init 189 = .ok (.aload_n 0, 1) := by decide +kernel
theorem dX7_init_190 : decode cX7_init 190 = .ok (.getfield 29, 3) := by decide +kernel
theorem dX7_init_193 : decode cX7_init 193 = .ok (.iload_n 1, 1) := by decide +kernel
theorem dX7_init_194 : decode cX7_init 194 = .ok (.new 27, 3) := by decide +kernel
theorem dX7_init_197 : decode cX7_init 197 = .ok (.dup, 1) := by decide +kernel
theorem dX7_init_198 : decode cX7_init 198 = .ok (.invokespecial 80, 3) := by decide +kernel
theorem dX7_init_201 : decode cX7_init 201 = .ok (.aastore, 1) := by decide +kernel
theorem dX7_init_202 : decode cX7_init 202 = .ok (.iinc 1 1, 3) := by decide +kernel
theorem dX7_init_205 : decode cX7_init 205 = .ok (.goto (-22), 3) := by decide +kernel
theorem dX7_init_208 : decode cX7_init 208 = .ok (.iconst 0, 1) := by decide +kernel
theorem dX7_init_209 : decode cX7_init 209 = .ok (.istore_n 1, 1) := by decide +kernel
theorem dX7_init_210 : decode cX7_init 210 = .ok (.iload_n 1, 1) := by decide +kernel
theorem dX7_init_211 : decode cX7_init 211 = .ok (.iconst 4, 1) := by decide +kernel
theorem dX7_init_212 : decode cX7_init 212 = .ok (.if_icmp .ge 22, 3) := by decide +kernel
theorem dX7_init_215 : decode cX7_init 215 = .ok (.aload_n 0, 1) := by decide +kernel
theorem dX7_init_216 : decode cX7_init 216 = .ok (.getfield 56, 3) := by decide +kernel
theorem dX7_init_219 : decode cX7_init 219 = .ok (.iload_n 1, 1) := by decide +kernel
theorem dX7_init_220 : decode cX7_init 220 = .ok (.new 54, 3) := by decide +kernel
theorem dX7_init_223 : decode cX7_init 223 = .ok (.dup, 1) := by decide +kernel
theorem dX7_init_224 : decode cX7_init 224 = .ok (.invokespecial 81, 3) := by decide +kernel
theorem dX7_init_227 : decode cX7_init 227 = .ok (.aastore, 1) := by decide +kernel
theorem dX7_init_228 : decode cX7_init 228 = .ok (.iinc 1 1, 3) := by decide +kernel
theorem dX7_init_231 : decode cX7_init 231 = .ok (.goto (-21), 3) := by decide +kernel
theorem dX7_init_234 : decode cX7_init 234 = .ok (.return_, 1) := by decide +kernel
theorem dX7_path_0 : decode cX7_path 0 = .ok (.iload_n 1, 1) := by decide +kernel
theorem dX7_path_1 : decode cX7_path 1 = .ok (.iload_n 2, 1) := by decide +kernel
theorem dX7_path_2 : decode cX7_path 2 = .ok (.invokestatic 82, 3) := by decide +kernel
theorem dX7_path_5 : decode cX7_path 5 = .ok (.ifCond .ne 6, 3) := by decide +kernel
theorem dX7_path_8 : decode cX7_path 8 = .ok (.bipush (-5), 2) := by decide +kernel
theorem dX7_path_10 : decode cX7_path 10 = .ok (.ireturn, 1) := by decide +kernel
theorem dX7_path_11 : decode cX7_path 11 = .ok (.iload_n 3, 1) := by decide +kernel
theorem dX7_path_12 : decode cX7_path 12 = .ok (.iconst 1, 1) := by decide +kernel
theorem dX7_path_13 : decode cX7_path 13 = .ok (.sipush 999, 3) := by decide +kernel
theorem dX7_path_16 : decode cX7_path 16 = .ok (.invokestatic 86, 3) := by decide +kernel
theorem dX7_path_19 : decode cX7_path 19 = .ok (.ifCond .ne 6, 3) := by decide +kernel
theorem dX7_path_22 : decode cX7_path 22 = .ok (.bipush (-7), 2) := by decide +kernel
theorem dX7_path_24 : decode cX7_path 24 = .ok (.ireturn, 1) := by decide +kernel
theorem dX7_path_25 : decode cX7_path 25 = .ok (.aload_n 0, 1) := by decide +kernel
theorem dX7_path_26 : decode cX7_path 26 = .ok (.getfield 11, 3) := by decide +kernel
theorem dX7_path_29 : decode cX7_path 29 = .ok (.iload_n 1, 1) := by decide +kernel
theorem dX7_path_30 : decode cX7_path 30 = .ok (.aaload, 1) := by decide +kernel
theorem dX7_path_31 : decode cX7_path 31 = .ok (.iload_n 2, 1) := by decide +kernel
theorem dX7_path_32 : decode cX7_path 32 = .ok (.iaload, 1) := by decide +kernel
theorem dX7_path_33 : decode cX7_path 33 = .ok (.istore 4, 2) := by decide +kernel
theorem dX7_path_35 : decode cX7_path 35 = .ok (.aload_n 0, 1) := by decide +kernel
theorem dX7_path_36 : decode cX7_path 36 = .ok (.iload_n 1, 1) := by decide +kernel
theorem dX7_path_37 : decode cX7_path 37 = .ok (.iload_n 2, 1) := by decide +kernel
theorem dX7_path_38 : decode cX7_path 38 = .ok (.iload_n 3, 1) := by decide +kernel
theorem dX7_path_39 : decode cX7_path 39 = .ok (.invokevirtual 90, 3) := by decide +kernel
theorem dX7_path_42 : decode cX7_path 42 = .ok (.iload 4, 2) := by decide +kernel
theorem dX7_path_44 : decode cX7_path 44 = .ok (.ireturn, 1) := by decide +kernel
theorem dX7_pathTold_0 : decode cX7_pathTold 0 = .ok (.iload_n 1, 1) := by decide +kernel
theorem dX7_pathTold_1 : decode cX7_pathTold 1 = .ok (.invokestatic 94, 3) := by decide +kernel
theorem dX7_pathTold_4 : decode cX7_pathTold 4 = .ok (.ifCond .eq 21, 3) := by decide +kernel
theorem dX7_pathTold_7 : decode cX7_pathTold 7 = .ok (.iload_n 2, 1) := by decide +kernel
theorem dX7_pathTold_8 : decode cX7_pathTold 8 = .ok (.invokestatic 94, 3) := by decide +kernel
theorem dX7_pathTold_11 : decode cX7_pathTold 11 = .ok (.ifCond .eq 14, 3) := by decide +kernel
theorem dX7_pathTold_14 : decode cX7_pathTold 14 = .ok (.aload_n 0, 1) := by decide +kernel
theorem dX7_pathTold_15 : decode cX7_pathTold 15 = .ok (.getfield 11, 3) := by decide +kernel
theorem dX7_pathTold_18 : decode cX7_pathTold 18 = .ok (.iload_n 1, 1) := by decide +kernel
theorem dX7_pathTold_19 : decode cX7_pathTold 19 = .ok (.aaload, 1) := by decide +kernel
theorem dX7_pathTold_20 : decode cX7_pathTold 20 = .ok (.iload_n 2, 1) := by decide +kernel
theorem dX7_pathTold_21 : decode cX7_pathTold 21 = .ok (.iaload, 1) := by decide +kernel
theorem dX7_pathTold_22 : decode cX7_pathTold 22 = .ok (.goto 5, 3) := by decide +kernel
theorem dX7_pathTold_25 : decode cX7_pathTold 25 = .ok (.bipush (-5), 2) := by decide +kernel
theorem dX7_pathTold_27 : decode cX7_pathTold 27 = .ok (.ireturn, 1) := by decide +kernel
theorem dX7_ride_0 : decode cX7_ride 0 = .ok (.iload_n 1, 1) := by decide +kernel
theorem dX7_ride_1 : decode cX7_ride 1 = .ok (.iload_n 2, 1) := by decide +kernel
theorem dX7_ride_2 : decode cX7_ride 2 = .ok (.invokestatic 82, 3) := by decide +kernel
theorem dX7_ride_5 : decode cX7_ride 5 = .ok (.ifCond .ne 6, 3) := by decide +kernel
theorem dX7_ride_8 : decode cX7_ride 8 = .ok (.bipush (-2), 2) := by decide +kernel
theorem dX7_ride_10 : decode cX7_ride 10 = .ok (.ireturn, 1) := by decide +kernel
theorem dX7_ride_11 : decode cX7_ride 11 = .ok (.aload_n 0, 1) := by decide +kernel
theorem dX7_ride_12 : decode cX7_ride 12 = .ok (.getfield 64, 3) := by decide +kernel
theorem dX7_ride_15 : decode cX7_ride 15 = .ok (.iconst 4, 1) := by decide +kernel
theorem dX7_ride_16 : decode cX7_ride 16 = .ok (.if_icmp .lt 6, 3) := by decide +kernel
theorem dX7_ride_19 : decode cX7_ride 19 = .ok (.bipush (-4), 2) := by decide +kernel
theorem dX7_ride_21 : decode cX7_ride 21 = .ok (.ireturn, 1) := by decide +kernel
theorem dX7_ride_22 : decode cX7_ride 22 = .ok (.aload_n 0, 1) := by decide +kernel
theorem dX7_ride_23 : decode cX7_ride 23 = .ok (.getfield 20, 3) := by decide +kernel
theorem dX7_ride_26 : decode cX7_ride 26 = .ok (.aload_n 0, 1) := by decide +kernel
theorem dX7_ride_27 : decode cX7_ride 27 = .ok (.getfield 64, 3) := by decide +kernel
theorem dX7_ride_30 : decode cX7_ride 30 = .ok (.iload_n 1, 1) := by decide +kernel
theorem dX7_ride_31 : decode cX7_ride 31 = .ok (.iastore, 1) := by decide +kernel
theorem dX7_ride_32 : decode cX7_ride 32 = .ok (.aload_n 0, 1) := by decide +kernel
theorem dX7_ride_33 : decode cX7_ride 33 = .ok (.getfield 24, 3) := by decide +kernel
theorem dX7_ride_36 : decode cX7_ride 36 = .ok (.aload_n 0, 1) := by decide +kernel
theorem dX7_ride_37 : decode cX7_ride 37 = .ok (.getfield 64, 3) := by decide +kernel
theorem dX7_ride_40 : decode cX7_ride 40 = .ok (.iload_n 2, 1) := by decide +kernel
theorem dX7_ride_41 : decode cX7_ride 41 = .ok (.iastore, 1) := by decide +kernel
theorem dX7_ride_42 : decode cX7_ride 42 = .ok (.aload_n 0, 1) := by decide +kernel
theorem dX7_ride_43 : decode cX7_ride 43 = .ok (.dup, 1) := by decide +kernel
theorem dX7_ride_44 : decode cX7_ride 44 = .ok (.getfield 64, 3) := by decide +kernel
theorem dX7_ride_47 : decode cX7_ride 47 = .ok (.iconst 1, 1) := by decide +kernel
theorem dX7_ride_48 : decode cX7_ride 48 = .ok (.iadd, 1) := by decide +kernel
theorem dX7_ride_49 : decode cX7_ride 49 = .ok (.putfield 64, 3) := by decide +kernel
theorem dX7_ride_52 : decode cX7_ride 52 = .ok (.aload_n 0, 1) := by decide +kernel
theorem dX7_ride_53 : decode cX7_ride 53 = .ok (.getfield 64, 3) := by decide +kernel
theorem dX7_ride_56 : decode cX7_ride 56 = .ok (.iconst 1, 1) := by decide +kernel
theorem dX7_ride_57 : decode cX7_ride 57 = .ok (.isub, 1) := by decide +kernel
theorem dX7_ride_58 : decode cX7_ride 58 = .ok (.ireturn, 1) := by decide +kernel
theorem dX7_rideTold_0 : decode cX7_rideTold 0 = .ok (.aload_n 0, 1) := by decide +kernel
theorem dX7_rideTold_1 : decode cX7_rideTold 1 = .ok (.iload_n 1, 1) := by decide +kernel
theorem dX7_rideTold_2 : decode cX7_rideTold 2 = .ok (.invokevirtual 98, 3) := by decide +kernel
theorem dX7_rideTold_5 : decode cX7_rideTold 5 = .ok (.ifCond .ne 6, 3) := by decide +kernel
theorem dX7_rideTold_8 : decode cX7_rideTold 8 = .ok (.bipush (-5), 2) := by decide +kernel
theorem dX7_rideTold_10 : decode cX7_rideTold 10 = .ok (.ireturn, 1) := by decide +kernel
theorem dX7_rideTold_11 : decode cX7_rideTold 11 = .ok (.iload_n 2, 1) := by decide +kernel
theorem dX7_rideTold_12 : decode cX7_rideTold 12 = .ok (.iconst 0, 1) := by decide +kernel
theorem dX7_rideTold_13 : decode cX7_rideTold 13 = .ok (.iconst 1, 1) := by decide +kernel
theorem dX7_rideTold_14 : decode cX7_rideTold 14 = .ok (.invokestatic 86, 3) := by decide +kernel
theorem dX7_rideTold_17 : decode cX7_rideTold 17 = .ok (.ifCond .ne 6, 3) := by decide +kernel
theorem dX7_rideTold_20 : decode cX7_rideTold 20 = .ok (.bipush (-7), 2) := by decide +kernel
theorem dX7_rideTold_22 : decode cX7_rideTold 22 = .ok (.ireturn, 1) := by decide +kernel
theorem dX7_rideTold_23 : decode cX7_rideTold 23 = .ok (.iload_n 2, 1) := by decide +kernel
theorem dX7_rideTold_24 : decode cX7_rideTold 24 = .ok (.ifCond .ne 12, 3) := by decide +kernel
theorem dX7_rideTold_27 : decode cX7_rideTold 27 = .ok (.aload_n 0, 1) := by decide +kernel
theorem dX7_rideTold_28 : decode cX7_rideTold 28 = .ok (.getfield 20, 3) := by decide +kernel
theorem dX7_rideTold_31 : decode cX7_rideTold 31 = .ok (.iload_n 1, 1) := by decide +kernel
theorem dX7_rideTold_32 : decode cX7_rideTold 32 = .ok (.iaload, 1) := by decide +kernel
theorem dX7_rideTold_33 : decode cX7_rideTold 33 = .ok (.goto 9, 3) := by decide +kernel
theorem dX7_rideTold_36 : decode cX7_rideTold 36 = .ok (.aload_n 0, 1) := by decide +kernel
theorem dX7_rideTold_37 : decode cX7_rideTold 37 = .ok (.getfield 24, 3) := by decide +kernel
theorem dX7_rideTold_40 : decode cX7_rideTold 40 = .ok (.iload_n 1, 1) := by decide +kernel
theorem dX7_rideTold_41 : decode cX7_rideTold 41 = .ok (.iaload, 1) := by decide +kernel
theorem dX7_rideTold_42 : decode cX7_rideTold 42 = .ok (.ireturn, 1) := by decide +kernel
theorem dX7_count_0 : decode cX7_count 0 = .ok (.iload_n 1, 1) := by decide +kernel
theorem dX7_count_1 : decode cX7_count 1 = .ok (.tableswitch 66 0 4 #[35, 40, 45, 50, 55], 35) := by decide +kernel
theorem dX7_count_36 : decode cX7_count 36 = .ok (.aload_n 0, 1) := by decide +kernel
theorem dX7_count_37 : decode cX7_count 37 = .ok (.getfield 60, 3) := by decide +kernel
theorem dX7_count_40 : decode cX7_count 40 = .ok (.ireturn, 1) := by decide +kernel
theorem dX7_count_41 : decode cX7_count 41 = .ok (.aload_n 0, 1) := by decide +kernel
theorem dX7_count_42 : decode cX7_count 42 = .ok (.getfield 64, 3) := by decide +kernel
theorem dX7_count_45 : decode cX7_count 45 = .ok (.ireturn, 1) := by decide +kernel
theorem dX7_count_46 : decode cX7_count 46 = .ok (.aload_n 0, 1) := by decide +kernel
theorem dX7_count_47 : decode cX7_count 47 = .ok (.getfield 67, 3) := by decide +kernel
theorem dX7_count_50 : decode cX7_count 50 = .ok (.ireturn, 1) := by decide +kernel
theorem dX7_count_51 : decode cX7_count 51 = .ok (.aload_n 0, 1) := by decide +kernel
theorem dX7_count_52 : decode cX7_count 52 = .ok (.getfield 70, 3) := by decide +kernel
theorem dX7_count_55 : decode cX7_count 55 = .ok (.ireturn, 1) := by decide +kernel
theorem dX7_count_56 : decode cX7_count 56 = .ok (.aload_n 0, 1) := by decide +kernel
theorem dX7_count_57 : decode cX7_count 57 = .ok (.getfield 36, 3) := by decide +kernel
theorem dX7_count_60 : decode cX7_count 60 = .ok (.getfield 101, 3) := by decide +kernel
theorem dX7_count_63 : decode cX7_count 63 = .ok (.getfield 105, 3) := by decide +kernel
theorem dX7_count_66 : decode cX7_count 66 = .ok (.ireturn, 1) := by decide +kernel
theorem dX7_count_67 : decode cX7_count 67 = .ok (.bipush (-2), 2) := by decide +kernel
theorem dX7_count_69 : decode cX7_count 69 = .ok (.ireturn, 1) := by decide +kernel
theorem dX7_feed_0 : decode cX7_feed 0 = .ok (.iload_n 1, 1) := by decide +kernel
theorem dX7_feed_1 : decode cX7_feed 1 = .ok (.iconst 1, 1) := by decide +kernel
theorem dX7_feed_2 : decode cX7_feed 2 = .ok (.iconst 5, 1) := by decide +kernel
theorem dX7_feed_3 : decode cX7_feed 3 = .ok (.invokestatic 86, 3) := by decide +kernel
theorem dX7_feed_6 : decode cX7_feed 6 = .ok (.ifCond .eq 17, 3) := by decide +kernel
theorem dX7_feed_9 : decode cX7_feed 9 = .ok (.iload_n 2, 1) := by decide +kernel
theorem dX7_feed_10 : decode cX7_feed 10 = .ok (.iload_n 3, 1) := by decide +kernel
theorem dX7_feed_11 : decode cX7_feed 11 = .ok (.iload 4, 2) := by decide +kernel
theorem dX7_feed_13 : decode cX7_feed 13 = .ok (.iload 5, 2) := by decide +kernel
theorem dX7_feed_15 : decode cX7_feed 15 = .ok (.iload 6, 2) := by decide +kernel
theorem dX7_feed_17 : decode cX7_feed 17 = .ok (.invokestatic 110, 3) := by decide +kernel
theorem dX7_feed_20 : decode cX7_feed 20 = .ok (.ifCond .ne 6, 3) := by decide +kernel
theorem dX7_feed_23 : decode cX7_feed 23 = .ok (.bipush (-2), 2) := by decide +kernel
theorem dX7_feed_25 : decode cX7_feed 25 = .ok (.ireturn, 1) := by decide +kernel
theorem dX7_feed_26 : decode cX7_feed 26 = .ok (.aload_n 0, 1) := by decide +kernel
theorem dX7_feed_27 : decode cX7_feed 27 = .ok (.getfield 36, 3) := by decide +kernel
theorem dX7_feed_30 : decode cX7_feed 30 = .ok (.getfield 101, 3) := by decide +kernel
theorem dX7_feed_33 : decode cX7_feed 33 = .ok (.astore 7, 2) := by decide +kernel
theorem dX7_feed_35 : decode cX7_feed 35 = .ok (.aload 7, 2) := by decide +kernel
theorem dX7_feed_37 : decode cX7_feed 37 = .ok (.getfield 105, 3) := by decide +kernel
theorem dX7_feed_40 : decode cX7_feed 40 = .ok (.iload_n 1, 1) := by decide +kernel
theorem dX7_feed_41 : decode cX7_feed 41 = .ok (.iadd, 1) := by decide +kernel
theorem dX7_feed_42 : decode cX7_feed 42 = .ok (.sipush 160, 3) := by decide +kernel
theorem dX7_feed_45 : decode cX7_feed 45 = .ok (.if_icmp .le 6, 3) := by decide +kernel
theorem dX7_feed_48 : decode cX7_feed 48 = .ok (.bipush (-4), 2) := by decide +kernel
theorem dX7_feed_50 : decode cX7_feed 50 = .ok (.ireturn, 1) := by decide +kernel
theorem dX7_feed_51 : decode cX7_feed 51 = .ok (.aload 7, 2) := by decide +kernel
theorem dX7_feed_53 : decode cX7_feed 53 = .ok (.iload_n 2, 1) := by decide +kernel
theorem dX7_feed_54 : decode cX7_feed 54 = .ok (.invokevirtual 114, 3) := by decide +kernel
theorem dX7_feed_57 : decode cX7_feed 57 = .ok (.iload_n 1, 1) := by decide +kernel
theorem dX7_feed_58 : decode cX7_feed 58 = .ok (.iconst 1, 1) := by decide +kernel
theorem dX7_feed_59 : decode cX7_feed 59 = .ok (.if_icmp .le 9, 3) := by decide +kernel
theorem dX7_feed_62 : decode cX7_feed 62 = .ok (.aload 7, 2) := by decide +kernel
theorem dX7_feed_64 : decode cX7_feed 64 = .ok (.iload_n 3, 1) := by decide +kernel
theorem dX7_feed_65 : decode cX7_feed 65 = .ok (.invokevirtual 114, 3) := by decide +kernel
theorem dX7_feed_68 : decode cX7_feed 68 = .ok (.iload_n 1, 1) := by decide +kernel
theorem dX7_feed_69 : decode cX7_feed 69 = .ok (.iconst 2, 1) := by decide +kernel
theorem dX7_feed_70 : decode cX7_feed 70 = .ok (.if_icmp .le 10, 3) := by decide +kernel
theorem dX7_feed_73 : decode cX7_feed 73 = .ok (.aload 7, 2) := by decide +kernel
theorem dX7_feed_75 : decode cX7_feed 75 = .ok (.iload 4, 2) := by decide +kernel
theorem dX7_feed_77 : decode cX7_feed 77 = .ok (.invokevirtual 114, 3) := by decide +kernel
theorem dX7_feed_80 : decode cX7_feed 80 = .ok (.iload_n 1, 1) := by decide +kernel
theorem dX7_feed_81 : decode cX7_feed 81 = .ok (.iconst 3, 1) := by decide +kernel
theorem dX7_feed_82 : decode cX7_feed 82 = .ok (.if_icmp .le 10, 3) := by decide +kernel
theorem dX7_feed_85 : decode cX7_feed 85 = .ok (.aload 7, 2) := by decide +kernel
theorem dX7_feed_87 : decode cX7_feed 87 = .ok (.iload 5, 2) := by decide +kernel
theorem dX7_feed_89 : decode cX7_feed 89 = .ok (.invokevirtual 114, 3) := by decide +kernel
theorem dX7_feed_92 : decode cX7_feed 92 = .ok (.iload_n 1, 1) := by decide +kernel
theorem dX7_feed_93 : decode cX7_feed 93 = .ok (.iconst 4, 1) := by decide +kernel
theorem dX7_feed_94 : decode cX7_feed 94 = .ok (.if_icmp .le 10, 3) := by decide +kernel
theorem dX7_feed_97 : decode cX7_feed 97 = .ok (.aload 7, 2) := by decide +kernel
theorem dX7_feed_99 : decode cX7_feed 99 = .ok (.iload 6, 2) := by decide +kernel
theorem dX7_feed_101 : decode cX7_feed 101 = .ok (.invokevirtual 114, 3) := by decide +kernel
theorem dX7_feed_104 : decode cX7_feed 104 = .ok (.aload 7, 2) := by decide +kernel
theorem dX7_feed_106 : decode cX7_feed 106 = .ok (.getfield 105, 3) := by decide +kernel
theorem dX7_feed_109 : decode cX7_feed 109 = .ok (.ireturn, 1) := by decide +kernel
theorem dX7_text_0 : decode cX7_text 0 = .ok (.aload_n 0, 1) := by decide +kernel
theorem dX7_text_1 : decode cX7_text 1 = .ok (.getfield 67, 3) := by decide +kernel
theorem dX7_text_4 : decode cX7_text 4 = .ok (.bipush 6, 2) := by decide +kernel
theorem dX7_text_6 : decode cX7_text 6 = .ok (.if_icmp .lt 6, 3) := by decide +kernel
theorem dX7_text_9 : decode cX7_text 9 = .ok (.bipush (-4), 2) := by decide +kernel
theorem dX7_text_11 : decode cX7_text 11 = .ok (.ireturn, 1) := by decide +kernel
theorem dX7_text_12 : decode cX7_text 12 = .ok (.aload_n 0, 1) := by decide +kernel
theorem dX7_text_13 : decode cX7_text 13 = .ok (.getfield 36, 3) := by decide +kernel
theorem dX7_text_16 : decode cX7_text 16 = .ok (.aload_n 0, 1) := by decide +kernel
theorem dX7_text_17 : decode cX7_text 17 = .ok (.getfield 29, 3) := by decide +kernel
theorem dX7_text_20 : decode cX7_text 20 = .ok (.aload_n 0, 1) := by decide +kernel
theorem dX7_text_21 : decode cX7_text 21 = .ok (.getfield 67, 3) := by decide +kernel
theorem dX7_text_24 : decode cX7_text 24 = .ok (.aaload, 1) := by decide +kernel
theorem dX7_text_25 : decode cX7_text 25 = .ok (.invokevirtual 118, 3) := by decide +kernel
theorem dX7_text_28 : decode cX7_text 28 = .ok (.istore_n 1, 1) := by decide +kernel
theorem dX7_text_29 : decode cX7_text 29 = .ok (.aload_n 0, 1) := by decide +kernel
theorem dX7_text_30 : decode cX7_text 30 = .ok (.getfield 36, 3) := by decide +kernel
theorem dX7_text_33 : decode cX7_text 33 = .ok (.getfield 101, 3) := by decide +kernel
theorem dX7_text_36 : decode cX7_text 36 = .ok (.invokevirtual 122, 3) := by decide +kernel
theorem dX7_text_39 : decode cX7_text 39 = .ok (.iload_n 1, 1) := by decide +kernel
theorem dX7_text_40 : decode cX7_text 40 = .ok (.iconst (-1), 1) := by decide +kernel
theorem dX7_text_41 : decode cX7_text 41 = .ok (.if_icmp .eq 8, 3) := by decide +kernel
theorem dX7_text_44 : decode cX7_text 44 = .ok (.bipush (-100), 2) := by decide +kernel
theorem dX7_text_46 : decode cX7_text 46 = .ok (.iload_n 1, 1) := by decide +kernel
theorem dX7_text_47 : decode cX7_text 47 = .ok (.isub, 1) := by decide +kernel
theorem dX7_text_48 : decode cX7_text 48 = .ok (.ireturn, 1) := by decide +kernel
theorem dX7_text_49 : decode cX7_text 49 = .ok (.aload_n 0, 1) := by decide +kernel
theorem dX7_text_50 : decode cX7_text 50 = .ok (.dup, 1) := by decide +kernel
theorem dX7_text_51 : decode cX7_text 51 = .ok (.getfield 67, 3) := by decide +kernel
theorem dX7_text_54 : decode cX7_text 54 = .ok (.iconst 1, 1) := by decide +kernel
theorem dX7_text_55 : decode cX7_text 55 = .ok (.iadd, 1) := by decide +kernel
theorem dX7_text_56 : decode cX7_text 56 = .ok (.putfield 67, 3) := by decide +kernel
theorem dX7_text_59 : decode cX7_text 59 = .ok (.aload_n 0, 1) := by decide +kernel
theorem dX7_text_60 : decode cX7_text 60 = .ok (.getfield 67, 3) := by decide +kernel
theorem dX7_text_63 : decode cX7_text 63 = .ok (.iconst 1, 1) := by decide +kernel
theorem dX7_text_64 : decode cX7_text 64 = .ok (.isub, 1) := by decide +kernel
theorem dX7_text_65 : decode cX7_text 65 = .ok (.ireturn, 1) := by decide +kernel
theorem dX7_force_0 : decode cX7_force 0 = .ok (.iload_n 1, 1) := by decide +kernel
theorem dX7_force_1 : decode cX7_force 1 = .ok (.iconst 0, 1) := by decide +kernel
theorem dX7_force_2 : decode cX7_force 2 = .ok (.aload_n 0, 1) := by decide +kernel
theorem dX7_force_3 : decode cX7_force 3 = .ok (.getfield 67, 3) := by decide +kernel
theorem dX7_force_6 : decode cX7_force 6 = .ok (.iconst 1, 1) := by decide +kernel
theorem dX7_force_7 : decode cX7_force 7 = .ok (.isub, 1) := by decide +kernel
theorem dX7_force_8 : decode cX7_force 8 = .ok (.invokestatic 86, 3) := by decide +kernel
theorem dX7_force_11 : decode cX7_force 11 = .ok (.ifCond .ne 6, 3) := by decide +kernel
theorem dX7_force_14 : decode cX7_force 14 = .ok (.bipush (-2), 2) := by decide +kernel
theorem dX7_force_16 : decode cX7_force 16 = .ok (.ireturn, 1) := by decide +kernel
theorem dX7_force_17 : decode cX7_force 17 = .ok (.aload_n 0, 1) := by decide +kernel
theorem dX7_force_18 : decode cX7_force 18 = .ok (.getfield 70, 3) := by decide +kernel
theorem dX7_force_21 : decode cX7_force 21 = .ok (.istore_n 2, 1) := by decide +kernel
theorem dX7_force_22 : decode cX7_force 22 = .ok (.aload_n 0, 1) := by decide +kernel
theorem dX7_force_23 : decode cX7_force 23 = .ok (.iload_n 1, 1) := by decide +kernel
theorem dX7_force_24 : decode cX7_force 24 = .ok (.invokevirtual 125, 3) := by decide +kernel
theorem dX7_force_27 : decode cX7_force 27 = .ok (.iload_n 2, 1) := by decide +kernel
theorem dX7_force_28 : decode cX7_force 28 = .ok (.ireturn, 1) := by decide +kernel
theorem dX7_asks_0 : decode cX7_asks 0 = .ok (.aload_n 0, 1) := by decide +kernel
theorem dX7_asks_1 : decode cX7_asks 1 = .ok (.iload_n 2, 1) := by decide +kernel
theorem dX7_asks_2 : decode cX7_asks 2 = .ok (.invokevirtual 128, 3) := by decide +kernel
theorem dX7_asks_5 : decode cX7_asks 5 = .ok (.ifCond .ne 6, 3) := by decide +kernel
theorem dX7_asks_8 : decode cX7_asks 8 = .ok (.bipush (-5), 2) := by decide +kernel
theorem dX7_asks_10 : decode cX7_asks 10 = .ok (.ireturn, 1) := by decide +kernel
theorem dX7_asks_11 : decode cX7_asks 11 = .ok (.iload_n 1, 1) := by decide +kernel
theorem dX7_asks_12 : decode cX7_asks 12 = .ok (.tableswitch 58 0 2 #[28, 38, 48], 28) := by decide +kernel
theorem dX7_asks_40 : decode cX7_asks 40 = .ok (.aload_n 0, 1) := by decide +kernel
theorem dX7_asks_41 : decode cX7_asks 41 = .ok (.getfield 16, 3) := by decide +kernel
theorem dX7_asks_44 : decode cX7_asks 44 = .ok (.iload_n 2, 1) := by decide +kernel
theorem dX7_asks_45 : decode cX7_asks 45 = .ok (.aaload, 1) := by decide +kernel
theorem dX7_asks_46 : decode cX7_asks 46 = .ok (.getfield 131, 3) := by decide +kernel
theorem dX7_asks_49 : decode cX7_asks 49 = .ok (.ireturn, 1) := by decide +kernel
theorem dX7_asks_50 : decode cX7_asks 50 = .ok (.aload_n 0, 1) := by decide +kernel
theorem dX7_asks_51 : decode cX7_asks 51 = .ok (.getfield 16, 3) := by decide +kernel
theorem dX7_asks_54 : decode cX7_asks 54 = .ok (.iload_n 2, 1) := by decide +kernel
theorem dX7_asks_55 : decode cX7_asks 55 = .ok (.aaload, 1) := by decide +kernel
theorem dX7_asks_56 : decode cX7_asks 56 = .ok (.getfield 134, 3) := by decide +kernel
theorem dX7_asks_59 : decode cX7_asks 59 = .ok (.ireturn, 1) := by decide +kernel
theorem dX7_asks_60 : decode cX7_asks 60 = .ok (.aload_n 0, 1) := by decide +kernel
theorem dX7_asks_61 : decode cX7_asks 61 = .ok (.getfield 16, 3) := by decide +kernel
theorem dX7_asks_64 : decode cX7_asks 64 = .ok (.iload_n 2, 1) := by decide +kernel
theorem dX7_asks_65 : decode cX7_asks 65 = .ok (.aaload, 1) := by decide +kernel
theorem dX7_asks_66 : decode cX7_asks 66 = .ok (.getfield 137, 3) := by decide +kernel
theorem dX7_asks_69 : decode cX7_asks 69 = .ok (.ireturn, 1) := by decide +kernel
theorem dX7_asks_70 : decode cX7_asks 70 = .ok (.bipush (-7), 2) := by decide +kernel
theorem dX7_asks_72 : decode cX7_asks 72 = .ok (.ireturn, 1) := by decide +kernel
theorem dX7_horse_0 : decode cX7_horse 0 = .ok (.iload_n 1, 1) := by decide +kernel
theorem dX7_horse_1 : decode cX7_horse 1 = .ok (.iconst 0, 1) := by decide +kernel
theorem dX7_horse_2 : decode cX7_horse 2 = .ok (.iconst 5, 1) := by decide +kernel
theorem dX7_horse_3 : decode cX7_horse 3 = .ok (.invokestatic 86, 3) := by decide +kernel
theorem dX7_horse_6 : decode cX7_horse 6 = .ok (.ifCond .eq 53, 3) := by decide +kernel
theorem dX7_horse_9 : decode cX7_horse 9 = .ok (.iload_n 2, 1) := by decide +kernel
theorem dX7_horse_10 : decode cX7_horse 10 = .ok (.iconst 0, 1) := by decide +kernel
theorem dX7_horse_11 : decode cX7_horse 11 = .ok (.bipush 70, 2) := by decide +kernel
theorem dX7_horse_13 : decode cX7_horse 13 = .ok (.invokestatic 86, 3) := by decide +kernel
theorem dX7_horse_16 : decode cX7_horse 16 = .ok (.ifCond .eq 43, 3) := by decide +kernel
theorem dX7_horse_19 : decode cX7_horse 19 = .ok (.iload_n 2, 1) := by decide +kernel
theorem dX7_horse_20 : decode cX7_horse 20 = .ok (.bipush 10, 2) := by decide +kernel
theorem dX7_horse_22 : decode cX7_horse 22 = .ok (.idiv, 1) := by decide +kernel
theorem dX7_horse_23 : decode cX7_horse 23 = .ok (.iload_n 2, 1) := by decide +kernel
theorem dX7_horse_24 : decode cX7_horse 24 = .ok (.bipush 10, 2) := by decide +kernel
theorem dX7_horse_26 : decode cX7_horse 26 = .ok (.irem, 1) := by decide +kernel
theorem dX7_horse_27 : decode cX7_horse 27 = .ok (.invokestatic 82, 3) := by decide +kernel
theorem dX7_horse_30 : decode cX7_horse 30 = .ok (.ifCond .eq 29, 3) := by decide +kernel
theorem dX7_horse_33 : decode cX7_horse 33 = .ok (.iload_n 3, 1) := by decide +kernel
theorem dX7_horse_34 : decode cX7_horse 34 = .ok (.iconst 1, 1) := by decide +kernel
theorem dX7_horse_35 : decode cX7_horse 35 = .ok (.sipush 999, 3) := by decide +kernel
theorem dX7_horse_38 : decode cX7_horse 38 = .ok (.invokestatic 86, 3) := by decide +kernel
theorem dX7_horse_41 : decode cX7_horse 41 = .ok (.ifCond .eq 18, 3) := by decide +kernel
theorem dX7_horse_44 : decode cX7_horse 44 = .ok (.iload 4, 2) := by decide +kernel
theorem dX7_horse_46 : decode cX7_horse 46 = .ok (.iconst 0, 1) := by decide +kernel
theorem dX7_horse_47 : decode cX7_horse 47 = .ok (.bipush 9, 2) := by decide +kernel
theorem dX7_horse_49 : decode cX7_horse 49 = .ok (.invokestatic 86, 3) := by decide +kernel
theorem dX7_horse_52 : decode cX7_horse 52 = .ok (.ifCond .eq 7, 3) := by decide +kernel
theorem dX7_horse_55 : decode cX7_horse 55 = .ok (.iconst 1, 1) := by decide +kernel
theorem dX7_horse_56 : decode cX7_horse 56 = .ok (.goto 4, 3) := by decide +kernel
theorem dX7_horse_59 : decode cX7_horse 59 = .ok (.iconst 0, 1) := by decide +kernel
theorem dX7_horse_60 : decode cX7_horse 60 = .ok (.istore 5, 2) := by decide +kernel
theorem dX7_horse_62 : decode cX7_horse 62 = .ok (.iload 5, 2) := by decide +kernel
theorem dX7_horse_64 : decode cX7_horse 64 = .ok (.ifCond .ne 6, 3) := by decide +kernel
theorem dX7_horse_67 : decode cX7_horse 67 = .ok (.bipush (-2), 2) := by decide +kernel
theorem dX7_horse_69 : decode cX7_horse 69 = .ok (.ireturn, 1) := by decide +kernel
theorem dX7_horse_70 : decode cX7_horse 70 = .ok (.aload_n 0, 1) := by decide +kernel
theorem dX7_horse_71 : decode cX7_horse 71 = .ok (.getfield 60, 3) := by decide +kernel
theorem dX7_horse_74 : decode cX7_horse 74 = .ok (.bipush 7, 2) := by decide +kernel
theorem dX7_horse_76 : decode cX7_horse 76 = .ok (.if_icmp .lt 6, 3) := by decide +kernel
theorem dX7_horse_79 : decode cX7_horse 79 = .ok (.bipush (-4), 2) := by decide +kernel
theorem dX7_horse_81 : decode cX7_horse 81 = .ok (.ireturn, 1) := by decide +kernel
theorem dX7_horse_82 : decode cX7_horse 82 = .ok (.aload_n 0, 1) := by decide +kernel
theorem dX7_horse_83 : decode cX7_horse 83 = .ok (.getfield 16, 3) := by decide +kernel
theorem dX7_horse_86 : decode cX7_horse 86 = .ok (.aload_n 0, 1) := by decide +kernel
theorem dX7_horse_87 : decode cX7_horse 87 = .ok (.getfield 60, 3) := by decide +kernel
theorem dX7_horse_90 : decode cX7_horse 90 = .ok (.aaload, 1) := by decide +kernel
theorem dX7_horse_91 : decode cX7_horse 91 = .ok (.iload_n 1, 1) := by decide +kernel
theorem dX7_horse_92 : decode cX7_horse 92 = .ok (.iload_n 2, 1) := by decide +kernel
theorem dX7_horse_93 : decode cX7_horse 93 = .ok (.bipush 10, 2) := by decide +kernel
theorem dX7_horse_95 : decode cX7_horse 95 = .ok (.idiv, 1) := by decide +kernel
theorem dX7_horse_96 : decode cX7_horse 96 = .ok (.iload_n 2, 1) := by decide +kernel
theorem dX7_horse_97 : decode cX7_horse 97 = .ok (.bipush 10, 2) := by decide +kernel
theorem dX7_horse_99 : decode cX7_horse 99 = .ok (.irem, 1) := by decide +kernel
theorem dX7_horse_100 : decode cX7_horse 100 = .ok (.iload_n 3, 1) := by decide +kernel
theorem dX7_horse_101 : decode cX7_horse 101 = .ok (.iload 4, 2) := by decide +kernel
theorem dX7_horse_103 : decode cX7_horse 103 = .ok (.invokevirtual 140, 3) := by decide +kernel
theorem dX7_horse_106 : decode cX7_horse 106 = .ok (.aload_n 0, 1) := by decide +kernel
theorem dX7_horse_107 : decode cX7_horse 107 = .ok (.aload_n 0, 1) := by decide +kernel
theorem dX7_horse_108 : decode cX7_horse 108 = .ok (.getfield 16, 3) := by decide +kernel
theorem dX7_horse_111 : decode cX7_horse 111 = .ok (.aload_n 0, 1) := by decide +kernel
theorem dX7_horse_112 : decode cX7_horse 112 = .ok (.getfield 60, 3) := by decide +kernel
theorem dX7_horse_115 : decode cX7_horse 115 = .ok (.aaload, 1) := by decide +kernel
theorem dX7_horse_116 : decode cX7_horse 116 = .ok (.invokevirtual 144, 3) := by decide +kernel
theorem dX7_horse_119 : decode cX7_horse 119 = .ok (.aload_n 0, 1) := by decide +kernel
theorem dX7_horse_120 : decode cX7_horse 120 = .ok (.dup, 1) := by decide +kernel
theorem dX7_horse_121 : decode cX7_horse 121 = .ok (.getfield 60, 3) := by decide +kernel
theorem dX7_horse_124 : decode cX7_horse 124 = .ok (.iconst 1, 1) := by decide +kernel
theorem dX7_horse_125 : decode cX7_horse 125 = .ok (.iadd, 1) := by decide +kernel
theorem dX7_horse_126 : decode cX7_horse 126 = .ok (.putfield 60, 3) := by decide +kernel
theorem dX7_horse_129 : decode cX7_horse 129 = .ok (.aload_n 0, 1) := by decide +kernel
theorem dX7_horse_130 : decode cX7_horse 130 = .ok (.getfield 60, 3) := by decide +kernel
theorem dX7_horse_133 : decode cX7_horse 133 = .ok (.iconst 1, 1) := by decide +kernel
theorem dX7_horse_134 : decode cX7_horse 134 = .ok (.isub, 1) := by decide +kernel
theorem dX7_horse_135 : decode cX7_horse 135 = .ok (.ireturn, 1) := by decide +kernel
theorem dX7_stand_0 : decode cX7_stand 0 = .ok (.aload_n 0, 1) := by decide +kernel
theorem dX7_stand_1 : decode cX7_stand 1 = .ok (.iload_n 1, 1) := by decide +kernel
theorem dX7_stand_2 : decode cX7_stand 2 = .ok (.invokevirtual 128, 3) := by decide +kernel
theorem dX7_stand_5 : decode cX7_stand 5 = .ok (.ifCond .ne 6, 3) := by decide +kernel
theorem dX7_stand_8 : decode cX7_stand 8 = .ok (.bipush (-5), 2) := by decide +kernel
theorem dX7_stand_10 : decode cX7_stand 10 = .ok (.ireturn, 1) := by decide +kernel
theorem dX7_stand_11 : decode cX7_stand 11 = .ok (.iload_n 2, 1) := by decide +kernel
theorem dX7_stand_12 : decode cX7_stand 12 = .ok (.iconst 0, 1) := by decide +kernel
theorem dX7_stand_13 : decode cX7_stand 13 = .ok (.sipush 999, 3) := by decide +kernel
theorem dX7_stand_16 : decode cX7_stand 16 = .ok (.invokestatic 86, 3) := by decide +kernel
theorem dX7_stand_19 : decode cX7_stand 19 = .ok (.ifCond .ne 6, 3) := by decide +kernel
theorem dX7_stand_22 : decode cX7_stand 22 = .ok (.bipush (-7), 2) := by decide +kernel
theorem dX7_stand_24 : decode cX7_stand 24 = .ok (.ireturn, 1) := by decide +kernel
theorem dX7_stand_25 : decode cX7_stand 25 = .ok (.aload_n 0, 1) := by decide +kernel
theorem dX7_stand_26 : decode cX7_stand 26 = .ok (.getfield 16, 3) := by decide +kernel
theorem dX7_stand_29 : decode cX7_stand 29 = .ok (.iload_n 1, 1) := by decide +kernel
theorem dX7_stand_30 : decode cX7_stand 30 = .ok (.aaload, 1) := by decide +kernel
theorem dX7_stand_31 : decode cX7_stand 31 = .ok (.getfield 148, 3) := by decide +kernel
theorem dX7_stand_34 : decode cX7_stand 34 = .ok (.istore_n 3, 1) := by decide +kernel
theorem dX7_stand_35 : decode cX7_stand 35 = .ok (.aload_n 0, 1) := by decide +kernel
theorem dX7_stand_36 : decode cX7_stand 36 = .ok (.getfield 16, 3) := by decide +kernel
theorem dX7_stand_39 : decode cX7_stand 39 = .ok (.iload_n 1, 1) := by decide +kernel
theorem dX7_stand_40 : decode cX7_stand 40 = .ok (.aaload, 1) := by decide +kernel
theorem dX7_stand_41 : decode cX7_stand 41 = .ok (.iload_n 2, 1) := by decide +kernel
theorem dX7_stand_42 : decode cX7_stand 42 = .ok (.putfield 148, 3) := by decide +kernel
theorem dX7_stand_45 : decode cX7_stand 45 = .ok (.aload_n 0, 1) := by decide +kernel
theorem dX7_stand_46 : decode cX7_stand 46 = .ok (.aload_n 0, 1) := by decide +kernel
theorem dX7_stand_47 : decode cX7_stand 47 = .ok (.getfield 16, 3) := by decide +kernel
theorem dX7_stand_50 : decode cX7_stand 50 = .ok (.iload_n 1, 1) := by decide +kernel
theorem dX7_stand_51 : decode cX7_stand 51 = .ok (.aaload, 1) := by decide +kernel
theorem dX7_stand_52 : decode cX7_stand 52 = .ok (.invokevirtual 144, 3) := by decide +kernel
theorem dX7_stand_55 : decode cX7_stand 55 = .ok (.iload_n 3, 1) := by decide +kernel
theorem dX7_stand_56 : decode cX7_stand 56 = .ok (.ireturn, 1) := by decide +kernel
theorem dX7_told_0 : decode cX7_told 0 = .ok (.aload_n 0, 1) := by decide +kernel
theorem dX7_told_1 : decode cX7_told 1 = .ok (.iload_n 1, 1) := by decide +kernel
theorem dX7_told_2 : decode cX7_told 2 = .ok (.invokevirtual 128, 3) := by decide +kernel
theorem dX7_told_5 : decode cX7_told 5 = .ok (.ifCond .ne 6, 3) := by decide +kernel
theorem dX7_told_8 : decode cX7_told 8 = .ok (.bipush (-5), 2) := by decide +kernel
theorem dX7_told_10 : decode cX7_told 10 = .ok (.ireturn, 1) := by decide +kernel
theorem dX7_told_11 : decode cX7_told 11 = .ok (.aload_n 0, 1) := by decide +kernel
theorem dX7_told_12 : decode cX7_told 12 = .ok (.getfield 16, 3) := by decide +kernel
theorem dX7_told_15 : decode cX7_told 15 = .ok (.iload_n 1, 1) := by decide +kernel
theorem dX7_told_16 : decode cX7_told 16 = .ok (.aaload, 1) := by decide +kernel
theorem dX7_told_17 : decode cX7_told 17 = .ok (.astore_n 3, 1) := by decide +kernel
theorem dX7_told_18 : decode cX7_told 18 = .ok (.iload_n 2, 1) := by decide +kernel
theorem dX7_told_19 : decode cX7_told 19 = .ok (.tableswitch 85 0 7 #[45, 50, 55, 60, 65, 70, 75, 80], 45) := by decide +kernel
theorem dX7_told_64 : decode cX7_told 64 = .ok (.aload_n 3, 1) := by decide +kernel
theorem dX7_told_65 : decode cX7_told 65 = .ok (.getfield 151, 3) := by decide +kernel
theorem dX7_told_68 : decode cX7_told 68 = .ok (.ireturn, 1) := by decide +kernel
theorem dX7_told_69 : decode cX7_told 69 = .ok (.aload_n 3, 1) := by decide +kernel
theorem dX7_told_70 : decode cX7_told 70 = .ok (.getfield 154, 3) := by decide +kernel
theorem dX7_told_73 : decode cX7_told 73 = .ok (.ireturn, 1) := by decide +kernel
theorem dX7_told_74 : decode cX7_told 74 = .ok (.aload_n 3, 1) := by decide +kernel
theorem dX7_told_75 : decode cX7_told 75 = .ok (.getfield 157, 3) := by decide +kernel
theorem dX7_told_78 : decode cX7_told 78 = .ok (.ireturn, 1) := by decide +kernel
theorem dX7_told_79 : decode cX7_told 79 = .ok (.aload_n 3, 1) := by decide +kernel
theorem dX7_told_80 : decode cX7_told 80 = .ok (.getfield 160, 3) := by decide +kernel
theorem dX7_told_83 : decode cX7_told 83 = .ok (.ireturn, 1) := by decide +kernel
theorem dX7_told_84 : decode cX7_told 84 = .ok (.aload_n 3, 1) := by decide +kernel
theorem dX7_told_85 : decode cX7_told 85 = .ok (.getfield 163, 3) := by decide +kernel
theorem dX7_told_88 : decode cX7_told 88 = .ok (.ireturn, 1) := by decide +kernel
theorem dX7_told_89 : decode cX7_told 89 = .ok (.aload_n 3, 1) := by decide +kernel
theorem dX7_told_90 : decode cX7_told 90 = .ok (.getfield 148, 3) := by decide +kernel
theorem dX7_told_93 : decode cX7_told 93 = .ok (.ireturn, 1) := by decide +kernel
theorem dX7_told_94 : decode cX7_told 94 = .ok (.aload_n 3, 1) := by decide +kernel
theorem dX7_told_95 : decode cX7_told 95 = .ok (.invokevirtual 166, 3) := by decide +kernel
theorem dX7_told_98 : decode cX7_told 98 = .ok (.ireturn, 1) := by decide +kernel
theorem dX7_told_99 : decode cX7_told 99 = .ok (.aload_n 3, 1) := by decide +kernel
theorem dX7_told_100 : decode cX7_told 100 = .ok (.invokevirtual 170, 3) := by decide +kernel
theorem dX7_told_103 : decode cX7_told 103 = .ok (.ireturn, 1) := by decide +kernel
theorem dX7_told_104 : decode cX7_told 104 = .ok (.bipush (-7), 2) := by decide +kernel
theorem dX7_told_106 : decode cX7_told 106 = .ok (.ireturn, 1) := by decide +kernel
theorem dX7_goes_0 : decode cX7_goes 0 = .ok (.aload_n 0, 1) := by decide +kernel
theorem dX7_goes_1 : decode cX7_goes 1 = .ok (.iload_n 1, 1) := by decide +kernel
theorem dX7_goes_2 : decode cX7_goes 2 = .ok (.invokevirtual 128, 3) := by decide +kernel
theorem dX7_goes_5 : decode cX7_goes 5 = .ok (.ifCond .eq 23, 3) := by decide +kernel
theorem dX7_goes_8 : decode cX7_goes 8 = .ok (.iload_n 2, 1) := by decide +kernel
theorem dX7_goes_9 : decode cX7_goes 9 = .ok (.invokestatic 94, 3) := by decide +kernel
theorem dX7_goes_12 : decode cX7_goes 12 = .ok (.ifCond .eq 16, 3) := by decide +kernel
theorem dX7_goes_15 : decode cX7_goes 15 = .ok (.aload_n 0, 1) := by decide +kernel
theorem dX7_goes_16 : decode cX7_goes 16 = .ok (.getfield 16, 3) := by decide +kernel
theorem dX7_goes_19 : decode cX7_goes 19 = .ok (.iload_n 1, 1) := by decide +kernel
theorem dX7_goes_20 : decode cX7_goes 20 = .ok (.aaload, 1) := by decide +kernel
theorem dX7_goes_21 : decode cX7_goes 21 = .ok (.iload_n 2, 1) := by decide +kernel
theorem dX7_goes_22 : decode cX7_goes 22 = .ok (.invokevirtual 173, 3) := by decide +kernel
theorem dX7_goes_25 : decode cX7_goes 25 = .ok (.goto 5, 3) := by decide +kernel
theorem dX7_goes_28 : decode cX7_goes 28 = .ok (.bipush (-5), 2) := by decide +kernel
theorem dX7_goes_30 : decode cX7_goes 30 = .ok (.ireturn, 1) := by decide +kernel
theorem dX7_at_0 : decode cX7_at 0 = .ok (.iload_n 1, 1) := by decide +kernel
theorem dX7_at_1 : decode cX7_at 1 = .ok (.invokestatic 94, 3) := by decide +kernel
theorem dX7_at_4 : decode cX7_at 4 = .ok (.ifCond .ne 6, 3) := by decide +kernel
theorem dX7_at_7 : decode cX7_at 7 = .ok (.bipush (-5), 2) := by decide +kernel
theorem dX7_at_9 : decode cX7_at 9 = .ok (.ireturn, 1) := by decide +kernel
theorem dX7_at_10 : decode cX7_at 10 = .ok (.iconst 0, 1) := by decide +kernel
theorem dX7_at_11 : decode cX7_at 11 = .ok (.istore_n 2, 1) := by decide +kernel
theorem dX7_at_12 : decode cX7_at 12 = .ok (.iconst 0, 1) := by decide +kernel
theorem dX7_at_13 : decode cX7_at 13 = .ok (.istore_n 3, 1) := by decide +kernel
theorem dX7_at_14 : decode cX7_at 14 = .ok (.iload_n 3, 1) := by decide +kernel
theorem dX7_at_15 : decode cX7_at 15 = .ok (.aload_n 0, 1) := by decide +kernel
theorem dX7_at_16 : decode cX7_at 16 = .ok (.getfield 60, 3) := by decide +kernel
theorem dX7_at_19 : decode cX7_at 19 = .ok (.if_icmp .ge 29, 3) := by decide +kernel
theorem dX7_at_22 : decode cX7_at 22 = .ok (.aload_n 0, 1) := by decide +kernel
theorem dX7_at_23 : decode cX7_at 23 = .ok (.getfield 16, 3) := by decide +kernel
theorem dX7_at_26 : decode cX7_at 26 = .ok (.iload_n 3, 1) := by decide +kernel
theorem dX7_at_27 : decode cX7_at 27 = .ok (.aaload, 1) := by decide +kernel
theorem dX7_at_28 : decode cX7_at 28 = .ok (.iload_n 1, 1) := by decide +kernel
theorem dX7_at_29 : decode cX7_at 29 = .ok (.invokevirtual 173, 3) := by decide +kernel
theorem dX7_at_32 : decode cX7_at 32 = .ok (.iconst (-1), 1) := by decide +kernel
theorem dX7_at_33 : decode cX7_at 33 = .ok (.if_icmp .eq 9, 3) := by decide +kernel
theorem dX7_at_36 : decode cX7_at 36 = .ok (.iload_n 2, 1) := by decide +kernel
theorem dX7_at_37 : decode cX7_at 37 = .ok (.iconst 1, 1) := by decide +kernel
theorem dX7_at_38 : decode cX7_at 38 = .ok (.iload_n 3, 1) := by decide +kernel
theorem dX7_at_39 : decode cX7_at 39 = .ok (.ishl, 1) := by decide +kernel
theorem dX7_at_40 : decode cX7_at 40 = .ok (.ior, 1) := by decide +kernel
theorem dX7_at_41 : decode cX7_at 41 = .ok (.istore_n 2, 1) := by decide +kernel
theorem dX7_at_42 : decode cX7_at 42 = .ok (.iinc 3 1, 3) := by decide +kernel
theorem dX7_at_45 : decode cX7_at 45 = .ok (.goto (-31), 3) := by decide +kernel
theorem dX7_at_48 : decode cX7_at 48 = .ok (.iload_n 2, 1) := by decide +kernel
theorem dX7_at_49 : decode cX7_at 49 = .ok (.ireturn, 1) := by decide +kernel
theorem dX7_soonest_0 : decode cX7_soonest 0 = .ok (.iload_n 1, 1) := by decide +kernel
theorem dX7_soonest_1 : decode cX7_soonest 1 = .ok (.invokestatic 94, 3) := by decide +kernel
theorem dX7_soonest_4 : decode cX7_soonest 4 = .ok (.ifCond .eq 10, 3) := by decide +kernel
theorem dX7_soonest_7 : decode cX7_soonest 7 = .ok (.iload_n 2, 1) := by decide +kernel
theorem dX7_soonest_8 : decode cX7_soonest 8 = .ok (.invokestatic 94, 3) := by decide +kernel
theorem dX7_soonest_11 : decode cX7_soonest 11 = .ok (.ifCond .ne 6, 3) := by decide +kernel
theorem dX7_soonest_14 : decode cX7_soonest 14 = .ok (.bipush (-5), 2) := by decide +kernel
theorem dX7_soonest_16 : decode cX7_soonest 16 = .ok (.ireturn, 1) := by decide +kernel
theorem dX7_soonest_17 : decode cX7_soonest 17 = .ok (.aload_n 0, 1) := by decide +kernel
theorem dX7_soonest_18 : decode cX7_soonest 18 = .ok (.aload_n 0, 1) := by decide +kernel
theorem dX7_soonest_19 : decode cX7_soonest 19 = .ok (.invokevirtual 176, 3) := by decide +kernel
theorem dX7_soonest_22 : decode cX7_soonest 22 = .ok (.iload_n 1, 1) := by decide +kernel
theorem dX7_soonest_23 : decode cX7_soonest 23 = .ok (.iload_n 2, 1) := by decide +kernel
theorem dX7_soonest_24 : decode cX7_soonest 24 = .ok (.invokevirtual 179, 3) := by decide +kernel
theorem dX7_soonest_27 : decode cX7_soonest 27 = .ok (.istore 4, 2) := by decide +kernel
theorem dX7_soonest_29 : decode cX7_soonest 29 = .ok (.aload_n 0, 1) := by decide +kernel
theorem dX7_soonest_30 : decode cX7_soonest 30 = .ok (.getfield 43, 3) := by decide +kernel
theorem dX7_soonest_33 : decode cX7_soonest 33 = .ok (.iload_n 2, 1) := by decide +kernel
theorem dX7_soonest_34 : decode cX7_soonest 34 = .ok (.invokevirtual 183, 3) := by decide +kernel
theorem dX7_soonest_37 : decode cX7_soonest 37 = .ok (.iload_n 3, 1) := by decide +kernel
theorem dX7_soonest_38 : decode cX7_soonest 38 = .ok (.tableswitch 69 0 4 #[34, 37, 45, 53, 61], 34) := by decide +kernel
theorem dX7_soonest_72 : decode cX7_soonest 72 = .ok (.iload 4, 2) := by decide +kernel
theorem dX7_soonest_74 : decode cX7_soonest 74 = .ok (.ireturn, 1) := by decide +kernel
theorem dX7_soonest_75 : decode cX7_soonest 75 = .ok (.aload_n 0, 1) := by decide +kernel
theorem dX7_soonest_76 : decode cX7_soonest 76 = .ok (.getfield 43, 3) := by decide +kernel
theorem dX7_soonest_79 : decode cX7_soonest 79 = .ok (.getfield 186, 3) := by decide +kernel
theorem dX7_soonest_82 : decode cX7_soonest 82 = .ok (.ireturn, 1) := by decide +kernel
theorem dX7_soonest_83 : decode cX7_soonest 83 = .ok (.aload_n 0, 1) := by decide +kernel
theorem dX7_soonest_84 : decode cX7_soonest 84 = .ok (.getfield 43, 3) := by decide +kernel
theorem dX7_soonest_87 : decode cX7_soonest 87 = .ok (.getfield 189, 3) := by decide +kernel
theorem dX7_soonest_90 : decode cX7_soonest 90 = .ok (.ireturn, 1) := by decide +kernel
theorem dX7_soonest_91 : decode cX7_soonest 91 = .ok (.aload_n 0, 1) := by decide +kernel
theorem dX7_soonest_92 : decode cX7_soonest 92 = .ok (.getfield 43, 3) := by decide +kernel
theorem dX7_soonest_95 : decode cX7_soonest 95 = .ok (.getfield 192, 3) := by decide +kernel
theorem dX7_soonest_98 : decode cX7_soonest 98 = .ok (.ireturn, 1) := by decide +kernel
theorem dX7_soonest_99 : decode cX7_soonest 99 = .ok (.aload_n 0, 1) := by decide +kernel
theorem dX7_soonest_100 : decode cX7_soonest 100 = .ok (.getfield 43, 3) := by decide +kernel
theorem dX7_soonest_103 : decode cX7_soonest 103 = .ok (.invokevirtual 195, 3) := by decide +kernel
theorem dX7_soonest_106 : decode cX7_soonest 106 = .ok (.ireturn, 1) := by decide +kernel
theorem dX7_soonest_107 : decode cX7_soonest 107 = .ok (.bipush (-7), 2) := by decide +kernel
theorem dX7_soonest_109 : decode cX7_soonest 109 = .ok (.ireturn, 1) := by decide +kernel
theorem dX7_piece_0 : decode cX7_piece 0 = .ok (.iload_n 1, 1) := by decide +kernel
theorem dX7_piece_1 : decode cX7_piece 1 = .ok (.invokestatic 94, 3) := by decide +kernel
theorem dX7_piece_4 : decode cX7_piece 4 = .ok (.ifCond .eq 10, 3) := by decide +kernel
theorem dX7_piece_7 : decode cX7_piece 7 = .ok (.iload_n 2, 1) := by decide +kernel
theorem dX7_piece_8 : decode cX7_piece 8 = .ok (.invokestatic 94, 3) := by decide +kernel
theorem dX7_piece_11 : decode cX7_piece 11 = .ok (.ifCond .ne 6, 3) := by decide +kernel
theorem dX7_piece_14 : decode cX7_piece 14 = .ok (.bipush (-5), 2) := by decide +kernel
theorem dX7_piece_16 : decode cX7_piece 16 = .ok (.ireturn, 1) := by decide +kernel
theorem dX7_piece_17 : decode cX7_piece 17 = .ok (.iload_n 3, 1) := by decide +kernel
theorem dX7_piece_18 : decode cX7_piece 18 = .ok (.ifCond .ge 6, 3) := by decide +kernel
theorem dX7_piece_21 : decode cX7_piece 21 = .ok (.bipush (-7), 2) := by decide +kernel
theorem dX7_piece_23 : decode cX7_piece 23 = .ok (.ireturn, 1) := by decide +kernel
theorem dX7_piece_24 : decode cX7_piece 24 = .ok (.aload_n 0, 1) := by decide +kernel
theorem dX7_piece_25 : decode cX7_piece 25 = .ok (.aload_n 0, 1) := by decide +kernel
theorem dX7_piece_26 : decode cX7_piece 26 = .ok (.invokevirtual 176, 3) := by decide +kernel
theorem dX7_piece_29 : decode cX7_piece 29 = .ok (.iload_n 1, 1) := by decide +kernel
theorem dX7_piece_30 : decode cX7_piece 30 = .ok (.iload_n 2, 1) := by decide +kernel
theorem dX7_piece_31 : decode cX7_piece 31 = .ok (.invokevirtual 179, 3) := by decide +kernel
theorem dX7_piece_34 : decode cX7_piece 34 = .ok (.pop, 1) := by decide +kernel
theorem dX7_piece_35 : decode cX7_piece 35 = .ok (.aload_n 0, 1) := by decide +kernel
theorem dX7_piece_36 : decode cX7_piece 36 = .ok (.getfield 43, 3) := by decide +kernel
theorem dX7_piece_39 : decode cX7_piece 39 = .ok (.iload_n 2, 1) := by decide +kernel
theorem dX7_piece_40 : decode cX7_piece 40 = .ok (.invokevirtual 183, 3) := by decide +kernel
theorem dX7_piece_43 : decode cX7_piece 43 = .ok (.aload_n 0, 1) := by decide +kernel
theorem dX7_piece_44 : decode cX7_piece 44 = .ok (.getfield 43, 3) := by decide +kernel
theorem dX7_piece_47 : decode cX7_piece 47 = .ok (.iload_n 3, 1) := by decide +kernel
theorem dX7_piece_48 : decode cX7_piece 48 = .ok (.invokevirtual 198, 3) := by decide +kernel
theorem dX7_piece_51 : decode cX7_piece 51 = .ok (.ireturn, 1) := by decide +kernel
theorem dX7_both_0 : decode cX7_both 0 = .ok (.aload_n 0, 1) := by decide +kernel
theorem dX7_both_1 : decode cX7_both 1 = .ok (.iload_n 1, 1) := by decide +kernel
theorem dX7_both_2 : decode cX7_both 2 = .ok (.invokevirtual 98, 3) := by decide +kernel
theorem dX7_both_5 : decode cX7_both 5 = .ok (.ifCond .eq 11, 3) := by decide +kernel
theorem dX7_both_8 : decode cX7_both 8 = .ok (.aload_n 0, 1) := by decide +kernel
theorem dX7_both_9 : decode cX7_both 9 = .ok (.iload_n 2, 1) := by decide +kernel
theorem dX7_both_10 : decode cX7_both 10 = .ok (.invokevirtual 98, 3) := by decide +kernel
theorem dX7_both_13 : decode cX7_both 13 = .ok (.ifCond .ne 6, 3) := by decide +kernel
theorem dX7_both_16 : decode cX7_both 16 = .ok (.bipush (-5), 2) := by decide +kernel
theorem dX7_both_18 : decode cX7_both 18 = .ok (.ireturn, 1) := by decide +kernel
theorem dX7_both_19 : decode cX7_both 19 = .ok (.iload_n 3, 1) := by decide +kernel
theorem dX7_both_20 : decode cX7_both 20 = .ok (.iconst 0, 1) := by decide +kernel
theorem dX7_both_21 : decode cX7_both 21 = .ok (.iconst 2, 1) := by decide +kernel
theorem dX7_both_22 : decode cX7_both 22 = .ok (.invokestatic 86, 3) := by decide +kernel
theorem dX7_both_25 : decode cX7_both 25 = .ok (.ifCond .ne 6, 3) := by decide +kernel
theorem dX7_both_28 : decode cX7_both 28 = .ok (.bipush (-7), 2) := by decide +kernel
theorem dX7_both_30 : decode cX7_both 30 = .ok (.ireturn, 1) := by decide +kernel
theorem dX7_both_31 : decode cX7_both 31 = .ok (.ldc 201, 2) := by decide +kernel
theorem dX7_both_33 : decode cX7_both 33 = .ok (.istore 4, 2) := by decide +kernel
theorem dX7_both_35 : decode cX7_both 35 = .ok (.ldc 201, 2) := by decide +kernel
theorem dX7_both_37 : decode cX7_both 37 = .ok (.istore 5, 2) := by decide +kernel
theorem dX7_both_39 : decode cX7_both 39 = .ok (.iconst 0, 1) := by decide +kernel
theorem dX7_both_40 : decode cX7_both 40 = .ok (.istore 6, 2) := by decide +kernel
theorem dX7_both_42 : decode cX7_both 42 = .ok (.iconst 0, 1) := by decide +kernel
theorem dX7_both_43 : decode cX7_both 43 = .ok (.istore 7, 2) := by decide +kernel
theorem dX7_both_45 : decode cX7_both 45 = .ok (.iload 7, 2) := by decide +kernel
theorem dX7_both_47 : decode cX7_both 47 = .ok (.aload_n 0, 1) := by decide +kernel
theorem dX7_both_48 : decode cX7_both 48 = .ok (.invokevirtual 176, 3) := by decide +kernel
theorem dX7_both_51 : decode cX7_both 51 = .ok (.if_icmp .gt 105, 3) := by decide +kernel
theorem dX7_both_54 : decode cX7_both 54 = .ok (.aload_n 0, 1) := by decide +kernel
theorem dX7_both_55 : decode cX7_both 55 = .ok (.iload 7, 2) := by decide +kernel
theorem dX7_both_57 : decode cX7_both 57 = .ok (.aload_n 0, 1) := by decide +kernel
theorem dX7_both_58 : decode cX7_both 58 = .ok (.getfield 20, 3) := by decide +kernel
theorem dX7_both_61 : decode cX7_both 61 = .ok (.iload_n 1, 1) := by decide +kernel
theorem dX7_both_62 : decode cX7_both 62 = .ok (.iaload, 1) := by decide +kernel
theorem dX7_both_63 : decode cX7_both 63 = .ok (.aload_n 0, 1) := by decide +kernel
theorem dX7_both_64 : decode cX7_both 64 = .ok (.getfield 24, 3) := by decide +kernel
theorem dX7_both_67 : decode cX7_both 67 = .ok (.iload_n 1, 1) := by decide +kernel
theorem dX7_both_68 : decode cX7_both 68 = .ok (.iaload, 1) := by decide +kernel
theorem dX7_both_69 : decode cX7_both 69 = .ok (.invokevirtual 179, 3) := by decide +kernel
theorem dX7_both_72 : decode cX7_both 72 = .ok (.istore 8, 2) := by decide +kernel
theorem dX7_both_74 : decode cX7_both 74 = .ok (.aload_n 0, 1) := by decide +kernel
theorem dX7_both_75 : decode cX7_both 75 = .ok (.aload_n 0, 1) := by decide +kernel
theorem dX7_both_76 : decode cX7_both 76 = .ok (.invokevirtual 176, 3) := by decide +kernel
theorem dX7_both_79 : decode cX7_both 79 = .ok (.iload 7, 2) := by decide +kernel
theorem dX7_both_81 : decode cX7_both 81 = .ok (.iconst (-1), 1) := by decide +kernel
theorem dX7_both_82 : decode cX7_both 82 = .ok (.ixor, 1) := by decide +kernel
theorem dX7_both_83 : decode cX7_both 83 = .ok (.iand, 1) := by decide +kernel
theorem dX7_both_84 : decode cX7_both 84 = .ok (.aload_n 0, 1) := by decide +kernel
theorem dX7_both_85 : decode cX7_both 85 = .ok (.getfield 20, 3) := by decide +kernel
theorem dX7_both_88 : decode cX7_both 88 = .ok (.iload_n 2, 1) := by decide +kernel
theorem dX7_both_89 : decode cX7_both 89 = .ok (.iaload, 1) := by decide +kernel
theorem dX7_both_90 : decode cX7_both 90 = .ok (.aload_n 0, 1) := by decide +kernel
theorem dX7_both_91 : decode cX7_both 91 = .ok (.getfield 24, 3) := by decide +kernel
theorem dX7_both_94 : decode cX7_both 94 = .ok (.iload_n 2, 1) := by decide +kernel
theorem dX7_both_95 : decode cX7_both 95 = .ok (.iaload, 1) := by decide +kernel
theorem dX7_both_96 : decode cX7_both 96 = .ok (.invokevirtual 179, 3) := by decide +kernel
theorem dX7_both_99 : decode cX7_both 99 = .ok (.istore 9, 2) := by decide +kernel
theorem dX7_both_101 : decode cX7_both 101 = .ok (.iload 8, 2) := by decide +kernel
theorem dX7_both_103 : decode cX7_both 103 = .ok (.iload 9, 2) := by decide +kernel
theorem dX7_both_105 : decode cX7_both 105 = .ok (.invokestatic 202, 3) := by decide +kernel
theorem dX7_both_108 : decode cX7_both 108 = .ok (.istore 10, 2) := by decide +kernel
theorem dX7_both_110 : decode cX7_both 110 = .ok (.iload 8, 2) := by decide +kernel
theorem dX7_both_112 : decode cX7_both 112 = .ok (.iload 9, 2) := by decide +kernel
theorem dX7_both_114 : decode cX7_both 114 = .ok (.iadd, 1) := by decide +kernel
theorem dX7_both_115 : decode cX7_both 115 = .ok (.istore 11, 2) := by decide +kernel
theorem dX7_both_117 : decode cX7_both 117 = .ok (.iload 10, 2) := by decide +kernel
theorem dX7_both_119 : decode cX7_both 119 = .ok (.iload 4, 2) := by decide +kernel
theorem dX7_both_121 : decode cX7_both 121 = .ok (.if_icmp .lt 17, 3) := by decide +kernel
theorem dX7_both_124 : decode cX7_both 124 = .ok (.iload 10, 2) := by decide +kernel
theorem dX7_both_126 : decode cX7_both 126 = .ok (.iload 4, 2) := by decide +kernel
theorem dX7_both_128 : decode cX7_both 128 = .ok (.if_icmp .ne 22, 3) := by decide +kernel
theorem dX7_both_131 : decode cX7_both 131 = .ok (.iload 11, 2) := by decide +kernel
theorem dX7_both_133 : decode cX7_both 133 = .ok (.iload 5, 2) := by decide +kernel
theorem dX7_both_135 : decode cX7_both 135 = .ok (.if_icmp .ge 15, 3) := by decide +kernel
theorem dX7_both_138 : decode cX7_both 138 = .ok (.iload 10, 2) := by decide +kernel
theorem dX7_both_140 : decode cX7_both 140 = .ok (.istore 4, 2) := by decide +kernel
theorem dX7_both_142 : decode cX7_both 142 = .ok (.iload 11, 2) := by decide +kernel
theorem dX7_both_144 : decode cX7_both 144 = .ok (.istore 5, 2) := by decide +kernel
theorem dX7_both_146 : decode cX7_both 146 = .ok (.iload 7, 2) := by decide +kernel
theorem dX7_both_148 : decode cX7_both 148 = .ok (.istore 6, 2) := by decide +kernel
theorem dX7_both_150 : decode cX7_both 150 = .ok (.iinc 7 1, 3) := by decide +kernel
theorem dX7_both_153 : decode cX7_both 153 = .ok (.goto (-108), 3) := by decide +kernel
theorem dX7_both_156 : decode cX7_both 156 = .ok (.iload_n 3, 1) := by decide +kernel
theorem dX7_both_157 : decode cX7_both 157 = .ok (.ifCond .ne 8, 3) := by decide +kernel
theorem dX7_both_160 : decode cX7_both 160 = .ok (.iload 4, 2) := by decide +kernel
theorem dX7_both_162 : decode cX7_both 162 = .ok (.goto 15, 3) := by decide +kernel
theorem dX7_both_165 : decode cX7_both 165 = .ok (.iload_n 3, 1) := by decide +kernel
theorem dX7_both_166 : decode cX7_both 166 = .ok (.iconst 1, 1) := by decide +kernel
theorem dX7_both_167 : decode cX7_both 167 = .ok (.if_icmp .ne 8, 3) := by decide +kernel
theorem dX7_both_170 : decode cX7_both 170 = .ok (.iload 5, 2) := by decide +kernel
theorem dX7_both_172 : decode cX7_both 172 = .ok (.goto 5, 3) := by decide +kernel
theorem dX7_both_175 : decode cX7_both 175 = .ok (.iload 6, 2) := by decide +kernel
theorem dX7_both_177 : decode cX7_both 177 = .ok (.ireturn, 1) := by decide +kernel
theorem dX7_all_0 : decode cX7_all 0 = .ok (.aload_n 0, 1) := by decide +kernel
theorem dX7_all_1 : decode cX7_all 1 = .ok (.aload_n 0, 1) := by decide +kernel
theorem dX7_all_2 : decode cX7_all 2 = .ok (.invokevirtual 176, 3) := by decide +kernel
theorem dX7_all_5 : decode cX7_all 5 = .ok (.invokevirtual 206, 3) := by decide +kernel
theorem dX7_all_8 : decode cX7_all 8 = .ok (.ireturn, 1) := by decide +kernel
theorem dX7_worth_0 : decode cX7_worth 0 = .ok (.aload_n 0, 1) := by decide +kernel
theorem dX7_worth_1 : decode cX7_worth 1 = .ok (.iload_n 1, 1) := by decide +kernel
theorem dX7_worth_2 : decode cX7_worth 2 = .ok (.invokevirtual 128, 3) := by decide +kernel
theorem dX7_worth_5 : decode cX7_worth 5 = .ok (.ifCond .eq 29, 3) := by decide +kernel
theorem dX7_worth_8 : decode cX7_worth 8 = .ok (.aload_n 0, 1) := by decide +kernel
theorem dX7_worth_9 : decode cX7_worth 9 = .ok (.aload_n 0, 1) := by decide +kernel
theorem dX7_worth_10 : decode cX7_worth 10 = .ok (.invokevirtual 176, 3) := by decide +kernel
theorem dX7_worth_13 : decode cX7_worth 13 = .ok (.iconst 1, 1) := by decide +kernel
theorem dX7_worth_14 : decode cX7_worth 14 = .ok (.iload_n 1, 1) := by decide +kernel
theorem dX7_worth_15 : decode cX7_worth 15 = .ok (.ishl, 1) := by decide +kernel
theorem dX7_worth_16 : decode cX7_worth 16 = .ok (.iconst (-1), 1) := by decide +kernel
theorem dX7_worth_17 : decode cX7_worth 17 = .ok (.ixor, 1) := by decide +kernel
theorem dX7_worth_18 : decode cX7_worth 18 = .ok (.iand, 1) := by decide +kernel
theorem dX7_worth_19 : decode cX7_worth 19 = .ok (.invokevirtual 206, 3) := by decide +kernel
theorem dX7_worth_22 : decode cX7_worth 22 = .ok (.aload_n 0, 1) := by decide +kernel
theorem dX7_worth_23 : decode cX7_worth 23 = .ok (.aload_n 0, 1) := by decide +kernel
theorem dX7_worth_24 : decode cX7_worth 24 = .ok (.invokevirtual 176, 3) := by decide +kernel
theorem dX7_worth_27 : decode cX7_worth 27 = .ok (.invokevirtual 206, 3) := by decide +kernel
theorem dX7_worth_30 : decode cX7_worth 30 = .ok (.isub, 1) := by decide +kernel
theorem dX7_worth_31 : decode cX7_worth 31 = .ok (.goto 5, 3) := by decide +kernel
theorem dX7_worth_34 : decode cX7_worth 34 = .ok (.bipush (-5), 2) := by decide +kernel
theorem dX7_worth_36 : decode cX7_worth 36 = .ok (.ireturn, 1) := by decide +kernel
theorem dX7_teach_0 : decode cX7_teach 0 = .ok (.iload_n 1, 1) := by decide +kernel
theorem dX7_teach_1 : decode cX7_teach 1 = .ok (.iconst 0, 1) := by decide +kernel
theorem dX7_teach_2 : decode cX7_teach 2 = .ok (.iconst 1, 1) := by decide +kernel
theorem dX7_teach_3 : decode cX7_teach 3 = .ok (.invokestatic 86, 3) := by decide +kernel
theorem dX7_teach_6 : decode cX7_teach 6 = .ok (.ifCond .ne 6, 3) := by decide +kernel
theorem dX7_teach_9 : decode cX7_teach 9 = .ok (.bipush (-2), 2) := by decide +kernel
theorem dX7_teach_11 : decode cX7_teach 11 = .ok (.ireturn, 1) := by decide +kernel
theorem dX7_teach_12 : decode cX7_teach 12 = .ok (.aload_n 0, 1) := by decide +kernel
theorem dX7_teach_13 : decode cX7_teach 13 = .ok (.getfield 60, 3) := by decide +kernel
theorem dX7_teach_16 : decode cX7_teach 16 = .ok (.bipush 7, 2) := by decide +kernel
theorem dX7_teach_18 : decode cX7_teach 18 = .ok (.if_icmp .lt 6, 3) := by decide +kernel
theorem dX7_teach_21 : decode cX7_teach 21 = .ok (.bipush (-3), 2) := by decide +kernel
theorem dX7_teach_23 : decode cX7_teach 23 = .ok (.ireturn, 1) := by decide +kernel
theorem dX7_teach_24 : decode cX7_teach 24 = .ok (.aload_n 0, 1) := by decide +kernel
theorem dX7_teach_25 : decode cX7_teach 25 = .ok (.aload_n 0, 1) := by decide +kernel
theorem dX7_teach_26 : decode cX7_teach 26 = .ok (.invokevirtual 176, 3) := by decide +kernel
theorem dX7_teach_29 : decode cX7_teach 29 = .ok (.invokevirtual 206, 3) := by decide +kernel
theorem dX7_teach_32 : decode cX7_teach 32 = .ok (.istore_n 2, 1) := by decide +kernel
theorem dX7_teach_33 : decode cX7_teach 33 = .ok (.iconst (-1), 1) := by decide +kernel
theorem dX7_teach_34 : decode cX7_teach 34 = .ok (.istore_n 3, 1) := by decide +kernel
theorem dX7_teach_35 : decode cX7_teach 35 = .ok (.aload_n 0, 1) := by decide +kernel
theorem dX7_teach_36 : decode cX7_teach 36 = .ok (.getfield 16, 3) := by decide +kernel
theorem dX7_teach_39 : decode cX7_teach 39 = .ok (.aload_n 0, 1) := by decide +kernel
theorem dX7_teach_40 : decode cX7_teach 40 = .ok (.getfield 60, 3) := by decide +kernel
theorem dX7_teach_43 : decode cX7_teach 43 = .ok (.aaload, 1) := by decide +kernel
theorem dX7_teach_44 : decode cX7_teach 44 = .ok (.astore 4, 2) := by decide +kernel
theorem dX7_teach_46 : decode cX7_teach 46 = .ok (.iconst 0, 1) := by decide +kernel
theorem dX7_teach_47 : decode cX7_teach 47 = .ok (.istore 5, 2) := by decide +kernel
theorem dX7_teach_49 : decode cX7_teach 49 = .ok (.iload 5, 2) := by decide +kernel
theorem dX7_teach_51 : decode cX7_teach 51 = .ok (.bipush 49, 2) := by decide +kernel
theorem dX7_teach_53 : decode cX7_teach 53 = .ok (.if_icmp .ge 98, 3) := by decide +kernel
theorem dX7_teach_56 : decode cX7_teach 56 = .ok (.iload 5, 2) := by decide +kernel
theorem dX7_teach_58 : decode cX7_teach 58 = .ok (.bipush 7, 2) := by decide +kernel
theorem dX7_teach_60 : decode cX7_teach 60 = .ok (.idiv, 1) := by decide +kernel
theorem dX7_teach_61 : decode cX7_teach 61 = .ok (.istore 6, 2) := by decide +kernel
theorem dX7_teach_63 : decode cX7_teach 63 = .ok (.iload 5, 2) := by decide +kernel
theorem dX7_teach_65 : decode cX7_teach 65 = .ok (.bipush 7, 2) := by decide +kernel
theorem dX7_teach_67 : decode cX7_teach 67 = .ok (.irem, 1) := by decide +kernel
theorem dX7_teach_68 : decode cX7_teach 68 = .ok (.istore 7, 2) := by decide +kernel
theorem dX7_teach_70 : decode cX7_teach 70 = .ok (.iload 6, 2) := by decide +kernel
theorem dX7_teach_72 : decode cX7_teach 72 = .ok (.iload 7, 2) := by decide +kernel
theorem dX7_teach_74 : decode cX7_teach 74 = .ok (.if_icmp .eq 71, 3) := by decide +kernel
theorem dX7_teach_77 : decode cX7_teach 77 = .ok (.aload 4, 2) := by decide +kernel
theorem dX7_teach_79 : decode cX7_teach 79 = .ok (.iconst 0, 1) := by decide +kernel
theorem dX7_teach_80 : decode cX7_teach 80 = .ok (.iload 6, 2) := by decide +kernel
theorem dX7_teach_82 : decode cX7_teach 82 = .ok (.iload 7, 2) := by decide +kernel
theorem dX7_teach_84 : decode cX7_teach 84 = .ok (.iconst 1, 1) := by decide +kernel
theorem dX7_teach_85 : decode cX7_teach 85 = .ok (.aload_n 0, 1) := by decide +kernel
theorem dX7_teach_86 : decode cX7_teach 86 = .ok (.getfield 11, 3) := by decide +kernel
theorem dX7_teach_89 : decode cX7_teach 89 = .ok (.iload 6, 2) := by decide +kernel
theorem dX7_teach_91 : decode cX7_teach 91 = .ok (.aaload, 1) := by decide +kernel
theorem dX7_teach_92 : decode cX7_teach 92 = .ok (.iload 7, 2) := by decide +kernel
theorem dX7_teach_94 : decode cX7_teach 94 = .ok (.iaload, 1) := by decide +kernel
theorem dX7_teach_95 : decode cX7_teach 95 = .ok (.iconst 3, 1) := by decide +kernel
theorem dX7_teach_96 : decode cX7_teach 96 = .ok (.idiv, 1) := by decide +kernel
theorem dX7_teach_97 : decode cX7_teach 97 = .ok (.invokestatic 202, 3) := by decide +kernel
theorem dX7_teach_100 : decode cX7_teach 100 = .ok (.iconst 0, 1) := by decide +kernel
theorem dX7_teach_101 : decode cX7_teach 101 = .ok (.invokevirtual 140, 3) := by decide +kernel
theorem dX7_teach_104 : decode cX7_teach 104 = .ok (.aload_n 0, 1) := by decide +kernel
theorem dX7_teach_105 : decode cX7_teach 105 = .ok (.aload 4, 2) := by decide +kernel
theorem dX7_teach_107 : decode cX7_teach 107 = .ok (.invokevirtual 144, 3) := by decide +kernel
theorem dX7_teach_110 : decode cX7_teach 110 = .ok (.aload_n 0, 1) := by decide +kernel
theorem dX7_teach_111 : decode cX7_teach 111 = .ok (.aload_n 0, 1) := by decide +kernel
theorem dX7_teach_112 : decode cX7_teach 112 = .ok (.invokevirtual 176, 3) := by decide +kernel
theorem dX7_teach_115 : decode cX7_teach 115 = .ok (.iconst 1, 1) := by decide +kernel
theorem dX7_teach_116 : decode cX7_teach 116 = .ok (.aload_n 0, 1) := by decide +kernel
theorem dX7_teach_117 : decode cX7_teach 117 = .ok (.getfield 60, 3) := by decide +kernel
theorem dX7_teach_120 : decode cX7_teach 120 = .ok (.ishl, 1) := by decide +kernel
theorem dX7_teach_121 : decode cX7_teach 121 = .ok (.ior, 1) := by decide +kernel
theorem dX7_teach_122 : decode cX7_teach 122 = .ok (.invokevirtual 206, 3) := by decide +kernel
theorem dX7_teach_125 : decode cX7_teach 125 = .ok (.istore 8, 2) := by decide +kernel
theorem dX7_teach_127 : decode cX7_teach 127 = .ok (.iload 8, 2) := by decide +kernel
theorem dX7_teach_129 : decode cX7_teach 129 = .ok (.iload_n 2, 1) := by decide +kernel
theorem dX7_teach_130 : decode cX7_teach 130 = .ok (.if_icmp .ge 15, 3) := by decide +kernel
theorem dX7_teach_133 : decode cX7_teach 133 = .ok (.iload 8, 2) := by decide +kernel
theorem dX7_teach_135 : decode cX7_teach 135 = .ok (.istore_n 2, 1) := by decide +kernel
theorem dX7_teach_136 : decode cX7_teach 136 = .ok (.bipush 10, 2) := by decide +kernel
theorem dX7_teach_138 : decode cX7_teach 138 = .ok (.iload 6, 2) := by decide +kernel
theorem dX7_teach_140 : decode cX7_teach 140 = .ok (.imul, 1) := by decide +kernel
theorem dX7_teach_141 : decode cX7_teach 141 = .ok (.iload 7, 2) := by decide +kernel
theorem dX7_teach_143 : decode cX7_teach 143 = .ok (.iadd, 1) := by decide +kernel
theorem dX7_teach_144 : decode cX7_teach 144 = .ok (.istore_n 3, 1) := by decide +kernel
theorem dX7_teach_145 : decode cX7_teach 145 = .ok (.iinc 5 1, 3) := by decide +kernel
theorem dX7_teach_148 : decode cX7_teach 148 = .ok (.goto (-99), 3) := by decide +kernel
theorem dX7_teach_151 : decode cX7_teach 151 = .ok (.iload_n 1, 1) := by decide +kernel
theorem dX7_teach_152 : decode cX7_teach 152 = .ok (.ifCond .ne 7, 3) := by decide +kernel
theorem dX7_teach_155 : decode cX7_teach 155 = .ok (.iload_n 3, 1) := by decide +kernel
theorem dX7_teach_156 : decode cX7_teach 156 = .ok (.goto 4, 3) := by decide +kernel
theorem dX7_teach_159 : decode cX7_teach 159 = .ok (.iload_n 2, 1) := by decide +kernel
theorem dX7_teach_160 : decode cX7_teach 160 = .ok (.ireturn, 1) := by decide +kernel
theorem dX7_move_0 : decode cX7_move 0 = .ok (.aload_n 0, 1) := by decide +kernel
theorem dX7_move_1 : decode cX7_move 1 = .ok (.iload_n 1, 1) := by decide +kernel
theorem dX7_move_2 : decode cX7_move 2 = .ok (.invokevirtual 128, 3) := by decide +kernel
theorem dX7_move_5 : decode cX7_move 5 = .ok (.ifCond .ne 6, 3) := by decide +kernel
theorem dX7_move_8 : decode cX7_move 8 = .ok (.bipush (-5), 2) := by decide +kernel
theorem dX7_move_10 : decode cX7_move 10 = .ok (.ireturn, 1) := by decide +kernel
theorem dX7_move_11 : decode cX7_move 11 = .ok (.iload_n 2, 1) := by decide +kernel
theorem dX7_move_12 : decode cX7_move 12 = .ok (.iconst 0, 1) := by decide +kernel
theorem dX7_move_13 : decode cX7_move 13 = .ok (.iconst 1, 1) := by decide +kernel
theorem dX7_move_14 : decode cX7_move 14 = .ok (.invokestatic 86, 3) := by decide +kernel
theorem dX7_move_17 : decode cX7_move 17 = .ok (.ifCond .ne 6, 3) := by decide +kernel
theorem dX7_move_20 : decode cX7_move 20 = .ok (.bipush (-7), 2) := by decide +kernel
theorem dX7_move_22 : decode cX7_move 22 = .ok (.ireturn, 1) := by decide +kernel
theorem dX7_move_23 : decode cX7_move 23 = .ok (.aload_n 0, 1) := by decide +kernel
theorem dX7_move_24 : decode cX7_move 24 = .ok (.getfield 16, 3) := by decide +kernel
theorem dX7_move_27 : decode cX7_move 27 = .ok (.iload_n 1, 1) := by decide +kernel
theorem dX7_move_28 : decode cX7_move 28 = .ok (.aaload, 1) := by decide +kernel
theorem dX7_move_29 : decode cX7_move 29 = .ok (.astore_n 3, 1) := by decide +kernel
theorem dX7_move_30 : decode cX7_move 30 = .ok (.aload_n 3, 1) := by decide +kernel
theorem dX7_move_31 : decode cX7_move 31 = .ok (.getfield 154, 3) := by decide +kernel
theorem dX7_move_34 : decode cX7_move 34 = .ok (.istore 4, 2) := by decide +kernel
theorem dX7_move_36 : decode cX7_move 36 = .ok (.ldc 201, 2) := by decide +kernel
theorem dX7_move_38 : decode cX7_move 38 = .ok (.istore 5, 2) := by decide +kernel
theorem dX7_move_40 : decode cX7_move 40 = .ok (.iconst (-1), 1) := by decide +kernel
theorem dX7_move_41 : decode cX7_move 41 = .ok (.istore 6, 2) := by decide +kernel
theorem dX7_move_43 : decode cX7_move 43 = .ok (.iconst 0, 1) := by decide +kernel
theorem dX7_move_44 : decode cX7_move 44 = .ok (.istore 7, 2) := by decide +kernel
theorem dX7_move_46 : decode cX7_move 46 = .ok (.iload 7, 2) := by decide +kernel
theorem dX7_move_48 : decode cX7_move 48 = .ok (.bipush 7, 2) := by decide +kernel
theorem dX7_move_50 : decode cX7_move 50 = .ok (.if_icmp .ge 50, 3) := by decide +kernel
theorem dX7_move_53 : decode cX7_move 53 = .ok (.iload 7, 2) := by decide +kernel
theorem dX7_move_55 : decode cX7_move 55 = .ok (.aload_n 3, 1) := by decide +kernel
theorem dX7_move_56 : decode cX7_move 56 = .ok (.getfield 157, 3) := by decide +kernel
theorem dX7_move_59 : decode cX7_move 59 = .ok (.if_icmp .eq 35, 3) := by decide +kernel
theorem dX7_move_62 : decode cX7_move 62 = .ok (.aload_n 0, 1) := by decide +kernel
theorem dX7_move_63 : decode cX7_move 63 = .ok (.aload_n 3, 1) := by decide +kernel
theorem dX7_move_64 : decode cX7_move 64 = .ok (.iload 7, 2) := by decide +kernel
theorem dX7_move_66 : decode cX7_move 66 = .ok (.invokevirtual 209, 3) := by decide +kernel
theorem dX7_move_69 : decode cX7_move 69 = .ok (.aload_n 0, 1) := by decide +kernel
theorem dX7_move_70 : decode cX7_move 70 = .ok (.aload_n 0, 1) := by decide +kernel
theorem dX7_move_71 : decode cX7_move 71 = .ok (.invokevirtual 176, 3) := by decide +kernel
theorem dX7_move_74 : decode cX7_move 74 = .ok (.invokevirtual 206, 3) := by decide +kernel
theorem dX7_move_77 : decode cX7_move 77 = .ok (.istore 8, 2) := by decide +kernel
theorem dX7_move_79 : decode cX7_move 79 = .ok (.iload 8, 2) := by decide +kernel
theorem dX7_move_81 : decode cX7_move 81 = .ok (.iload 5, 2) := by decide +kernel
theorem dX7_move_83 : decode cX7_move 83 = .ok (.if_icmp .ge 11, 3) := by decide +kernel
theorem dX7_move_86 : decode cX7_move 86 = .ok (.iload 8, 2) := by decide +kernel
theorem dX7_move_88 : decode cX7_move 88 = .ok (.istore 5, 2) := by decide +kernel
theorem dX7_move_90 : decode cX7_move 90 = .ok (.iload 7, 2) := by decide +kernel
theorem dX7_move_92 : decode cX7_move 92 = .ok (.istore 6, 2) := by decide +kernel
theorem dX7_move_94 : decode cX7_move 94 = .ok (.iinc 7 1, 3) := by decide +kernel
theorem dX7_move_97 : decode cX7_move 97 = .ok (.goto (-51), 3) := by decide +kernel
theorem dX7_move_100 : decode cX7_move 100 = .ok (.aload_n 0, 1) := by decide +kernel
theorem dX7_move_101 : decode cX7_move 101 = .ok (.aload_n 3, 1) := by decide +kernel
theorem dX7_move_102 : decode cX7_move 102 = .ok (.iload 4, 2) := by decide +kernel
theorem dX7_move_104 : decode cX7_move 104 = .ok (.invokevirtual 209, 3) := by decide +kernel
theorem dX7_move_107 : decode cX7_move 107 = .ok (.iload_n 2, 1) := by decide +kernel
theorem dX7_move_108 : decode cX7_move 108 = .ok (.ifCond .ne 8, 3) := by decide +kernel
theorem dX7_move_111 : decode cX7_move 111 = .ok (.iload 6, 2) := by decide +kernel
theorem dX7_move_113 : decode cX7_move 113 = .ok (.goto 5, 3) := by decide +kernel
theorem dX7_move_116 : decode cX7_move 116 = .ok (.iload 5, 2) := by decide +kernel
theorem dX7_move_118 : decode cX7_move 118 = .ok (.ireturn, 1) := by decide +kernel
theorem dX7_cut_0 : decode cX7_cut 0 = .ok (.iload_n 1, 1) := by decide +kernel
theorem dX7_cut_1 : decode cX7_cut 1 = .ok (.iload_n 2, 1) := by decide +kernel
theorem dX7_cut_2 : decode cX7_cut 2 = .ok (.invokestatic 82, 3) := by decide +kernel
theorem dX7_cut_5 : decode cX7_cut 5 = .ok (.ifCond .eq 14, 3) := by decide +kernel
theorem dX7_cut_8 : decode cX7_cut 8 = .ok (.iload_n 3, 1) := by decide +kernel
theorem dX7_cut_9 : decode cX7_cut 9 = .ok (.iconst 1, 1) := by decide +kernel
theorem dX7_cut_10 : decode cX7_cut 10 = .ok (.sipush 999, 3) := by decide +kernel
theorem dX7_cut_13 : decode cX7_cut 13 = .ok (.invokestatic 86, 3) := by decide +kernel
theorem dX7_cut_16 : decode cX7_cut 16 = .ok (.ifCond .ne 6, 3) := by decide +kernel
theorem dX7_cut_19 : decode cX7_cut 19 = .ok (.ldc 213, 2) := by decide +kernel
theorem dX7_cut_21 : decode cX7_cut 21 = .ok (.ireturn, 1) := by decide +kernel
theorem dX7_cut_22 : decode cX7_cut 22 = .ok (.aload_n 0, 1) := by decide +kernel
theorem dX7_cut_23 : decode cX7_cut 23 = .ok (.aload_n 0, 1) := by decide +kernel
theorem dX7_cut_24 : decode cX7_cut 24 = .ok (.invokevirtual 176, 3) := by decide +kernel
theorem dX7_cut_27 : decode cX7_cut 27 = .ok (.invokevirtual 206, 3) := by decide +kernel
theorem dX7_cut_30 : decode cX7_cut 30 = .ok (.istore 4, 2) := by decide +kernel
theorem dX7_cut_32 : decode cX7_cut 32 = .ok (.aload_n 0, 1) := by decide +kernel
theorem dX7_cut_33 : decode cX7_cut 33 = .ok (.getfield 11, 3) := by decide +kernel
theorem dX7_cut_36 : decode cX7_cut 36 = .ok (.iload_n 1, 1) := by decide +kernel
theorem dX7_cut_37 : decode cX7_cut 37 = .ok (.aaload, 1) := by decide +kernel
theorem dX7_cut_38 : decode cX7_cut 38 = .ok (.iload_n 2, 1) := by decide +kernel
theorem dX7_cut_39 : decode cX7_cut 39 = .ok (.iaload, 1) := by decide +kernel
theorem dX7_cut_40 : decode cX7_cut 40 = .ok (.istore 5, 2) := by decide +kernel
theorem dX7_cut_42 : decode cX7_cut 42 = .ok (.aload_n 0, 1) := by decide +kernel
theorem dX7_cut_43 : decode cX7_cut 43 = .ok (.iload_n 1, 1) := by decide +kernel
theorem dX7_cut_44 : decode cX7_cut 44 = .ok (.iload_n 2, 1) := by decide +kernel
theorem dX7_cut_45 : decode cX7_cut 45 = .ok (.iload_n 3, 1) := by decide +kernel
theorem dX7_cut_46 : decode cX7_cut 46 = .ok (.invokevirtual 90, 3) := by decide +kernel
theorem dX7_cut_49 : decode cX7_cut 49 = .ok (.aload_n 0, 1) := by decide +kernel
theorem dX7_cut_50 : decode cX7_cut 50 = .ok (.aload_n 0, 1) := by decide +kernel
theorem dX7_cut_51 : decode cX7_cut 51 = .ok (.invokevirtual 176, 3) := by decide +kernel
theorem dX7_cut_54 : decode cX7_cut 54 = .ok (.invokevirtual 206, 3) := by decide +kernel
theorem dX7_cut_57 : decode cX7_cut 57 = .ok (.istore 6, 2) := by decide +kernel
theorem dX7_cut_59 : decode cX7_cut 59 = .ok (.aload_n 0, 1) := by decide +kernel
theorem dX7_cut_60 : decode cX7_cut 60 = .ok (.iload_n 1, 1) := by decide +kernel
theorem dX7_cut_61 : decode cX7_cut 61 = .ok (.iload_n 2, 1) := by decide +kernel
theorem dX7_cut_62 : decode cX7_cut 62 = .ok (.iload 5, 2) := by decide +kernel
theorem dX7_cut_64 : decode cX7_cut 64 = .ok (.invokevirtual 90, 3) := by decide +kernel
theorem dX7_cut_67 : decode cX7_cut 67 = .ok (.iload 4, 2) := by decide +kernel
theorem dX7_cut_69 : decode cX7_cut 69 = .ok (.iload 6, 2) := by decide +kernel
theorem dX7_cut_71 : decode cX7_cut 71 = .ok (.isub, 1) := by decide +kernel
theorem dX7_cut_72 : decode cX7_cut 72 = .ok (.ireturn, 1) := by decide +kernel
theorem dX7_lost_0 : decode cX7_lost 0 = .ok (.iload_n 1, 1) := by decide +kernel
theorem dX7_lost_1 : decode cX7_lost 1 = .ok (.invokestatic 94, 3) := by decide +kernel
theorem dX7_lost_4 : decode cX7_lost 4 = .ok (.ifCond .eq 21, 3) := by decide +kernel
theorem dX7_lost_7 : decode cX7_lost 7 = .ok (.iload_n 2, 1) := by decide +kernel
theorem dX7_lost_8 : decode cX7_lost 8 = .ok (.invokestatic 94, 3) := by decide +kernel
theorem dX7_lost_11 : decode cX7_lost 11 = .ok (.ifCond .eq 14, 3) := by decide +kernel
theorem dX7_lost_14 : decode cX7_lost 14 = .ok (.iload_n 3, 1) := by decide +kernel
theorem dX7_lost_15 : decode cX7_lost 15 = .ok (.iconst 0, 1) := by decide +kernel
theorem dX7_lost_16 : decode cX7_lost 16 = .ok (.sipush 9999, 3) := by decide +kernel
theorem dX7_lost_19 : decode cX7_lost 19 = .ok (.invokestatic 86, 3) := by decide +kernel
theorem dX7_lost_22 : decode cX7_lost 22 = .ok (.ifCond .ne 7, 3) := by decide +kernel
theorem dX7_lost_25 : decode cX7_lost 25 = .ok (.ldc2_w 214, 3) := by decide +kernel
theorem dX7_lost_28 : decode cX7_lost 28 = .ok (.lreturn, 1) := by decide +kernel
theorem dX7_lost_29 : decode cX7_lost 29 = .ok (.lconst 0, 1) := by decide +kernel
theorem dX7_lost_30 : decode cX7_lost 30 = .ok (.lstore 4, 2) := by decide +kernel
theorem dX7_lost_32 : decode cX7_lost 32 = .ok (.iconst 0, 1) := by decide +kernel
theorem dX7_lost_33 : decode cX7_lost 33 = .ok (.istore 6, 2) := by decide +kernel
theorem dX7_lost_35 : decode cX7_lost 35 = .ok (.iload 6, 2) := by decide +kernel
theorem dX7_lost_37 : decode cX7_lost 37 = .ok (.aload_n 0, 1) := by decide +kernel
theorem dX7_lost_38 : decode cX7_lost 38 = .ok (.invokevirtual 176, 3) := by decide +kernel
theorem dX7_lost_41 : decode cX7_lost 41 = .ok (.if_icmp .gt 32, 3) := by decide +kernel
theorem dX7_lost_44 : decode cX7_lost 44 = .ok (.aload_n 0, 1) := by decide +kernel
theorem dX7_lost_45 : decode cX7_lost 45 = .ok (.iload 6, 2) := by decide +kernel
theorem dX7_lost_47 : decode cX7_lost 47 = .ok (.iload_n 1, 1) := by decide +kernel
theorem dX7_lost_48 : decode cX7_lost 48 = .ok (.iload_n 2, 1) := by decide +kernel
theorem dX7_lost_49 : decode cX7_lost 49 = .ok (.invokevirtual 179, 3) := by decide +kernel
theorem dX7_lost_52 : decode cX7_lost 52 = .ok (.iload_n 3, 1) := by decide +kernel
theorem dX7_lost_53 : decode cX7_lost 53 = .ok (.if_icmp .le 14, 3) := by decide +kernel
theorem dX7_lost_56 : decode cX7_lost 56 = .ok (.lload 4, 2) := by decide +kernel
theorem dX7_lost_58 : decode cX7_lost 58 = .ok (.aload_n 0, 1) := by decide +kernel
theorem dX7_lost_59 : decode cX7_lost 59 = .ok (.iload 6, 2) := by decide +kernel
theorem dX7_lost_61 : decode cX7_lost 61 = .ok (.invokevirtual 216, 3) := by decide +kernel
theorem dX7_lost_64 : decode cX7_lost 64 = .ok (.ladd, 1) := by decide +kernel
theorem dX7_lost_65 : decode cX7_lost 65 = .ok (.lstore 4, 2) := by decide +kernel
theorem dX7_lost_67 : decode cX7_lost 67 = .ok (.iinc 6 1, 3) := by decide +kernel
theorem dX7_lost_70 : decode cX7_lost 70 = .ok (.goto (-35), 3) := by decide +kernel
theorem dX7_lost_73 : decode cX7_lost 73 = .ok (.lload 4, 2) := by decide +kernel
theorem dX7_lost_75 : decode cX7_lost 75 = .ok (.lreturn, 1) := by decide +kernel
theorem dX7_needed_0 : decode cX7_needed 0 = .ok (.iload_n 1, 1) := by decide +kernel
theorem dX7_needed_1 : decode cX7_needed 1 = .ok (.invokestatic 94, 3) := by decide +kernel
theorem dX7_needed_4 : decode cX7_needed 4 = .ok (.ifCond .eq 10, 3) := by decide +kernel
theorem dX7_needed_7 : decode cX7_needed 7 = .ok (.iload_n 2, 1) := by decide +kernel
theorem dX7_needed_8 : decode cX7_needed 8 = .ok (.invokestatic 94, 3) := by decide +kernel
theorem dX7_needed_11 : decode cX7_needed 11 = .ok (.ifCond .ne 6, 3) := by decide +kernel
theorem dX7_needed_14 : decode cX7_needed 14 = .ok (.bipush (-5), 2) := by decide +kernel
theorem dX7_needed_16 : decode cX7_needed 16 = .ok (.ireturn, 1) := by decide +kernel
theorem dX7_needed_17 : decode cX7_needed 17 = .ok (.iload_n 3, 1) := by decide +kernel
theorem dX7_needed_18 : decode cX7_needed 18 = .ok (.iconst 0, 1) := by decide +kernel
theorem dX7_needed_19 : decode cX7_needed 19 = .ok (.iconst 1, 1) := by decide +kernel
theorem dX7_needed_20 : decode cX7_needed 20 = .ok (.invokestatic 86, 3) := by decide +kernel
theorem dX7_needed_23 : decode cX7_needed 23 = .ok (.ifCond .ne 6, 3) := by decide +kernel
theorem dX7_needed_26 : decode cX7_needed 26 = .ok (.bipush (-7), 2) := by decide +kernel
theorem dX7_needed_28 : decode cX7_needed 28 = .ok (.ireturn, 1) := by decide +kernel
theorem dX7_needed_29 : decode cX7_needed 29 = .ok (.aload_n 0, 1) := by decide +kernel
theorem dX7_needed_30 : decode cX7_needed 30 = .ok (.aload_n 0, 1) := by decide +kernel
theorem dX7_needed_31 : decode cX7_needed 31 = .ok (.invokevirtual 176, 3) := by decide +kernel
theorem dX7_needed_34 : decode cX7_needed 34 = .ok (.iload_n 1, 1) := by decide +kernel
theorem dX7_needed_35 : decode cX7_needed 35 = .ok (.iload_n 2, 1) := by decide +kernel
theorem dX7_needed_36 : decode cX7_needed 36 = .ok (.invokevirtual 179, 3) := by decide +kernel
theorem dX7_needed_39 : decode cX7_needed 39 = .ok (.istore 4, 2) := by decide +kernel
theorem dX7_needed_41 : decode cX7_needed 41 = .ok (.iconst (-1), 1) := by decide +kernel
theorem dX7_needed_42 : decode cX7_needed 42 = .ok (.istore 5, 2) := by decide +kernel
theorem dX7_needed_44 : decode cX7_needed 44 = .ok (.iconst 0, 1) := by decide +kernel
theorem dX7_needed_45 : decode cX7_needed 45 = .ok (.istore 6, 2) := by decide +kernel
theorem dX7_needed_47 : decode cX7_needed 47 = .ok (.iload 6, 2) := by decide +kernel
theorem dX7_needed_49 : decode cX7_needed 49 = .ok (.aload_n 0, 1) := by decide +kernel
theorem dX7_needed_50 : decode cX7_needed 50 = .ok (.getfield 60, 3) := by decide +kernel
theorem dX7_needed_53 : decode cX7_needed 53 = .ok (.if_icmp .ge 43, 3) := by decide +kernel
theorem dX7_needed_56 : decode cX7_needed 56 = .ok (.aload_n 0, 1) := by decide +kernel
theorem dX7_needed_57 : decode cX7_needed 57 = .ok (.aload_n 0, 1) := by decide +kernel
theorem dX7_needed_58 : decode cX7_needed 58 = .ok (.invokevirtual 176, 3) := by decide +kernel
theorem dX7_needed_61 : decode cX7_needed 61 = .ok (.iconst 1, 1) := by decide +kernel
theorem dX7_needed_62 : decode cX7_needed 62 = .ok (.iload 6, 2) := by decide +kernel
theorem dX7_needed_64 : decode cX7_needed 64 = .ok (.ishl, 1) := by decide +kernel
theorem dX7_needed_65 : decode cX7_needed 65 = .ok (.iconst (-1), 1) := by decide +kernel
theorem dX7_needed_66 : decode cX7_needed 66 = .ok (.ixor, 1) := by decide +kernel
theorem dX7_needed_67 : decode cX7_needed 67 = .ok (.iand, 1) := by decide +kernel
theorem dX7_needed_68 : decode cX7_needed 68 = .ok (.iload_n 1, 1) := by decide +kernel
theorem dX7_needed_69 : decode cX7_needed 69 = .ok (.iload_n 2, 1) := by decide +kernel
theorem dX7_needed_70 : decode cX7_needed 70 = .ok (.invokevirtual 179, 3) := by decide +kernel
theorem dX7_needed_73 : decode cX7_needed 73 = .ok (.istore 7, 2) := by decide +kernel
theorem dX7_needed_75 : decode cX7_needed 75 = .ok (.iload 7, 2) := by decide +kernel
theorem dX7_needed_77 : decode cX7_needed 77 = .ok (.iload 4, 2) := by decide +kernel
theorem dX7_needed_79 : decode cX7_needed 79 = .ok (.if_icmp .le 11, 3) := by decide +kernel
theorem dX7_needed_82 : decode cX7_needed 82 = .ok (.iload 7, 2) := by decide +kernel
theorem dX7_needed_84 : decode cX7_needed 84 = .ok (.istore 4, 2) := by decide +kernel
theorem dX7_needed_86 : decode cX7_needed 86 = .ok (.iload 6, 2) := by decide +kernel
theorem dX7_needed_88 : decode cX7_needed 88 = .ok (.istore 5, 2) := by decide +kernel
theorem dX7_needed_90 : decode cX7_needed 90 = .ok (.iinc 6 1, 3) := by decide +kernel
theorem dX7_needed_93 : decode cX7_needed 93 = .ok (.goto (-46), 3) := by decide +kernel
theorem dX7_needed_96 : decode cX7_needed 96 = .ok (.iload_n 3, 1) := by decide +kernel
theorem dX7_needed_97 : decode cX7_needed 97 = .ok (.ifCond .ne 8, 3) := by decide +kernel
theorem dX7_needed_100 : decode cX7_needed 100 = .ok (.iload 5, 2) := by decide +kernel
theorem dX7_needed_102 : decode cX7_needed 102 = .ok (.goto 5, 3) := by decide +kernel
theorem dX7_needed_105 : decode cX7_needed 105 = .ok (.iload 4, 2) := by decide +kernel
theorem dX7_needed_107 : decode cX7_needed 107 = .ok (.ireturn, 1) := by decide +kernel
theorem dX7_again_0 : decode cX7_again 0 = .ok (.iload_n 1, 1) := by decide +kernel
theorem dX7_again_1 : decode cX7_again 1 = .ok (.invokestatic 94, 3) := by decide +kernel
theorem dX7_again_4 : decode cX7_again 4 = .ok (.ifCond .eq 10, 3) := by decide +kernel
theorem dX7_again_7 : decode cX7_again 7 = .ok (.iload_n 2, 1) := by decide +kernel
theorem dX7_again_8 : decode cX7_again 8 = .ok (.invokestatic 94, 3) := by decide +kernel
theorem dX7_again_11 : decode cX7_again 11 = .ok (.ifCond .ne 6, 3) := by decide +kernel
theorem dX7_again_14 : decode cX7_again 14 = .ok (.bipush (-5), 2) := by decide +kernel
theorem dX7_again_16 : decode cX7_again 16 = .ok (.ireturn, 1) := by decide +kernel
theorem dX7_again_17 : decode cX7_again 17 = .ok (.aload_n 0, 1) := by decide +kernel
theorem dX7_again_18 : decode cX7_again 18 = .ok (.aload_n 0, 1) := by decide +kernel
theorem dX7_again_19 : decode cX7_again 19 = .ok (.invokevirtual 176, 3) := by decide +kernel
theorem dX7_again_22 : decode cX7_again 22 = .ok (.iload_n 1, 1) := by decide +kernel
theorem dX7_again_23 : decode cX7_again 23 = .ok (.iload_n 2, 1) := by decide +kernel
theorem dX7_again_24 : decode cX7_again 24 = .ok (.invokevirtual 179, 3) := by decide +kernel
theorem dX7_again_27 : decode cX7_again 27 = .ok (.pop, 1) := by decide +kernel
theorem dX7_again_28 : decode cX7_again 28 = .ok (.aload_n 0, 1) := by decide +kernel
theorem dX7_again_29 : decode cX7_again 29 = .ok (.getfield 43, 3) := by decide +kernel
theorem dX7_again_32 : decode cX7_again 32 = .ok (.iload_n 2, 1) := by decide +kernel
theorem dX7_again_33 : decode cX7_again 33 = .ok (.invokevirtual 183, 3) := by decide +kernel
theorem dX7_again_36 : decode cX7_again 36 = .ok (.iconst 0, 1) := by decide +kernel
theorem dX7_again_37 : decode cX7_again 37 = .ok (.istore_n 3, 1) := by decide +kernel
theorem dX7_again_38 : decode cX7_again 38 = .ok (.iconst 0, 1) := by decide +kernel
theorem dX7_again_39 : decode cX7_again 39 = .ok (.istore 4, 2) := by decide +kernel
theorem dX7_again_41 : decode cX7_again 41 = .ok (.iload 4, 2) := by decide +kernel
theorem dX7_again_43 : decode cX7_again 43 = .ok (.aload_n 0, 1) := by decide +kernel
theorem dX7_again_44 : decode cX7_again 44 = .ok (.getfield 60, 3) := by decide +kernel
theorem dX7_again_47 : decode cX7_again 47 = .ok (.if_icmp .ge 50, 3) := by decide +kernel
theorem dX7_again_50 : decode cX7_again 50 = .ok (.aload_n 0, 1) := by decide +kernel
theorem dX7_again_51 : decode cX7_again 51 = .ok (.getfield 43, 3) := by decide +kernel
theorem dX7_again_54 : decode cX7_again 54 = .ok (.getfield 186, 3) := by decide +kernel
theorem dX7_again_57 : decode cX7_again 57 = .ok (.iload 4, 2) := by decide +kernel
theorem dX7_again_59 : decode cX7_again 59 = .ok (.invokestatic 220, 3) := by decide +kernel
theorem dX7_again_62 : decode cX7_again 62 = .ok (.ifCond .eq 29, 3) := by decide +kernel
theorem dX7_again_65 : decode cX7_again 65 = .ok (.iload_n 3, 1) := by decide +kernel
theorem dX7_again_66 : decode cX7_again 66 = .ok (.aload_n 0, 1) := by decide +kernel
theorem dX7_again_67 : decode cX7_again 67 = .ok (.getfield 16, 3) := by decide +kernel
theorem dX7_again_70 : decode cX7_again 70 = .ok (.iload 4, 2) := by decide +kernel
theorem dX7_again_72 : decode cX7_again 72 = .ok (.aaload, 1) := by decide +kernel
theorem dX7_again_73 : decode cX7_again 73 = .ok (.invokevirtual 166, 3) := by decide +kernel
theorem dX7_again_76 : decode cX7_again 76 = .ok (.aload_n 0, 1) := by decide +kernel
theorem dX7_again_77 : decode cX7_again 77 = .ok (.getfield 16, 3) := by decide +kernel
theorem dX7_again_80 : decode cX7_again 80 = .ok (.iload 4, 2) := by decide +kernel
theorem dX7_again_82 : decode cX7_again 82 = .ok (.aaload, 1) := by decide +kernel
theorem dX7_again_83 : decode cX7_again 83 = .ok (.invokevirtual 170, 3) := by decide +kernel
theorem dX7_again_86 : decode cX7_again 86 = .ok (.iadd, 1) := by decide +kernel
theorem dX7_again_87 : decode cX7_again 87 = .ok (.invokestatic 202, 3) := by decide +kernel
theorem dX7_again_90 : decode cX7_again 90 = .ok (.istore_n 3, 1) := by decide +kernel
theorem dX7_again_91 : decode cX7_again 91 = .ok (.iinc 4 1, 3) := by decide +kernel
theorem dX7_again_94 : decode cX7_again 94 = .ok (.goto (-53), 3) := by decide +kernel
theorem dX7_again_97 : decode cX7_again 97 = .ok (.iload_n 3, 1) := by decide +kernel
theorem dX7_again_98 : decode cX7_again 98 = .ok (.ireturn, 1) := by decide +kernel
theorem dX7_doctor_0 : decode cX7_doctor 0 = .ok (.iload_n 1, 1) := by decide +kernel
theorem dX7_doctor_1 : decode cX7_doctor 1 = .ok (.iconst 0, 1) := by decide +kernel
theorem dX7_doctor_2 : decode cX7_doctor 2 = .ok (.iconst 1, 1) := by decide +kernel
theorem dX7_doctor_3 : decode cX7_doctor 3 = .ok (.invokestatic 86, 3) := by decide +kernel
theorem dX7_doctor_6 : decode cX7_doctor 6 = .ok (.ifCond .ne 6, 3) := by decide +kernel
theorem dX7_doctor_9 : decode cX7_doctor 9 = .ok (.bipush (-2), 2) := by decide +kernel
theorem dX7_doctor_11 : decode cX7_doctor 11 = .ok (.ireturn, 1) := by decide +kernel
theorem dX7_doctor_12 : decode cX7_doctor 12 = .ok (.ldc 201, 2) := by decide +kernel
theorem dX7_doctor_14 : decode cX7_doctor 14 = .ok (.istore_n 2, 1) := by decide +kernel
theorem dX7_doctor_15 : decode cX7_doctor 15 = .ok (.iconst 0, 1) := by decide +kernel
theorem dX7_doctor_16 : decode cX7_doctor 16 = .ok (.istore_n 3, 1) := by decide +kernel
theorem dX7_doctor_17 : decode cX7_doctor 17 = .ok (.iconst 0, 1) := by decide +kernel
theorem dX7_doctor_18 : decode cX7_doctor 18 = .ok (.istore 4, 2) := by decide +kernel
theorem dX7_doctor_20 : decode cX7_doctor 20 = .ok (.iload 4, 2) := by decide +kernel
theorem dX7_doctor_22 : decode cX7_doctor 22 = .ok (.bipush 7, 2) := by decide +kernel
theorem dX7_doctor_24 : decode cX7_doctor 24 = .ok (.if_icmp .ge 36, 3) := by decide +kernel
theorem dX7_doctor_27 : decode cX7_doctor 27 = .ok (.aload_n 0, 1) := by decide +kernel
theorem dX7_doctor_28 : decode cX7_doctor 28 = .ok (.iload 4, 2) := by decide +kernel
theorem dX7_doctor_30 : decode cX7_doctor 30 = .ok (.invokevirtual 223, 3) := by decide +kernel
theorem dX7_doctor_33 : decode cX7_doctor 33 = .ok (.aload_n 0, 1) := by decide +kernel
theorem dX7_doctor_34 : decode cX7_doctor 34 = .ok (.getfield 43, 3) := by decide +kernel
theorem dX7_doctor_37 : decode cX7_doctor 37 = .ok (.invokevirtual 226, 3) := by decide +kernel
theorem dX7_doctor_40 : decode cX7_doctor 40 = .ok (.istore 5, 2) := by decide +kernel
theorem dX7_doctor_42 : decode cX7_doctor 42 = .ok (.iload 5, 2) := by decide +kernel
theorem dX7_doctor_44 : decode cX7_doctor 44 = .ok (.iload_n 2, 1) := by decide +kernel
theorem dX7_doctor_45 : decode cX7_doctor 45 = .ok (.if_icmp .ge 9, 3) := by decide +kernel
theorem dX7_doctor_48 : decode cX7_doctor 48 = .ok (.iload 5, 2) := by decide +kernel
theorem dX7_doctor_50 : decode cX7_doctor 50 = .ok (.istore_n 2, 1) := by decide +kernel
theorem dX7_doctor_51 : decode cX7_doctor 51 = .ok (.iload 4, 2) := by decide +kernel
theorem dX7_doctor_53 : decode cX7_doctor 53 = .ok (.istore_n 3, 1) := by decide +kernel
theorem dX7_doctor_54 : decode cX7_doctor 54 = .ok (.iinc 4 1, 3) := by decide +kernel
theorem dX7_doctor_57 : decode cX7_doctor 57 = .ok (.goto (-37), 3) := by decide +kernel
theorem dX7_doctor_60 : decode cX7_doctor 60 = .ok (.iload_n 1, 1) := by decide +kernel
theorem dX7_doctor_61 : decode cX7_doctor 61 = .ok (.ifCond .ne 7, 3) := by decide +kernel
theorem dX7_doctor_64 : decode cX7_doctor 64 = .ok (.iload_n 2, 1) := by decide +kernel
theorem dX7_doctor_65 : decode cX7_doctor 65 = .ok (.goto 4, 3) := by decide +kernel
theorem dX7_doctor_68 : decode cX7_doctor 68 = .ok (.iload_n 3, 1) := by decide +kernel
theorem dX7_doctor_69 : decode cX7_doctor 69 = .ok (.ireturn, 1) := by decide +kernel
theorem dX7_judge_0 : decode cX7_judge 0 = .ok (.iload_n 1, 1) := by decide +kernel
theorem dX7_judge_1 : decode cX7_judge 1 = .ok (.invokestatic 229, 3) := by decide +kernel
theorem dX7_judge_4 : decode cX7_judge 4 = .ok (.ifCond .ne 6, 3) := by decide +kernel
theorem dX7_judge_7 : decode cX7_judge 7 = .ok (.bipush (-2), 2) := by decide +kernel
theorem dX7_judge_9 : decode cX7_judge 9 = .ok (.ireturn, 1) := by decide +kernel
theorem dX7_judge_10 : decode cX7_judge 10 = .ok (.aload_n 0, 1) := by decide +kernel
theorem dX7_judge_11 : decode cX7_judge 11 = .ok (.getfield 56, 3) := by decide +kernel
theorem dX7_judge_14 : decode cX7_judge 14 = .ok (.iload_n 1, 1) := by decide +kernel
theorem dX7_judge_15 : decode cX7_judge 15 = .ok (.aaload, 1) := by decide +kernel
theorem dX7_judge_16 : decode cX7_judge 16 = .ok (.astore 4, 2) := by decide +kernel
theorem dX7_judge_18 : decode cX7_judge 18 = .ok (.aload 4, 2) := by decide +kernel
theorem dX7_judge_20 : decode cX7_judge 20 = .ok (.invokevirtual 232, 3) := by decide +kernel
theorem dX7_judge_23 : decode cX7_judge 23 = .ok (.ifCond .eq 6, 3) := by decide +kernel
theorem dX7_judge_26 : decode cX7_judge 26 = .ok (.bipush (-11), 2) := by decide +kernel
theorem dX7_judge_28 : decode cX7_judge 28 = .ok (.ireturn, 1) := by decide +kernel
theorem dX7_judge_29 : decode cX7_judge 29 = .ok (.iload_n 2, 1) := by decide +kernel
theorem dX7_judge_30 : decode cX7_judge 30 = .ok (.invokestatic 94, 3) := by decide +kernel
theorem dX7_judge_33 : decode cX7_judge 33 = .ok (.ifCond .ne 6, 3) := by decide +kernel
theorem dX7_judge_36 : decode cX7_judge 36 = .ok (.bipush (-5), 2) := by decide +kernel
theorem dX7_judge_38 : decode cX7_judge 38 = .ok (.ireturn, 1) := by decide +kernel
theorem dX7_judge_39 : decode cX7_judge 39 = .ok (.iload_n 3, 1) := by decide +kernel
theorem dX7_judge_40 : decode cX7_judge 40 = .ok (.iconst 0, 1) := by decide +kernel
theorem dX7_judge_41 : decode cX7_judge 41 = .ok (.iconst 2, 1) := by decide +kernel
theorem dX7_judge_42 : decode cX7_judge 42 = .ok (.invokestatic 86, 3) := by decide +kernel
theorem dX7_judge_45 : decode cX7_judge 45 = .ok (.ifCond .ne 6, 3) := by decide +kernel
theorem dX7_judge_48 : decode cX7_judge 48 = .ok (.bipush (-7), 2) := by decide +kernel
theorem dX7_judge_50 : decode cX7_judge 50 = .ok (.ireturn, 1) := by decide +kernel
theorem dX7_judge_51 : decode cX7_judge 51 = .ok (.iload_n 2, 1) := by decide +kernel
theorem dX7_judge_52 : decode cX7_judge 52 = .ok (.istore 5, 2) := by decide +kernel
theorem dX7_judge_54 : decode cX7_judge 54 = .ok (.iconst 0, 1) := by decide +kernel
theorem dX7_judge_55 : decode cX7_judge 55 = .ok (.istore 6, 2) := by decide +kernel
theorem dX7_judge_57 : decode cX7_judge 57 = .ok (.iconst 0, 1) := by decide +kernel
theorem dX7_judge_58 : decode cX7_judge 58 = .ok (.istore 7, 2) := by decide +kernel
theorem dX7_judge_60 : decode cX7_judge 60 = .ok (.iconst 0, 1) := by decide +kernel
theorem dX7_judge_61 : decode cX7_judge 61 = .ok (.istore 8, 2) := by decide +kernel
theorem dX7_judge_63 : decode cX7_judge 63 = .ok (.iload 8, 2) := by decide +kernel
theorem dX7_judge_65 : decode cX7_judge 65 = .ok (.aload 4, 2) := by decide +kernel
theorem dX7_judge_67 : decode cX7_judge 67 = .ok (.getfield 236, 3) := by decide +kernel
theorem dX7_judge_70 : decode cX7_judge 70 = .ok (.if_icmp .ge 119, 3) := by decide +kernel
theorem dX7_judge_73 : decode cX7_judge 73 = .ok (.aload 4, 2) := by decide +kernel
theorem dX7_judge_75 : decode cX7_judge 75 = .ok (.iload 8, 2) := by decide +kernel
theorem dX7_judge_77 : decode cX7_judge 77 = .ok (.invokevirtual 237, 3) := by decide +kernel
theorem dX7_judge_80 : decode cX7_judge 80 = .ok (.istore 9, 2) := by decide +kernel
theorem dX7_judge_82 : decode cX7_judge 82 = .ok (.aload_n 0, 1) := by decide +kernel
theorem dX7_judge_83 : decode cX7_judge 83 = .ok (.iload 9, 2) := by decide +kernel
theorem dX7_judge_85 : decode cX7_judge 85 = .ok (.iload 5, 2) := by decide +kernel
theorem dX7_judge_87 : decode cX7_judge 87 = .ok (.iload 7, 2) := by decide +kernel
theorem dX7_judge_89 : decode cX7_judge 89 = .ok (.invokevirtual 240, 3) := by decide +kernel
theorem dX7_judge_92 : decode cX7_judge 92 = .ok (.ifCond .ne 25, 3) := by decide +kernel
theorem dX7_judge_95 : decode cX7_judge 95 = .ok (.iload_n 3, 1) := by decide +kernel
theorem dX7_judge_96 : decode cX7_judge 96 = .ok (.ifCond .ne 8, 3) := by decide +kernel
theorem dX7_judge_99 : decode cX7_judge 99 = .ok (.iload 8, 2) := by decide +kernel
theorem dX7_judge_101 : decode cX7_judge 101 = .ok (.goto 15, 3) := by decide +kernel
theorem dX7_judge_104 : decode cX7_judge 104 = .ok (.iload_n 3, 1) := by decide +kernel
theorem dX7_judge_105 : decode cX7_judge 105 = .ok (.iconst 1, 1) := by decide +kernel
theorem dX7_judge_106 : decode cX7_judge 106 = .ok (.if_icmp .ne 8, 3) := by decide +kernel
theorem dX7_judge_109 : decode cX7_judge 109 = .ok (.iload 6, 2) := by decide +kernel
theorem dX7_judge_111 : decode cX7_judge 111 = .ok (.goto 5, 3) := by decide +kernel
theorem dX7_judge_114 : decode cX7_judge 114 = .ok (.iload 5, 2) := by decide +kernel
theorem dX7_judge_116 : decode cX7_judge 116 = .ok (.ireturn, 1) := by decide +kernel
theorem dX7_judge_117 : decode cX7_judge 117 = .ok (.iload 9, 2) := by decide +kernel
theorem dX7_judge_119 : decode cX7_judge 119 = .ok (.bipush 10, 2) := by decide +kernel
theorem dX7_judge_121 : decode cX7_judge 121 = .ok (.idiv, 1) := by decide +kernel
theorem dX7_judge_122 : decode cX7_judge 122 = .ok (.istore 10, 2) := by decide +kernel
theorem dX7_judge_124 : decode cX7_judge 124 = .ok (.iload 9, 2) := by decide +kernel
theorem dX7_judge_126 : decode cX7_judge 126 = .ok (.bipush 10, 2) := by decide +kernel
theorem dX7_judge_128 : decode cX7_judge 128 = .ok (.irem, 1) := by decide +kernel
theorem dX7_judge_129 : decode cX7_judge 129 = .ok (.istore 11, 2) := by decide +kernel
theorem dX7_judge_131 : decode cX7_judge 131 = .ok (.iload 10, 2) := by decide +kernel
theorem dX7_judge_133 : decode cX7_judge 133 = .ok (.bipush 7, 2) := by decide +kernel
theorem dX7_judge_135 : decode cX7_judge 135 = .ok (.if_icmp .ne 21, 3) := by decide +kernel
theorem dX7_judge_138 : decode cX7_judge 138 = .ok (.iload 6, 2) := by decide +kernel
theorem dX7_judge_140 : decode cX7_judge 140 = .ok (.aload_n 0, 1) := by decide +kernel
theorem dX7_judge_141 : decode cX7_judge 141 = .ok (.getfield 11, 3) := by decide +kernel
theorem dX7_judge_144 : decode cX7_judge 144 = .ok (.iload 5, 2) := by decide +kernel
theorem dX7_judge_146 : decode cX7_judge 146 = .ok (.aaload, 1) := by decide +kernel
theorem dX7_judge_147 : decode cX7_judge 147 = .ok (.iload 11, 2) := by decide +kernel
theorem dX7_judge_149 : decode cX7_judge 149 = .ok (.iaload, 1) := by decide +kernel
theorem dX7_judge_150 : decode cX7_judge 150 = .ok (.iadd, 1) := by decide +kernel
theorem dX7_judge_151 : decode cX7_judge 151 = .ok (.istore 6, 2) := by decide +kernel
theorem dX7_judge_153 : decode cX7_judge 153 = .ok (.goto 26, 3) := by decide +kernel
theorem dX7_judge_156 : decode cX7_judge 156 = .ok (.aload_n 0, 1) := by decide +kernel
theorem dX7_judge_157 : decode cX7_judge 157 = .ok (.getfield 16, 3) := by decide +kernel
theorem dX7_judge_160 : decode cX7_judge 160 = .ok (.iload 10, 2) := by decide +kernel
theorem dX7_judge_162 : decode cX7_judge 162 = .ok (.aaload, 1) := by decide +kernel
theorem dX7_judge_163 : decode cX7_judge 163 = .ok (.iload 6, 2) := by decide +kernel
theorem dX7_judge_165 : decode cX7_judge 165 = .ok (.invokevirtual 243, 3) := by decide +kernel
theorem dX7_judge_168 : decode cX7_judge 168 = .ok (.istore 6, 2) := by decide +kernel
theorem dX7_judge_170 : decode cX7_judge 170 = .ok (.iload 7, 2) := by decide +kernel
theorem dX7_judge_172 : decode cX7_judge 172 = .ok (.iconst 1, 1) := by decide +kernel
theorem dX7_judge_173 : decode cX7_judge 173 = .ok (.iload 10, 2) := by decide +kernel
theorem dX7_judge_175 : decode cX7_judge 175 = .ok (.ishl, 1) := by decide +kernel
theorem dX7_judge_176 : decode cX7_judge 176 = .ok (.ior, 1) := by decide +kernel
theorem dX7_judge_177 : decode cX7_judge 177 = .ok (.istore 7, 2) := by decide +kernel
theorem dX7_judge_179 : decode cX7_judge 179 = .ok (.iload 11, 2) := by decide +kernel
theorem dX7_judge_181 : decode cX7_judge 181 = .ok (.istore 5, 2) := by decide +kernel
theorem dX7_judge_183 : decode cX7_judge 183 = .ok (.iinc 8 1, 3) := by decide +kernel
theorem dX7_judge_186 : decode cX7_judge 186 = .ok (.goto (-123), 3) := by decide +kernel
theorem dX7_judge_189 : decode cX7_judge 189 = .ok (.iload_n 3, 1) := by decide +kernel
theorem dX7_judge_190 : decode cX7_judge 190 = .ok (.ifCond .ne 7, 3) := by decide +kernel
theorem dX7_judge_193 : decode cX7_judge 193 = .ok (.iconst (-1), 1) := by decide +kernel
theorem dX7_judge_194 : decode cX7_judge 194 = .ok (.goto 15, 3) := by decide +kernel
theorem dX7_judge_197 : decode cX7_judge 197 = .ok (.iload_n 3, 1) := by decide +kernel
theorem dX7_judge_198 : decode cX7_judge 198 = .ok (.iconst 1, 1) := by decide +kernel
theorem dX7_judge_199 : decode cX7_judge 199 = .ok (.if_icmp .ne 8, 3) := by decide +kernel
theorem dX7_judge_202 : decode cX7_judge 202 = .ok (.iload 6, 2) := by decide +kernel
theorem dX7_judge_204 : decode cX7_judge 204 = .ok (.goto 5, 3) := by decide +kernel
theorem dX7_judge_207 : decode cX7_judge 207 = .ok (.iload 5, 2) := by decide +kernel
theorem dX7_judge_209 : decode cX7_judge 209 = .ok (.ireturn, 1) := by decide +kernel
theorem dX7_wet_0 : decode cX7_wet 0 = .ok (.iload_n 1, 1) := by decide +kernel
theorem dX7_wet_1 : decode cX7_wet 1 = .ok (.iconst 0, 1) := by decide +kernel
theorem dX7_wet_2 : decode cX7_wet 2 = .ok (.aload_n 0, 1) := by decide +kernel
theorem dX7_wet_3 : decode cX7_wet 3 = .ok (.invokevirtual 176, 3) := by decide +kernel
theorem dX7_wet_6 : decode cX7_wet 6 = .ok (.invokestatic 86, 3) := by decide +kernel
theorem dX7_wet_9 : decode cX7_wet 9 = .ok (.ifCond .eq 12, 3) := by decide +kernel
theorem dX7_wet_12 : decode cX7_wet 12 = .ok (.iload_n 2, 1) := by decide +kernel
theorem dX7_wet_13 : decode cX7_wet 13 = .ok (.iconst 0, 1) := by decide +kernel
theorem dX7_wet_14 : decode cX7_wet 14 = .ok (.iconst 1, 1) := by decide +kernel
theorem dX7_wet_15 : decode cX7_wet 15 = .ok (.invokestatic 86, 3) := by decide +kernel
theorem dX7_wet_18 : decode cX7_wet 18 = .ok (.ifCond .ne 6, 3) := by decide +kernel
theorem dX7_wet_21 : decode cX7_wet 21 = .ok (.bipush (-2), 2) := by decide +kernel
theorem dX7_wet_23 : decode cX7_wet 23 = .ok (.ireturn, 1) := by decide +kernel
theorem dX7_wet_24 : decode cX7_wet 24 = .ok (.iconst 0, 1) := by decide +kernel
theorem dX7_wet_25 : decode cX7_wet 25 = .ok (.istore_n 3, 1) := by decide +kernel
theorem dX7_wet_26 : decode cX7_wet 26 = .ok (.iconst (-1), 1) := by decide +kernel
theorem dX7_wet_27 : decode cX7_wet 27 = .ok (.istore 4, 2) := by decide +kernel
theorem dX7_wet_29 : decode cX7_wet 29 = .ok (.iconst 0, 1) := by decide +kernel
theorem dX7_wet_30 : decode cX7_wet 30 = .ok (.istore 5, 2) := by decide +kernel
theorem dX7_wet_32 : decode cX7_wet 32 = .ok (.iload 5, 2) := by decide +kernel
theorem dX7_wet_34 : decode cX7_wet 34 = .ok (.bipush 7, 2) := by decide +kernel
theorem dX7_wet_36 : decode cX7_wet 36 = .ok (.if_icmp .ge 82, 3) := by decide +kernel
theorem dX7_wet_39 : decode cX7_wet 39 = .ok (.aload_n 0, 1) := by decide +kernel
theorem dX7_wet_40 : decode cX7_wet 40 = .ok (.iload 5, 2) := by decide +kernel
theorem dX7_wet_42 : decode cX7_wet 42 = .ok (.invokevirtual 223, 3) := by decide +kernel
theorem dX7_wet_45 : decode cX7_wet 45 = .ok (.iconst 0, 1) := by decide +kernel
theorem dX7_wet_46 : decode cX7_wet 46 = .ok (.istore 6, 2) := by decide +kernel
theorem dX7_wet_48 : decode cX7_wet 48 = .ok (.iload 6, 2) := by decide +kernel
theorem dX7_wet_50 : decode cX7_wet 50 = .ok (.bipush 7, 2) := by decide +kernel
theorem dX7_wet_52 : decode cX7_wet 52 = .ok (.if_icmp .ge 60, 3) := by decide +kernel
theorem dX7_wet_55 : decode cX7_wet 55 = .ok (.aload_n 0, 1) := by decide +kernel
theorem dX7_wet_56 : decode cX7_wet 56 = .ok (.getfield 43, 3) := by decide +kernel
theorem dX7_wet_59 : decode cX7_wet 59 = .ok (.iload 6, 2) := by decide +kernel
theorem dX7_wet_61 : decode cX7_wet 61 = .ok (.invokevirtual 183, 3) := by decide +kernel
theorem dX7_wet_64 : decode cX7_wet 64 = .ok (.iload 5, 2) := by decide +kernel
theorem dX7_wet_66 : decode cX7_wet 66 = .ok (.iload 6, 2) := by decide +kernel
theorem dX7_wet_68 : decode cX7_wet 68 = .ok (.if_icmp .eq 38, 3) := by decide +kernel
theorem dX7_wet_71 : decode cX7_wet 71 = .ok (.aload_n 0, 1) := by decide +kernel
theorem dX7_wet_72 : decode cX7_wet 72 = .ok (.getfield 43, 3) := by decide +kernel
theorem dX7_wet_75 : decode cX7_wet 75 = .ok (.getfield 186, 3) := by decide +kernel
theorem dX7_wet_78 : decode cX7_wet 78 = .ok (.iload_n 1, 1) := by decide +kernel
theorem dX7_wet_79 : decode cX7_wet 79 = .ok (.if_icmp .ne 27, 3) := by decide +kernel
theorem dX7_wet_82 : decode cX7_wet 82 = .ok (.iinc 3 1, 3) := by decide +kernel
theorem dX7_wet_85 : decode cX7_wet 85 = .ok (.iload 4, 2) := by decide +kernel
theorem dX7_wet_87 : decode cX7_wet 87 = .ok (.iconst (-1), 1) := by decide +kernel
theorem dX7_wet_88 : decode cX7_wet 88 = .ok (.if_icmp .ne 14, 3) := by decide +kernel
theorem dX7_wet_91 : decode cX7_wet 91 = .ok (.bipush 10, 2) := by decide +kernel
theorem dX7_wet_93 : decode cX7_wet 93 = .ok (.iload 5, 2) := by decide +kernel
theorem dX7_wet_95 : decode cX7_wet 95 = .ok (.imul, 1) := by decide +kernel
theorem dX7_wet_96 : decode cX7_wet 96 = .ok (.iload 6, 2) := by decide +kernel
theorem dX7_wet_98 : decode cX7_wet 98 = .ok (.iadd, 1) := by decide +kernel
theorem dX7_wet_99 : decode cX7_wet 99 = .ok (.goto 5, 3) := by decide +kernel
theorem dX7_wet_102 : decode cX7_wet 102 = .ok (.iload 4, 2) := by decide +kernel
theorem dX7_wet_104 : decode cX7_wet 104 = .ok (.istore 4, 2) := by decide +kernel
theorem dX7_wet_106 : decode cX7_wet 106 = .ok (.iinc 6 1, 3) := by decide +kernel
theorem dX7_wet_109 : decode cX7_wet 109 = .ok (.goto (-61), 3) := by decide +kernel
theorem dX7_wet_112 : decode cX7_wet 112 = .ok (.iinc 5 1, 3) := by decide +kernel
theorem dX7_wet_115 : decode cX7_wet 115 = .ok (.goto (-83), 3) := by decide +kernel
theorem dX7_wet_118 : decode cX7_wet 118 = .ok (.iload_n 2, 1) := by decide +kernel
theorem dX7_wet_119 : decode cX7_wet 119 = .ok (.ifCond .ne 7, 3) := by decide +kernel
theorem dX7_wet_122 : decode cX7_wet 122 = .ok (.iload_n 3, 1) := by decide +kernel
theorem dX7_wet_123 : decode cX7_wet 123 = .ok (.goto 5, 3) := by decide +kernel
theorem dX7_wet_126 : decode cX7_wet 126 = .ok (.iload 4, 2) := by decide +kernel
theorem dX7_wet_128 : decode cX7_wet 128 = .ok (.ireturn, 1) := by decide +kernel
theorem dX7_whence_0 : decode cX7_whence 0 = .ok (.aload_n 0, 1) := by decide +kernel
theorem dX7_whence_1 : decode cX7_whence 1 = .ok (.iload_n 1, 1) := by decide +kernel
theorem dX7_whence_2 : decode cX7_whence 2 = .ok (.invokevirtual 246, 3) := by decide +kernel
theorem dX7_whence_5 : decode cX7_whence 5 = .ok (.istore_n 2, 1) := by decide +kernel
theorem dX7_whence_6 : decode cX7_whence 6 = .ok (.iload_n 2, 1) := by decide +kernel
theorem dX7_whence_7 : decode cX7_whence 7 = .ok (.ifCond .eq 5, 3) := by decide +kernel
theorem dX7_whence_10 : decode cX7_whence 10 = .ok (.iload_n 2, 1) := by decide +kernel
theorem dX7_whence_11 : decode cX7_whence 11 = .ok (.ireturn, 1) := by decide +kernel
theorem dX7_whence_12 : decode cX7_whence 12 = .ok (.iconst 0, 1) := by decide +kernel
theorem dX7_whence_13 : decode cX7_whence 13 = .ok (.istore_n 3, 1) := by decide +kernel
theorem dX7_whence_14 : decode cX7_whence 14 = .ok (.iconst 0, 1) := by decide +kernel
theorem dX7_whence_15 : decode cX7_whence 15 = .ok (.istore 4, 2) := by decide +kernel
theorem dX7_whence_17 : decode cX7_whence 17 = .ok (.iload 4, 2) := by decide +kernel
theorem dX7_whence_19 : decode cX7_whence 19 = .ok (.bipush 7, 2) := by decide +kernel
theorem dX7_whence_21 : decode cX7_whence 21 = .ok (.if_icmp .ge 31, 3) := by decide +kernel
theorem dX7_whence_24 : decode cX7_whence 24 = .ok (.aload_n 0, 1) := by decide +kernel
theorem dX7_whence_25 : decode cX7_whence 25 = .ok (.iload 4, 2) := by decide +kernel
theorem dX7_whence_27 : decode cX7_whence 27 = .ok (.aload_n 0, 1) := by decide +kernel
theorem dX7_whence_28 : decode cX7_whence 28 = .ok (.getfield 56, 3) := by decide +kernel
theorem dX7_whence_31 : decode cX7_whence 31 = .ok (.iload_n 1, 1) := by decide +kernel
theorem dX7_whence_32 : decode cX7_whence 32 = .ok (.aaload, 1) := by decide +kernel
theorem dX7_whence_33 : decode cX7_whence 33 = .ok (.invokevirtual 249, 3) := by decide +kernel
theorem dX7_whence_36 : decode cX7_whence 36 = .ok (.ifCond .eq 10, 3) := by decide +kernel
theorem dX7_whence_39 : decode cX7_whence 39 = .ok (.iload_n 3, 1) := by decide +kernel
theorem dX7_whence_40 : decode cX7_whence 40 = .ok (.iconst 1, 1) := by decide +kernel
theorem dX7_whence_41 : decode cX7_whence 41 = .ok (.iload 4, 2) := by decide +kernel
theorem dX7_whence_43 : decode cX7_whence 43 = .ok (.ishl, 1) := by decide +kernel
theorem dX7_whence_44 : decode cX7_whence 44 = .ok (.ior, 1) := by decide +kernel
theorem dX7_whence_45 : decode cX7_whence 45 = .ok (.istore_n 3, 1) := by decide +kernel
theorem dX7_whence_46 : decode cX7_whence 46 = .ok (.iinc 4 1, 3) := by decide +kernel
theorem dX7_whence_49 : decode cX7_whence 49 = .ok (.goto (-32), 3) := by decide +kernel
theorem dX7_whence_52 : decode cX7_whence 52 = .ok (.iload_n 3, 1) := by decide +kernel
theorem dX7_whence_53 : decode cX7_whence 53 = .ok (.ireturn, 1) := by decide +kernel
theorem dX7_laws_0 : decode cX7_laws 0 = .ok (.aload_n 0, 1) := by decide +kernel
theorem dX7_laws_1 : decode cX7_laws 1 = .ok (.iload_n 1, 1) := by decide +kernel
theorem dX7_laws_2 : decode cX7_laws 2 = .ok (.invokevirtual 246, 3) := by decide +kernel
theorem dX7_laws_5 : decode cX7_laws 5 = .ok (.istore_n 3, 1) := by decide +kernel
theorem dX7_laws_6 : decode cX7_laws 6 = .ok (.iload_n 3, 1) := by decide +kernel
theorem dX7_laws_7 : decode cX7_laws 7 = .ok (.ifCond .eq 5, 3) := by decide +kernel
theorem dX7_laws_10 : decode cX7_laws 10 = .ok (.iload_n 3, 1) := by decide +kernel
theorem dX7_laws_11 : decode cX7_laws 11 = .ok (.ireturn, 1) := by decide +kernel
theorem dX7_laws_12 : decode cX7_laws 12 = .ok (.iload_n 2, 1) := by decide +kernel
theorem dX7_laws_13 : decode cX7_laws 13 = .ok (.invokestatic 94, 3) := by decide +kernel
theorem dX7_laws_16 : decode cX7_laws 16 = .ok (.ifCond .ne 6, 3) := by decide +kernel
theorem dX7_laws_19 : decode cX7_laws 19 = .ok (.bipush (-5), 2) := by decide +kernel
theorem dX7_laws_21 : decode cX7_laws 21 = .ok (.ireturn, 1) := by decide +kernel
theorem dX7_laws_22 : decode cX7_laws 22 = .ok (.aload_n 0, 1) := by decide +kernel
theorem dX7_laws_23 : decode cX7_laws 23 = .ok (.getfield 70, 3) := by decide +kernel
theorem dX7_laws_26 : decode cX7_laws 26 = .ok (.istore 4, 2) := by decide +kernel
theorem dX7_laws_28 : decode cX7_laws 28 = .ok (.iconst 0, 1) := by decide +kernel
theorem dX7_laws_29 : decode cX7_laws 29 = .ok (.istore 5, 2) := by decide +kernel
theorem dX7_laws_31 : decode cX7_laws 31 = .ok (.iconst 0, 1) := by decide +kernel
theorem dX7_laws_32 : decode cX7_laws 32 = .ok (.istore 6, 2) := by decide +kernel
theorem dX7_laws_34 : decode cX7_laws 34 = .ok (.iload 6, 2) := by decide +kernel
theorem dX7_laws_36 : decode cX7_laws 36 = .ok (.aload_n 0, 1) := by decide +kernel
theorem dX7_laws_37 : decode cX7_laws 37 = .ok (.getfield 67, 3) := by decide +kernel
theorem dX7_laws_40 : decode cX7_laws 40 = .ok (.if_icmp .ge 38, 3) := by decide +kernel
theorem dX7_laws_43 : decode cX7_laws 43 = .ok (.aload_n 0, 1) := by decide +kernel
theorem dX7_laws_44 : decode cX7_laws 44 = .ok (.iload 6, 2) := by decide +kernel
theorem dX7_laws_46 : decode cX7_laws 46 = .ok (.invokevirtual 125, 3) := by decide +kernel
theorem dX7_laws_49 : decode cX7_laws 49 = .ok (.aload_n 0, 1) := by decide +kernel
theorem dX7_laws_50 : decode cX7_laws 50 = .ok (.iload_n 2, 1) := by decide +kernel
theorem dX7_laws_51 : decode cX7_laws 51 = .ok (.aload_n 0, 1) := by decide +kernel
theorem dX7_laws_52 : decode cX7_laws 52 = .ok (.getfield 56, 3) := by decide +kernel
theorem dX7_laws_55 : decode cX7_laws 55 = .ok (.iload_n 1, 1) := by decide +kernel
theorem dX7_laws_56 : decode cX7_laws 56 = .ok (.aaload, 1) := by decide +kernel
theorem dX7_laws_57 : decode cX7_laws 57 = .ok (.invokevirtual 249, 3) := by decide +kernel
theorem dX7_laws_60 : decode cX7_laws 60 = .ok (.ifCond .eq 12, 3) := by decide +kernel
theorem dX7_laws_63 : decode cX7_laws 63 = .ok (.iload 5, 2) := by decide +kernel
theorem dX7_laws_65 : decode cX7_laws 65 = .ok (.iconst 1, 1) := by decide +kernel
theorem dX7_laws_66 : decode cX7_laws 66 = .ok (.iload 6, 2) := by decide +kernel
theorem dX7_laws_68 : decode cX7_laws 68 = .ok (.ishl, 1) := by decide +kernel
theorem dX7_laws_69 : decode cX7_laws 69 = .ok (.ior, 1) := by decide +kernel
theorem dX7_laws_70 : decode cX7_laws 70 = .ok (.istore 5, 2) := by decide +kernel
theorem dX7_laws_72 : decode cX7_laws 72 = .ok (.iinc 6 1, 3) := by decide +kernel
theorem dX7_laws_75 : decode cX7_laws 75 = .ok (.goto (-41), 3) := by decide +kernel
theorem dX7_laws_78 : decode cX7_laws 78 = .ok (.aload_n 0, 1) := by decide +kernel
theorem dX7_laws_79 : decode cX7_laws 79 = .ok (.iload 4, 2) := by decide +kernel
theorem dX7_laws_81 : decode cX7_laws 81 = .ok (.invokevirtual 125, 3) := by decide +kernel
theorem dX7_laws_84 : decode cX7_laws 84 = .ok (.iload 5, 2) := by decide +kernel
theorem dX7_laws_86 : decode cX7_laws 86 = .ok (.ireturn, 1) := by decide +kernel
theorem dX7_film_0 : decode cX7_film 0 = .ok (.iload_n 1, 1) := by decide +kernel
theorem dX7_film_1 : decode cX7_film 1 = .ok (.invokestatic 229, 3) := by decide +kernel
theorem dX7_film_4 : decode cX7_film 4 = .ok (.ifCond .ne 6, 3) := by decide +kernel
theorem dX7_film_7 : decode cX7_film 7 = .ok (.bipush (-2), 2) := by decide +kernel
theorem dX7_film_9 : decode cX7_film 9 = .ok (.ireturn, 1) := by decide +kernel
theorem dX7_film_10 : decode cX7_film 10 = .ok (.iload_n 2, 1) := by decide +kernel
theorem dX7_film_11 : decode cX7_film 11 = .ok (.invokestatic 94, 3) := by decide +kernel
theorem dX7_film_14 : decode cX7_film 14 = .ok (.ifCond .ne 6, 3) := by decide +kernel
theorem dX7_film_17 : decode cX7_film 17 = .ok (.bipush (-5), 2) := by decide +kernel
theorem dX7_film_19 : decode cX7_film 19 = .ok (.ireturn, 1) := by decide +kernel
theorem dX7_film_20 : decode cX7_film 20 = .ok (.aload_n 0, 1) := by decide +kernel
theorem dX7_film_21 : decode cX7_film 21 = .ok (.iload_n 2, 1) := by decide +kernel
theorem dX7_film_22 : decode cX7_film 22 = .ok (.invokevirtual 223, 3) := by decide +kernel
theorem dX7_film_25 : decode cX7_film 25 = .ok (.aload_n 0, 1) := by decide +kernel
theorem dX7_film_26 : decode cX7_film 26 = .ok (.getfield 56, 3) := by decide +kernel
theorem dX7_film_29 : decode cX7_film 29 = .ok (.iload_n 1, 1) := by decide +kernel
theorem dX7_film_30 : decode cX7_film 30 = .ok (.aaload, 1) := by decide +kernel
theorem dX7_film_31 : decode cX7_film 31 = .ok (.iconst 2, 1) := by decide +kernel
theorem dX7_film_32 : decode cX7_film 32 = .ok (.bipush 7, 2) := by decide +kernel
theorem dX7_film_34 : decode cX7_film 34 = .ok (.invokevirtual 253, 3) := by decide +kernel
theorem dX7_film_37 : decode cX7_film 37 = .ok (.iconst 0, 1) := by decide +kernel
theorem dX7_film_38 : decode cX7_film 38 = .ok (.istore_n 3, 1) := by decide +kernel
theorem dX7_film_39 : decode cX7_film 39 = .ok (.iload_n 3, 1) := by decide +kernel
theorem dX7_film_40 : decode cX7_film 40 = .ok (.bipush 7, 2) := by decide +kernel
theorem dX7_film_42 : decode cX7_film 42 = .ok (.if_icmp .ge 27, 3) := by decide +kernel
theorem dX7_film_45 : decode cX7_film 45 = .ok (.aload_n 0, 1) := by decide +kernel
theorem dX7_film_46 : decode cX7_film 46 = .ok (.getfield 56, 3) := by decide +kernel
theorem dX7_film_49 : decode cX7_film 49 = .ok (.iload_n 1, 1) := by decide +kernel
theorem dX7_film_50 : decode cX7_film 50 = .ok (.aaload, 1) := by decide +kernel
theorem dX7_film_51 : decode cX7_film 51 = .ok (.iload_n 3, 1) := by decide +kernel
theorem dX7_film_52 : decode cX7_film 52 = .ok (.aload_n 0, 1) := by decide +kernel
theorem dX7_film_53 : decode cX7_film 53 = .ok (.getfield 43, 3) := by decide +kernel
theorem dX7_film_56 : decode cX7_film 56 = .ok (.iload_n 3, 1) := by decide +kernel
theorem dX7_film_57 : decode cX7_film 57 = .ok (.invokevirtual 256, 3) := by decide +kernel
theorem dX7_film_60 : decode cX7_film 60 = .ok (.invokevirtual 259, 3) := by decide +kernel
theorem dX7_film_63 : decode cX7_film 63 = .ok (.iinc 3 1, 3) := by decide +kernel
theorem dX7_film_66 : decode cX7_film 66 = .ok (.goto (-27), 3) := by decide +kernel
theorem dX7_film_69 : decode cX7_film 69 = .ok (.bipush 7, 2) := by decide +kernel
theorem dX7_film_71 : decode cX7_film 71 = .ok (.ireturn, 1) := by decide +kernel
theorem dX7_drawn_0 : decode cX7_drawn 0 = .ok (.iload_n 1, 1) := by decide +kernel
theorem dX7_drawn_1 : decode cX7_drawn 1 = .ok (.iconst 0, 1) := by decide +kernel
theorem dX7_drawn_2 : decode cX7_drawn 2 = .ok (.ldc_w 262, 3) := by decide +kernel
theorem dX7_drawn_5 : decode cX7_drawn 5 = .ok (.invokestatic 86, 3) := by decide +kernel
theorem dX7_drawn_8 : decode cX7_drawn 8 = .ok (.ifCond .eq 11, 3) := by decide +kernel
theorem dX7_drawn_11 : decode cX7_drawn 11 = .ok (.aload_n 0, 1) := by decide +kernel
theorem dX7_drawn_12 : decode cX7_drawn 12 = .ok (.iload_n 1, 1) := by decide +kernel
theorem dX7_drawn_13 : decode cX7_drawn 13 = .ok (.invokevirtual 263, 3) := by decide +kernel
theorem dX7_drawn_16 : decode cX7_drawn 16 = .ok (.goto 5, 3) := by decide +kernel
theorem dX7_drawn_19 : decode cX7_drawn 19 = .ok (.bipush (-2), 2) := by decide +kernel
theorem dX7_drawn_21 : decode cX7_drawn 21 = .ok (.ireturn, 1) := by decide +kernel
theorem dX7_mean_0 : decode cX7_mean 0 = .ok (.iload_n 1, 1) := by decide +kernel
theorem dX7_mean_1 : decode cX7_mean 1 = .ok (.invokestatic 94, 3) := by decide +kernel
theorem dX7_mean_4 : decode cX7_mean 4 = .ok (.ifCond .eq 46, 3) := by decide +kernel
theorem dX7_mean_7 : decode cX7_mean 7 = .ok (.iload_n 2, 1) := by decide +kernel
theorem dX7_mean_8 : decode cX7_mean 8 = .ok (.invokestatic 94, 3) := by decide +kernel
theorem dX7_mean_11 : decode cX7_mean 11 = .ok (.ifCond .eq 39, 3) := by decide +kernel
theorem dX7_mean_14 : decode cX7_mean 14 = .ok (.iload_n 3, 1) := by decide +kernel
theorem dX7_mean_15 : decode cX7_mean 15 = .ok (.iconst 0, 1) := by decide +kernel
theorem dX7_mean_16 : decode cX7_mean 16 = .ok (.ldc_w 262, 3) := by decide +kernel
theorem dX7_mean_19 : decode cX7_mean 19 = .ok (.invokestatic 86, 3) := by decide +kernel
theorem dX7_mean_22 : decode cX7_mean 22 = .ok (.ifCond .eq 28, 3) := by decide +kernel
theorem dX7_mean_25 : decode cX7_mean 25 = .ok (.iload 4, 2) := by decide +kernel
theorem dX7_mean_27 : decode cX7_mean 27 = .ok (.iconst 1, 1) := by decide +kernel
theorem dX7_mean_28 : decode cX7_mean 28 = .ok (.bipush 30, 2) := by decide +kernel
theorem dX7_mean_30 : decode cX7_mean 30 = .ok (.invokestatic 86, 3) := by decide +kernel
theorem dX7_mean_33 : decode cX7_mean 33 = .ok (.ifCond .eq 17, 3) := by decide +kernel
theorem dX7_mean_36 : decode cX7_mean 36 = .ok (.iload 5, 2) := by decide +kernel
theorem dX7_mean_38 : decode cX7_mean 38 = .ok (.iconst 0, 1) := by decide +kernel
theorem dX7_mean_39 : decode cX7_mean 39 = .ok (.iconst 1, 1) := by decide +kernel
theorem dX7_mean_40 : decode cX7_mean 40 = .ok (.invokestatic 86, 3) := by decide +kernel
theorem dX7_mean_43 : decode cX7_mean 43 = .ok (.ifCond .eq 7, 3) := by decide +kernel
theorem dX7_mean_46 : decode cX7_mean 46 = .ok (.iconst 1, 1) := by decide +kernel
theorem dX7_mean_47 : decode cX7_mean 47 = .ok (.goto 4, 3) := by decide +kernel
theorem dX7_mean_50 : decode cX7_mean 50 = .ok (.iconst 0, 1) := by decide +kernel
theorem dX7_mean_51 : decode cX7_mean 51 = .ok (.istore 6, 2) := by decide +kernel
theorem dX7_mean_53 : decode cX7_mean 53 = .ok (.iload 6, 2) := by decide +kernel
theorem dX7_mean_55 : decode cX7_mean 55 = .ok (.ifCond .ne 7, 3) := by decide +kernel
theorem dX7_mean_58 : decode cX7_mean 58 = .ok (.ldc2_w 214, 3) := by decide +kernel
theorem dX7_mean_61 : decode cX7_mean 61 = .ok (.lreturn, 1) := by decide +kernel
theorem dX7_mean_62 : decode cX7_mean 62 = .ok (.iconst 0, 1) := by decide +kernel
theorem dX7_mean_63 : decode cX7_mean 63 = .ok (.istore 7, 2) := by decide +kernel
theorem dX7_mean_65 : decode cX7_mean 65 = .ok (.iconst 0, 1) := by decide +kernel
theorem dX7_mean_66 : decode cX7_mean 66 = .ok (.istore 8, 2) := by decide +kernel
theorem dX7_mean_68 : decode cX7_mean 68 = .ok (.iload 8, 2) := by decide +kernel
theorem dX7_mean_70 : decode cX7_mean 70 = .ok (.iload 4, 2) := by decide +kernel
theorem dX7_mean_72 : decode cX7_mean 72 = .ok (.if_icmp .ge 28, 3) := by decide +kernel
theorem dX7_mean_75 : decode cX7_mean 75 = .ok (.iload 7, 2) := by decide +kernel
theorem dX7_mean_77 : decode cX7_mean 77 = .ok (.aload_n 0, 1) := by decide +kernel
theorem dX7_mean_78 : decode cX7_mean 78 = .ok (.aload_n 0, 1) := by decide +kernel
theorem dX7_mean_79 : decode cX7_mean 79 = .ok (.iload_n 3, 1) := by decide +kernel
theorem dX7_mean_80 : decode cX7_mean 80 = .ok (.iload 8, 2) := by decide +kernel
theorem dX7_mean_82 : decode cX7_mean 82 = .ok (.iadd, 1) := by decide +kernel
theorem dX7_mean_83 : decode cX7_mean 83 = .ok (.invokevirtual 263, 3) := by decide +kernel
theorem dX7_mean_86 : decode cX7_mean 86 = .ok (.iload_n 1, 1) := by decide +kernel
theorem dX7_mean_87 : decode cX7_mean 87 = .ok (.iload_n 2, 1) := by decide +kernel
theorem dX7_mean_88 : decode cX7_mean 88 = .ok (.invokevirtual 179, 3) := by decide +kernel
theorem dX7_mean_91 : decode cX7_mean 91 = .ok (.iadd, 1) := by decide +kernel
theorem dX7_mean_92 : decode cX7_mean 92 = .ok (.istore 7, 2) := by decide +kernel
theorem dX7_mean_94 : decode cX7_mean 94 = .ok (.iinc 8 1, 3) := by decide +kernel
theorem dX7_mean_97 : decode cX7_mean 97 = .ok (.goto (-29), 3) := by decide +kernel
theorem dX7_mean_100 : decode cX7_mean 100 = .ok (.iload 4, 2) := by decide +kernel
theorem dX7_mean_102 : decode cX7_mean 102 = .ok (.iload 7, 2) := by decide +kernel
theorem dX7_mean_104 : decode cX7_mean 104 = .ok (.invokestatic 266, 3) := by decide +kernel
theorem dX7_mean_107 : decode cX7_mean 107 = .ok (.istore 8, 2) := by decide +kernel
theorem dX7_mean_109 : decode cX7_mean 109 = .ok (.iload 5, 2) := by decide +kernel
theorem dX7_mean_111 : decode cX7_mean 111 = .ok (.ifCond .ne 12, 3) := by decide +kernel
theorem dX7_mean_114 : decode cX7_mean 114 = .ok (.iload 7, 2) := by decide +kernel
theorem dX7_mean_116 : decode cX7_mean 116 = .ok (.iload 8, 2) := by decide +kernel
theorem dX7_mean_118 : decode cX7_mean 118 = .ok (.idiv, 1) := by decide +kernel
theorem dX7_mean_119 : decode cX7_mean 119 = .ok (.i2l, 1) := by decide +kernel
theorem dX7_mean_120 : decode cX7_mean 120 = .ok (.goto 9, 3) := by decide +kernel
theorem dX7_mean_123 : decode cX7_mean 123 = .ok (.iload 4, 2) := by decide +kernel
theorem dX7_mean_125 : decode cX7_mean 125 = .ok (.iload 8, 2) := by decide +kernel
theorem dX7_mean_127 : decode cX7_mean 127 = .ok (.idiv, 1) := by decide +kernel
theorem dX7_mean_128 : decode cX7_mean 128 = .ok (.i2l, 1) := by decide +kernel
theorem dX7_mean_129 : decode cX7_mean 129 = .ok (.lreturn, 1) := by decide +kernel
theorem dX7_image_0 : decode cX7_image 0 = .ok (.aload_n 0, 1) := by decide +kernel
theorem dX7_image_1 : decode cX7_image 1 = .ok (.getfield 50, 3) := by decide +kernel
theorem dX7_image_4 : decode cX7_image 4 = .ok (.iconst 1, 1) := by decide +kernel
theorem dX7_image_5 : decode cX7_image 5 = .ok (.putfield 269, 3) := by decide +kernel
theorem dX7_image_8 : decode cX7_image 8 = .ok (.aload_n 0, 1) := by decide +kernel
theorem dX7_image_9 : decode cX7_image 9 = .ok (.getfield 50, 3) := by decide +kernel
theorem dX7_image_12 : decode cX7_image 12 = .ok (.aload_n 0, 1) := by decide +kernel
theorem dX7_image_13 : decode cX7_image 13 = .ok (.getfield 60, 3) := by decide +kernel
theorem dX7_image_16 : decode cX7_image 16 = .ok (.putfield 273, 3) := by decide +kernel
theorem dX7_image_19 : decode cX7_image 19 = .ok (.aload_n 0, 1) := by decide +kernel
theorem dX7_image_20 : decode cX7_image 20 = .ok (.getfield 50, 3) := by decide +kernel
theorem dX7_image_23 : decode cX7_image 23 = .ok (.aload_n 0, 1) := by decide +kernel
theorem dX7_image_24 : decode cX7_image 24 = .ok (.getfield 64, 3) := by decide +kernel
theorem dX7_image_27 : decode cX7_image 27 = .ok (.putfield 274, 3) := by decide +kernel
theorem dX7_image_30 : decode cX7_image 30 = .ok (.aload_n 0, 1) := by decide +kernel
theorem dX7_image_31 : decode cX7_image 31 = .ok (.getfield 50, 3) := by decide +kernel
theorem dX7_image_34 : decode cX7_image 34 = .ok (.aload_n 0, 1) := by decide +kernel
theorem dX7_image_35 : decode cX7_image 35 = .ok (.getfield 70, 3) := by decide +kernel
theorem dX7_image_38 : decode cX7_image 38 = .ok (.putfield 275, 3) := by decide +kernel
theorem dX7_image_41 : decode cX7_image 41 = .ok (.aload_n 0, 1) := by decide +kernel
theorem dX7_image_42 : decode cX7_image 42 = .ok (.getfield 11, 3) := by decide +kernel
theorem dX7_image_45 : decode cX7_image 45 = .ok (.aload_n 0, 1) := by decide +kernel
theorem dX7_image_46 : decode cX7_image 46 = .ok (.getfield 50, 3) := by decide +kernel
theorem dX7_image_49 : decode cX7_image 49 = .ok (.getfield 276, 3) := by decide +kernel
theorem dX7_image_52 : decode cX7_image 52 = .ok (.invokestatic 277, 3) := by decide +kernel
theorem dX7_image_55 : decode cX7_image 55 = .ok (.iconst 0, 1) := by decide +kernel
theorem dX7_image_56 : decode cX7_image 56 = .ok (.istore_n 1, 1) := by decide +kernel
theorem dX7_image_57 : decode cX7_image 57 = .ok (.iload_n 1, 1) := by decide +kernel
theorem dX7_image_58 : decode cX7_image 58 = .ok (.aload_n 0, 1) := by decide +kernel
theorem dX7_image_59 : decode cX7_image 59 = .ok (.getfield 60, 3) := by decide +kernel
theorem dX7_image_62 : decode cX7_image 62 = .ok (.if_icmp .ge 27, 3) := by decide +kernel
theorem dX7_image_65 : decode cX7_image 65 = .ok (.aload_n 0, 1) := by decide +kernel
theorem dX7_image_66 : decode cX7_image 66 = .ok (.getfield 50, 3) := by decide +kernel
theorem dX7_image_69 : decode cX7_image 69 = .ok (.getfield 281, 3) := by decide +kernel
theorem dX7_image_72 : decode cX7_image 72 = .ok (.iload_n 1, 1) := by decide +kernel
theorem dX7_image_73 : decode cX7_image 73 = .ok (.aload_n 0, 1) := by decide +kernel
theorem dX7_image_74 : decode cX7_image 74 = .ok (.getfield 16, 3) := by decide +kernel
theorem dX7_image_77 : decode cX7_image 77 = .ok (.iload_n 1, 1) := by decide +kernel
theorem dX7_image_78 : decode cX7_image 78 = .ok (.aaload, 1) := by decide +kernel
theorem dX7_image_79 : decode cX7_image 79 = .ok (.getfield 148, 3) := by decide +kernel
theorem dX7_image_82 : decode cX7_image 82 = .ok (.iastore, 1) := by decide +kernel
theorem dX7_image_83 : decode cX7_image 83 = .ok (.iinc 1 1, 3) := by decide +kernel
theorem dX7_image_86 : decode cX7_image 86 = .ok (.goto (-29), 3) := by decide +kernel
theorem dX7_image_89 : decode cX7_image 89 = .ok (.aload_n 0, 1) := by decide +kernel
theorem dX7_image_90 : decode cX7_image 90 = .ok (.getfield 60, 3) := by decide +kernel
theorem dX7_image_93 : decode cX7_image 93 = .ok (.ireturn, 1) := by decide +kernel
theorem dX7_back_0 : decode cX7_back 0 = .ok (.aload_n 0, 1) := by decide +kernel
theorem dX7_back_1 : decode cX7_back 1 = .ok (.getfield 50, 3) := by decide +kernel
theorem dX7_back_4 : decode cX7_back 4 = .ok (.getfield 269, 3) := by decide +kernel
theorem dX7_back_7 : decode cX7_back 7 = .ok (.ifCond .ne 6, 3) := by decide +kernel
theorem dX7_back_10 : decode cX7_back 10 = .ok (.bipush (-3), 2) := by decide +kernel
theorem dX7_back_12 : decode cX7_back 12 = .ok (.ireturn, 1) := by decide +kernel
theorem dX7_back_13 : decode cX7_back 13 = .ok (.aload_n 0, 1) := by decide +kernel
theorem dX7_back_14 : decode cX7_back 14 = .ok (.aload_n 0, 1) := by decide +kernel
theorem dX7_back_15 : decode cX7_back 15 = .ok (.getfield 50, 3) := by decide +kernel
theorem dX7_back_18 : decode cX7_back 18 = .ok (.getfield 273, 3) := by decide +kernel
theorem dX7_back_21 : decode cX7_back 21 = .ok (.putfield 60, 3) := by decide +kernel
theorem dX7_back_24 : decode cX7_back 24 = .ok (.aload_n 0, 1) := by decide +kernel
theorem dX7_back_25 : decode cX7_back 25 = .ok (.aload_n 0, 1) := by decide +kernel
theorem dX7_back_26 : decode cX7_back 26 = .ok (.getfield 50, 3) := by decide +kernel
theorem dX7_back_29 : decode cX7_back 29 = .ok (.getfield 274, 3) := by decide +kernel
theorem dX7_back_32 : decode cX7_back 32 = .ok (.putfield 64, 3) := by decide +kernel
theorem dX7_back_35 : decode cX7_back 35 = .ok (.aload_n 0, 1) := by decide +kernel
theorem dX7_back_36 : decode cX7_back 36 = .ok (.getfield 50, 3) := by decide +kernel
theorem dX7_back_39 : decode cX7_back 39 = .ok (.getfield 276, 3) := by decide +kernel
theorem dX7_back_42 : decode cX7_back 42 = .ok (.aload_n 0, 1) := by decide +kernel
theorem dX7_back_43 : decode cX7_back 43 = .ok (.getfield 11, 3) := by decide +kernel
theorem dX7_back_46 : decode cX7_back 46 = .ok (.invokestatic 277, 3) := by decide +kernel
theorem dX7_back_49 : decode cX7_back 49 = .ok (.iconst 0, 1) := by decide +kernel
theorem dX7_back_50 : decode cX7_back 50 = .ok (.istore_n 1, 1) := by decide +kernel
theorem dX7_back_51 : decode cX7_back 51 = .ok (.iload_n 1, 1) := by decide +kernel
theorem dX7_back_52 : decode cX7_back 52 = .ok (.aload_n 0, 1) := by decide +kernel
theorem dX7_back_53 : decode cX7_back 53 = .ok (.getfield 60, 3) := by decide +kernel
theorem dX7_back_56 : decode cX7_back 56 = .ok (.if_icmp .ge 27, 3) := by decide +kernel
theorem dX7_back_59 : decode cX7_back 59 = .ok (.aload_n 0, 1) := by decide +kernel
theorem dX7_back_60 : decode cX7_back 60 = .ok (.getfield 16, 3) := by decide +kernel
theorem dX7_back_63 : decode cX7_back 63 = .ok (.iload_n 1, 1) := by decide +kernel
theorem dX7_back_64 : decode cX7_back 64 = .ok (.aaload, 1) := by decide +kernel
theorem dX7_back_65 : decode cX7_back 65 = .ok (.aload_n 0, 1) := by decide +kernel
theorem dX7_back_66 : decode cX7_back 66 = .ok (.getfield 50, 3) := by decide +kernel
theorem dX7_back_69 : decode cX7_back 69 = .ok (.getfield 281, 3) := by decide +kernel
theorem dX7_back_72 : decode cX7_back 72 = .ok (.iload_n 1, 1) := by decide +kernel
theorem dX7_back_73 : decode cX7_back 73 = .ok (.iaload, 1) := by decide +kernel
theorem dX7_back_74 : decode cX7_back 74 = .ok (.putfield 148, 3) := by decide +kernel
theorem dX7_back_77 : decode cX7_back 77 = .ok (.iinc 1 1, 3) := by decide +kernel
theorem dX7_back_80 : decode cX7_back 80 = .ok (.goto (-29), 3) := by decide +kernel
theorem dX7_back_83 : decode cX7_back 83 = .ok (.aload_n 0, 1) := by decide +kernel
theorem dX7_back_84 : decode cX7_back 84 = .ok (.aload_n 0, 1) := by decide +kernel
theorem dX7_back_85 : decode cX7_back 85 = .ok (.getfield 50, 3) := by decide +kernel
theorem dX7_back_88 : decode cX7_back 88 = .ok (.getfield 275, 3) := by decide +kernel
theorem dX7_back_91 : decode cX7_back 91 = .ok (.invokevirtual 125, 3) := by decide +kernel
theorem dX7_back_94 : decode cX7_back 94 = .ok (.aload_n 0, 1) := by decide +kernel
theorem dX7_back_95 : decode cX7_back 95 = .ok (.getfield 60, 3) := by decide +kernel
theorem dX7_back_98 : decode cX7_back 98 = .ok (.ireturn, 1) := by decide +kernel
theorem dX7_sheet_0 : decode cX7_sheet 0 = .ok (.iload_n 1, 1) := by decide +kernel
theorem dX7_sheet_1 : decode cX7_sheet 1 = .ok (.invokestatic 229, 3) := by decide +kernel
theorem dX7_sheet_4 : decode cX7_sheet 4 = .ok (.ifCond .eq 12, 3) := by decide +kernel
theorem dX7_sheet_7 : decode cX7_sheet 7 = .ok (.iload_n 2, 1) := by decide +kernel
theorem dX7_sheet_8 : decode cX7_sheet 8 = .ok (.iconst (-1), 1) := by decide +kernel
theorem dX7_sheet_9 : decode cX7_sheet 9 = .ok (.iconst 2, 1) := by decide +kernel
theorem dX7_sheet_10 : decode cX7_sheet 10 = .ok (.invokestatic 86, 3) := by decide +kernel
theorem dX7_sheet_13 : decode cX7_sheet 13 = .ok (.ifCond .ne 6, 3) := by decide +kernel
theorem dX7_sheet_16 : decode cX7_sheet 16 = .ok (.bipush (-2), 2) := by decide +kernel
theorem dX7_sheet_18 : decode cX7_sheet 18 = .ok (.ireturn, 1) := by decide +kernel
theorem dX7_sheet_19 : decode cX7_sheet 19 = .ok (.iload_n 2, 1) := by decide +kernel
theorem dX7_sheet_20 : decode cX7_sheet 20 = .ok (.iconst (-1), 1) := by decide +kernel
theorem dX7_sheet_21 : decode cX7_sheet 21 = .ok (.if_icmp .ne 16, 3) := by decide +kernel
theorem dX7_sheet_24 : decode cX7_sheet 24 = .ok (.aload_n 0, 1) := by decide +kernel
theorem dX7_sheet_25 : decode cX7_sheet 25 = .ok (.getfield 56, 3) := by decide +kernel
theorem dX7_sheet_28 : decode cX7_sheet 28 = .ok (.iload_n 1, 1) := by decide +kernel
theorem dX7_sheet_29 : decode cX7_sheet 29 = .ok (.aaload, 1) := by decide +kernel
theorem dX7_sheet_30 : decode cX7_sheet 30 = .ok (.iload_n 2, 1) := by decide +kernel
theorem dX7_sheet_31 : decode cX7_sheet 31 = .ok (.iconst 0, 1) := by decide +kernel
theorem dX7_sheet_32 : decode cX7_sheet 32 = .ok (.invokevirtual 253, 3) := by decide +kernel
theorem dX7_sheet_35 : decode cX7_sheet 35 = .ok (.iconst 1, 1) := by decide +kernel
theorem dX7_sheet_36 : decode cX7_sheet 36 = .ok (.ireturn, 1) := by decide +kernel
theorem dX7_sheet_37 : decode cX7_sheet 37 = .ok (.iload_n 3, 1) := by decide +kernel
theorem dX7_sheet_38 : decode cX7_sheet 38 = .ok (.bipush 40, 2) := by decide +kernel
theorem dX7_sheet_40 : decode cX7_sheet 40 = .ok (.if_icmp .le 6, 3) := by decide +kernel
theorem dX7_sheet_43 : decode cX7_sheet 43 = .ok (.bipush (-2), 2) := by decide +kernel
theorem dX7_sheet_45 : decode cX7_sheet 45 = .ok (.ireturn, 1) := by decide +kernel
theorem dX7_sheet_46 : decode cX7_sheet 46 = .ok (.iload_n 3, 1) := by decide +kernel
theorem dX7_sheet_47 : decode cX7_sheet 47 = .ok (.ifCond .ge 6, 3) := by decide +kernel
theorem dX7_sheet_50 : decode cX7_sheet 50 = .ok (.bipush (-14), 2) := by decide +kernel
theorem dX7_sheet_52 : decode cX7_sheet 52 = .ok (.ireturn, 1) := by decide +kernel
theorem dX7_sheet_53 : decode cX7_sheet 53 = .ok (.aload_n 0, 1) := by decide +kernel
theorem dX7_sheet_54 : decode cX7_sheet 54 = .ok (.getfield 56, 3) := by decide +kernel
theorem dX7_sheet_57 : decode cX7_sheet 57 = .ok (.iload_n 1, 1) := by decide +kernel
theorem dX7_sheet_58 : decode cX7_sheet 58 = .ok (.aaload, 1) := by decide +kernel
theorem dX7_sheet_59 : decode cX7_sheet 59 = .ok (.iload_n 2, 1) := by decide +kernel
theorem dX7_sheet_60 : decode cX7_sheet 60 = .ok (.iload_n 3, 1) := by decide +kernel
theorem dX7_sheet_61 : decode cX7_sheet 61 = .ok (.invokevirtual 253, 3) := by decide +kernel
theorem dX7_sheet_64 : decode cX7_sheet 64 = .ok (.iconst 1, 1) := by decide +kernel
theorem dX7_sheet_65 : decode cX7_sheet 65 = .ok (.ireturn, 1) := by decide +kernel
theorem dX7_cell_0 : decode cX7_cell 0 = .ok (.iload_n 1, 1) := by decide +kernel
theorem dX7_cell_1 : decode cX7_cell 1 = .ok (.invokestatic 229, 3) := by decide +kernel
theorem dX7_cell_4 : decode cX7_cell 4 = .ok (.ifCond .ne 6, 3) := by decide +kernel
theorem dX7_cell_7 : decode cX7_cell 7 = .ok (.bipush (-2), 2) := by decide +kernel
theorem dX7_cell_9 : decode cX7_cell 9 = .ok (.ireturn, 1) := by decide +kernel
theorem dX7_cell_10 : decode cX7_cell 10 = .ok (.aload_n 0, 1) := by decide +kernel
theorem dX7_cell_11 : decode cX7_cell 11 = .ok (.getfield 56, 3) := by decide +kernel
theorem dX7_cell_14 : decode cX7_cell 14 = .ok (.iload_n 1, 1) := by decide +kernel
theorem dX7_cell_15 : decode cX7_cell 15 = .ok (.aaload, 1) := by decide +kernel
theorem dX7_cell_16 : decode cX7_cell 16 = .ok (.invokevirtual 232, 3) := by decide +kernel
theorem dX7_cell_19 : decode cX7_cell 19 = .ok (.ifCond .eq 6, 3) := by decide +kernel
theorem dX7_cell_22 : decode cX7_cell 22 = .ok (.bipush (-11), 2) := by decide +kernel
theorem dX7_cell_24 : decode cX7_cell 24 = .ok (.ireturn, 1) := by decide +kernel
theorem dX7_cell_25 : decode cX7_cell 25 = .ok (.aload_n 0, 1) := by decide +kernel
theorem dX7_cell_26 : decode cX7_cell 26 = .ok (.getfield 56, 3) := by decide +kernel
theorem dX7_cell_29 : decode cX7_cell 29 = .ok (.iload_n 1, 1) := by decide +kernel
theorem dX7_cell_30 : decode cX7_cell 30 = .ok (.aaload, 1) := by decide +kernel
theorem dX7_cell_31 : decode cX7_cell 31 = .ok (.iload_n 2, 1) := by decide +kernel
theorem dX7_cell_32 : decode cX7_cell 32 = .ok (.iconst 1, 1) := by decide +kernel
theorem dX7_cell_33 : decode cX7_cell 33 = .ok (.invokevirtual 283, 3) := by decide +kernel
theorem dX7_cell_36 : decode cX7_cell 36 = .ok (.ifCond .ne 6, 3) := by decide +kernel
theorem dX7_cell_39 : decode cX7_cell 39 = .ok (.bipush (-12), 2) := by decide +kernel
theorem dX7_cell_41 : decode cX7_cell 41 = .ok (.ireturn, 1) := by decide +kernel
theorem dX7_cell_42 : decode cX7_cell 42 = .ok (.aload_n 0, 1) := by decide +kernel
theorem dX7_cell_43 : decode cX7_cell 43 = .ok (.getfield 56, 3) := by decide +kernel
theorem dX7_cell_46 : decode cX7_cell 46 = .ok (.iload_n 1, 1) := by decide +kernel
theorem dX7_cell_47 : decode cX7_cell 47 = .ok (.aaload, 1) := by decide +kernel
theorem dX7_cell_48 : decode cX7_cell 48 = .ok (.iload_n 2, 1) := by decide +kernel
theorem dX7_cell_49 : decode cX7_cell 49 = .ok (.iload_n 3, 1) := by decide +kernel
theorem dX7_cell_50 : decode cX7_cell 50 = .ok (.invokevirtual 259, 3) := by decide +kernel
theorem dX7_cell_53 : decode cX7_cell 53 = .ok (.iconst 1, 1) := by decide +kernel
theorem dX7_cell_54 : decode cX7_cell 54 = .ok (.ireturn, 1) := by decide +kernel
theorem dX7_copy_0 : decode cX7_copy 0 = .ok (.iload_n 1, 1) := by decide +kernel
theorem dX7_copy_1 : decode cX7_copy 1 = .ok (.invokestatic 229, 3) := by decide +kernel
theorem dX7_copy_4 : decode cX7_copy 4 = .ok (.ifCond .eq 10, 3) := by decide +kernel
theorem dX7_copy_7 : decode cX7_copy 7 = .ok (.iload_n 3, 1) := by decide +kernel
theorem dX7_copy_8 : decode cX7_copy 8 = .ok (.invokestatic 229, 3) := by decide +kernel
theorem dX7_copy_11 : decode cX7_copy 11 = .ok (.ifCond .ne 6, 3) := by decide +kernel
theorem dX7_copy_14 : decode cX7_copy 14 = .ok (.bipush (-2), 2) := by decide +kernel
theorem dX7_copy_16 : decode cX7_copy 16 = .ok (.ireturn, 1) := by decide +kernel
theorem dX7_copy_17 : decode cX7_copy 17 = .ok (.aload_n 0, 1) := by decide +kernel
theorem dX7_copy_18 : decode cX7_copy 18 = .ok (.getfield 56, 3) := by decide +kernel
theorem dX7_copy_21 : decode cX7_copy 21 = .ok (.iload_n 1, 1) := by decide +kernel
theorem dX7_copy_22 : decode cX7_copy 22 = .ok (.aaload, 1) := by decide +kernel
theorem dX7_copy_23 : decode cX7_copy 23 = .ok (.astore 6, 2) := by decide +kernel
theorem dX7_copy_25 : decode cX7_copy 25 = .ok (.aload_n 0, 1) := by decide +kernel
theorem dX7_copy_26 : decode cX7_copy 26 = .ok (.getfield 56, 3) := by decide +kernel
theorem dX7_copy_29 : decode cX7_copy 29 = .ok (.iload_n 3, 1) := by decide +kernel
theorem dX7_copy_30 : decode cX7_copy 30 = .ok (.aaload, 1) := by decide +kernel
theorem dX7_copy_31 : decode cX7_copy 31 = .ok (.astore 7, 2) := by decide +kernel
theorem dX7_copy_33 : decode cX7_copy 33 = .ok (.aload 6, 2) := by decide +kernel
theorem dX7_copy_35 : decode cX7_copy 35 = .ok (.invokevirtual 232, 3) := by decide +kernel
theorem dX7_copy_38 : decode cX7_copy 38 = .ok (.ifCond .ne 11, 3) := by decide +kernel
theorem dX7_copy_41 : decode cX7_copy 41 = .ok (.aload 7, 2) := by decide +kernel
theorem dX7_copy_43 : decode cX7_copy 43 = .ok (.invokevirtual 232, 3) := by decide +kernel
theorem dX7_copy_46 : decode cX7_copy 46 = .ok (.ifCond .eq 6, 3) := by decide +kernel
theorem dX7_copy_49 : decode cX7_copy 49 = .ok (.bipush (-11), 2) := by decide +kernel
theorem dX7_copy_51 : decode cX7_copy 51 = .ok (.ireturn, 1) := by decide +kernel
theorem dX7_copy_52 : decode cX7_copy 52 = .ok (.aload 6, 2) := by decide +kernel
theorem dX7_copy_54 : decode cX7_copy 54 = .ok (.getfield 286, 3) := by decide +kernel
theorem dX7_copy_57 : decode cX7_copy 57 = .ok (.aload 7, 2) := by decide +kernel
theorem dX7_copy_59 : decode cX7_copy 59 = .ok (.getfield 286, 3) := by decide +kernel
theorem dX7_copy_62 : decode cX7_copy 62 = .ok (.if_icmp .eq 6, 3) := by decide +kernel
theorem dX7_copy_65 : decode cX7_copy 65 = .ok (.bipush (-13), 2) := by decide +kernel
theorem dX7_copy_67 : decode cX7_copy 67 = .ok (.ireturn, 1) := by decide +kernel
theorem dX7_copy_68 : decode cX7_copy 68 = .ok (.aload 6, 2) := by decide +kernel
theorem dX7_copy_70 : decode cX7_copy 70 = .ok (.iload_n 2, 1) := by decide +kernel
theorem dX7_copy_71 : decode cX7_copy 71 = .ok (.iload 5, 2) := by decide +kernel
theorem dX7_copy_73 : decode cX7_copy 73 = .ok (.invokevirtual 283, 3) := by decide +kernel
theorem dX7_copy_76 : decode cX7_copy 76 = .ok (.ifCond .eq 15, 3) := by decide +kernel
theorem dX7_copy_79 : decode cX7_copy 79 = .ok (.aload 7, 2) := by decide +kernel
theorem dX7_copy_81 : decode cX7_copy 81 = .ok (.iload 4, 2) := by decide +kernel
theorem dX7_copy_83 : decode cX7_copy 83 = .ok (.iload 5, 2) := by decide +kernel
theorem dX7_copy_85 : decode cX7_copy 85 = .ok (.invokevirtual 283, 3) := by decide +kernel
theorem dX7_copy_88 : decode cX7_copy 88 = .ok (.ifCond .ne 6, 3) := by decide +kernel
theorem dX7_copy_91 : decode cX7_copy 91 = .ok (.bipush (-12), 2) := by decide +kernel
theorem dX7_copy_93 : decode cX7_copy 93 = .ok (.ireturn, 1) := by decide +kernel
theorem dX7_copy_94 : decode cX7_copy 94 = .ok (.aload 6, 2) := by decide +kernel
theorem dX7_copy_96 : decode cX7_copy 96 = .ok (.getfield 289, 3) := by decide +kernel
theorem dX7_copy_99 : decode cX7_copy 99 = .ok (.iload_n 2, 1) := by decide +kernel
theorem dX7_copy_100 : decode cX7_copy 100 = .ok (.aload 7, 2) := by decide +kernel
theorem dX7_copy_102 : decode cX7_copy 102 = .ok (.getfield 289, 3) := by decide +kernel
theorem dX7_copy_105 : decode cX7_copy 105 = .ok (.iload 4, 2) := by decide +kernel
theorem dX7_copy_107 : decode cX7_copy 107 = .ok (.iload 5, 2) := by decide +kernel
theorem dX7_copy_109 : decode cX7_copy 109 = .ok (.invokestatic 292, 3) := by decide +kernel
theorem dX7_copy_112 : decode cX7_copy 112 = .ok (.iload 5, 2) := by decide +kernel
theorem dX7_copy_114 : decode cX7_copy 114 = .ok (.ireturn, 1) := by decide +kernel
theorem dX7_horsesBy_0 : decode cX7_horsesBy 0 = .ok (.iload_n 1, 1) := by decide +kernel
theorem dX7_horsesBy_1 : decode cX7_horsesBy 1 = .ok (.invokestatic 229, 3) := by decide +kernel
theorem dX7_horsesBy_4 : decode cX7_horsesBy 4 = .ok (.ifCond .eq 23, 3) := by decide +kernel
theorem dX7_horsesBy_7 : decode cX7_horsesBy 7 = .ok (.iload_n 2, 1) := by decide +kernel
theorem dX7_horsesBy_8 : decode cX7_horsesBy 8 = .ok (.iconst 0, 1) := by decide +kernel
theorem dX7_horsesBy_9 : decode cX7_horsesBy 9 = .ok (.iconst 2, 1) := by decide +kernel
theorem dX7_horsesBy_10 : decode cX7_horsesBy 10 = .ok (.invokestatic 86, 3) := by decide +kernel
theorem dX7_horsesBy_13 : decode cX7_horsesBy 13 = .ok (.ifCond .eq 14, 3) := by decide +kernel
theorem dX7_horsesBy_16 : decode cX7_horsesBy 16 = .ok (.iload 4, 2) := by decide +kernel
theorem dX7_horsesBy_18 : decode cX7_horsesBy 18 = .ok (.iconst 0, 1) := by decide +kernel
theorem dX7_horsesBy_19 : decode cX7_horsesBy 19 = .ok (.bipush 7, 2) := by decide +kernel
theorem dX7_horsesBy_21 : decode cX7_horsesBy 21 = .ok (.invokestatic 86, 3) := by decide +kernel
theorem dX7_horsesBy_24 : decode cX7_horsesBy 24 = .ok (.ifCond .ne 6, 3) := by decide +kernel
theorem dX7_horsesBy_27 : decode cX7_horsesBy 27 = .ok (.bipush (-2), 2) := by decide +kernel
theorem dX7_horsesBy_29 : decode cX7_horsesBy 29 = .ok (.ireturn, 1) := by decide +kernel
theorem dX7_horsesBy_30 : decode cX7_horsesBy 30 = .ok (.aload_n 0, 1) := by decide +kernel
theorem dX7_horsesBy_31 : decode cX7_horsesBy 31 = .ok (.getfield 56, 3) := by decide +kernel
theorem dX7_horsesBy_34 : decode cX7_horsesBy 34 = .ok (.iload_n 1, 1) := by decide +kernel
theorem dX7_horsesBy_35 : decode cX7_horsesBy 35 = .ok (.aaload, 1) := by decide +kernel
theorem dX7_horsesBy_36 : decode cX7_horsesBy 36 = .ok (.astore 5, 2) := by decide +kernel
theorem dX7_horsesBy_38 : decode cX7_horsesBy 38 = .ok (.aload 5, 2) := by decide +kernel
theorem dX7_horsesBy_40 : decode cX7_horsesBy 40 = .ok (.invokevirtual 232, 3) := by decide +kernel
theorem dX7_horsesBy_43 : decode cX7_horsesBy 43 = .ok (.ifCond .eq 6, 3) := by decide +kernel
theorem dX7_horsesBy_46 : decode cX7_horsesBy 46 = .ok (.bipush (-11), 2) := by decide +kernel
theorem dX7_horsesBy_48 : decode cX7_horsesBy 48 = .ok (.ireturn, 1) := by decide +kernel
theorem dX7_horsesBy_49 : decode cX7_horsesBy 49 = .ok (.aload 5, 2) := by decide +kernel
theorem dX7_horsesBy_51 : decode cX7_horsesBy 51 = .ok (.getfield 286, 3) := by decide +kernel
theorem dX7_horsesBy_54 : decode cX7_horsesBy 54 = .ok (.iload_n 2, 1) := by decide +kernel
theorem dX7_horsesBy_55 : decode cX7_horsesBy 55 = .ok (.if_icmp .eq 6, 3) := by decide +kernel
theorem dX7_horsesBy_58 : decode cX7_horsesBy 58 = .ok (.bipush (-13), 2) := by decide +kernel
theorem dX7_horsesBy_60 : decode cX7_horsesBy 60 = .ok (.ireturn, 1) := by decide +kernel
theorem dX7_horsesBy_61 : decode cX7_horsesBy 61 = .ok (.iconst 0, 1) := by decide +kernel
theorem dX7_horsesBy_62 : decode cX7_horsesBy 62 = .ok (.istore 6, 2) := by decide +kernel
theorem dX7_horsesBy_64 : decode cX7_horsesBy 64 = .ok (.iload_n 3, 1) := by decide +kernel
theorem dX7_horsesBy_65 : decode cX7_horsesBy 65 = .ok (.istore 7, 2) := by decide +kernel
theorem dX7_horsesBy_67 : decode cX7_horsesBy 67 = .ok (.iconst 0, 1) := by decide +kernel
theorem dX7_horsesBy_68 : decode cX7_horsesBy 68 = .ok (.istore 8, 2) := by decide +kernel
theorem dX7_horsesBy_70 : decode cX7_horsesBy 70 = .ok (.iload 8, 2) := by decide +kernel
theorem dX7_horsesBy_72 : decode cX7_horsesBy 72 = .ok (.iload 4, 2) := by decide +kernel
theorem dX7_horsesBy_74 : decode cX7_horsesBy 74 = .ok (.if_icmp .ge 81, 3) := by decide +kernel
theorem dX7_horsesBy_77 : decode cX7_horsesBy 77 = .ok (.aload 5, 2) := by decide +kernel
theorem dX7_horsesBy_79 : decode cX7_horsesBy 79 = .ok (.iload 7, 2) := by decide +kernel
theorem dX7_horsesBy_81 : decode cX7_horsesBy 81 = .ok (.iconst 4, 1) := by decide +kernel
theorem dX7_horsesBy_82 : decode cX7_horsesBy 82 = .ok (.invokevirtual 283, 3) := by decide +kernel
theorem dX7_horsesBy_85 : decode cX7_horsesBy 85 = .ok (.ifCond .ne 6, 3) := by decide +kernel
theorem dX7_horsesBy_88 : decode cX7_horsesBy 88 = .ok (.bipush (-12), 2) := by decide +kernel
theorem dX7_horsesBy_90 : decode cX7_horsesBy 90 = .ok (.ireturn, 1) := by decide +kernel
theorem dX7_horsesBy_91 : decode cX7_horsesBy 91 = .ok (.aload_n 0, 1) := by decide +kernel
theorem dX7_horsesBy_92 : decode cX7_horsesBy 92 = .ok (.aload 5, 2) := by decide +kernel
theorem dX7_horsesBy_94 : decode cX7_horsesBy 94 = .ok (.iload 7, 2) := by decide +kernel
theorem dX7_horsesBy_96 : decode cX7_horsesBy 96 = .ok (.invokevirtual 237, 3) := by decide +kernel
theorem dX7_horsesBy_99 : decode cX7_horsesBy 99 = .ok (.aload 5, 2) := by decide +kernel
theorem dX7_horsesBy_101 : decode cX7_horsesBy 101 = .ok (.iload 7, 2) := by decide +kernel
theorem dX7_horsesBy_103 : decode cX7_horsesBy 103 = .ok (.iconst 1, 1) := by decide +kernel
theorem dX7_horsesBy_104 : decode cX7_horsesBy 104 = .ok (.iadd, 1) := by decide +kernel
theorem dX7_horsesBy_105 : decode cX7_horsesBy 105 = .ok (.invokevirtual 237, 3) := by decide +kernel
theorem dX7_horsesBy_108 : decode cX7_horsesBy 108 = .ok (.aload 5, 2) := by decide +kernel
theorem dX7_horsesBy_110 : decode cX7_horsesBy 110 = .ok (.iload 7, 2) := by decide +kernel
theorem dX7_horsesBy_112 : decode cX7_horsesBy 112 = .ok (.iconst 2, 1) := by decide +kernel
theorem dX7_horsesBy_113 : decode cX7_horsesBy 113 = .ok (.iadd, 1) := by decide +kernel
theorem dX7_horsesBy_114 : decode cX7_horsesBy 114 = .ok (.invokevirtual 237, 3) := by decide +kernel
theorem dX7_horsesBy_117 : decode cX7_horsesBy 117 = .ok (.aload 5, 2) := by decide +kernel
theorem dX7_horsesBy_119 : decode cX7_horsesBy 119 = .ok (.iload 7, 2) := by decide +kernel
theorem dX7_horsesBy_121 : decode cX7_horsesBy 121 = .ok (.iconst 3, 1) := by decide +kernel
theorem dX7_horsesBy_122 : decode cX7_horsesBy 122 = .ok (.iadd, 1) := by decide +kernel
theorem dX7_horsesBy_123 : decode cX7_horsesBy 123 = .ok (.invokevirtual 237, 3) := by decide +kernel
theorem dX7_horsesBy_126 : decode cX7_horsesBy 126 = .ok (.invokevirtual 298, 3) := by decide +kernel
theorem dX7_horsesBy_129 : decode cX7_horsesBy 129 = .ok (.istore 9, 2) := by decide +kernel
theorem dX7_horsesBy_131 : decode cX7_horsesBy 131 = .ok (.iload 6, 2) := by decide +kernel
theorem dX7_horsesBy_133 : decode cX7_horsesBy 133 = .ok (.iload 9, 2) := by decide +kernel
theorem dX7_horsesBy_135 : decode cX7_horsesBy 135 = .ok (.ifCond .lt 7, 3) := by decide +kernel
theorem dX7_horsesBy_138 : decode cX7_horsesBy 138 = .ok (.iconst 1, 1) := by decide +kernel
theorem dX7_horsesBy_139 : decode cX7_horsesBy 139 = .ok (.goto 4, 3) := by decide +kernel
theorem dX7_horsesBy_142 : decode cX7_horsesBy 142 = .ok (.iconst 0, 1) := by decide +kernel
theorem dX7_horsesBy_143 : decode cX7_horsesBy 143 = .ok (.iadd, 1) := by decide +kernel
theorem dX7_horsesBy_144 : decode cX7_horsesBy 144 = .ok (.istore 6, 2) := by decide +kernel
theorem dX7_horsesBy_146 : decode cX7_horsesBy 146 = .ok (.iinc 7 4, 3) := by decide +kernel
theorem dX7_horsesBy_149 : decode cX7_horsesBy 149 = .ok (.iinc 8 1, 3) := by decide +kernel
theorem dX7_horsesBy_152 : decode cX7_horsesBy 152 = .ok (.goto (-82), 3) := by decide +kernel
theorem dX7_horsesBy_155 : decode cX7_horsesBy 155 = .ok (.iload 6, 2) := by decide +kernel
theorem dX7_horsesBy_157 : decode cX7_horsesBy 157 = .ok (.ireturn, 1) := by decide +kernel
theorem dX7_taken_0 : decode cX7_taken 0 = .ok (.iload_n 2, 1) := by decide +kernel
theorem dX7_taken_1 : decode cX7_taken 1 = .ok (.iconst 0, 1) := by decide +kernel
theorem dX7_taken_2 : decode cX7_taken 2 = .ok (.bipush 6, 2) := by decide +kernel
theorem dX7_taken_4 : decode cX7_taken 4 = .ok (.invokestatic 86, 3) := by decide +kernel
theorem dX7_taken_7 : decode cX7_taken 7 = .ok (.ifCond .ne 6, 3) := by decide +kernel
theorem dX7_taken_10 : decode cX7_taken 10 = .ok (.bipush (-2), 2) := by decide +kernel
theorem dX7_taken_12 : decode cX7_taken 12 = .ok (.ireturn, 1) := by decide +kernel
theorem dX7_taken_13 : decode cX7_taken 13 = .ok (.iload_n 1, 1) := by decide +kernel
theorem dX7_taken_14 : decode cX7_taken 14 = .ok (.iconst 0, 1) := by decide +kernel
theorem dX7_taken_15 : decode cX7_taken 15 = .ok (.bipush 10, 2) := by decide +kernel
theorem dX7_taken_17 : decode cX7_taken 17 = .ok (.invokestatic 86, 3) := by decide +kernel
theorem dX7_taken_20 : decode cX7_taken 20 = .ok (.ifCond .ne 6, 3) := by decide +kernel
theorem dX7_taken_23 : decode cX7_taken 23 = .ok (.bipush (-12), 2) := by decide +kernel
theorem dX7_taken_25 : decode cX7_taken 25 = .ok (.ireturn, 1) := by decide +kernel
theorem dX7_taken_26 : decode cX7_taken 26 = .ok (.iload_n 2, 1) := by decide +kernel
theorem dX7_taken_27 : decode cX7_taken 27 = .ok (.bipush 6, 2) := by decide +kernel
theorem dX7_taken_29 : decode cX7_taken 29 = .ok (.if_icmp .ne 7, 3) := by decide +kernel
theorem dX7_taken_32 : decode cX7_taken 32 = .ok (.iconst 1, 1) := by decide +kernel
theorem dX7_taken_33 : decode cX7_taken 33 = .ok (.goto 4, 3) := by decide +kernel
theorem dX7_taken_36 : decode cX7_taken 36 = .ok (.iconst 0, 1) := by decide +kernel
theorem dX7_taken_37 : decode cX7_taken 37 = .ok (.istore_n 3, 1) := by decide +kernel
theorem dX7_taken_38 : decode cX7_taken 38 = .ok (.iload_n 1, 1) := by decide +kernel
theorem dX7_taken_39 : decode cX7_taken 39 = .ok (.iconst 4, 1) := by decide +kernel
theorem dX7_taken_40 : decode cX7_taken 40 = .ok (.if_icmp .ge 40, 3) := by decide +kernel
theorem dX7_taken_43 : decode cX7_taken 43 = .ok (.aload_n 0, 1) := by decide +kernel
theorem dX7_taken_44 : decode cX7_taken 44 = .ok (.iload_n 1, 1) := by decide +kernel
theorem dX7_taken_45 : decode cX7_taken 45 = .ok (.invokevirtual 98, 3) := by decide +kernel
theorem dX7_taken_48 : decode cX7_taken 48 = .ok (.ifCond .ne 6, 3) := by decide +kernel
theorem dX7_taken_51 : decode cX7_taken 51 = .ok (.bipush (-11), 2) := by decide +kernel
theorem dX7_taken_53 : decode cX7_taken 53 = .ok (.ireturn, 1) := by decide +kernel
theorem dX7_taken_54 : decode cX7_taken 54 = .ok (.iload_n 3, 1) := by decide +kernel
theorem dX7_taken_55 : decode cX7_taken 55 = .ok (.ifCond .eq 22, 3) := by decide +kernel
theorem dX7_taken_58 : decode cX7_taken 58 = .ok (.bipush 10, 2) := by decide +kernel
theorem dX7_taken_60 : decode cX7_taken 60 = .ok (.aload_n 0, 1) := by decide +kernel
theorem dX7_taken_61 : decode cX7_taken 61 = .ok (.getfield 20, 3) := by decide +kernel
theorem dX7_taken_64 : decode cX7_taken 64 = .ok (.iload_n 1, 1) := by decide +kernel
theorem dX7_taken_65 : decode cX7_taken 65 = .ok (.iaload, 1) := by decide +kernel
theorem dX7_taken_66 : decode cX7_taken 66 = .ok (.imul, 1) := by decide +kernel
theorem dX7_taken_67 : decode cX7_taken 67 = .ok (.aload_n 0, 1) := by decide +kernel
theorem dX7_taken_68 : decode cX7_taken 68 = .ok (.getfield 24, 3) := by decide +kernel
theorem dX7_taken_71 : decode cX7_taken 71 = .ok (.iload_n 1, 1) := by decide +kernel
theorem dX7_taken_72 : decode cX7_taken 72 = .ok (.iaload, 1) := by decide +kernel
theorem dX7_taken_73 : decode cX7_taken 73 = .ok (.iadd, 1) := by decide +kernel
theorem dX7_taken_74 : decode cX7_taken 74 = .ok (.goto 5, 3) := by decide +kernel
theorem dX7_taken_77 : decode cX7_taken 77 = .ok (.bipush (-13), 2) := by decide +kernel
theorem dX7_taken_79 : decode cX7_taken 79 = .ok (.ireturn, 1) := by decide +kernel
theorem dX7_taken_80 : decode cX7_taken 80 = .ok (.iload_n 1, 1) := by decide +kernel
theorem dX7_taken_81 : decode cX7_taken 81 = .ok (.iconst 4, 1) := by decide +kernel
theorem dX7_taken_82 : decode cX7_taken 82 = .ok (.isub, 1) := by decide +kernel
theorem dX7_taken_83 : decode cX7_taken 83 = .ok (.istore 4, 2) := by decide +kernel
theorem dX7_taken_85 : decode cX7_taken 85 = .ok (.aload_n 0, 1) := by decide +kernel
theorem dX7_taken_86 : decode cX7_taken 86 = .ok (.iload 4, 2) := by decide +kernel
theorem dX7_taken_88 : decode cX7_taken 88 = .ok (.invokevirtual 128, 3) := by decide +kernel
theorem dX7_taken_91 : decode cX7_taken 91 = .ok (.ifCond .ne 6, 3) := by decide +kernel
theorem dX7_taken_94 : decode cX7_taken 94 = .ok (.bipush (-11), 2) := by decide +kernel
theorem dX7_taken_96 : decode cX7_taken 96 = .ok (.ireturn, 1) := by decide +kernel
theorem dX7_taken_97 : decode cX7_taken 97 = .ok (.iload_n 3, 1) := by decide +kernel
theorem dX7_taken_98 : decode cX7_taken 98 = .ok (.ifCond .ne 22, 3) := by decide +kernel
theorem dX7_taken_101 : decode cX7_taken 101 = .ok (.aload_n 0, 1) := by decide +kernel
theorem dX7_taken_102 : decode cX7_taken 102 = .ok (.getfield 16, 3) := by decide +kernel
theorem dX7_taken_105 : decode cX7_taken 105 = .ok (.iload 4, 2) := by decide +kernel
theorem dX7_taken_107 : decode cX7_taken 107 = .ok (.aaload, 1) := by decide +kernel
theorem dX7_taken_108 : decode cX7_taken 108 = .ok (.iload_n 2, 1) := by decide +kernel
theorem dX7_taken_109 : decode cX7_taken 109 = .ok (.invokevirtual 302, 3) := by decide +kernel
theorem dX7_taken_112 : decode cX7_taken 112 = .ok (.ifCond .eq 8, 3) := by decide +kernel
theorem dX7_taken_115 : decode cX7_taken 115 = .ok (.iload 4, 2) := by decide +kernel
theorem dX7_taken_117 : decode cX7_taken 117 = .ok (.goto 5, 3) := by decide +kernel
theorem dX7_taken_120 : decode cX7_taken 120 = .ok (.bipush (-13), 2) := by decide +kernel
theorem dX7_taken_122 : decode cX7_taken 122 = .ok (.ireturn, 1) := by decide +kernel
theorem dX7_isWithin_0 : decode cX7_isWithin 0 = .ok (.iload_n 0, 1) := by decide +kernel
theorem dX7_isWithin_1 : decode cX7_isWithin 1 = .ok (.iload_n 1, 1) := by decide +kernel
theorem dX7_isWithin_2 : decode cX7_isWithin 2 = .ok (.if_icmp .lt 12, 3) := by decide +kernel
theorem dX7_isWithin_5 : decode cX7_isWithin 5 = .ok (.iload_n 0, 1) := by decide +kernel
theorem dX7_isWithin_6 : decode cX7_isWithin 6 = .ok (.iload_n 2, 1) := by decide +kernel
theorem dX7_isWithin_7 : decode cX7_isWithin 7 = .ok (.if_icmp .gt 7, 3) := by decide +kernel
theorem dX7_isWithin_10 : decode cX7_isWithin 10 = .ok (.iconst 1, 1) := by decide +kernel
theorem dX7_isWithin_11 : decode cX7_isWithin 11 = .ok (.goto 4, 3) := by decide +kernel
theorem dX7_isWithin_14 : decode cX7_isWithin 14 = .ok (.iconst 0, 1) := by decide +kernel
theorem dX7_isWithin_15 : decode cX7_isWithin 15 = .ok (.ireturn, 1) := by decide +kernel
theorem dX7_isPlace_0 : decode cX7_isPlace 0 = .ok (.iload_n 0, 1) := by decide +kernel
theorem dX7_isPlace_1 : decode cX7_isPlace 1 = .ok (.iconst 0, 1) := by decide +kernel
theorem dX7_isPlace_2 : decode cX7_isPlace 2 = .ok (.bipush 6, 2) := by decide +kernel
theorem dX7_isPlace_4 : decode cX7_isPlace 4 = .ok (.invokestatic 86, 3) := by decide +kernel
theorem dX7_isPlace_7 : decode cX7_isPlace 7 = .ok (.ireturn, 1) := by decide +kernel
theorem dX7_isWay_0 : decode cX7_isWay 0 = .ok (.iload_n 0, 1) := by decide +kernel
theorem dX7_isWay_1 : decode cX7_isWay 1 = .ok (.invokestatic 94, 3) := by decide +kernel
theorem dX7_isWay_4 : decode cX7_isWay 4 = .ok (.ifCond .eq 19, 3) := by decide +kernel
theorem dX7_isWay_7 : decode cX7_isWay 7 = .ok (.iload_n 1, 1) := by decide +kernel
theorem dX7_isWay_8 : decode cX7_isWay 8 = .ok (.invokestatic 94, 3) := by decide +kernel
theorem dX7_isWay_11 : decode cX7_isWay 11 = .ok (.ifCond .eq 12, 3) := by decide +kernel
theorem dX7_isWay_14 : decode cX7_isWay 14 = .ok (.iload_n 0, 1) := by decide +kernel
theorem dX7_isWay_15 : decode cX7_isWay 15 = .ok (.iload_n 1, 1) := by decide +kernel
theorem dX7_isWay_16 : decode cX7_isWay 16 = .ok (.if_icmp .eq 7, 3) := by decide +kernel
theorem dX7_isWay_19 : decode cX7_isWay 19 = .ok (.iconst 1, 1) := by decide +kernel
theorem dX7_isWay_20 : decode cX7_isWay 20 = .ok (.goto 4, 3) := by decide +kernel
theorem dX7_isWay_23 : decode cX7_isWay 23 = .ok (.iconst 0, 1) := by decide +kernel
theorem dX7_isWay_24 : decode cX7_isWay 24 = .ok (.ireturn, 1) := by decide +kernel
theorem dX7_isByte_0 : decode cX7_isByte 0 = .ok (.iload_n 0, 1) := by decide +kernel
theorem dX7_isByte_1 : decode cX7_isByte 1 = .ok (.iconst 0, 1) := by decide +kernel
theorem dX7_isByte_2 : decode cX7_isByte 2 = .ok (.sipush 255, 3) := by decide +kernel
theorem dX7_isByte_5 : decode cX7_isByte 5 = .ok (.invokestatic 86, 3) := by decide +kernel
theorem dX7_isByte_8 : decode cX7_isByte 8 = .ok (.ireturn, 1) := by decide +kernel
theorem dX7_areBytes_0 : decode cX7_areBytes 0 = .ok (.iload_n 0, 1) := by decide +kernel
theorem dX7_areBytes_1 : decode cX7_areBytes 1 = .ok (.invokestatic 305, 3) := by decide +kernel
theorem dX7_areBytes_4 : decode cX7_areBytes 4 = .ok (.ifCond .eq 36, 3) := by decide +kernel
theorem dX7_areBytes_7 : decode cX7_areBytes 7 = .ok (.iload_n 1, 1) := by decide +kernel
theorem dX7_areBytes_8 : decode cX7_areBytes 8 = .ok (.invokestatic 305, 3) := by decide +kernel
theorem dX7_areBytes_11 : decode cX7_areBytes 11 = .ok (.ifCond .eq 29, 3) := by decide +kernel
theorem dX7_areBytes_14 : decode cX7_areBytes 14 = .ok (.iload_n 2, 1) := by decide +kernel
theorem dX7_areBytes_15 : decode cX7_areBytes 15 = .ok (.invokestatic 305, 3) := by decide +kernel
theorem dX7_areBytes_18 : decode cX7_areBytes 18 = .ok (.ifCond .eq 22, 3) := by decide +kernel
theorem dX7_areBytes_21 : decode cX7_areBytes 21 = .ok (.iload_n 3, 1) := by decide +kernel
theorem dX7_areBytes_22 : decode cX7_areBytes 22 = .ok (.invokestatic 305, 3) := by decide +kernel
theorem dX7_areBytes_25 : decode cX7_areBytes 25 = .ok (.ifCond .eq 15, 3) := by decide +kernel
theorem dX7_areBytes_28 : decode cX7_areBytes 28 = .ok (.iload 4, 2) := by decide +kernel
theorem dX7_areBytes_30 : decode cX7_areBytes 30 = .ok (.invokestatic 305, 3) := by decide +kernel
theorem dX7_areBytes_33 : decode cX7_areBytes 33 = .ok (.ifCond .eq 7, 3) := by decide +kernel
theorem dX7_areBytes_36 : decode cX7_areBytes 36 = .ok (.iconst 1, 1) := by decide +kernel
theorem dX7_areBytes_37 : decode cX7_areBytes 37 = .ok (.goto 4, 3) := by decide +kernel
theorem dX7_areBytes_40 : decode cX7_areBytes 40 = .ok (.iconst 0, 1) := by decide +kernel
theorem dX7_areBytes_41 : decode cX7_areBytes 41 = .ok (.ireturn, 1) := by decide +kernel
theorem dX7_isSheet_0 : decode cX7_isSheet 0 = .ok (.iload_n 0, 1) := by decide +kernel
theorem dX7_isSheet_1 : decode cX7_isSheet 1 = .ok (.iconst 0, 1) := by decide +kernel
theorem dX7_isSheet_2 : decode cX7_isSheet 2 = .ok (.iconst 3, 1) := by decide +kernel
theorem dX7_isSheet_3 : decode cX7_isSheet 3 = .ok (.invokestatic 86, 3) := by decide +kernel
theorem dX7_isSheet_6 : decode cX7_isSheet 6 = .ok (.ireturn, 1) := by decide +kernel
theorem dX7_isHorse_0 : decode cX7_isHorse 0 = .ok (.iload_n 1, 1) := by decide +kernel
theorem dX7_isHorse_1 : decode cX7_isHorse 1 = .ok (.iconst 0, 1) := by decide +kernel
theorem dX7_isHorse_2 : decode cX7_isHorse 2 = .ok (.aload_n 0, 1) := by decide +kernel
theorem dX7_isHorse_3 : decode cX7_isHorse 3 = .ok (.getfield 60, 3) := by decide +kernel
theorem dX7_isHorse_6 : decode cX7_isHorse 6 = .ok (.iconst 1, 1) := by decide +kernel
theorem dX7_isHorse_7 : decode cX7_isHorse 7 = .ok (.isub, 1) := by decide +kernel
theorem dX7_isHorse_8 : decode cX7_isHorse 8 = .ok (.invokestatic 86, 3) := by decide +kernel
theorem dX7_isHorse_11 : decode cX7_isHorse 11 = .ok (.ireturn, 1) := by decide +kernel
theorem dX7_isRide_0 : decode cX7_isRide 0 = .ok (.iload_n 1, 1) := by decide +kernel
theorem dX7_isRide_1 : decode cX7_isRide 1 = .ok (.iconst 0, 1) := by decide +kernel
theorem dX7_isRide_2 : decode cX7_isRide 2 = .ok (.aload_n 0, 1) := by decide +kernel
theorem dX7_isRide_3 : decode cX7_isRide 3 = .ok (.getfield 64, 3) := by decide +kernel
theorem dX7_isRide_6 : decode cX7_isRide 6 = .ok (.iconst 1, 1) := by decide +kernel
theorem dX7_isRide_7 : decode cX7_isRide 7 = .ok (.isub, 1) := by decide +kernel
theorem dX7_isRide_8 : decode cX7_isRide 8 = .ok (.invokestatic 86, 3) := by decide +kernel
theorem dX7_isRide_11 : decode cX7_isRide 11 = .ok (.ireturn, 1) := by decide +kernel
theorem dX7_isIn_0 : decode cX7_isIn 0 = .ok (.iload_n 0, 1) := by decide +kernel
theorem dX7_isIn_1 : decode cX7_isIn 1 = .ok (.iload_n 1, 1) := by decide +kernel
theorem dX7_isIn_2 : decode cX7_isIn 2 = .ok (.ishr, 1) := by decide +kernel
theorem dX7_isIn_3 : decode cX7_isIn 3 = .ok (.iconst 1, 1) := by decide +kernel
theorem dX7_isIn_4 : decode cX7_isIn 4 = .ok (.iand, 1) := by decide +kernel
theorem dX7_isIn_5 : decode cX7_isIn 5 = .ok (.ifCond .eq 7, 3) := by decide +kernel
theorem dX7_isIn_8 : decode cX7_isIn 8 = .ok (.iconst 1, 1) := by decide +kernel
theorem dX7_isIn_9 : decode cX7_isIn 9 = .ok (.goto 4, 3) := by decide +kernel
theorem dX7_isIn_12 : decode cX7_isIn 12 = .ok (.iconst 0, 1) := by decide +kernel
theorem dX7_isIn_13 : decode cX7_isIn 13 = .ok (.ireturn, 1) := by decide +kernel
theorem dX7_setWalk_0 : decode cX7_setWalk 0 = .ok (.aload_n 0, 1) := by decide +kernel
theorem dX7_setWalk_1 : decode cX7_setWalk 1 = .ok (.getfield 11, 3) := by decide +kernel
theorem dX7_setWalk_4 : decode cX7_setWalk 4 = .ok (.iload_n 1, 1) := by decide +kernel
theorem dX7_setWalk_5 : decode cX7_setWalk 5 = .ok (.aaload, 1) := by decide +kernel
theorem dX7_setWalk_6 : decode cX7_setWalk 6 = .ok (.iload_n 2, 1) := by decide +kernel
theorem dX7_setWalk_7 : decode cX7_setWalk 7 = .ok (.iload_n 3, 1) := by decide +kernel
theorem dX7_setWalk_8 : decode cX7_setWalk 8 = .ok (.iastore, 1) := by decide +kernel
theorem dX7_setWalk_9 : decode cX7_setWalk 9 = .ok (.aload_n 0, 1) := by decide +kernel
theorem dX7_setWalk_10 : decode cX7_setWalk 10 = .ok (.getfield 11, 3) := by decide +kernel
theorem dX7_setWalk_13 : decode cX7_setWalk 13 = .ok (.iload_n 2, 1) := by decide +kernel
theorem dX7_setWalk_14 : decode cX7_setWalk 14 = .ok (.aaload, 1) := by decide +kernel
theorem dX7_setWalk_15 : decode cX7_setWalk 15 = .ok (.iload_n 1, 1) := by decide +kernel
theorem dX7_setWalk_16 : decode cX7_setWalk 16 = .ok (.iload_n 3, 1) := by decide +kernel
theorem dX7_setWalk_17 : decode cX7_setWalk 17 = .ok (.iastore, 1) := by decide +kernel
theorem dX7_setWalk_18 : decode cX7_setWalk 18 = .ok (.aload_n 0, 1) := by decide +kernel
theorem dX7_setWalk_19 : decode cX7_setWalk 19 = .ok (.invokevirtual 308, 3) := by decide +kernel
theorem dX7_setWalk_22 : decode cX7_setWalk 22 = .ok (.return_, 1) := by decide +kernel
theorem dX7_setFrom_0 : decode cX7_setFrom 0 = .ok (.aload_n 1, 1) := by decide +kernel
theorem dX7_setFrom_1 : decode cX7_setFrom 1 = .ok (.iload_n 2, 1) := by decide +kernel
theorem dX7_setFrom_2 : decode cX7_setFrom 2 = .ok (.putfield 154, 3) := by decide +kernel
theorem dX7_setFrom_5 : decode cX7_setFrom 5 = .ok (.aload_n 0, 1) := by decide +kernel
theorem dX7_setFrom_6 : decode cX7_setFrom 6 = .ok (.aload_n 1, 1) := by decide +kernel
theorem dX7_setFrom_7 : decode cX7_setFrom 7 = .ok (.invokevirtual 144, 3) := by decide +kernel
theorem dX7_setFrom_10 : decode cX7_setFrom 10 = .ok (.return_, 1) := by decide +kernel
theorem dX7_setLaw_0 : decode cX7_setLaw 0 = .ok (.aload_n 0, 1) := by decide +kernel
theorem dX7_setLaw_1 : decode cX7_setLaw 1 = .ok (.iload_n 1, 1) := by decide +kernel
theorem dX7_setLaw_2 : decode cX7_setLaw 2 = .ok (.putfield 70, 3) := by decide +kernel
theorem dX7_setLaw_5 : decode cX7_setLaw 5 = .ok (.aload_n 0, 1) := by decide +kernel
theorem dX7_setLaw_6 : decode cX7_setLaw 6 = .ok (.invokevirtual 308, 3) := by decide +kernel
theorem dX7_setLaw_9 : decode cX7_setLaw 9 = .ok (.return_, 1) := by decide +kernel
theorem dX7_hearLawAll_0 : decode cX7_hearLawAll 0 = .ok (.iconst 0, 1) := by decide +kernel
theorem dX7_hearLawAll_1 : decode cX7_hearLawAll 1 = .ok (.istore_n 1, 1) := by decide +kernel
theorem dX7_hearLawAll_2 : decode cX7_hearLawAll 2 = .ok (.iload_n 1, 1) := by decide +kernel
theorem dX7_hearLawAll_3 : decode cX7_hearLawAll 3 = .ok (.aload_n 0, 1) := by decide +kernel
theorem dX7_hearLawAll_4 : decode cX7_hearLawAll 4 = .ok (.getfield 60, 3) := by decide +kernel
theorem dX7_hearLawAll_7 : decode cX7_hearLawAll 7 = .ok (.if_icmp .ge 19, 3) := by decide +kernel
theorem dX7_hearLawAll_10 : decode cX7_hearLawAll 10 = .ok (.aload_n 0, 1) := by decide +kernel
theorem dX7_hearLawAll_11 : decode cX7_hearLawAll 11 = .ok (.aload_n 0, 1) := by decide +kernel
theorem dX7_hearLawAll_12 : decode cX7_hearLawAll 12 = .ok (.getfield 16, 3) := by decide +kernel
theorem dX7_hearLawAll_15 : decode cX7_hearLawAll 15 = .ok (.iload_n 1, 1) := by decide +kernel
theorem dX7_hearLawAll_16 : decode cX7_hearLawAll 16 = .ok (.aaload, 1) := by decide +kernel
theorem dX7_hearLawAll_17 : decode cX7_hearLawAll 17 = .ok (.invokevirtual 144, 3) := by decide +kernel
theorem dX7_hearLawAll_20 : decode cX7_hearLawAll 20 = .ok (.iinc 1 1, 3) := by decide +kernel
theorem dX7_hearLawAll_23 : decode cX7_hearLawAll 23 = .ok (.goto (-21), 3) := by decide +kernel
theorem dX7_hearLawAll_26 : decode cX7_hearLawAll 26 = .ok (.return_, 1) := by decide +kernel
theorem dX7_hearLaw_0 : decode cX7_hearLaw 0 = .ok (.aload_n 0, 1) := by decide +kernel
theorem dX7_hearLaw_1 : decode cX7_hearLaw 1 = .ok (.getfield 29, 3) := by decide +kernel
theorem dX7_hearLaw_4 : decode cX7_hearLaw 4 = .ok (.aload_n 0, 1) := by decide +kernel
theorem dX7_hearLaw_5 : decode cX7_hearLaw 5 = .ok (.getfield 70, 3) := by decide +kernel
theorem dX7_hearLaw_8 : decode cX7_hearLaw 8 = .ok (.aaload, 1) := by decide +kernel
theorem dX7_hearLaw_9 : decode cX7_hearLaw 9 = .ok (.astore_n 2, 1) := by decide +kernel
theorem dX7_hearLaw_10 : decode cX7_hearLaw 10 = .ok (.aload_n 0, 1) := by decide +kernel
theorem dX7_hearLaw_11 : decode cX7_hearLaw 11 = .ok (.getfield 11, 3) := by decide +kernel
theorem dX7_hearLaw_14 : decode cX7_hearLaw 14 = .ok (.aload_n 1, 1) := by decide +kernel
theorem dX7_hearLaw_15 : decode cX7_hearLaw 15 = .ok (.getfield 154, 3) := by decide +kernel
theorem dX7_hearLaw_18 : decode cX7_hearLaw 18 = .ok (.aaload, 1) := by decide +kernel
theorem dX7_hearLaw_19 : decode cX7_hearLaw 19 = .ok (.aload_n 1, 1) := by decide +kernel
theorem dX7_hearLaw_20 : decode cX7_hearLaw 20 = .ok (.getfield 157, 3) := by decide +kernel
theorem dX7_hearLaw_23 : decode cX7_hearLaw 23 = .ok (.iaload, 1) := by decide +kernel
theorem dX7_hearLaw_24 : decode cX7_hearLaw 24 = .ok (.istore_n 3, 1) := by decide +kernel
theorem dX7_hearLaw_25 : decode cX7_hearLaw 25 = .ok (.aload_n 1, 1) := by decide +kernel
theorem dX7_hearLaw_26 : decode cX7_hearLaw 26 = .ok (.aload_n 2, 1) := by decide +kernel
theorem dX7_hearLaw_27 : decode cX7_hearLaw 27 = .ok (.iconst 0, 1) := by decide +kernel
theorem dX7_hearLaw_28 : decode cX7_hearLaw 28 = .ok (.aload_n 1, 1) := by decide +kernel
theorem dX7_hearLaw_29 : decode cX7_hearLaw 29 = .ok (.iload_n 3, 1) := by decide +kernel
theorem dX7_hearLaw_30 : decode cX7_hearLaw 30 = .ok (.invokevirtual 311, 3) := by decide +kernel
theorem dX7_hearLaw_33 : decode cX7_hearLaw 33 = .ok (.iconst 1, 1) := by decide +kernel
theorem dX7_hearLaw_34 : decode cX7_hearLaw 34 = .ok (.sipush 999, 3) := by decide +kernel
theorem dX7_hearLaw_37 : decode cX7_hearLaw 37 = .ok (.invokestatic 315, 3) := by decide +kernel
theorem dX7_hearLaw_40 : decode cX7_hearLaw 40 = .ok (.putfield 131, 3) := by decide +kernel
theorem dX7_hearLaw_43 : decode cX7_hearLaw 43 = .ok (.aload_n 1, 1) := by decide +kernel
theorem dX7_hearLaw_44 : decode cX7_hearLaw 44 = .ok (.aload_n 2, 1) := by decide +kernel
theorem dX7_hearLaw_45 : decode cX7_hearLaw 45 = .ok (.iconst 1, 1) := by decide +kernel
theorem dX7_hearLaw_46 : decode cX7_hearLaw 46 = .ok (.aload_n 1, 1) := by decide +kernel
theorem dX7_hearLaw_47 : decode cX7_hearLaw 47 = .ok (.iload_n 3, 1) := by decide +kernel
theorem dX7_hearLaw_48 : decode cX7_hearLaw 48 = .ok (.invokevirtual 311, 3) := by decide +kernel
theorem dX7_hearLaw_51 : decode cX7_hearLaw 51 = .ok (.iconst 1, 1) := by decide +kernel
theorem dX7_hearLaw_52 : decode cX7_hearLaw 52 = .ok (.sipush 999, 3) := by decide +kernel
theorem dX7_hearLaw_55 : decode cX7_hearLaw 55 = .ok (.invokestatic 315, 3) := by decide +kernel
theorem dX7_hearLaw_58 : decode cX7_hearLaw 58 = .ok (.putfield 134, 3) := by decide +kernel
theorem dX7_hearLaw_61 : decode cX7_hearLaw 61 = .ok (.aload_n 1, 1) := by decide +kernel
theorem dX7_hearLaw_62 : decode cX7_hearLaw 62 = .ok (.aload_n 2, 1) := by decide +kernel
theorem dX7_hearLaw_63 : decode cX7_hearLaw 63 = .ok (.iconst 2, 1) := by decide +kernel
theorem dX7_hearLaw_64 : decode cX7_hearLaw 64 = .ok (.aload_n 1, 1) := by decide +kernel
theorem dX7_hearLaw_65 : decode cX7_hearLaw 65 = .ok (.iload_n 3, 1) := by decide +kernel
theorem dX7_hearLaw_66 : decode cX7_hearLaw 66 = .ok (.invokevirtual 311, 3) := by decide +kernel
theorem dX7_hearLaw_69 : decode cX7_hearLaw 69 = .ok (.iconst 0, 1) := by decide +kernel
theorem dX7_hearLaw_70 : decode cX7_hearLaw 70 = .ok (.bipush 100, 2) := by decide +kernel
theorem dX7_hearLaw_72 : decode cX7_hearLaw 72 = .ok (.invokestatic 315, 3) := by decide +kernel
theorem dX7_hearLaw_75 : decode cX7_hearLaw 75 = .ok (.putfield 137, 3) := by decide +kernel
theorem dX7_hearLaw_78 : decode cX7_hearLaw 78 = .ok (.return_, 1) := by decide +kernel
theorem dX7_bounded_0 : decode cX7_bounded 0 = .ok (.iload_n 1, 1) := by decide +kernel
theorem dX7_bounded_1 : decode cX7_bounded 1 = .ok (.iload_n 0, 1) := by decide +kernel
theorem dX7_bounded_2 : decode cX7_bounded 2 = .ok (.iload_n 2, 1) := by decide +kernel
theorem dX7_bounded_3 : decode cX7_bounded 3 = .ok (.invokestatic 318, 3) := by decide +kernel
theorem dX7_bounded_6 : decode cX7_bounded 6 = .ok (.invokestatic 202, 3) := by decide +kernel
theorem dX7_bounded_9 : decode cX7_bounded 9 = .ok (.ireturn, 1) := by decide +kernel
theorem dX7_copyWalks_0 : decode cX7_copyWalks 0 = .ok (.iconst 0, 1) := by decide +kernel
theorem dX7_copyWalks_1 : decode cX7_copyWalks 1 = .ok (.istore_n 2, 1) := by decide +kernel
theorem dX7_copyWalks_2 : decode cX7_copyWalks 2 = .ok (.iload_n 2, 1) := by decide +kernel
theorem dX7_copyWalks_3 : decode cX7_copyWalks 3 = .ok (.bipush 7, 2) := by decide +kernel
theorem dX7_copyWalks_5 : decode cX7_copyWalks 5 = .ok (.if_icmp .ge 22, 3) := by decide +kernel
theorem dX7_copyWalks_8 : decode cX7_copyWalks 8 = .ok (.aload_n 0, 1) := by decide +kernel
theorem dX7_copyWalks_9 : decode cX7_copyWalks 9 = .ok (.iload_n 2, 1) := by decide +kernel
theorem dX7_copyWalks_10 : decode cX7_copyWalks 10 = .ok (.aaload, 1) := by decide +kernel
theorem dX7_copyWalks_11 : decode cX7_copyWalks 11 = .ok (.iconst 0, 1) := by decide +kernel
theorem dX7_copyWalks_12 : decode cX7_copyWalks 12 = .ok (.aload_n 1, 1) := by decide +kernel
theorem dX7_copyWalks_13 : decode cX7_copyWalks 13 = .ok (.iload_n 2, 1) := by decide +kernel
theorem dX7_copyWalks_14 : decode cX7_copyWalks 14 = .ok (.aaload, 1) := by decide +kernel
theorem dX7_copyWalks_15 : decode cX7_copyWalks 15 = .ok (.iconst 0, 1) := by decide +kernel
theorem dX7_copyWalks_16 : decode cX7_copyWalks 16 = .ok (.bipush 7, 2) := by decide +kernel
theorem dX7_copyWalks_18 : decode cX7_copyWalks 18 = .ok (.invokestatic 292, 3) := by decide +kernel
theorem dX7_copyWalks_21 : decode cX7_copyWalks 21 = .ok (.iinc 2 1, 3) := by decide +kernel
theorem dX7_copyWalks_24 : decode cX7_copyWalks 24 = .ok (.goto (-22), 3) := by decide +kernel
theorem dX7_copyWalks_27 : decode cX7_copyWalks 27 = .ok (.return_, 1) := by decide +kernel
theorem dX7_allHorses_0 : decode cX7_allHorses 0 = .ok (.iconst 1, 1) := by decide +kernel
theorem dX7_allHorses_1 : decode cX7_allHorses 1 = .ok (.aload_n 0, 1) := by decide +kernel
theorem dX7_allHorses_2 : decode cX7_allHorses 2 = .ok (.getfield 60, 3) := by decide +kernel
theorem dX7_allHorses_5 : decode cX7_allHorses 5 = .ok (.ishl, 1) := by decide +kernel
theorem dX7_allHorses_6 : decode cX7_allHorses 6 = .ok (.iconst 1, 1) := by decide +kernel
theorem dX7_allHorses_7 : decode cX7_allHorses 7 = .ok (.isub, 1) := by decide +kernel
theorem dX7_allHorses_8 : decode cX7_allHorses 8 = .ok (.ireturn, 1) := by decide +kernel
theorem dX7_soonWith_0 : decode cX7_soonWith 0 = .ok (.aload_n 0, 1) := by decide +kernel
theorem dX7_soonWith_1 : decode cX7_soonWith 1 = .ok (.getfield 43, 3) := by decide +kernel
theorem dX7_soonWith_4 : decode cX7_soonWith 4 = .ok (.aload_n 0, 1) := by decide +kernel
theorem dX7_soonWith_5 : decode cX7_soonWith 5 = .ok (.getfield 11, 3) := by decide +kernel
theorem dX7_soonWith_8 : decode cX7_soonWith 8 = .ok (.aload_n 0, 1) := by decide +kernel
theorem dX7_soonWith_9 : decode cX7_soonWith 9 = .ok (.getfield 16, 3) := by decide +kernel
theorem dX7_soonWith_12 : decode cX7_soonWith 12 = .ok (.iload_n 1, 1) := by decide +kernel
theorem dX7_soonWith_13 : decode cX7_soonWith 13 = .ok (.iload_n 2, 1) := by decide +kernel
theorem dX7_soonWith_14 : decode cX7_soonWith 14 = .ok (.iload_n 3, 1) := by decide +kernel
theorem dX7_soonWith_15 : decode cX7_soonWith 15 = .ok (.invokevirtual 321, 3) := by decide +kernel
theorem dX7_soonWith_18 : decode cX7_soonWith 18 = .ok (.aload_n 0, 1) := by decide +kernel
theorem dX7_soonWith_19 : decode cX7_soonWith 19 = .ok (.getfield 43, 3) := by decide +kernel
theorem dX7_soonWith_22 : decode cX7_soonWith 22 = .ok (.iload_n 3, 1) := by decide +kernel
theorem dX7_soonWith_23 : decode cX7_soonWith 23 = .ok (.invokevirtual 256, 3) := by decide +kernel
theorem dX7_soonWith_26 : decode cX7_soonWith 26 = .ok (.ireturn, 1) := by decide +kernel
theorem dX7_searchAll_0 : decode cX7_searchAll 0 = .ok (.aload_n 0, 1) := by decide +kernel
theorem dX7_searchAll_1 : decode cX7_searchAll 1 = .ok (.getfield 43, 3) := by decide +kernel
theorem dX7_searchAll_4 : decode cX7_searchAll 4 = .ok (.aload_n 0, 1) := by decide +kernel
theorem dX7_searchAll_5 : decode cX7_searchAll 5 = .ok (.getfield 11, 3) := by decide +kernel
theorem dX7_searchAll_8 : decode cX7_searchAll 8 = .ok (.aload_n 0, 1) := by decide +kernel
theorem dX7_searchAll_9 : decode cX7_searchAll 9 = .ok (.getfield 16, 3) := by decide +kernel
theorem dX7_searchAll_12 : decode cX7_searchAll 12 = .ok (.aload_n 0, 1) := by decide +kernel
theorem dX7_searchAll_13 : decode cX7_searchAll 13 = .ok (.invokevirtual 176, 3) := by decide +kernel
theorem dX7_searchAll_16 : decode cX7_searchAll 16 = .ok (.iload_n 1, 1) := by decide +kernel
theorem dX7_searchAll_17 : decode cX7_searchAll 17 = .ok (.iconst (-1), 1) := by decide +kernel
theorem dX7_searchAll_18 : decode cX7_searchAll 18 = .ok (.invokevirtual 321, 3) := by decide +kernel
theorem dX7_searchAll_21 : decode cX7_searchAll 21 = .ok (.return_, 1) := by decide +kernel
theorem dX7_ridden_0 : decode cX7_ridden 0 = .ok (.iconst 0, 1) := by decide +kernel
theorem dX7_ridden_1 : decode cX7_ridden 1 = .ok (.istore_n 2, 1) := by decide +kernel
theorem dX7_ridden_2 : decode cX7_ridden 2 = .ok (.iconst 0, 1) := by decide +kernel
theorem dX7_ridden_3 : decode cX7_ridden 3 = .ok (.istore_n 3, 1) := by decide +kernel
theorem dX7_ridden_4 : decode cX7_ridden 4 = .ok (.iload_n 3, 1) := by decide +kernel
theorem dX7_ridden_5 : decode cX7_ridden 5 = .ok (.aload_n 0, 1) := by decide +kernel
theorem dX7_ridden_6 : decode cX7_ridden 6 = .ok (.getfield 64, 3) := by decide +kernel
theorem dX7_ridden_9 : decode cX7_ridden 9 = .ok (.if_icmp .ge 29, 3) := by decide +kernel
theorem dX7_ridden_12 : decode cX7_ridden 12 = .ok (.iload_n 2, 1) := by decide +kernel
theorem dX7_ridden_13 : decode cX7_ridden 13 = .ok (.aload_n 0, 1) := by decide +kernel
theorem dX7_ridden_14 : decode cX7_ridden 14 = .ok (.iload_n 1, 1) := by decide +kernel
theorem dX7_ridden_15 : decode cX7_ridden 15 = .ok (.aload_n 0, 1) := by decide +kernel
theorem dX7_ridden_16 : decode cX7_ridden 16 = .ok (.getfield 20, 3) := by decide +kernel
theorem dX7_ridden_19 : decode cX7_ridden 19 = .ok (.iload_n 3, 1) := by decide +kernel
theorem dX7_ridden_20 : decode cX7_ridden 20 = .ok (.iaload, 1) := by decide +kernel
theorem dX7_ridden_21 : decode cX7_ridden 21 = .ok (.aload_n 0, 1) := by decide +kernel
theorem dX7_ridden_22 : decode cX7_ridden 22 = .ok (.getfield 24, 3) := by decide +kernel
theorem dX7_ridden_25 : decode cX7_ridden 25 = .ok (.iload_n 3, 1) := by decide +kernel
theorem dX7_ridden_26 : decode cX7_ridden 26 = .ok (.iaload, 1) := by decide +kernel
theorem dX7_ridden_27 : decode cX7_ridden 27 = .ok (.invokevirtual 179, 3) := by decide +kernel
theorem dX7_ridden_30 : decode cX7_ridden 30 = .ok (.iadd, 1) := by decide +kernel
theorem dX7_ridden_31 : decode cX7_ridden 31 = .ok (.istore_n 2, 1) := by decide +kernel
theorem dX7_ridden_32 : decode cX7_ridden 32 = .ok (.iinc 3 1, 3) := by decide +kernel
theorem dX7_ridden_35 : decode cX7_ridden 35 = .ok (.goto (-31), 3) := by decide +kernel
theorem dX7_ridden_38 : decode cX7_ridden 38 = .ok (.iload_n 2, 1) := by decide +kernel
theorem dX7_ridden_39 : decode cX7_ridden 39 = .ok (.ireturn, 1) := by decide +kernel
theorem dX7_lives_0 : decode cX7_lives 0 = .ok (.ldc2_w 325, 3) := by decide +kernel
theorem dX7_lives_3 : decode cX7_lives 3 = .ok (.lstore_n 2, 1) := by decide +kernel
theorem dX7_lives_4 : decode cX7_lives 4 = .ok (.iconst 0, 1) := by decide +kernel
theorem dX7_lives_5 : decode cX7_lives 5 = .ok (.istore 4, 2) := by decide +kernel
theorem dX7_lives_7 : decode cX7_lives 7 = .ok (.iload 4, 2) := by decide +kernel
theorem dX7_lives_9 : decode cX7_lives 9 = .ok (.aload_n 0, 1) := by decide +kernel
theorem dX7_lives_10 : decode cX7_lives 10 = .ok (.getfield 60, 3) := by decide +kernel
theorem dX7_lives_13 : decode cX7_lives 13 = .ok (.if_icmp .ge 48, 3) := by decide +kernel
theorem dX7_lives_16 : decode cX7_lives 16 = .ok (.aload_n 0, 1) := by decide +kernel
theorem dX7_lives_17 : decode cX7_lives 17 = .ok (.getfield 16, 3) := by decide +kernel
theorem dX7_lives_20 : decode cX7_lives 20 = .ok (.iload 4, 2) := by decide +kernel
theorem dX7_lives_22 : decode cX7_lives 22 = .ok (.aaload, 1) := by decide +kernel
theorem dX7_lives_23 : decode cX7_lives 23 = .ok (.getfield 137, 3) := by decide +kernel
theorem dX7_lives_26 : decode cX7_lives 26 = .ok (.istore 5, 2) := by decide +kernel
theorem dX7_lives_28 : decode cX7_lives 28 = .ok (.lload_n 2, 1) := by decide +kernel
theorem dX7_lives_29 : decode cX7_lives 29 = .ok (.iload_n 1, 1) := by decide +kernel
theorem dX7_lives_30 : decode cX7_lives 30 = .ok (.iload 4, 2) := by decide +kernel
theorem dX7_lives_32 : decode cX7_lives 32 = .ok (.invokestatic 220, 3) := by decide +kernel
theorem dX7_lives_35 : decode cX7_lives 35 = .ok (.ifCond .eq 11, 3) := by decide +kernel
theorem dX7_lives_38 : decode cX7_lives 38 = .ok (.bipush 100, 2) := by decide +kernel
theorem dX7_lives_40 : decode cX7_lives 40 = .ok (.iload 5, 2) := by decide +kernel
theorem dX7_lives_42 : decode cX7_lives 42 = .ok (.isub, 1) := by decide +kernel
theorem dX7_lives_43 : decode cX7_lives 43 = .ok (.goto 5, 3) := by decide +kernel
theorem dX7_lives_46 : decode cX7_lives 46 = .ok (.iload 5, 2) := by decide +kernel
theorem dX7_lives_48 : decode cX7_lives 48 = .ok (.i2l, 1) := by decide +kernel
theorem dX7_lives_49 : decode cX7_lives 49 = .ok (.lmul, 1) := by decide +kernel
theorem dX7_lives_50 : decode cX7_lives 50 = .ok (.ldc2_w 327, 3) := by decide +kernel
theorem dX7_lives_53 : decode cX7_lives 53 = .ok (.ldiv, 1) := by decide +kernel
theorem dX7_lives_54 : decode cX7_lives 54 = .ok (.lstore_n 2, 1) := by decide +kernel
theorem dX7_lives_55 : decode cX7_lives 55 = .ok (.iinc 4 1, 3) := by decide +kernel
theorem dX7_lives_58 : decode cX7_lives 58 = .ok (.goto (-51), 3) := by decide +kernel
theorem dX7_lives_61 : decode cX7_lives 61 = .ok (.lload_n 2, 1) := by decide +kernel
theorem dX7_lives_62 : decode cX7_lives 62 = .ok (.lreturn, 1) := by decide +kernel
theorem dX7_livingBy_0 : decode cX7_livingBy 0 = .ok (.iconst 0, 1) := by decide +kernel
theorem dX7_livingBy_1 : decode cX7_livingBy 1 = .ok (.istore_n 2, 1) := by decide +kernel
theorem dX7_livingBy_2 : decode cX7_livingBy 2 = .ok (.iload_n 1, 1) := by decide +kernel
theorem dX7_livingBy_3 : decode cX7_livingBy 3 = .ok (.i2l, 1) := by decide +kernel
theorem dX7_livingBy_4 : decode cX7_livingBy 4 = .ok (.lconst 1, 1) := by decide +kernel
theorem dX7_livingBy_5 : decode cX7_livingBy 5 = .ok (.ladd, 1) := by decide +kernel
theorem dX7_livingBy_6 : decode cX7_livingBy 6 = .ok (.lstore_n 3, 1) := by decide +kernel
theorem dX7_livingBy_7 : decode cX7_livingBy 7 = .ok (.iconst 0, 1) := by decide +kernel
theorem dX7_livingBy_8 : decode cX7_livingBy 8 = .ok (.istore 5, 2) := by decide +kernel
theorem dX7_livingBy_10 : decode cX7_livingBy 10 = .ok (.iload 5, 2) := by decide +kernel
theorem dX7_livingBy_12 : decode cX7_livingBy 12 = .ok (.aload_n 0, 1) := by decide +kernel
theorem dX7_livingBy_13 : decode cX7_livingBy 13 = .ok (.getfield 60, 3) := by decide +kernel
theorem dX7_livingBy_16 : decode cX7_livingBy 16 = .ok (.if_icmp .ge 46, 3) := by decide +kernel
theorem dX7_livingBy_19 : decode cX7_livingBy 19 = .ok (.lload_n 3, 1) := by decide +kernel
theorem dX7_livingBy_20 : decode cX7_livingBy 20 = .ok (.ldc2_w 329, 3) := by decide +kernel
theorem dX7_livingBy_23 : decode cX7_livingBy 23 = .ok (.lmul, 1) := by decide +kernel
theorem dX7_livingBy_24 : decode cX7_livingBy 24 = .ok (.ldc2_w 331, 3) := by decide +kernel
theorem dX7_livingBy_27 : decode cX7_livingBy 27 = .ok (.lrem, 1) := by decide +kernel
theorem dX7_livingBy_28 : decode cX7_livingBy 28 = .ok (.lstore_n 3, 1) := by decide +kernel
theorem dX7_livingBy_29 : decode cX7_livingBy 29 = .ok (.lload_n 3, 1) := by decide +kernel
theorem dX7_livingBy_30 : decode cX7_livingBy 30 = .ok (.ldc2_w 327, 3) := by decide +kernel
theorem dX7_livingBy_33 : decode cX7_livingBy 33 = .ok (.lrem, 1) := by decide +kernel
theorem dX7_livingBy_34 : decode cX7_livingBy 34 = .ok (.aload_n 0, 1) := by decide +kernel
theorem dX7_livingBy_35 : decode cX7_livingBy 35 = .ok (.getfield 16, 3) := by decide +kernel
theorem dX7_livingBy_38 : decode cX7_livingBy 38 = .ok (.iload 5, 2) := by decide +kernel
theorem dX7_livingBy_40 : decode cX7_livingBy 40 = .ok (.aaload, 1) := by decide +kernel
theorem dX7_livingBy_41 : decode cX7_livingBy 41 = .ok (.getfield 137, 3) := by decide +kernel
theorem dX7_livingBy_44 : decode cX7_livingBy 44 = .ok (.i2l, 1) := by decide +kernel
theorem dX7_livingBy_45 : decode cX7_livingBy 45 = .ok (.lcmp, 1) := by decide +kernel
theorem dX7_livingBy_46 : decode cX7_livingBy 46 = .ok (.ifCond .lt 10, 3) := by decide +kernel
theorem dX7_livingBy_49 : decode cX7_livingBy 49 = .ok (.iload_n 2, 1) := by decide +kernel
theorem dX7_livingBy_50 : decode cX7_livingBy 50 = .ok (.iconst 1, 1) := by decide +kernel
theorem dX7_livingBy_51 : decode cX7_livingBy 51 = .ok (.iload 5, 2) := by decide +kernel
theorem dX7_livingBy_53 : decode cX7_livingBy 53 = .ok (.ishl, 1) := by decide +kernel
theorem dX7_livingBy_54 : decode cX7_livingBy 54 = .ok (.ior, 1) := by decide +kernel
theorem dX7_livingBy_55 : decode cX7_livingBy 55 = .ok (.istore_n 2, 1) := by decide +kernel
theorem dX7_livingBy_56 : decode cX7_livingBy 56 = .ok (.iinc 5 1, 3) := by decide +kernel
theorem dX7_livingBy_59 : decode cX7_livingBy 59 = .ok (.goto (-49), 3) := by decide +kernel
theorem dX7_livingBy_62 : decode cX7_livingBy 62 = .ok (.iload_n 2, 1) := by decide +kernel
theorem dX7_livingBy_63 : decode cX7_livingBy 63 = .ok (.ireturn, 1) := by decide +kernel
theorem dX7_greatestCommon_0 : decode cX7_greatestCommon 0 = .ok (.iload_n 0, 1) := by decide +kernel
theorem dX7_greatestCommon_1 : decode cX7_greatestCommon 1 = .ok (.istore_n 2, 1) := by decide +kernel
theorem dX7_greatestCommon_2 : decode cX7_greatestCommon 2 = .ok (.iload_n 1, 1) := by decide +kernel
theorem dX7_greatestCommon_3 : decode cX7_greatestCommon 3 = .ok (.istore_n 3, 1) := by decide +kernel
theorem dX7_greatestCommon_4 : decode cX7_greatestCommon 4 = .ok (.iconst 0, 1) := by decide +kernel
theorem dX7_greatestCommon_5 : decode cX7_greatestCommon 5 = .ok (.istore 4, 2) := by decide +kernel
theorem dX7_greatestCommon_7 : decode cX7_greatestCommon 7 = .ok (.iload 4, 2) := by decide +kernel
theorem dX7_greatestCommon_9 : decode cX7_greatestCommon 9 = .ok (.bipush 64, 2) := by decide +kernel
theorem dX7_greatestCommon_11 : decode cX7_greatestCommon 11 = .ok (.if_icmp .ge 23, 3) := by decide +kernel
theorem dX7_greatestCommon_14 : decode cX7_greatestCommon 14 = .ok (.iload_n 3, 1) := by decide +kernel
theorem dX7_greatestCommon_15 : decode cX7_greatestCommon 15 = .ok (.ifCond .eq 19, 3) := by decide +kernel
theorem dX7_greatestCommon_18 : decode cX7_greatestCommon 18 = .ok (.iload_n 2, 1) := by decide +kernel
theorem dX7_greatestCommon_19 : decode cX7_greatestCommon 19 = .ok (.iload_n 3, 1) := by decide +kernel
theorem dX7_greatestCommon_20 : decode cX7_greatestCommon 20 = .ok (.irem, 1) := by decide +kernel
theorem dX7_greatestCommon_21 : decode cX7_greatestCommon 21 = .ok (.istore 5, 2) := by decide +kernel
theorem dX7_greatestCommon_23 : decode cX7_greatestCommon 23 = .ok (.iload_n 3, 1) := by decide +kernel
theorem dX7_greatestCommon_24 : decode cX7_greatestCommon 24 = .ok (.istore_n 2, 1) := by decide +kernel
theorem dX7_greatestCommon_25 : decode cX7_greatestCommon 25 = .ok (.iload 5, 2) := by decide +kernel
theorem dX7_greatestCommon_27 : decode cX7_greatestCommon 27 = .ok (.istore_n 3, 1) := by decide +kernel
theorem dX7_greatestCommon_28 : decode cX7_greatestCommon 28 = .ok (.iinc 4 1, 3) := by decide +kernel
theorem dX7_greatestCommon_31 : decode cX7_greatestCommon 31 = .ok (.goto (-24), 3) := by decide +kernel
theorem dX7_greatestCommon_34 : decode cX7_greatestCommon 34 = .ok (.iconst 1, 1) := by decide +kernel
theorem dX7_greatestCommon_35 : decode cX7_greatestCommon 35 = .ok (.iload_n 2, 1) := by decide +kernel
theorem dX7_greatestCommon_36 : decode cX7_greatestCommon 36 = .ok (.invokestatic 202, 3) := by decide +kernel
theorem dX7_greatestCommon_39 : decode cX7_greatestCommon 39 = .ok (.ireturn, 1) := by decide +kernel
theorem dX7_canBe_0 : decode cX7_canBe 0 = .ok (.iload_n 1, 1) := by decide +kernel
theorem dX7_canBe_1 : decode cX7_canBe 1 = .ok (.ifCond .lt 30, 3) := by decide +kernel
theorem dX7_canBe_4 : decode cX7_canBe 4 = .ok (.iload_n 1, 1) := by decide +kernel
theorem dX7_canBe_5 : decode cX7_canBe 5 = .ok (.bipush 10, 2) := by decide +kernel
theorem dX7_canBe_7 : decode cX7_canBe 7 = .ok (.idiv, 1) := by decide +kernel
theorem dX7_canBe_8 : decode cX7_canBe 8 = .ok (.bipush 7, 2) := by decide +kernel
theorem dX7_canBe_10 : decode cX7_canBe 10 = .ok (.if_icmp .gt 21, 3) := by decide +kernel
theorem dX7_canBe_13 : decode cX7_canBe 13 = .ok (.iload_n 1, 1) := by decide +kernel
theorem dX7_canBe_14 : decode cX7_canBe 14 = .ok (.bipush 10, 2) := by decide +kernel
theorem dX7_canBe_16 : decode cX7_canBe 16 = .ok (.irem, 1) := by decide +kernel
theorem dX7_canBe_17 : decode cX7_canBe 17 = .ok (.invokestatic 94, 3) := by decide +kernel
theorem dX7_canBe_20 : decode cX7_canBe 20 = .ok (.ifCond .eq 11, 3) := by decide +kernel
theorem dX7_canBe_23 : decode cX7_canBe 23 = .ok (.iload_n 1, 1) := by decide +kernel
theorem dX7_canBe_24 : decode cX7_canBe 24 = .ok (.bipush 10, 2) := by decide +kernel
theorem dX7_canBe_26 : decode cX7_canBe 26 = .ok (.irem, 1) := by decide +kernel
theorem dX7_canBe_27 : decode cX7_canBe 27 = .ok (.iload_n 2, 1) := by decide +kernel
theorem dX7_canBe_28 : decode cX7_canBe 28 = .ok (.if_icmp .ne 5, 3) := by decide +kernel
theorem dX7_canBe_31 : decode cX7_canBe 31 = .ok (.iconst 0, 1) := by decide +kernel
theorem dX7_canBe_32 : decode cX7_canBe 32 = .ok (.ireturn, 1) := by decide +kernel
theorem dX7_canBe_33 : decode cX7_canBe 33 = .ok (.iload_n 1, 1) := by decide +kernel
theorem dX7_canBe_34 : decode cX7_canBe 34 = .ok (.bipush 10, 2) := by decide +kernel
theorem dX7_canBe_36 : decode cX7_canBe 36 = .ok (.idiv, 1) := by decide +kernel
theorem dX7_canBe_37 : decode cX7_canBe 37 = .ok (.istore 4, 2) := by decide +kernel
theorem dX7_canBe_39 : decode cX7_canBe 39 = .ok (.iload 4, 2) := by decide +kernel
theorem dX7_canBe_41 : decode cX7_canBe 41 = .ok (.bipush 7, 2) := by decide +kernel
theorem dX7_canBe_43 : decode cX7_canBe 43 = .ok (.if_icmp .ne 5, 3) := by decide +kernel
theorem dX7_canBe_46 : decode cX7_canBe 46 = .ok (.iconst 1, 1) := by decide +kernel
theorem dX7_canBe_47 : decode cX7_canBe 47 = .ok (.ireturn, 1) := by decide +kernel
theorem dX7_canBe_48 : decode cX7_canBe 48 = .ok (.aload_n 0, 1) := by decide +kernel
theorem dX7_canBe_49 : decode cX7_canBe 49 = .ok (.iload 4, 2) := by decide +kernel
theorem dX7_canBe_51 : decode cX7_canBe 51 = .ok (.invokevirtual 128, 3) := by decide +kernel
theorem dX7_canBe_54 : decode cX7_canBe 54 = .ok (.ifCond .eq 34, 3) := by decide +kernel
theorem dX7_canBe_57 : decode cX7_canBe 57 = .ok (.iload_n 3, 1) := by decide +kernel
theorem dX7_canBe_58 : decode cX7_canBe 58 = .ok (.iload 4, 2) := by decide +kernel
theorem dX7_canBe_60 : decode cX7_canBe 60 = .ok (.invokestatic 220, 3) := by decide +kernel
theorem dX7_canBe_63 : decode cX7_canBe 63 = .ok (.ifCond .ne 25, 3) := by decide +kernel
theorem dX7_canBe_66 : decode cX7_canBe 66 = .ok (.aload_n 0, 1) := by decide +kernel
theorem dX7_canBe_67 : decode cX7_canBe 67 = .ok (.getfield 16, 3) := by decide +kernel
theorem dX7_canBe_70 : decode cX7_canBe 70 = .ok (.iload 4, 2) := by decide +kernel
theorem dX7_canBe_72 : decode cX7_canBe 72 = .ok (.aaload, 1) := by decide +kernel
theorem dX7_canBe_73 : decode cX7_canBe 73 = .ok (.iload_n 2, 1) := by decide +kernel
theorem dX7_canBe_74 : decode cX7_canBe 74 = .ok (.invokevirtual 173, 3) := by decide +kernel
theorem dX7_canBe_77 : decode cX7_canBe 77 = .ok (.iload_n 1, 1) := by decide +kernel
theorem dX7_canBe_78 : decode cX7_canBe 78 = .ok (.bipush 10, 2) := by decide +kernel
theorem dX7_canBe_80 : decode cX7_canBe 80 = .ok (.irem, 1) := by decide +kernel
theorem dX7_canBe_81 : decode cX7_canBe 81 = .ok (.if_icmp .ne 7, 3) := by decide +kernel
theorem dX7_canBe_84 : decode cX7_canBe 84 = .ok (.iconst 1, 1) := by decide +kernel
theorem dX7_canBe_85 : decode cX7_canBe 85 = .ok (.goto 4, 3) := by decide +kernel
theorem dX7_canBe_88 : decode cX7_canBe 88 = .ok (.iconst 0, 1) := by decide +kernel
theorem dX7_canBe_89 : decode cX7_canBe 89 = .ok (.ireturn, 1) := by decide +kernel
theorem dX7_refusalOfSoons_0 : decode cX7_refusalOfSoons 0 = .ok (.iload_n 1, 1) := by decide +kernel
theorem dX7_refusalOfSoons_1 : decode cX7_refusalOfSoons 1 = .ok (.invokestatic 229, 3) := by decide +kernel
theorem dX7_refusalOfSoons_4 : decode cX7_refusalOfSoons 4 = .ok (.ifCond .ne 6, 3) := by decide +kernel
theorem dX7_refusalOfSoons_7 : decode cX7_refusalOfSoons 7 = .ok (.bipush (-2), 2) := by decide +kernel
theorem dX7_refusalOfSoons_9 : decode cX7_refusalOfSoons 9 = .ok (.ireturn, 1) := by decide +kernel
theorem dX7_refusalOfSoons_10 : decode cX7_refusalOfSoons 10 = .ok (.aload_n 0, 1) := by decide +kernel
theorem dX7_refusalOfSoons_11 : decode cX7_refusalOfSoons 11 = .ok (.getfield 56, 3) := by decide +kernel
theorem dX7_refusalOfSoons_14 : decode cX7_refusalOfSoons 14 = .ok (.iload_n 1, 1) := by decide +kernel
theorem dX7_refusalOfSoons_15 : decode cX7_refusalOfSoons 15 = .ok (.aaload, 1) := by decide +kernel
theorem dX7_refusalOfSoons_16 : decode cX7_refusalOfSoons 16 = .ok (.invokevirtual 232, 3) := by decide +kernel
theorem dX7_refusalOfSoons_19 : decode cX7_refusalOfSoons 19 = .ok (.ifCond .eq 6, 3) := by decide +kernel
theorem dX7_refusalOfSoons_22 : decode cX7_refusalOfSoons 22 = .ok (.bipush (-11), 2) := by decide +kernel
theorem dX7_refusalOfSoons_24 : decode cX7_refusalOfSoons 24 = .ok (.ireturn, 1) := by decide +kernel
theorem dX7_refusalOfSoons_25 : decode cX7_refusalOfSoons 25 = .ok (.aload_n 0, 1) := by decide +kernel
theorem dX7_refusalOfSoons_26 : decode cX7_refusalOfSoons 26 = .ok (.getfield 56, 3) := by decide +kernel
theorem dX7_refusalOfSoons_29 : decode cX7_refusalOfSoons 29 = .ok (.iload_n 1, 1) := by decide +kernel
theorem dX7_refusalOfSoons_30 : decode cX7_refusalOfSoons 30 = .ok (.aaload, 1) := by decide +kernel
theorem dX7_refusalOfSoons_31 : decode cX7_refusalOfSoons 31 = .ok (.getfield 236, 3) := by decide +kernel
theorem dX7_refusalOfSoons_34 : decode cX7_refusalOfSoons 34 = .ok (.bipush 7, 2) := by decide +kernel
theorem dX7_refusalOfSoons_36 : decode cX7_refusalOfSoons 36 = .ok (.if_icmp .ne 7, 3) := by decide +kernel
theorem dX7_refusalOfSoons_39 : decode cX7_refusalOfSoons 39 = .ok (.iconst 0, 1) := by decide +kernel
theorem dX7_refusalOfSoons_40 : decode cX7_refusalOfSoons 40 = .ok (.goto 5, 3) := by decide +kernel
theorem dX7_refusalOfSoons_43 : decode cX7_refusalOfSoons 43 = .ok (.bipush (-2), 2) := by decide +kernel
theorem dX7_refusalOfSoons_45 : decode cX7_refusalOfSoons 45 = .ok (.ireturn, 1) := by decide +kernel
theorem dX7_isSoFrom_0 : decode cX7_isSoFrom 0 = .ok (.aload_n 0, 1) := by decide +kernel
theorem dX7_isSoFrom_1 : decode cX7_isSoFrom 1 = .ok (.iload_n 1, 1) := by decide +kernel
theorem dX7_isSoFrom_2 : decode cX7_isSoFrom 2 = .ok (.invokevirtual 223, 3) := by decide +kernel
theorem dX7_isSoFrom_5 : decode cX7_isSoFrom 5 = .ok (.iconst 0, 1) := by decide +kernel
theorem dX7_isSoFrom_6 : decode cX7_isSoFrom 6 = .ok (.istore_n 3, 1) := by decide +kernel
theorem dX7_isSoFrom_7 : decode cX7_isSoFrom 7 = .ok (.iload_n 3, 1) := by decide +kernel
theorem dX7_isSoFrom_8 : decode cX7_isSoFrom 8 = .ok (.bipush 7, 2) := by decide +kernel
theorem dX7_isSoFrom_10 : decode cX7_isSoFrom 10 = .ok (.if_icmp .ge 27, 3) := by decide +kernel
theorem dX7_isSoFrom_13 : decode cX7_isSoFrom 13 = .ok (.aload_n 0, 1) := by decide +kernel
theorem dX7_isSoFrom_14 : decode cX7_isSoFrom 14 = .ok (.getfield 43, 3) := by decide +kernel
theorem dX7_isSoFrom_17 : decode cX7_isSoFrom 17 = .ok (.iload_n 3, 1) := by decide +kernel
theorem dX7_isSoFrom_18 : decode cX7_isSoFrom 18 = .ok (.invokevirtual 256, 3) := by decide +kernel
theorem dX7_isSoFrom_21 : decode cX7_isSoFrom 21 = .ok (.aload_n 2, 1) := by decide +kernel
theorem dX7_isSoFrom_22 : decode cX7_isSoFrom 22 = .ok (.iload_n 3, 1) := by decide +kernel
theorem dX7_isSoFrom_23 : decode cX7_isSoFrom 23 = .ok (.invokevirtual 237, 3) := by decide +kernel
theorem dX7_isSoFrom_26 : decode cX7_isSoFrom 26 = .ok (.if_icmp .eq 5, 3) := by decide +kernel
theorem dX7_isSoFrom_29 : decode cX7_isSoFrom 29 = .ok (.iconst 0, 1) := by decide +kernel
theorem dX7_isSoFrom_30 : decode cX7_isSoFrom 30 = .ok (.ireturn, 1) := by decide +kernel
theorem dX7_isSoFrom_31 : decode cX7_isSoFrom 31 = .ok (.iinc 3 1, 3) := by decide +kernel
theorem dX7_isSoFrom_34 : decode cX7_isSoFrom 34 = .ok (.goto (-27), 3) := by decide +kernel
theorem dX7_isSoFrom_37 : decode cX7_isSoFrom 37 = .ok (.iconst 1, 1) := by decide +kernel
theorem dX7_isSoFrom_38 : decode cX7_isSoFrom 38 = .ok (.ireturn, 1) := by decide +kernel
