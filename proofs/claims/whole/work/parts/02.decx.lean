theorem dX3_init_0 : decode cX3_init 0 = .ok (.aload_n 0, 1) := by decide +kernel
theorem dX3_init_1 : decode cX3_init 1 = .ok (.invokespecial 1, 3) := by decide +kernel
theorem dX3_init_4 : decode cX3_init 4 = .ok (.aload_n 0, 1) := by decide +kernel
theorem dX3_init_5 : decode cX3_init 5 = .ok (.bipush 8, 2) := by decide +kernel
theorem dX3_init_7 : decode cX3_init 7 = .ok (.anewarray 9, 3) := by decide +kernel
theorem dX3_init_10 : decode cX3_init 10 = .ok (.putfield 11, 3) := by decide +kernel
theorem dX3_init_13 : decode cX3_init 13 = .ok (.iconst 0, 1) := by decide +kernel
theorem dX3_init_14 : decode cX3_init 14 = .ok (.istore_n 1, 1) := by decide +kernel
theorem dX3_init_15 : decode cX3_init 15 = .ok (.iload_n 1, 1) := by decide +kernel
theorem dX3_init_16 : decode cX3_init 16 = .ok (.bipush 8, 2) := by decide +kernel
theorem dX3_init_18 : decode cX3_init 18 = .ok (.if_icmp .ge 22, 3) := by decide +kernel
theorem dX3_init_21 : decode cX3_init 21 = .ok (.aload_n 0, 1) := by decide +kernel
theorem dX3_init_22 : decode cX3_init 22 = .ok (.getfield 11, 3) := by decide +kernel
theorem dX3_init_25 : decode cX3_init 25 = .ok (.iload_n 1, 1) := by decide +kernel
theorem dX3_init_26 : decode cX3_init 26 = .ok (.new 9, 3) := by decide +kernel
theorem dX3_init_29 : decode cX3_init 29 = .ok (.dup, 1) := by decide +kernel
theorem dX3_init_30 : decode cX3_init 30 = .ok (.invokespecial 15, 3) := by decide +kernel
theorem dX3_init_33 : decode cX3_init 33 = .ok (.aastore, 1) := by decide +kernel
theorem dX3_init_34 : decode cX3_init 34 = .ok (.iinc 1 1, 3) := by decide +kernel
theorem dX3_init_37 : decode cX3_init 37 = .ok (.goto (-22), 3) := by decide +kernel
theorem dX3_init_40 : decode cX3_init 40 = .ok (.aload_n 0, 1) := by decide +kernel
theorem dX3_init_41 : decode cX3_init 41 = .ok (.new 16, 3) := by decide +kernel
theorem dX3_init_44 : decode cX3_init 44 = .ok (.dup, 1) := by decide +kernel
theorem dX3_init_45 : decode cX3_init 45 = .ok (.invokespecial 18, 3) := by decide +kernel
theorem dX3_init_48 : decode cX3_init 48 = .ok (.putfield 19, 3) := by decide +kernel
theorem dX3_init_51 : decode cX3_init 51 = .ok (.aload_n 0, 1) := by decide +kernel
theorem dX3_init_52 : decode cX3_init 52 = .ok (.new 23, 3) := by decide +kernel
theorem dX3_init_55 : decode cX3_init 55 = .ok (.dup, 1) := by decide +kernel
theorem dX3_init_56 : decode cX3_init 56 = .ok (.invokespecial 25, 3) := by decide +kernel
theorem dX3_init_59 : decode cX3_init 59 = .ok (.putfield 26, 3) := by decide +kernel
theorem dX3_init_62 : decode cX3_init 62 = .ok (.aload_n 0, 1) := by decide +kernel
theorem dX3_init_63 : decode cX3_init 63 = .ok (.new 16, 3) := by decide +kernel
theorem dX3_init_66 : decode cX3_init 66 = .ok (.dup, 1) := by decide +kernel
theorem dX3_init_67 : decode cX3_init 67 = .ok (.invokespecial 18, 3) := by decide +kernel
theorem dX3_init_70 : decode cX3_init 70 = .ok (.putfield 30, 3) := by decide +kernel
theorem dX3_init_73 : decode cX3_init 73 = .ok (.aload_n 0, 1) := by decide +kernel
theorem dX3_init_74 : decode cX3_init 74 = .ok (.new 16, 3) := by decide +kernel
theorem dX3_init_77 : decode cX3_init 77 = .ok (.dup, 1) := by decide +kernel
theorem dX3_init_78 : decode cX3_init 78 = .ok (.invokespecial 18, 3) := by decide +kernel
theorem dX3_init_81 : decode cX3_init 81 = .ok (.putfield 33, 3) := by decide +kernel
theorem dX3_init_84 : decode cX3_init 84 = .ok (.aload_n 0, 1) := by decide +kernel
theorem dX3_init_85 : decode cX3_init 85 = .ok (.bipush 6, 2) := by decide +kernel
theorem dX3_init_87 : decode cX3_init 87 = .ok (.anewarray 16, 3) := by decide +kernel
theorem dX3_init_90 : decode cX3_init 90 = .ok (.putfield 36, 3) := by decide +kernel
theorem dX3_init_93 : decode cX3_init 93 = .ok (.iconst 0, 1) := by decide +kernel
theorem dX3_init_94 : decode cX3_init 94 = .ok (.istore_n 1, 1) := by decide +kernel
theorem dX3_init_95 : decode cX3_init 95 = .ok (.iload_n 1, 1) := by decide +kernel
theorem dX3_init_96 : decode cX3_init 96 = .ok (.bipush 6, 2) := by decide +kernel
theorem dX3_init_98 : decode cX3_init 98 = .ok (.if_icmp .ge 22, 3) := by decide +kernel
theorem dX3_init_101 : decode cX3_init 101 = .ok (.aload_n 0, 1) := by decide +kernel
theorem dX3_init_102 : decode cX3_init 102 = .ok (.getfield 36, 3) := by decide +kernel
theorem dX3_init_105 : decode cX3_init 105 = .ok (.iload_n 1, 1) := by decide +kernel
theorem dX3_init_106 : decode cX3_init 106 = .ok (.new 16, 3) := by decide +kernel
theorem dX3_init_109 : decode cX3_init 109 = .ok (.dup, 1) := by decide +kernel
theorem dX3_init_110 : decode cX3_init 110 = .ok (.invokespecial 18, 3) := by decide +kernel
theorem dX3_init_113 : decode cX3_init 113 = .ok (.aastore, 1) := by decide +kernel
theorem dX3_init_114 : decode cX3_init 114 = .ok (.iinc 1 1, 3) := by decide +kernel
theorem dX3_init_117 : decode cX3_init 117 = .ok (.goto (-22), 3) := by decide +kernel
theorem dX3_init_120 : decode cX3_init 120 = .ok (.aload_n 0, 1) := by decide +kernel
theorem dX3_init_121 : decode cX3_init 121 = .ok (.bipush 6, 2) := by decide +kernel
theorem dX3_init_123 : decode cX3_init 123 = .ok (.newarray .int, 2) := by decide +kernel
theorem dX3_init_125 : decode cX3_init 125 = .ok (.putfield 40, 3) := by decide +kernel
theorem dX3_init_128 : decode cX3_init 128 = .ok (.return_, 1) := by decide +kernel
theorem dX3_till_0 : decode cX3_till 0 = .ok (.iload_n 1, 1) := by decide +kernel
theorem dX3_till_1 : decode cX3_till 1 = .ok (.invokestatic 44, 3) := by decide +kernel
theorem dX3_till_4 : decode cX3_till 4 = .ok (.ifCond .eq 13, 3) := by decide +kernel
theorem dX3_till_7 : decode cX3_till 7 = .ok (.iload_n 2, 1) := by decide +kernel
theorem dX3_till_8 : decode cX3_till 8 = .ok (.sipush 200, 3) := by decide +kernel
theorem dX3_till_11 : decode cX3_till 11 = .ok (.invokestatic 48, 3) := by decide +kernel
theorem dX3_till_14 : decode cX3_till 14 = .ok (.ifCond .ne 5, 3) := by decide +kernel
theorem dX3_till_17 : decode cX3_till 17 = .ok (.iconst (-1), 1) := by decide +kernel
theorem dX3_till_18 : decode cX3_till 18 = .ok (.ireturn, 1) := by decide +kernel
theorem dX3_till_19 : decode cX3_till 19 = .ok (.aload_n 0, 1) := by decide +kernel
theorem dX3_till_20 : decode cX3_till 20 = .ok (.getfield 11, 3) := by decide +kernel
theorem dX3_till_23 : decode cX3_till 23 = .ok (.iload_n 1, 1) := by decide +kernel
theorem dX3_till_24 : decode cX3_till 24 = .ok (.aaload, 1) := by decide +kernel
theorem dX3_till_25 : decode cX3_till 25 = .ok (.astore_n 3, 1) := by decide +kernel
theorem dX3_till_26 : decode cX3_till 26 = .ok (.aload_n 3, 1) := by decide +kernel
theorem dX3_till_27 : decode cX3_till 27 = .ok (.iconst 1, 1) := by decide +kernel
theorem dX3_till_28 : decode cX3_till 28 = .ok (.putfield 52, 3) := by decide +kernel
theorem dX3_till_31 : decode cX3_till 31 = .ok (.aload_n 3, 1) := by decide +kernel
theorem dX3_till_32 : decode cX3_till 32 = .ok (.iconst 0, 1) := by decide +kernel
theorem dX3_till_33 : decode cX3_till 33 = .ok (.putfield 56, 3) := by decide +kernel
theorem dX3_till_36 : decode cX3_till 36 = .ok (.aload_n 3, 1) := by decide +kernel
theorem dX3_till_37 : decode cX3_till 37 = .ok (.iload_n 2, 1) := by decide +kernel
theorem dX3_till_38 : decode cX3_till 38 = .ok (.putfield 59, 3) := by decide +kernel
theorem dX3_till_41 : decode cX3_till 41 = .ok (.aload_n 3, 1) := by decide +kernel
theorem dX3_till_42 : decode cX3_till 42 = .ok (.getfield 63, 3) := by decide +kernel
theorem dX3_till_45 : decode cX3_till 45 = .ok (.invokevirtual 66, 3) := by decide +kernel
theorem dX3_till_48 : decode cX3_till 48 = .ok (.iconst 1, 1) := by decide +kernel
theorem dX3_till_49 : decode cX3_till 49 = .ok (.ireturn, 1) := by decide +kernel
theorem dX3_drop_0 : decode cX3_drop 0 = .ok (.iload_n 1, 1) := by decide +kernel
theorem dX3_drop_1 : decode cX3_drop 1 = .ok (.invokestatic 44, 3) := by decide +kernel
theorem dX3_drop_4 : decode cX3_drop 4 = .ok (.ifCond .ne 5, 3) := by decide +kernel
theorem dX3_drop_7 : decode cX3_drop 7 = .ok (.iconst (-1), 1) := by decide +kernel
theorem dX3_drop_8 : decode cX3_drop 8 = .ok (.ireturn, 1) := by decide +kernel
theorem dX3_drop_9 : decode cX3_drop 9 = .ok (.aload_n 0, 1) := by decide +kernel
theorem dX3_drop_10 : decode cX3_drop 10 = .ok (.getfield 11, 3) := by decide +kernel
theorem dX3_drop_13 : decode cX3_drop 13 = .ok (.iload_n 1, 1) := by decide +kernel
theorem dX3_drop_14 : decode cX3_drop 14 = .ok (.aaload, 1) := by decide +kernel
theorem dX3_drop_15 : decode cX3_drop 15 = .ok (.getfield 52, 3) := by decide +kernel
theorem dX3_drop_18 : decode cX3_drop 18 = .ok (.ifCond .eq 7, 3) := by decide +kernel
theorem dX3_drop_21 : decode cX3_drop 21 = .ok (.iconst 1, 1) := by decide +kernel
theorem dX3_drop_22 : decode cX3_drop 22 = .ok (.goto 4, 3) := by decide +kernel
theorem dX3_drop_25 : decode cX3_drop 25 = .ok (.iconst 0, 1) := by decide +kernel
theorem dX3_drop_26 : decode cX3_drop 26 = .ok (.istore_n 2, 1) := by decide +kernel
theorem dX3_drop_27 : decode cX3_drop 27 = .ok (.aload_n 0, 1) := by decide +kernel
theorem dX3_drop_28 : decode cX3_drop 28 = .ok (.getfield 11, 3) := by decide +kernel
theorem dX3_drop_31 : decode cX3_drop 31 = .ok (.iload_n 1, 1) := by decide +kernel
theorem dX3_drop_32 : decode cX3_drop 32 = .ok (.aaload, 1) := by decide +kernel
theorem dX3_drop_33 : decode cX3_drop 33 = .ok (.iconst 0, 1) := by decide +kernel
theorem dX3_drop_34 : decode cX3_drop 34 = .ok (.putfield 52, 3) := by decide +kernel
theorem dX3_drop_37 : decode cX3_drop 37 = .ok (.iload_n 2, 1) := by decide +kernel
theorem dX3_drop_38 : decode cX3_drop 38 = .ok (.ireturn, 1) := by decide +kernel
theorem dX3_shut_0 : decode cX3_shut 0 = .ok (.iload_n 1, 1) := by decide +kernel
theorem dX3_shut_1 : decode cX3_shut 1 = .ok (.invokestatic 44, 3) := by decide +kernel
theorem dX3_shut_4 : decode cX3_shut 4 = .ok (.ifCond .ne 5, 3) := by decide +kernel
theorem dX3_shut_7 : decode cX3_shut 7 = .ok (.iconst (-1), 1) := by decide +kernel
theorem dX3_shut_8 : decode cX3_shut 8 = .ok (.ireturn, 1) := by decide +kernel
theorem dX3_shut_9 : decode cX3_shut 9 = .ok (.aload_n 0, 1) := by decide +kernel
theorem dX3_shut_10 : decode cX3_shut 10 = .ok (.getfield 11, 3) := by decide +kernel
theorem dX3_shut_13 : decode cX3_shut 13 = .ok (.iload_n 1, 1) := by decide +kernel
theorem dX3_shut_14 : decode cX3_shut 14 = .ok (.aaload, 1) := by decide +kernel
theorem dX3_shut_15 : decode cX3_shut 15 = .ok (.astore_n 3, 1) := by decide +kernel
theorem dX3_shut_16 : decode cX3_shut 16 = .ok (.aload_n 0, 1) := by decide +kernel
theorem dX3_shut_17 : decode cX3_shut 17 = .ok (.aload_n 3, 1) := by decide +kernel
theorem dX3_shut_18 : decode cX3_shut 18 = .ok (.invokevirtual 69, 3) := by decide +kernel
theorem dX3_shut_21 : decode cX3_shut 21 = .ok (.ifCond .ne 6, 3) := by decide +kernel
theorem dX3_shut_24 : decode cX3_shut 24 = .ok (.bipush (-11), 2) := by decide +kernel
theorem dX3_shut_26 : decode cX3_shut 26 = .ok (.ireturn, 1) := by decide +kernel
theorem dX3_shut_27 : decode cX3_shut 27 = .ok (.aload_n 3, 1) := by decide +kernel
theorem dX3_shut_28 : decode cX3_shut 28 = .ok (.getfield 56, 3) := by decide +kernel
theorem dX3_shut_31 : decode cX3_shut 31 = .ok (.ifCond .eq 7, 3) := by decide +kernel
theorem dX3_shut_34 : decode cX3_shut 34 = .ok (.iconst 1, 1) := by decide +kernel
theorem dX3_shut_35 : decode cX3_shut 35 = .ok (.goto 4, 3) := by decide +kernel
theorem dX3_shut_38 : decode cX3_shut 38 = .ok (.iconst 0, 1) := by decide +kernel
theorem dX3_shut_39 : decode cX3_shut 39 = .ok (.istore 4, 2) := by decide +kernel
theorem dX3_shut_41 : decode cX3_shut 41 = .ok (.aload_n 3, 1) := by decide +kernel
theorem dX3_shut_42 : decode cX3_shut 42 = .ok (.iload_n 2, 1) := by decide +kernel
theorem dX3_shut_43 : decode cX3_shut 43 = .ok (.putfield 56, 3) := by decide +kernel
theorem dX3_shut_46 : decode cX3_shut 46 = .ok (.aload_n 0, 1) := by decide +kernel
theorem dX3_shut_47 : decode cX3_shut 47 = .ok (.iload 4, 2) := by decide +kernel
theorem dX3_shut_49 : decode cX3_shut 49 = .ok (.invokevirtual 73, 3) := by decide +kernel
theorem dX3_shut_52 : decode cX3_shut 52 = .ok (.ireturn, 1) := by decide +kernel
theorem dX3_put_0 : decode cX3_put 0 = .ok (.iload_n 1, 1) := by decide +kernel
theorem dX3_put_1 : decode cX3_put 1 = .ok (.invokestatic 44, 3) := by decide +kernel
theorem dX3_put_4 : decode cX3_put 4 = .ok (.ifCond .eq 20, 3) := by decide +kernel
theorem dX3_put_7 : decode cX3_put 7 = .ok (.iload_n 2, 1) := by decide +kernel
theorem dX3_put_8 : decode cX3_put 8 = .ok (.invokestatic 77, 3) := by decide +kernel
theorem dX3_put_11 : decode cX3_put 11 = .ok (.ifCond .eq 13, 3) := by decide +kernel
theorem dX3_put_14 : decode cX3_put 14 = .ok (.iload_n 3, 1) := by decide +kernel
theorem dX3_put_15 : decode cX3_put 15 = .ok (.sipush 200, 3) := by decide +kernel
theorem dX3_put_18 : decode cX3_put 18 = .ok (.invokestatic 48, 3) := by decide +kernel
theorem dX3_put_21 : decode cX3_put 21 = .ok (.ifCond .ne 5, 3) := by decide +kernel
theorem dX3_put_24 : decode cX3_put 24 = .ok (.iconst (-1), 1) := by decide +kernel
theorem dX3_put_25 : decode cX3_put 25 = .ok (.ireturn, 1) := by decide +kernel
theorem dX3_put_26 : decode cX3_put 26 = .ok (.aload_n 0, 1) := by decide +kernel
theorem dX3_put_27 : decode cX3_put 27 = .ok (.getfield 11, 3) := by decide +kernel
theorem dX3_put_30 : decode cX3_put 30 = .ok (.iload_n 1, 1) := by decide +kernel
theorem dX3_put_31 : decode cX3_put 31 = .ok (.aaload, 1) := by decide +kernel
theorem dX3_put_32 : decode cX3_put 32 = .ok (.astore 4, 2) := by decide +kernel
theorem dX3_put_34 : decode cX3_put 34 = .ok (.aload_n 0, 1) := by decide +kernel
theorem dX3_put_35 : decode cX3_put 35 = .ok (.aload 4, 2) := by decide +kernel
theorem dX3_put_37 : decode cX3_put 37 = .ok (.invokevirtual 69, 3) := by decide +kernel
theorem dX3_put_40 : decode cX3_put 40 = .ok (.ifCond .ne 6, 3) := by decide +kernel
theorem dX3_put_43 : decode cX3_put 43 = .ok (.bipush (-11), 2) := by decide +kernel
theorem dX3_put_45 : decode cX3_put 45 = .ok (.ireturn, 1) := by decide +kernel
theorem dX3_put_46 : decode cX3_put 46 = .ok (.aload_n 0, 1) := by decide +kernel
theorem dX3_put_47 : decode cX3_put 47 = .ok (.getfield 30, 3) := by decide +kernel
theorem dX3_put_50 : decode cX3_put 50 = .ok (.invokevirtual 66, 3) := by decide +kernel
theorem dX3_put_53 : decode cX3_put 53 = .ok (.aload_n 0, 1) := by decide +kernel
theorem dX3_put_54 : decode cX3_put 54 = .ok (.getfield 30, 3) := by decide +kernel
theorem dX3_put_57 : decode cX3_put 57 = .ok (.getfield 80, 3) := by decide +kernel
theorem dX3_put_60 : decode cX3_put 60 = .ok (.iload_n 2, 1) := by decide +kernel
theorem dX3_put_61 : decode cX3_put 61 = .ok (.iload_n 3, 1) := by decide +kernel
theorem dX3_put_62 : decode cX3_put 62 = .ok (.iastore, 1) := by decide +kernel
theorem dX3_put_63 : decode cX3_put 63 = .ok (.aload_n 0, 1) := by decide +kernel
theorem dX3_put_64 : decode cX3_put 64 = .ok (.getfield 19, 3) := by decide +kernel
theorem dX3_put_67 : decode cX3_put 67 = .ok (.aload_n 0, 1) := by decide +kernel
theorem dX3_put_68 : decode cX3_put 68 = .ok (.getfield 30, 3) := by decide +kernel
theorem dX3_put_71 : decode cX3_put 71 = .ok (.invokevirtual 83, 3) := by decide +kernel
theorem dX3_put_74 : decode cX3_put 74 = .ok (.aload_n 0, 1) := by decide +kernel
theorem dX3_put_75 : decode cX3_put 75 = .ok (.aload_n 0, 1) := by decide +kernel
theorem dX3_put_76 : decode cX3_put 76 = .ok (.aload 4, 2) := by decide +kernel
theorem dX3_put_78 : decode cX3_put 78 = .ok (.invokevirtual 87, 3) := by decide +kernel
theorem dX3_put_81 : decode cX3_put 81 = .ok (.invokevirtual 73, 3) := by decide +kernel
theorem dX3_put_84 : decode cX3_put 84 = .ok (.ireturn, 1) := by decide +kernel
theorem dX3_take_0 : decode cX3_take 0 = .ok (.iload_n 1, 1) := by decide +kernel
theorem dX3_take_1 : decode cX3_take 1 = .ok (.invokestatic 44, 3) := by decide +kernel
theorem dX3_take_4 : decode cX3_take 4 = .ok (.ifCond .eq 13, 3) := by decide +kernel
theorem dX3_take_7 : decode cX3_take 7 = .ok (.iload_n 2, 1) := by decide +kernel
theorem dX3_take_8 : decode cX3_take 8 = .ok (.sipush 10000, 3) := by decide +kernel
theorem dX3_take_11 : decode cX3_take 11 = .ok (.invokestatic 48, 3) := by decide +kernel
theorem dX3_take_14 : decode cX3_take 14 = .ok (.ifCond .ne 5, 3) := by decide +kernel
theorem dX3_take_17 : decode cX3_take 17 = .ok (.iconst (-1), 1) := by decide +kernel
theorem dX3_take_18 : decode cX3_take 18 = .ok (.ireturn, 1) := by decide +kernel
theorem dX3_take_19 : decode cX3_take 19 = .ok (.aload_n 0, 1) := by decide +kernel
theorem dX3_take_20 : decode cX3_take 20 = .ok (.getfield 11, 3) := by decide +kernel
theorem dX3_take_23 : decode cX3_take 23 = .ok (.iload_n 1, 1) := by decide +kernel
theorem dX3_take_24 : decode cX3_take 24 = .ok (.aaload, 1) := by decide +kernel
theorem dX3_take_25 : decode cX3_take 25 = .ok (.astore_n 3, 1) := by decide +kernel
theorem dX3_take_26 : decode cX3_take 26 = .ok (.aload_n 0, 1) := by decide +kernel
theorem dX3_take_27 : decode cX3_take 27 = .ok (.aload_n 3, 1) := by decide +kernel
theorem dX3_take_28 : decode cX3_take 28 = .ok (.invokevirtual 69, 3) := by decide +kernel
theorem dX3_take_31 : decode cX3_take 31 = .ok (.ifCond .eq 16, 3) := by decide +kernel
theorem dX3_take_34 : decode cX3_take 34 = .ok (.aload_n 0, 1) := by decide +kernel
theorem dX3_take_35 : decode cX3_take 35 = .ok (.aload_n 0, 1) := by decide +kernel
theorem dX3_take_36 : decode cX3_take 36 = .ok (.aload_n 3, 1) := by decide +kernel
theorem dX3_take_37 : decode cX3_take 37 = .ok (.iload_n 2, 1) := by decide +kernel
theorem dX3_take_38 : decode cX3_take 38 = .ok (.invokevirtual 91, 3) := by decide +kernel
theorem dX3_take_41 : decode cX3_take 41 = .ok (.invokevirtual 73, 3) := by decide +kernel
theorem dX3_take_44 : decode cX3_take 44 = .ok (.goto 5, 3) := by decide +kernel
theorem dX3_take_47 : decode cX3_take 47 = .ok (.bipush (-11), 2) := by decide +kernel
theorem dX3_take_49 : decode cX3_take 49 = .ok (.ireturn, 1) := by decide +kernel
theorem dX3_move_0 : decode cX3_move 0 = .ok (.iload_n 1, 1) := by decide +kernel
theorem dX3_move_1 : decode cX3_move 1 = .ok (.invokestatic 44, 3) := by decide +kernel
theorem dX3_move_4 : decode cX3_move 4 = .ok (.ifCond .eq 20, 3) := by decide +kernel
theorem dX3_move_7 : decode cX3_move 7 = .ok (.iload_n 2, 1) := by decide +kernel
theorem dX3_move_8 : decode cX3_move 8 = .ok (.invokestatic 44, 3) := by decide +kernel
theorem dX3_move_11 : decode cX3_move 11 = .ok (.ifCond .eq 13, 3) := by decide +kernel
theorem dX3_move_14 : decode cX3_move 14 = .ok (.iload_n 3, 1) := by decide +kernel
theorem dX3_move_15 : decode cX3_move 15 = .ok (.sipush 10000, 3) := by decide +kernel
theorem dX3_move_18 : decode cX3_move 18 = .ok (.invokestatic 48, 3) := by decide +kernel
theorem dX3_move_21 : decode cX3_move 21 = .ok (.ifCond .ne 5, 3) := by decide +kernel
theorem dX3_move_24 : decode cX3_move 24 = .ok (.iconst (-1), 1) := by decide +kernel
theorem dX3_move_25 : decode cX3_move 25 = .ok (.ireturn, 1) := by decide +kernel
theorem dX3_move_26 : decode cX3_move 26 = .ok (.aload_n 0, 1) := by decide +kernel
theorem dX3_move_27 : decode cX3_move 27 = .ok (.getfield 11, 3) := by decide +kernel
theorem dX3_move_30 : decode cX3_move 30 = .ok (.iload_n 1, 1) := by decide +kernel
theorem dX3_move_31 : decode cX3_move 31 = .ok (.aaload, 1) := by decide +kernel
theorem dX3_move_32 : decode cX3_move 32 = .ok (.astore 5, 2) := by decide +kernel
theorem dX3_move_34 : decode cX3_move 34 = .ok (.aload_n 0, 1) := by decide +kernel
theorem dX3_move_35 : decode cX3_move 35 = .ok (.aload 5, 2) := by decide +kernel
theorem dX3_move_37 : decode cX3_move 37 = .ok (.invokevirtual 69, 3) := by decide +kernel
theorem dX3_move_40 : decode cX3_move 40 = .ok (.ifCond .eq 25, 3) := by decide +kernel
theorem dX3_move_43 : decode cX3_move 43 = .ok (.aload_n 0, 1) := by decide +kernel
theorem dX3_move_44 : decode cX3_move 44 = .ok (.aload_n 0, 1) := by decide +kernel
theorem dX3_move_45 : decode cX3_move 45 = .ok (.aload 5, 2) := by decide +kernel
theorem dX3_move_47 : decode cX3_move 47 = .ok (.aload_n 0, 1) := by decide +kernel
theorem dX3_move_48 : decode cX3_move 48 = .ok (.getfield 11, 3) := by decide +kernel
theorem dX3_move_51 : decode cX3_move 51 = .ok (.iload_n 2, 1) := by decide +kernel
theorem dX3_move_52 : decode cX3_move 52 = .ok (.aaload, 1) := by decide +kernel
theorem dX3_move_53 : decode cX3_move 53 = .ok (.iload_n 3, 1) := by decide +kernel
theorem dX3_move_54 : decode cX3_move 54 = .ok (.iload 4, 2) := by decide +kernel
theorem dX3_move_56 : decode cX3_move 56 = .ok (.invokevirtual 95, 3) := by decide +kernel
theorem dX3_move_59 : decode cX3_move 59 = .ok (.invokevirtual 73, 3) := by decide +kernel
theorem dX3_move_62 : decode cX3_move 62 = .ok (.goto 5, 3) := by decide +kernel
theorem dX3_move_65 : decode cX3_move 65 = .ok (.bipush (-11), 2) := by decide +kernel
theorem dX3_move_67 : decode cX3_move 67 = .ok (.ireturn, 1) := by decide +kernel
theorem dX3_pass_0 : decode cX3_pass 0 = .ok (.aload_n 0, 1) := by decide +kernel
theorem dX3_pass_1 : decode cX3_pass 1 = .ok (.iload_n 1, 1) := by decide +kernel
theorem dX3_pass_2 : decode cX3_pass 2 = .ok (.invokevirtual 99, 3) := by decide +kernel
theorem dX3_pass_5 : decode cX3_pass 5 = .ok (.istore 4, 2) := by decide +kernel
theorem dX3_pass_7 : decode cX3_pass 7 = .ok (.iload 4, 2) := by decide +kernel
theorem dX3_pass_9 : decode cX3_pass 9 = .ok (.iconst (-1), 1) := by decide +kernel
theorem dX3_pass_10 : decode cX3_pass 10 = .ok (.if_icmp .eq 13, 3) := by decide +kernel
theorem dX3_pass_13 : decode cX3_pass 13 = .ok (.iload_n 2, 1) := by decide +kernel
theorem dX3_pass_14 : decode cX3_pass 14 = .ok (.sipush 10000, 3) := by decide +kernel
theorem dX3_pass_17 : decode cX3_pass 17 = .ok (.invokestatic 48, 3) := by decide +kernel
theorem dX3_pass_20 : decode cX3_pass 20 = .ok (.ifCond .ne 5, 3) := by decide +kernel
theorem dX3_pass_23 : decode cX3_pass 23 = .ok (.iconst (-1), 1) := by decide +kernel
theorem dX3_pass_24 : decode cX3_pass 24 = .ok (.ireturn, 1) := by decide +kernel
theorem dX3_pass_25 : decode cX3_pass 25 = .ok (.aload_n 0, 1) := by decide +kernel
theorem dX3_pass_26 : decode cX3_pass 26 = .ok (.getfield 33, 3) := by decide +kernel
theorem dX3_pass_29 : decode cX3_pass 29 = .ok (.aload_n 0, 1) := by decide +kernel
theorem dX3_pass_30 : decode cX3_pass 30 = .ok (.getfield 19, 3) := by decide +kernel
theorem dX3_pass_33 : decode cX3_pass 33 = .ok (.invokevirtual 102, 3) := by decide +kernel
theorem dX3_pass_36 : decode cX3_pass 36 = .ok (.aload_n 0, 1) := by decide +kernel
theorem dX3_pass_37 : decode cX3_pass 37 = .ok (.iconst 0, 1) := by decide +kernel
theorem dX3_pass_38 : decode cX3_pass 38 = .ok (.iload 4, 2) := by decide +kernel
theorem dX3_pass_40 : decode cX3_pass 40 = .ok (.iload_n 2, 1) := by decide +kernel
theorem dX3_pass_41 : decode cX3_pass 41 = .ok (.iload_n 3, 1) := by decide +kernel
theorem dX3_pass_42 : decode cX3_pass 42 = .ok (.invokevirtual 105, 3) := by decide +kernel
theorem dX3_pass_45 : decode cX3_pass 45 = .ok (.istore 5, 2) := by decide +kernel
theorem dX3_pass_47 : decode cX3_pass 47 = .ok (.iload 5, 2) := by decide +kernel
theorem dX3_pass_49 : decode cX3_pass 49 = .ok (.ifCond .ge 18, 3) := by decide +kernel
theorem dX3_pass_52 : decode cX3_pass 52 = .ok (.iload_n 3, 1) := by decide +kernel
theorem dX3_pass_53 : decode cX3_pass 53 = .ok (.ifCond .eq 14, 3) := by decide +kernel
theorem dX3_pass_56 : decode cX3_pass 56 = .ok (.aload_n 0, 1) := by decide +kernel
theorem dX3_pass_57 : decode cX3_pass 57 = .ok (.getfield 19, 3) := by decide +kernel
theorem dX3_pass_60 : decode cX3_pass 60 = .ok (.aload_n 0, 1) := by decide +kernel
theorem dX3_pass_61 : decode cX3_pass 61 = .ok (.getfield 33, 3) := by decide +kernel
theorem dX3_pass_64 : decode cX3_pass 64 = .ok (.invokevirtual 102, 3) := by decide +kernel
theorem dX3_pass_67 : decode cX3_pass 67 = .ok (.iload 5, 2) := by decide +kernel
theorem dX3_pass_69 : decode cX3_pass 69 = .ok (.ireturn, 1) := by decide +kernel
theorem dX3_share_0 : decode cX3_share 0 = .ok (.iload_n 1, 1) := by decide +kernel
theorem dX3_share_1 : decode cX3_share 1 = .ok (.invokestatic 44, 3) := by decide +kernel
theorem dX3_share_4 : decode cX3_share 4 = .ok (.ifCond .eq 17, 3) := by decide +kernel
theorem dX3_share_7 : decode cX3_share 7 = .ok (.iload_n 2, 1) := by decide +kernel
theorem dX3_share_8 : decode cX3_share 8 = .ok (.invokestatic 44, 3) := by decide +kernel
theorem dX3_share_11 : decode cX3_share 11 = .ok (.ifCond .eq 10, 3) := by decide +kernel
theorem dX3_share_14 : decode cX3_share 14 = .ok (.iload_n 3, 1) := by decide +kernel
theorem dX3_share_15 : decode cX3_share 15 = .ok (.invokestatic 77, 3) := by decide +kernel
theorem dX3_share_18 : decode cX3_share 18 = .ok (.ifCond .ne 5, 3) := by decide +kernel
theorem dX3_share_21 : decode cX3_share 21 = .ok (.iconst (-1), 1) := by decide +kernel
theorem dX3_share_22 : decode cX3_share 22 = .ok (.ireturn, 1) := by decide +kernel
theorem dX3_share_23 : decode cX3_share 23 = .ok (.aload_n 0, 1) := by decide +kernel
theorem dX3_share_24 : decode cX3_share 24 = .ok (.getfield 11, 3) := by decide +kernel
theorem dX3_share_27 : decode cX3_share 27 = .ok (.iload_n 1, 1) := by decide +kernel
theorem dX3_share_28 : decode cX3_share 28 = .ok (.aaload, 1) := by decide +kernel
theorem dX3_share_29 : decode cX3_share 29 = .ok (.astore 4, 2) := by decide +kernel
theorem dX3_share_31 : decode cX3_share 31 = .ok (.aload_n 0, 1) := by decide +kernel
theorem dX3_share_32 : decode cX3_share 32 = .ok (.getfield 11, 3) := by decide +kernel
theorem dX3_share_35 : decode cX3_share 35 = .ok (.iload_n 2, 1) := by decide +kernel
theorem dX3_share_36 : decode cX3_share 36 = .ok (.aaload, 1) := by decide +kernel
theorem dX3_share_37 : decode cX3_share 37 = .ok (.astore 5, 2) := by decide +kernel
theorem dX3_share_39 : decode cX3_share 39 = .ok (.aload_n 0, 1) := by decide +kernel
theorem dX3_share_40 : decode cX3_share 40 = .ok (.aload 4, 2) := by decide +kernel
theorem dX3_share_42 : decode cX3_share 42 = .ok (.invokevirtual 69, 3) := by decide +kernel
theorem dX3_share_45 : decode cX3_share 45 = .ok (.ifCond .ne 6, 3) := by decide +kernel
theorem dX3_share_48 : decode cX3_share 48 = .ok (.bipush (-11), 2) := by decide +kernel
theorem dX3_share_50 : decode cX3_share 50 = .ok (.ireturn, 1) := by decide +kernel
theorem dX3_share_51 : decode cX3_share 51 = .ok (.aload_n 0, 1) := by decide +kernel
theorem dX3_share_52 : decode cX3_share 52 = .ok (.aload_n 0, 1) := by decide +kernel
theorem dX3_share_53 : decode cX3_share 53 = .ok (.aload 5, 2) := by decide +kernel
theorem dX3_share_55 : decode cX3_share 55 = .ok (.invokevirtual 69, 3) := by decide +kernel
theorem dX3_share_58 : decode cX3_share 58 = .ok (.ifCond .eq 18, 3) := by decide +kernel
theorem dX3_share_61 : decode cX3_share 61 = .ok (.aload_n 0, 1) := by decide +kernel
theorem dX3_share_62 : decode cX3_share 62 = .ok (.aload 4, 2) := by decide +kernel
theorem dX3_share_64 : decode cX3_share 64 = .ok (.aload 5, 2) := by decide +kernel
theorem dX3_share_66 : decode cX3_share 66 = .ok (.iload_n 3, 1) := by decide +kernel
theorem dX3_share_67 : decode cX3_share 67 = .ok (.invokestatic 109, 3) := by decide +kernel
theorem dX3_share_70 : decode cX3_share 70 = .ok (.invokevirtual 73, 3) := by decide +kernel
theorem dX3_share_73 : decode cX3_share 73 = .ok (.goto 5, 3) := by decide +kernel
theorem dX3_share_76 : decode cX3_share 76 = .ok (.bipush (-11), 2) := by decide +kernel
theorem dX3_share_78 : decode cX3_share 78 = .ok (.invokevirtual 73, 3) := by decide +kernel
theorem dX3_share_81 : decode cX3_share 81 = .ok (.ireturn, 1) := by decide +kernel
theorem dX3_first_0 : decode cX3_first 0 = .ok (.iload_n 1, 1) := by decide +kernel
theorem dX3_first_1 : decode cX3_first 1 = .ok (.sipush 10000, 3) := by decide +kernel
theorem dX3_first_4 : decode cX3_first 4 = .ok (.invokestatic 48, 3) := by decide +kernel
theorem dX3_first_7 : decode cX3_first 7 = .ok (.ifCond .ne 5, 3) := by decide +kernel
theorem dX3_first_10 : decode cX3_first 10 = .ok (.iconst (-1), 1) := by decide +kernel
theorem dX3_first_11 : decode cX3_first 11 = .ok (.ireturn, 1) := by decide +kernel
theorem dX3_first_12 : decode cX3_first 12 = .ok (.iconst 0, 1) := by decide +kernel
theorem dX3_first_13 : decode cX3_first 13 = .ok (.istore_n 2, 1) := by decide +kernel
theorem dX3_first_14 : decode cX3_first 14 = .ok (.iload_n 2, 1) := by decide +kernel
theorem dX3_first_15 : decode cX3_first 15 = .ok (.bipush 8, 2) := by decide +kernel
theorem dX3_first_17 : decode cX3_first 17 = .ok (.if_icmp .ge 25, 3) := by decide +kernel
theorem dX3_first_20 : decode cX3_first 20 = .ok (.aload_n 0, 1) := by decide +kernel
theorem dX3_first_21 : decode cX3_first 21 = .ok (.aload_n 0, 1) := by decide +kernel
theorem dX3_first_22 : decode cX3_first 22 = .ok (.getfield 11, 3) := by decide +kernel
theorem dX3_first_25 : decode cX3_first 25 = .ok (.iload_n 2, 1) := by decide +kernel
theorem dX3_first_26 : decode cX3_first 26 = .ok (.aaload, 1) := by decide +kernel
theorem dX3_first_27 : decode cX3_first 27 = .ok (.iload_n 1, 1) := by decide +kernel
theorem dX3_first_28 : decode cX3_first 28 = .ok (.invokevirtual 113, 3) := by decide +kernel
theorem dX3_first_31 : decode cX3_first 31 = .ok (.ifCond .eq 5, 3) := by decide +kernel
theorem dX3_first_34 : decode cX3_first 34 = .ok (.iload_n 2, 1) := by decide +kernel
theorem dX3_first_35 : decode cX3_first 35 = .ok (.ireturn, 1) := by decide +kernel
theorem dX3_first_36 : decode cX3_first 36 = .ok (.iinc 2 1, 3) := by decide +kernel
theorem dX3_first_39 : decode cX3_first 39 = .ok (.goto (-25), 3) := by decide +kernel
theorem dX3_first_42 : decode cX3_first 42 = .ok (.bipush (-2), 2) := by decide +kernel
theorem dX3_first_44 : decode cX3_first 44 = .ok (.ireturn, 1) := by decide +kernel
theorem dX3_look_0 : decode cX3_look 0 = .ok (.iload_n 1, 1) := by decide +kernel
theorem dX3_look_1 : decode cX3_look 1 = .ok (.invokestatic 44, 3) := by decide +kernel
theorem dX3_look_4 : decode cX3_look 4 = .ok (.ifCond .eq 12, 3) := by decide +kernel
theorem dX3_look_7 : decode cX3_look 7 = .ok (.iload_n 2, 1) := by decide +kernel
theorem dX3_look_8 : decode cX3_look 8 = .ok (.bipush 8, 2) := by decide +kernel
theorem dX3_look_10 : decode cX3_look 10 = .ok (.invokestatic 48, 3) := by decide +kernel
theorem dX3_look_13 : decode cX3_look 13 = .ok (.ifCond .ne 5, 3) := by decide +kernel
theorem dX3_look_16 : decode cX3_look 16 = .ok (.iconst (-1), 1) := by decide +kernel
theorem dX3_look_17 : decode cX3_look 17 = .ok (.ireturn, 1) := by decide +kernel
theorem dX3_look_18 : decode cX3_look 18 = .ok (.aload_n 0, 1) := by decide +kernel
theorem dX3_look_19 : decode cX3_look 19 = .ok (.getfield 11, 3) := by decide +kernel
theorem dX3_look_22 : decode cX3_look 22 = .ok (.iload_n 1, 1) := by decide +kernel
theorem dX3_look_23 : decode cX3_look 23 = .ok (.aaload, 1) := by decide +kernel
theorem dX3_look_24 : decode cX3_look 24 = .ok (.astore_n 3, 1) := by decide +kernel
theorem dX3_look_25 : decode cX3_look 25 = .ok (.aload_n 0, 1) := by decide +kernel
theorem dX3_look_26 : decode cX3_look 26 = .ok (.aload_n 3, 1) := by decide +kernel
theorem dX3_look_27 : decode cX3_look 27 = .ok (.invokevirtual 69, 3) := by decide +kernel
theorem dX3_look_30 : decode cX3_look 30 = .ok (.ifCond .eq 15, 3) := by decide +kernel
theorem dX3_look_33 : decode cX3_look 33 = .ok (.aload_n 0, 1) := by decide +kernel
theorem dX3_look_34 : decode cX3_look 34 = .ok (.aload_n 3, 1) := by decide +kernel
theorem dX3_look_35 : decode cX3_look 35 = .ok (.iload_n 2, 1) := by decide +kernel
theorem dX3_look_36 : decode cX3_look 36 = .ok (.invokevirtual 117, 3) := by decide +kernel
theorem dX3_look_39 : decode cX3_look 39 = .ok (.invokevirtual 73, 3) := by decide +kernel
theorem dX3_look_42 : decode cX3_look 42 = .ok (.goto 5, 3) := by decide +kernel
theorem dX3_look_45 : decode cX3_look 45 = .ok (.bipush (-11), 2) := by decide +kernel
theorem dX3_look_47 : decode cX3_look 47 = .ok (.ireturn, 1) := by decide +kernel
theorem dX3_hand_0 : decode cX3_hand 0 = .ok (.iload_n 1, 1) := by decide +kernel
theorem dX3_hand_1 : decode cX3_hand 1 = .ok (.bipush 6, 2) := by decide +kernel
theorem dX3_hand_3 : decode cX3_hand 3 = .ok (.invokestatic 48, 3) := by decide +kernel
theorem dX3_hand_6 : decode cX3_hand 6 = .ok (.ifCond .eq 14, 3) := by decide +kernel
theorem dX3_hand_9 : decode cX3_hand 9 = .ok (.aload_n 0, 1) := by decide +kernel
theorem dX3_hand_10 : decode cX3_hand 10 = .ok (.getfield 19, 3) := by decide +kernel
theorem dX3_hand_13 : decode cX3_hand 13 = .ok (.iload_n 1, 1) := by decide +kernel
theorem dX3_hand_14 : decode cX3_hand 14 = .ok (.invokevirtual 120, 3) := by decide +kernel
theorem dX3_hand_17 : decode cX3_hand 17 = .ok (.goto 4, 3) := by decide +kernel
theorem dX3_hand_20 : decode cX3_hand 20 = .ok (.iconst (-1), 1) := by decide +kernel
theorem dX3_hand_21 : decode cX3_hand 21 = .ok (.ireturn, 1) := by decide +kernel
theorem dX3_count_0 : decode cX3_count 0 = .ok (.iload_n 1, 1) := by decide +kernel
theorem dX3_count_1 : decode cX3_count 1 = .ok (.tableswitch 60 0 3 #[31, 39, 47, 55], 31) := by decide +kernel
theorem dX3_count_32 : decode cX3_count 32 = .ok (.aload_n 0, 1) := by decide +kernel
theorem dX3_count_33 : decode cX3_count 33 = .ok (.getfield 26, 3) := by decide +kernel
theorem dX3_count_36 : decode cX3_count 36 = .ok (.getfield 121, 3) := by decide +kernel
theorem dX3_count_39 : decode cX3_count 39 = .ok (.ireturn, 1) := by decide +kernel
theorem dX3_count_40 : decode cX3_count 40 = .ok (.aload_n 0, 1) := by decide +kernel
theorem dX3_count_41 : decode cX3_count 41 = .ok (.getfield 26, 3) := by decide +kernel
theorem dX3_count_44 : decode cX3_count 44 = .ok (.getfield 124, 3) := by decide +kernel
theorem dX3_count_47 : decode cX3_count 47 = .ok (.ireturn, 1) := by decide +kernel
theorem dX3_count_48 : decode cX3_count 48 = .ok (.aload_n 0, 1) := by decide +kernel
theorem dX3_count_49 : decode cX3_count 49 = .ok (.getfield 26, 3) := by decide +kernel
theorem dX3_count_52 : decode cX3_count 52 = .ok (.getfield 127, 3) := by decide +kernel
theorem dX3_count_55 : decode cX3_count 55 = .ok (.ireturn, 1) := by decide +kernel
theorem dX3_count_56 : decode cX3_count 56 = .ok (.aload_n 0, 1) := by decide +kernel
theorem dX3_count_57 : decode cX3_count 57 = .ok (.invokevirtual 130, 3) := by decide +kernel
theorem dX3_count_60 : decode cX3_count 60 = .ok (.ireturn, 1) := by decide +kernel
theorem dX3_count_61 : decode cX3_count 61 = .ok (.iconst (-1), 1) := by decide +kernel
theorem dX3_count_62 : decode cX3_count 62 = .ok (.ireturn, 1) := by decide +kernel
theorem dX3_isUpTo_0 : decode cX3_isUpTo 0 = .ok (.iload_n 0, 1) := by decide +kernel
theorem dX3_isUpTo_1 : decode cX3_isUpTo 1 = .ok (.ifCond .lt 12, 3) := by decide +kernel
theorem dX3_isUpTo_4 : decode cX3_isUpTo 4 = .ok (.iload_n 0, 1) := by decide +kernel
theorem dX3_isUpTo_5 : decode cX3_isUpTo 5 = .ok (.iload_n 1, 1) := by decide +kernel
theorem dX3_isUpTo_6 : decode cX3_isUpTo 6 = .ok (.if_icmp .gt 7, 3) := by decide +kernel
theorem dX3_isUpTo_9 : decode cX3_isUpTo 9 = .ok (.iconst 1, 1) := by decide +kernel
theorem dX3_isUpTo_10 : decode cX3_isUpTo 10 = .ok (.goto 4, 3) := by decide +kernel
theorem dX3_isUpTo_13 : decode cX3_isUpTo 13 = .ok (.iconst 0, 1) := by decide +kernel
theorem dX3_isUpTo_14 : decode cX3_isUpTo 14 = .ok (.ireturn, 1) := by decide +kernel
theorem dX3_isTill_0 : decode cX3_isTill 0 = .ok (.iload_n 0, 1) := by decide +kernel
theorem dX3_isTill_1 : decode cX3_isTill 1 = .ok (.ifCond .lt 13, 3) := by decide +kernel
theorem dX3_isTill_4 : decode cX3_isTill 4 = .ok (.iload_n 0, 1) := by decide +kernel
theorem dX3_isTill_5 : decode cX3_isTill 5 = .ok (.bipush 8, 2) := by decide +kernel
theorem dX3_isTill_7 : decode cX3_isTill 7 = .ok (.if_icmp .ge 7, 3) := by decide +kernel
theorem dX3_isTill_10 : decode cX3_isTill 10 = .ok (.iconst 1, 1) := by decide +kernel
theorem dX3_isTill_11 : decode cX3_isTill 11 = .ok (.goto 4, 3) := by decide +kernel
theorem dX3_isTill_14 : decode cX3_isTill 14 = .ok (.iconst 0, 1) := by decide +kernel
theorem dX3_isTill_15 : decode cX3_isTill 15 = .ok (.ireturn, 1) := by decide +kernel
theorem dX3_isKind_0 : decode cX3_isKind 0 = .ok (.iload_n 0, 1) := by decide +kernel
theorem dX3_isKind_1 : decode cX3_isKind 1 = .ok (.ifCond .lt 12, 3) := by decide +kernel
theorem dX3_isKind_4 : decode cX3_isKind 4 = .ok (.iload_n 0, 1) := by decide +kernel
theorem dX3_isKind_5 : decode cX3_isKind 5 = .ok (.iconst 5, 1) := by decide +kernel
theorem dX3_isKind_6 : decode cX3_isKind 6 = .ok (.if_icmp .ge 7, 3) := by decide +kernel
theorem dX3_isKind_9 : decode cX3_isKind 9 = .ok (.iconst 1, 1) := by decide +kernel
theorem dX3_isKind_10 : decode cX3_isKind 10 = .ok (.goto 4, 3) := by decide +kernel
theorem dX3_isKind_13 : decode cX3_isKind 13 = .ok (.iconst 0, 1) := by decide +kernel
theorem dX3_isKind_14 : decode cX3_isKind 14 = .ok (.ireturn, 1) := by decide +kernel
theorem dX3_tillsThere_0 : decode cX3_tillsThere 0 = .ok (.iconst 0, 1) := by decide +kernel
theorem dX3_tillsThere_1 : decode cX3_tillsThere 1 = .ok (.istore_n 1, 1) := by decide +kernel
theorem dX3_tillsThere_2 : decode cX3_tillsThere 2 = .ok (.iconst 0, 1) := by decide +kernel
theorem dX3_tillsThere_3 : decode cX3_tillsThere 3 = .ok (.istore_n 2, 1) := by decide +kernel
theorem dX3_tillsThere_4 : decode cX3_tillsThere 4 = .ok (.iload_n 2, 1) := by decide +kernel
theorem dX3_tillsThere_5 : decode cX3_tillsThere 5 = .ok (.bipush 8, 2) := by decide +kernel
theorem dX3_tillsThere_7 : decode cX3_tillsThere 7 = .ok (.if_icmp .ge 24, 3) := by decide +kernel
theorem dX3_tillsThere_10 : decode cX3_tillsThere 10 = .ok (.aload_n 0, 1) := by decide +kernel
theorem dX3_tillsThere_11 : decode cX3_tillsThere 11 = .ok (.getfield 11, 3) := by decide +kernel
theorem dX3_tillsThere_14 : decode cX3_tillsThere 14 = .ok (.iload_n 2, 1) := by decide +kernel
theorem dX3_tillsThere_15 : decode cX3_tillsThere 15 = .ok (.aaload, 1) := by decide +kernel
theorem dX3_tillsThere_16 : decode cX3_tillsThere 16 = .ok (.getfield 52, 3) := by decide +kernel
theorem dX3_tillsThere_19 : decode cX3_tillsThere 19 = .ok (.ifCond .eq 6, 3) := by decide +kernel
theorem dX3_tillsThere_22 : decode cX3_tillsThere 22 = .ok (.iinc 1 1, 3) := by decide +kernel
theorem dX3_tillsThere_25 : decode cX3_tillsThere 25 = .ok (.iinc 2 1, 3) := by decide +kernel
theorem dX3_tillsThere_28 : decode cX3_tillsThere 28 = .ok (.goto (-24), 3) := by decide +kernel
theorem dX3_tillsThere_31 : decode cX3_tillsThere 31 = .ok (.iload_n 1, 1) := by decide +kernel
theorem dX3_tillsThere_32 : decode cX3_tillsThere 32 = .ok (.ireturn, 1) := by decide +kernel
theorem dX3_begin_0 : decode cX3_begin 0 = .ok (.aload_n 1, 1) := by decide +kernel
theorem dX3_begin_1 : decode cX3_begin 1 = .ok (.getfield 52, 3) := by decide +kernel
theorem dX3_begin_4 : decode cX3_begin 4 = .ok (.ifCond .eq 10, 3) := by decide +kernel
theorem dX3_begin_7 : decode cX3_begin 7 = .ok (.aload_n 0, 1) := by decide +kernel
theorem dX3_begin_8 : decode cX3_begin 8 = .ok (.getfield 26, 3) := by decide +kernel
theorem dX3_begin_11 : decode cX3_begin 11 = .ok (.invokevirtual 134, 3) := by decide +kernel
theorem dX3_begin_14 : decode cX3_begin 14 = .ok (.aload_n 1, 1) := by decide +kernel
theorem dX3_begin_15 : decode cX3_begin 15 = .ok (.getfield 52, 3) := by decide +kernel
theorem dX3_begin_18 : decode cX3_begin 18 = .ok (.ireturn, 1) := by decide +kernel
theorem dX3_end_0 : decode cX3_end 0 = .ok (.aload_n 0, 1) := by decide +kernel
theorem dX3_end_1 : decode cX3_end 1 = .ok (.getfield 26, 3) := by decide +kernel
theorem dX3_end_4 : decode cX3_end 4 = .ok (.iload_n 1, 1) := by decide +kernel
theorem dX3_end_5 : decode cX3_end 5 = .ok (.ifCond .ge 7, 3) := by decide +kernel
theorem dX3_end_8 : decode cX3_end 8 = .ok (.iconst 1, 1) := by decide +kernel
theorem dX3_end_9 : decode cX3_end 9 = .ok (.goto 4, 3) := by decide +kernel
theorem dX3_end_12 : decode cX3_end 12 = .ok (.iconst 0, 1) := by decide +kernel
theorem dX3_end_13 : decode cX3_end 13 = .ok (.invokevirtual 136, 3) := by decide +kernel
theorem dX3_end_16 : decode cX3_end 16 = .ok (.iload_n 1, 1) := by decide +kernel
theorem dX3_end_17 : decode cX3_end 17 = .ok (.ireturn, 1) := by decide +kernel
theorem dX3_pick_0 : decode cX3_pick 0 = .ok (.iload_n 2, 1) := by decide +kernel
theorem dX3_pick_1 : decode cX3_pick 1 = .ok (.istore_n 3, 1) := by decide +kernel
theorem dX3_pick_2 : decode cX3_pick 2 = .ok (.iconst 4, 1) := by decide +kernel
theorem dX3_pick_3 : decode cX3_pick 3 = .ok (.istore 4, 2) := by decide +kernel
theorem dX3_pick_5 : decode cX3_pick 5 = .ok (.iload 4, 2) := by decide +kernel
theorem dX3_pick_7 : decode cX3_pick 7 = .ok (.ifCond .lt 58, 3) := by decide +kernel
theorem dX3_pick_10 : decode cX3_pick 10 = .ok (.aload_n 1, 1) := by decide +kernel
theorem dX3_pick_11 : decode cX3_pick 11 = .ok (.getfield 63, 3) := by decide +kernel
theorem dX3_pick_14 : decode cX3_pick 14 = .ok (.getfield 80, 3) := by decide +kernel
theorem dX3_pick_17 : decode cX3_pick 17 = .ok (.iload 4, 2) := by decide +kernel
theorem dX3_pick_19 : decode cX3_pick 19 = .ok (.iaload, 1) := by decide +kernel
theorem dX3_pick_20 : decode cX3_pick 20 = .ok (.iload_n 3, 1) := by decide +kernel
theorem dX3_pick_21 : decode cX3_pick 21 = .ok (.getstatic 139, 3) := by decide +kernel
theorem dX3_pick_24 : decode cX3_pick 24 = .ok (.iload 4, 2) := by decide +kernel
theorem dX3_pick_26 : decode cX3_pick 26 = .ok (.iaload, 1) := by decide +kernel
theorem dX3_pick_27 : decode cX3_pick 27 = .ok (.invokestatic 142, 3) := by decide +kernel
theorem dX3_pick_30 : decode cX3_pick 30 = .ok (.invokestatic 146, 3) := by decide +kernel
theorem dX3_pick_33 : decode cX3_pick 33 = .ok (.istore 5, 2) := by decide +kernel
theorem dX3_pick_35 : decode cX3_pick 35 = .ok (.aload_n 0, 1) := by decide +kernel
theorem dX3_pick_36 : decode cX3_pick 36 = .ok (.getfield 30, 3) := by decide +kernel
theorem dX3_pick_39 : decode cX3_pick 39 = .ok (.getfield 80, 3) := by decide +kernel
theorem dX3_pick_42 : decode cX3_pick 42 = .ok (.iload 4, 2) := by decide +kernel
theorem dX3_pick_44 : decode cX3_pick 44 = .ok (.iload 5, 2) := by decide +kernel
theorem dX3_pick_46 : decode cX3_pick 46 = .ok (.iastore, 1) := by decide +kernel
theorem dX3_pick_47 : decode cX3_pick 47 = .ok (.iload_n 3, 1) := by decide +kernel
theorem dX3_pick_48 : decode cX3_pick 48 = .ok (.iload 5, 2) := by decide +kernel
theorem dX3_pick_50 : decode cX3_pick 50 = .ok (.getstatic 139, 3) := by decide +kernel
theorem dX3_pick_53 : decode cX3_pick 53 = .ok (.iload 4, 2) := by decide +kernel
theorem dX3_pick_55 : decode cX3_pick 55 = .ok (.iaload, 1) := by decide +kernel
theorem dX3_pick_56 : decode cX3_pick 56 = .ok (.imul, 1) := by decide +kernel
theorem dX3_pick_57 : decode cX3_pick 57 = .ok (.isub, 1) := by decide +kernel
theorem dX3_pick_58 : decode cX3_pick 58 = .ok (.istore_n 3, 1) := by decide +kernel
theorem dX3_pick_59 : decode cX3_pick 59 = .ok (.iinc 4 (-1), 3) := by decide +kernel
theorem dX3_pick_62 : decode cX3_pick 62 = .ok (.goto (-57), 3) := by decide +kernel
theorem dX3_pick_65 : decode cX3_pick 65 = .ok (.iload_n 3, 1) := by decide +kernel
theorem dX3_pick_66 : decode cX3_pick 66 = .ok (.ifCond .ne 7, 3) := by decide +kernel
theorem dX3_pick_69 : decode cX3_pick 69 = .ok (.iconst 1, 1) := by decide +kernel
theorem dX3_pick_70 : decode cX3_pick 70 = .ok (.goto 4, 3) := by decide +kernel
theorem dX3_pick_73 : decode cX3_pick 73 = .ok (.iconst 0, 1) := by decide +kernel
theorem dX3_pick_74 : decode cX3_pick 74 = .ok (.ireturn, 1) := by decide +kernel
theorem dX3_howOftenIn_0 : decode cX3_howOftenIn 0 = .ok (.iload_n 1, 1) := by decide +kernel
theorem dX3_howOftenIn_1 : decode cX3_howOftenIn 1 = .ok (.ifCond .le 9, 3) := by decide +kernel
theorem dX3_howOftenIn_4 : decode cX3_howOftenIn 4 = .ok (.iload_n 0, 1) := by decide +kernel
theorem dX3_howOftenIn_5 : decode cX3_howOftenIn 5 = .ok (.iload_n 1, 1) := by decide +kernel
theorem dX3_howOftenIn_6 : decode cX3_howOftenIn 6 = .ok (.idiv, 1) := by decide +kernel
theorem dX3_howOftenIn_7 : decode cX3_howOftenIn 7 = .ok (.goto 4, 3) := by decide +kernel
theorem dX3_howOftenIn_10 : decode cX3_howOftenIn 10 = .ok (.iconst 0, 1) := by decide +kernel
theorem dX3_howOftenIn_11 : decode cX3_howOftenIn 11 = .ok (.ireturn, 1) := by decide +kernel
theorem dX3_couldPay_0 : decode cX3_couldPay 0 = .ok (.aload_n 0, 1) := by decide +kernel
theorem dX3_couldPay_1 : decode cX3_couldPay 1 = .ok (.aload_n 1, 1) := by decide +kernel
theorem dX3_couldPay_2 : decode cX3_couldPay 2 = .ok (.invokevirtual 69, 3) := by decide +kernel
theorem dX3_couldPay_5 : decode cX3_couldPay 5 = .ok (.ifCond .ne 5, 3) := by decide +kernel
theorem dX3_couldPay_8 : decode cX3_couldPay 8 = .ok (.iconst 0, 1) := by decide +kernel
theorem dX3_couldPay_9 : decode cX3_couldPay 9 = .ok (.ireturn, 1) := by decide +kernel
theorem dX3_couldPay_10 : decode cX3_couldPay 10 = .ok (.aload_n 1, 1) := by decide +kernel
theorem dX3_couldPay_11 : decode cX3_couldPay 11 = .ok (.getfield 56, 3) := by decide +kernel
theorem dX3_couldPay_14 : decode cX3_couldPay 14 = .ok (.ifCond .ne 16, 3) := by decide +kernel
theorem dX3_couldPay_17 : decode cX3_couldPay 17 = .ok (.aload_n 0, 1) := by decide +kernel
theorem dX3_couldPay_18 : decode cX3_couldPay 18 = .ok (.aload_n 1, 1) := by decide +kernel
theorem dX3_couldPay_19 : decode cX3_couldPay 19 = .ok (.iload_n 2, 1) := by decide +kernel
theorem dX3_couldPay_20 : decode cX3_couldPay 20 = .ok (.invokevirtual 151, 3) := by decide +kernel
theorem dX3_couldPay_23 : decode cX3_couldPay 23 = .ok (.ifCond .eq 7, 3) := by decide +kernel
theorem dX3_couldPay_26 : decode cX3_couldPay 26 = .ok (.iconst 1, 1) := by decide +kernel
theorem dX3_couldPay_27 : decode cX3_couldPay 27 = .ok (.goto 4, 3) := by decide +kernel
theorem dX3_couldPay_30 : decode cX3_couldPay 30 = .ok (.iconst 0, 1) := by decide +kernel
theorem dX3_couldPay_31 : decode cX3_couldPay 31 = .ok (.istore_n 3, 1) := by decide +kernel
theorem dX3_couldPay_32 : decode cX3_couldPay 32 = .ok (.aload_n 0, 1) := by decide +kernel
theorem dX3_couldPay_33 : decode cX3_couldPay 33 = .ok (.iconst 0, 1) := by decide +kernel
theorem dX3_couldPay_34 : decode cX3_couldPay 34 = .ok (.invokevirtual 73, 3) := by decide +kernel
theorem dX3_couldPay_37 : decode cX3_couldPay 37 = .ok (.pop, 1) := by decide +kernel
theorem dX3_couldPay_38 : decode cX3_couldPay 38 = .ok (.iload_n 3, 1) := by decide +kernel
theorem dX3_couldPay_39 : decode cX3_couldPay 39 = .ok (.ireturn, 1) := by decide +kernel
theorem dX3_pay_0 : decode cX3_pay 0 = .ok (.aload_n 1, 1) := by decide +kernel
theorem dX3_pay_1 : decode cX3_pay 1 = .ok (.getfield 56, 3) := by decide +kernel
theorem dX3_pay_4 : decode cX3_pay 4 = .ok (.ifCond .eq 6, 3) := by decide +kernel
theorem dX3_pay_7 : decode cX3_pay 7 = .ok (.bipush (-12), 2) := by decide +kernel
theorem dX3_pay_9 : decode cX3_pay 9 = .ok (.ireturn, 1) := by decide +kernel
theorem dX3_pay_10 : decode cX3_pay 10 = .ok (.aload_n 0, 1) := by decide +kernel
theorem dX3_pay_11 : decode cX3_pay 11 = .ok (.aload_n 1, 1) := by decide +kernel
theorem dX3_pay_12 : decode cX3_pay 12 = .ok (.iload_n 2, 1) := by decide +kernel
theorem dX3_pay_13 : decode cX3_pay 13 = .ok (.invokevirtual 151, 3) := by decide +kernel
theorem dX3_pay_16 : decode cX3_pay 16 = .ok (.ifCond .ne 6, 3) := by decide +kernel
theorem dX3_pay_19 : decode cX3_pay 19 = .ok (.bipush (-13), 2) := by decide +kernel
theorem dX3_pay_21 : decode cX3_pay 21 = .ok (.ireturn, 1) := by decide +kernel
theorem dX3_pay_22 : decode cX3_pay 22 = .ok (.aload_n 1, 1) := by decide +kernel
theorem dX3_pay_23 : decode cX3_pay 23 = .ok (.getfield 63, 3) := by decide +kernel
theorem dX3_pay_26 : decode cX3_pay 26 = .ok (.aload_n 0, 1) := by decide +kernel
theorem dX3_pay_27 : decode cX3_pay 27 = .ok (.getfield 30, 3) := by decide +kernel
theorem dX3_pay_30 : decode cX3_pay 30 = .ok (.invokevirtual 154, 3) := by decide +kernel
theorem dX3_pay_33 : decode cX3_pay 33 = .ok (.aload_n 0, 1) := by decide +kernel
theorem dX3_pay_34 : decode cX3_pay 34 = .ok (.getfield 19, 3) := by decide +kernel
theorem dX3_pay_37 : decode cX3_pay 37 = .ok (.aload_n 0, 1) := by decide +kernel
theorem dX3_pay_38 : decode cX3_pay 38 = .ok (.getfield 30, 3) := by decide +kernel
theorem dX3_pay_41 : decode cX3_pay 41 = .ok (.invokevirtual 83, 3) := by decide +kernel
theorem dX3_pay_44 : decode cX3_pay 44 = .ok (.aload_n 0, 1) := by decide +kernel
theorem dX3_pay_45 : decode cX3_pay 45 = .ok (.getfield 30, 3) := by decide +kernel
theorem dX3_pay_48 : decode cX3_pay 48 = .ok (.invokevirtual 157, 3) := by decide +kernel
theorem dX3_pay_51 : decode cX3_pay 51 = .ok (.ireturn, 1) := by decide +kernel
theorem dX3_layPicked_0 : decode cX3_layPicked 0 = .ok (.aload_n 1, 1) := by decide +kernel
theorem dX3_layPicked_1 : decode cX3_layPicked 1 = .ok (.getfield 56, 3) := by decide +kernel
theorem dX3_layPicked_4 : decode cX3_layPicked 4 = .ok (.ifCond .eq 6, 3) := by decide +kernel
theorem dX3_layPicked_7 : decode cX3_layPicked 7 = .ok (.bipush (-12), 2) := by decide +kernel
theorem dX3_layPicked_9 : decode cX3_layPicked 9 = .ok (.ireturn, 1) := by decide +kernel
theorem dX3_layPicked_10 : decode cX3_layPicked 10 = .ok (.aload_n 1, 1) := by decide +kernel
theorem dX3_layPicked_11 : decode cX3_layPicked 11 = .ok (.aload_n 0, 1) := by decide +kernel
theorem dX3_layPicked_12 : decode cX3_layPicked 12 = .ok (.getfield 30, 3) := by decide +kernel
theorem dX3_layPicked_15 : decode cX3_layPicked 15 = .ok (.invokevirtual 157, 3) := by decide +kernel
theorem dX3_layPicked_18 : decode cX3_layPicked 18 = .ok (.invokevirtual 160, 3) := by decide +kernel
theorem dX3_layPicked_21 : decode cX3_layPicked 21 = .ok (.ifCond .ne 6, 3) := by decide +kernel
theorem dX3_layPicked_24 : decode cX3_layPicked 24 = .ok (.bipush (-14), 2) := by decide +kernel
theorem dX3_layPicked_26 : decode cX3_layPicked 26 = .ok (.ireturn, 1) := by decide +kernel
theorem dX3_layPicked_27 : decode cX3_layPicked 27 = .ok (.aload_n 0, 1) := by decide +kernel
theorem dX3_layPicked_28 : decode cX3_layPicked 28 = .ok (.getfield 19, 3) := by decide +kernel
theorem dX3_layPicked_31 : decode cX3_layPicked 31 = .ok (.aload_n 0, 1) := by decide +kernel
theorem dX3_layPicked_32 : decode cX3_layPicked 32 = .ok (.getfield 30, 3) := by decide +kernel
theorem dX3_layPicked_35 : decode cX3_layPicked 35 = .ok (.invokevirtual 154, 3) := by decide +kernel
theorem dX3_layPicked_38 : decode cX3_layPicked 38 = .ok (.aload_n 1, 1) := by decide +kernel
theorem dX3_layPicked_39 : decode cX3_layPicked 39 = .ok (.getfield 63, 3) := by decide +kernel
theorem dX3_layPicked_42 : decode cX3_layPicked 42 = .ok (.aload_n 0, 1) := by decide +kernel
theorem dX3_layPicked_43 : decode cX3_layPicked 43 = .ok (.getfield 30, 3) := by decide +kernel
theorem dX3_layPicked_46 : decode cX3_layPicked 46 = .ok (.invokevirtual 83, 3) := by decide +kernel
theorem dX3_layPicked_49 : decode cX3_layPicked 49 = .ok (.aload_n 1, 1) := by decide +kernel
theorem dX3_layPicked_50 : decode cX3_layPicked 50 = .ok (.getfield 63, 3) := by decide +kernel
theorem dX3_layPicked_53 : decode cX3_layPicked 53 = .ok (.invokevirtual 157, 3) := by decide +kernel
theorem dX3_layPicked_56 : decode cX3_layPicked 56 = .ok (.ireturn, 1) := by decide +kernel
theorem dX3_moveWithin_0 : decode cX3_moveWithin 0 = .ok (.aload_n 0, 1) := by decide +kernel
theorem dX3_moveWithin_1 : decode cX3_moveWithin 1 = .ok (.aload_n 1, 1) := by decide +kernel
theorem dX3_moveWithin_2 : decode cX3_moveWithin 2 = .ok (.iload_n 3, 1) := by decide +kernel
theorem dX3_moveWithin_3 : decode cX3_moveWithin 3 = .ok (.invokevirtual 91, 3) := by decide +kernel
theorem dX3_moveWithin_6 : decode cX3_moveWithin 6 = .ok (.istore 5, 2) := by decide +kernel
theorem dX3_moveWithin_8 : decode cX3_moveWithin 8 = .ok (.iload 5, 2) := by decide +kernel
theorem dX3_moveWithin_10 : decode cX3_moveWithin 10 = .ok (.ifCond .ge 6, 3) := by decide +kernel
theorem dX3_moveWithin_13 : decode cX3_moveWithin 13 = .ok (.iload 5, 2) := by decide +kernel
theorem dX3_moveWithin_15 : decode cX3_moveWithin 15 = .ok (.ireturn, 1) := by decide +kernel
theorem dX3_moveWithin_16 : decode cX3_moveWithin 16 = .ok (.aload_n 0, 1) := by decide +kernel
theorem dX3_moveWithin_17 : decode cX3_moveWithin 17 = .ok (.aload_n 2, 1) := by decide +kernel
theorem dX3_moveWithin_18 : decode cX3_moveWithin 18 = .ok (.invokevirtual 69, 3) := by decide +kernel
theorem dX3_moveWithin_21 : decode cX3_moveWithin 21 = .ok (.ifCond .eq 15, 3) := by decide +kernel
theorem dX3_moveWithin_24 : decode cX3_moveWithin 24 = .ok (.aload_n 0, 1) := by decide +kernel
theorem dX3_moveWithin_25 : decode cX3_moveWithin 25 = .ok (.aload_n 0, 1) := by decide +kernel
theorem dX3_moveWithin_26 : decode cX3_moveWithin 26 = .ok (.aload_n 2, 1) := by decide +kernel
theorem dX3_moveWithin_27 : decode cX3_moveWithin 27 = .ok (.invokevirtual 87, 3) := by decide +kernel
theorem dX3_moveWithin_30 : decode cX3_moveWithin 30 = .ok (.invokevirtual 73, 3) := by decide +kernel
theorem dX3_moveWithin_33 : decode cX3_moveWithin 33 = .ok (.goto 5, 3) := by decide +kernel
theorem dX3_moveWithin_36 : decode cX3_moveWithin 36 = .ok (.bipush (-11), 2) := by decide +kernel
theorem dX3_moveWithin_38 : decode cX3_moveWithin 38 = .ok (.istore 6, 2) := by decide +kernel
theorem dX3_moveWithin_40 : decode cX3_moveWithin 40 = .ok (.iload 6, 2) := by decide +kernel
theorem dX3_moveWithin_42 : decode cX3_moveWithin 42 = .ok (.ifCond .lt 6, 3) := by decide +kernel
theorem dX3_moveWithin_45 : decode cX3_moveWithin 45 = .ok (.iload 5, 2) := by decide +kernel
theorem dX3_moveWithin_47 : decode cX3_moveWithin 47 = .ok (.ireturn, 1) := by decide +kernel
theorem dX3_moveWithin_48 : decode cX3_moveWithin 48 = .ok (.iload 4, 2) := by decide +kernel
theorem dX3_moveWithin_50 : decode cX3_moveWithin 50 = .ok (.ifCond .eq 25, 3) := by decide +kernel
theorem dX3_moveWithin_53 : decode cX3_moveWithin 53 = .ok (.aload_n 0, 1) := by decide +kernel
theorem dX3_moveWithin_54 : decode cX3_moveWithin 54 = .ok (.getfield 19, 3) := by decide +kernel
theorem dX3_moveWithin_57 : decode cX3_moveWithin 57 = .ok (.aload_n 0, 1) := by decide +kernel
theorem dX3_moveWithin_58 : decode cX3_moveWithin 58 = .ok (.getfield 30, 3) := by decide +kernel
theorem dX3_moveWithin_61 : decode cX3_moveWithin 61 = .ok (.invokevirtual 154, 3) := by decide +kernel
theorem dX3_moveWithin_64 : decode cX3_moveWithin 64 = .ok (.aload_n 1, 1) := by decide +kernel
theorem dX3_moveWithin_65 : decode cX3_moveWithin 65 = .ok (.getfield 63, 3) := by decide +kernel
theorem dX3_moveWithin_68 : decode cX3_moveWithin 68 = .ok (.aload_n 0, 1) := by decide +kernel
theorem dX3_moveWithin_69 : decode cX3_moveWithin 69 = .ok (.getfield 30, 3) := by decide +kernel
theorem dX3_moveWithin_72 : decode cX3_moveWithin 72 = .ok (.invokevirtual 83, 3) := by decide +kernel
theorem dX3_moveWithin_75 : decode cX3_moveWithin 75 = .ok (.iload 6, 2) := by decide +kernel
theorem dX3_moveWithin_77 : decode cX3_moveWithin 77 = .ok (.ireturn, 1) := by decide +kernel
theorem dX3_readRow_0 : decode cX3_readRow 0 = .ok (.iload_n 1, 1) := by decide +kernel
theorem dX3_readRow_1 : decode cX3_readRow 1 = .ok (.ldc 163, 2) := by decide +kernel
theorem dX3_readRow_3 : decode cX3_readRow 3 = .ok (.invokestatic 48, 3) := by decide +kernel
theorem dX3_readRow_6 : decode cX3_readRow 6 = .ok (.ifCond .ne 5, 3) := by decide +kernel
theorem dX3_readRow_9 : decode cX3_readRow 9 = .ok (.iconst (-1), 1) := by decide +kernel
theorem dX3_readRow_10 : decode cX3_readRow 10 = .ok (.ireturn, 1) := by decide +kernel
theorem dX3_readRow_11 : decode cX3_readRow 11 = .ok (.iload_n 1, 1) := by decide +kernel
theorem dX3_readRow_12 : decode cX3_readRow 12 = .ok (.invokestatic 164, 3) := by decide +kernel
theorem dX3_readRow_15 : decode cX3_readRow 15 = .ok (.istore_n 2, 1) := by decide +kernel
theorem dX3_readRow_16 : decode cX3_readRow 16 = .ok (.iload_n 1, 1) := by decide +kernel
theorem dX3_readRow_17 : decode cX3_readRow 17 = .ok (.istore_n 3, 1) := by decide +kernel
theorem dX3_readRow_18 : decode cX3_readRow 18 = .ok (.iload_n 2, 1) := by decide +kernel
theorem dX3_readRow_19 : decode cX3_readRow 19 = .ok (.iconst 1, 1) := by decide +kernel
theorem dX3_readRow_20 : decode cX3_readRow 20 = .ok (.isub, 1) := by decide +kernel
theorem dX3_readRow_21 : decode cX3_readRow 21 = .ok (.istore 4, 2) := by decide +kernel
theorem dX3_readRow_23 : decode cX3_readRow 23 = .ok (.iload 4, 2) := by decide +kernel
theorem dX3_readRow_25 : decode cX3_readRow 25 = .ok (.ifCond .lt 39, 3) := by decide +kernel
theorem dX3_readRow_28 : decode cX3_readRow 28 = .ok (.iload_n 3, 1) := by decide +kernel
theorem dX3_readRow_29 : decode cX3_readRow 29 = .ok (.bipush 10, 2) := by decide +kernel
theorem dX3_readRow_31 : decode cX3_readRow 31 = .ok (.irem, 1) := by decide +kernel
theorem dX3_readRow_32 : decode cX3_readRow 32 = .ok (.istore 5, 2) := by decide +kernel
theorem dX3_readRow_34 : decode cX3_readRow 34 = .ok (.iload 5, 2) := by decide +kernel
theorem dX3_readRow_36 : decode cX3_readRow 36 = .ok (.invokestatic 44, 3) := by decide +kernel
theorem dX3_readRow_39 : decode cX3_readRow 39 = .ok (.ifCond .ne 5, 3) := by decide +kernel
theorem dX3_readRow_42 : decode cX3_readRow 42 = .ok (.iconst (-1), 1) := by decide +kernel
theorem dX3_readRow_43 : decode cX3_readRow 43 = .ok (.ireturn, 1) := by decide +kernel
theorem dX3_readRow_44 : decode cX3_readRow 44 = .ok (.aload_n 0, 1) := by decide +kernel
theorem dX3_readRow_45 : decode cX3_readRow 45 = .ok (.getfield 40, 3) := by decide +kernel
theorem dX3_readRow_48 : decode cX3_readRow 48 = .ok (.iload 4, 2) := by decide +kernel
theorem dX3_readRow_50 : decode cX3_readRow 50 = .ok (.iload 5, 2) := by decide +kernel
theorem dX3_readRow_52 : decode cX3_readRow 52 = .ok (.iastore, 1) := by decide +kernel
theorem dX3_readRow_53 : decode cX3_readRow 53 = .ok (.iload_n 3, 1) := by decide +kernel
theorem dX3_readRow_54 : decode cX3_readRow 54 = .ok (.bipush 10, 2) := by decide +kernel
theorem dX3_readRow_56 : decode cX3_readRow 56 = .ok (.idiv, 1) := by decide +kernel
theorem dX3_readRow_57 : decode cX3_readRow 57 = .ok (.istore_n 3, 1) := by decide +kernel
theorem dX3_readRow_58 : decode cX3_readRow 58 = .ok (.iinc 4 (-1), 3) := by decide +kernel
theorem dX3_readRow_61 : decode cX3_readRow 61 = .ok (.goto (-38), 3) := by decide +kernel
theorem dX3_readRow_64 : decode cX3_readRow 64 = .ok (.iload_n 2, 1) := by decide +kernel
theorem dX3_readRow_65 : decode cX3_readRow 65 = .ok (.ireturn, 1) := by decide +kernel
theorem dX3_digitsOf_0 : decode cX3_digitsOf 0 = .ok (.iconst 1, 1) := by decide +kernel
theorem dX3_digitsOf_1 : decode cX3_digitsOf 1 = .ok (.istore_n 1, 1) := by decide +kernel
theorem dX3_digitsOf_2 : decode cX3_digitsOf 2 = .ok (.bipush 10, 2) := by decide +kernel
theorem dX3_digitsOf_4 : decode cX3_digitsOf 4 = .ok (.istore_n 2, 1) := by decide +kernel
theorem dX3_digitsOf_5 : decode cX3_digitsOf 5 = .ok (.iload_n 1, 1) := by decide +kernel
theorem dX3_digitsOf_6 : decode cX3_digitsOf 6 = .ok (.bipush 6, 2) := by decide +kernel
theorem dX3_digitsOf_8 : decode cX3_digitsOf 8 = .ok (.if_icmp .ge 19, 3) := by decide +kernel
theorem dX3_digitsOf_11 : decode cX3_digitsOf 11 = .ok (.iload_n 0, 1) := by decide +kernel
theorem dX3_digitsOf_12 : decode cX3_digitsOf 12 = .ok (.iload_n 2, 1) := by decide +kernel
theorem dX3_digitsOf_13 : decode cX3_digitsOf 13 = .ok (.if_icmp .lt 14, 3) := by decide +kernel
theorem dX3_digitsOf_16 : decode cX3_digitsOf 16 = .ok (.iinc 1 1, 3) := by decide +kernel
theorem dX3_digitsOf_19 : decode cX3_digitsOf 19 = .ok (.iload_n 2, 1) := by decide +kernel
theorem dX3_digitsOf_20 : decode cX3_digitsOf 20 = .ok (.bipush 10, 2) := by decide +kernel
theorem dX3_digitsOf_22 : decode cX3_digitsOf 22 = .ok (.imul, 1) := by decide +kernel
theorem dX3_digitsOf_23 : decode cX3_digitsOf 23 = .ok (.istore_n 2, 1) := by decide +kernel
theorem dX3_digitsOf_24 : decode cX3_digitsOf 24 = .ok (.goto (-19), 3) := by decide +kernel
theorem dX3_digitsOf_27 : decode cX3_digitsOf 27 = .ok (.iload_n 1, 1) := by decide +kernel
theorem dX3_digitsOf_28 : decode cX3_digitsOf 28 = .ok (.ireturn, 1) := by decide +kernel
theorem dX3_passFrom_0 : decode cX3_passFrom 0 = .ok (.iload_n 1, 1) := by decide +kernel
theorem dX3_passFrom_1 : decode cX3_passFrom 1 = .ok (.iload_n 2, 1) := by decide +kernel
theorem dX3_passFrom_2 : decode cX3_passFrom 2 = .ok (.if_icmp .ge 9, 3) := by decide +kernel
theorem dX3_passFrom_5 : decode cX3_passFrom 5 = .ok (.iload_n 1, 1) := by decide +kernel
theorem dX3_passFrom_6 : decode cX3_passFrom 6 = .ok (.bipush 6, 2) := by decide +kernel
theorem dX3_passFrom_8 : decode cX3_passFrom 8 = .ok (.if_icmp .lt 5, 3) := by decide +kernel
theorem dX3_passFrom_11 : decode cX3_passFrom 11 = .ok (.iload_n 2, 1) := by decide +kernel
theorem dX3_passFrom_12 : decode cX3_passFrom 12 = .ok (.ireturn, 1) := by decide +kernel
theorem dX3_passFrom_13 : decode cX3_passFrom 13 = .ok (.aload_n 0, 1) := by decide +kernel
theorem dX3_passFrom_14 : decode cX3_passFrom 14 = .ok (.getfield 11, 3) := by decide +kernel
theorem dX3_passFrom_17 : decode cX3_passFrom 17 = .ok (.aload_n 0, 1) := by decide +kernel
theorem dX3_passFrom_18 : decode cX3_passFrom 18 = .ok (.getfield 40, 3) := by decide +kernel
theorem dX3_passFrom_21 : decode cX3_passFrom 21 = .ok (.iload_n 1, 1) := by decide +kernel
theorem dX3_passFrom_22 : decode cX3_passFrom 22 = .ok (.iaload, 1) := by decide +kernel
theorem dX3_passFrom_23 : decode cX3_passFrom 23 = .ok (.aaload, 1) := by decide +kernel
theorem dX3_passFrom_24 : decode cX3_passFrom 24 = .ok (.astore 5, 2) := by decide +kernel
theorem dX3_passFrom_26 : decode cX3_passFrom 26 = .ok (.aload_n 0, 1) := by decide +kernel
theorem dX3_passFrom_27 : decode cX3_passFrom 27 = .ok (.aload 5, 2) := by decide +kernel
theorem dX3_passFrom_29 : decode cX3_passFrom 29 = .ok (.invokevirtual 69, 3) := by decide +kernel
theorem dX3_passFrom_32 : decode cX3_passFrom 32 = .ok (.ifCond .ne 6, 3) := by decide +kernel
theorem dX3_passFrom_35 : decode cX3_passFrom 35 = .ok (.bipush (-11), 2) := by decide +kernel
theorem dX3_passFrom_37 : decode cX3_passFrom 37 = .ok (.ireturn, 1) := by decide +kernel
theorem dX3_passFrom_38 : decode cX3_passFrom 38 = .ok (.aload_n 0, 1) := by decide +kernel
theorem dX3_passFrom_39 : decode cX3_passFrom 39 = .ok (.getfield 36, 3) := by decide +kernel
theorem dX3_passFrom_42 : decode cX3_passFrom 42 = .ok (.iload_n 1, 1) := by decide +kernel
theorem dX3_passFrom_43 : decode cX3_passFrom 43 = .ok (.aaload, 1) := by decide +kernel
theorem dX3_passFrom_44 : decode cX3_passFrom 44 = .ok (.aload 5, 2) := by decide +kernel
theorem dX3_passFrom_46 : decode cX3_passFrom 46 = .ok (.getfield 63, 3) := by decide +kernel
theorem dX3_passFrom_49 : decode cX3_passFrom 49 = .ok (.invokevirtual 102, 3) := by decide +kernel
theorem dX3_passFrom_52 : decode cX3_passFrom 52 = .ok (.aload_n 0, 1) := by decide +kernel
theorem dX3_passFrom_53 : decode cX3_passFrom 53 = .ok (.aload 5, 2) := by decide +kernel
theorem dX3_passFrom_55 : decode cX3_passFrom 55 = .ok (.iload_n 1, 1) := by decide +kernel
theorem dX3_passFrom_56 : decode cX3_passFrom 56 = .ok (.iload_n 2, 1) := by decide +kernel
theorem dX3_passFrom_57 : decode cX3_passFrom 57 = .ok (.iload_n 3, 1) := by decide +kernel
theorem dX3_passFrom_58 : decode cX3_passFrom 58 = .ok (.iload 4, 2) := by decide +kernel
theorem dX3_passFrom_60 : decode cX3_passFrom 60 = .ok (.invokevirtual 167, 3) := by decide +kernel
theorem dX3_passFrom_63 : decode cX3_passFrom 63 = .ok (.istore 6, 2) := by decide +kernel
theorem dX3_passFrom_65 : decode cX3_passFrom 65 = .ok (.iload 6, 2) := by decide +kernel
theorem dX3_passFrom_67 : decode cX3_passFrom 67 = .ok (.ifCond .ge 22, 3) := by decide +kernel
theorem dX3_passFrom_70 : decode cX3_passFrom 70 = .ok (.iload 4, 2) := by decide +kernel
theorem dX3_passFrom_72 : decode cX3_passFrom 72 = .ok (.ifCond .eq 17, 3) := by decide +kernel
theorem dX3_passFrom_75 : decode cX3_passFrom 75 = .ok (.aload 5, 2) := by decide +kernel
theorem dX3_passFrom_77 : decode cX3_passFrom 77 = .ok (.getfield 63, 3) := by decide +kernel
theorem dX3_passFrom_80 : decode cX3_passFrom 80 = .ok (.aload_n 0, 1) := by decide +kernel
theorem dX3_passFrom_81 : decode cX3_passFrom 81 = .ok (.getfield 36, 3) := by decide +kernel
theorem dX3_passFrom_84 : decode cX3_passFrom 84 = .ok (.iload_n 1, 1) := by decide +kernel
theorem dX3_passFrom_85 : decode cX3_passFrom 85 = .ok (.aaload, 1) := by decide +kernel
theorem dX3_passFrom_86 : decode cX3_passFrom 86 = .ok (.invokevirtual 102, 3) := by decide +kernel
theorem dX3_passFrom_89 : decode cX3_passFrom 89 = .ok (.aload_n 0, 1) := by decide +kernel
theorem dX3_passFrom_90 : decode cX3_passFrom 90 = .ok (.iload 6, 2) := by decide +kernel
theorem dX3_passFrom_92 : decode cX3_passFrom 92 = .ok (.invokevirtual 73, 3) := by decide +kernel
theorem dX3_passFrom_95 : decode cX3_passFrom 95 = .ok (.ireturn, 1) := by decide +kernel
theorem dX3_passWithin_0 : decode cX3_passWithin 0 = .ok (.iload_n 2, 1) := by decide +kernel
theorem dX3_passWithin_1 : decode cX3_passWithin 1 = .ok (.ifCond .ne 7, 3) := by decide +kernel
theorem dX3_passWithin_4 : decode cX3_passWithin 4 = .ok (.iconst 1, 1) := by decide +kernel
theorem dX3_passWithin_5 : decode cX3_passWithin 5 = .ok (.goto 4, 3) := by decide +kernel
theorem dX3_passWithin_8 : decode cX3_passWithin 8 = .ok (.iconst 0, 1) := by decide +kernel
theorem dX3_passWithin_9 : decode cX3_passWithin 9 = .ok (.istore 6, 2) := by decide +kernel
theorem dX3_passWithin_11 : decode cX3_passWithin 11 = .ok (.iload_n 2, 1) := by decide +kernel
theorem dX3_passWithin_12 : decode cX3_passWithin 12 = .ok (.iload_n 3, 1) := by decide +kernel
theorem dX3_passWithin_13 : decode cX3_passWithin 13 = .ok (.iconst 1, 1) := by decide +kernel
theorem dX3_passWithin_14 : decode cX3_passWithin 14 = .ok (.isub, 1) := by decide +kernel
theorem dX3_passWithin_15 : decode cX3_passWithin 15 = .ok (.if_icmp .ne 7, 3) := by decide +kernel
theorem dX3_passWithin_18 : decode cX3_passWithin 18 = .ok (.iconst 1, 1) := by decide +kernel
theorem dX3_passWithin_19 : decode cX3_passWithin 19 = .ok (.goto 4, 3) := by decide +kernel
theorem dX3_passWithin_22 : decode cX3_passWithin 22 = .ok (.iconst 0, 1) := by decide +kernel
theorem dX3_passWithin_23 : decode cX3_passWithin 23 = .ok (.istore 7, 2) := by decide +kernel
theorem dX3_passWithin_25 : decode cX3_passWithin 25 = .ok (.iload 6, 2) := by decide +kernel
theorem dX3_passWithin_27 : decode cX3_passWithin 27 = .ok (.ifCond .eq 7, 3) := by decide +kernel
theorem dX3_passWithin_30 : decode cX3_passWithin 30 = .ok (.iconst 0, 1) := by decide +kernel
theorem dX3_passWithin_31 : decode cX3_passWithin 31 = .ok (.goto 8, 3) := by decide +kernel
theorem dX3_passWithin_34 : decode cX3_passWithin 34 = .ok (.aload_n 0, 1) := by decide +kernel
theorem dX3_passWithin_35 : decode cX3_passWithin 35 = .ok (.aload_n 1, 1) := by decide +kernel
theorem dX3_passWithin_36 : decode cX3_passWithin 36 = .ok (.invokevirtual 87, 3) := by decide +kernel
theorem dX3_passWithin_39 : decode cX3_passWithin 39 = .ok (.istore 8, 2) := by decide +kernel
theorem dX3_passWithin_41 : decode cX3_passWithin 41 = .ok (.iload 8, 2) := by decide +kernel
theorem dX3_passWithin_43 : decode cX3_passWithin 43 = .ok (.ifCond .lt 22, 3) := by decide +kernel
theorem dX3_passWithin_46 : decode cX3_passWithin 46 = .ok (.iload 6, 2) := by decide +kernel
theorem dX3_passWithin_48 : decode cX3_passWithin 48 = .ok (.ifCond .ne 8, 3) := by decide +kernel
theorem dX3_passWithin_51 : decode cX3_passWithin 51 = .ok (.iload 7, 2) := by decide +kernel
theorem dX3_passWithin_53 : decode cX3_passWithin 53 = .ok (.ifCond .ne 12, 3) := by decide +kernel
theorem dX3_passWithin_56 : decode cX3_passWithin 56 = .ok (.aload_n 0, 1) := by decide +kernel
theorem dX3_passWithin_57 : decode cX3_passWithin 57 = .ok (.aload_n 1, 1) := by decide +kernel
theorem dX3_passWithin_58 : decode cX3_passWithin 58 = .ok (.iload 4, 2) := by decide +kernel
theorem dX3_passWithin_60 : decode cX3_passWithin 60 = .ok (.invokevirtual 91, 3) := by decide +kernel
theorem dX3_passWithin_63 : decode cX3_passWithin 63 = .ok (.istore 8, 2) := by decide +kernel
theorem dX3_passWithin_65 : decode cX3_passWithin 65 = .ok (.iload 8, 2) := by decide +kernel
theorem dX3_passWithin_67 : decode cX3_passWithin 67 = .ok (.ifCond .ge 8, 3) := by decide +kernel
theorem dX3_passWithin_70 : decode cX3_passWithin 70 = .ok (.iload 8, 2) := by decide +kernel
theorem dX3_passWithin_72 : decode cX3_passWithin 72 = .ok (.goto 15, 3) := by decide +kernel
theorem dX3_passWithin_75 : decode cX3_passWithin 75 = .ok (.aload_n 0, 1) := by decide +kernel
theorem dX3_passWithin_76 : decode cX3_passWithin 76 = .ok (.iload_n 2, 1) := by decide +kernel
theorem dX3_passWithin_77 : decode cX3_passWithin 77 = .ok (.iconst 1, 1) := by decide +kernel
theorem dX3_passWithin_78 : decode cX3_passWithin 78 = .ok (.iadd, 1) := by decide +kernel
theorem dX3_passWithin_79 : decode cX3_passWithin 79 = .ok (.iload_n 3, 1) := by decide +kernel
theorem dX3_passWithin_80 : decode cX3_passWithin 80 = .ok (.iload 4, 2) := by decide +kernel
theorem dX3_passWithin_82 : decode cX3_passWithin 82 = .ok (.iload 5, 2) := by decide +kernel
theorem dX3_passWithin_84 : decode cX3_passWithin 84 = .ok (.invokevirtual 105, 3) := by decide +kernel
theorem dX3_passWithin_87 : decode cX3_passWithin 87 = .ok (.ireturn, 1) := by decide +kernel
theorem dX3_halve_0 : decode cX3_halve 0 = .ok (.aload_n 0, 1) := by decide +kernel
theorem dX3_halve_1 : decode cX3_halve 1 = .ok (.getfield 56, 3) := by decide +kernel
theorem dX3_halve_4 : decode cX3_halve 4 = .ok (.ifCond .ne 10, 3) := by decide +kernel
theorem dX3_halve_7 : decode cX3_halve 7 = .ok (.aload_n 1, 1) := by decide +kernel
theorem dX3_halve_8 : decode cX3_halve 8 = .ok (.getfield 56, 3) := by decide +kernel
theorem dX3_halve_11 : decode cX3_halve 11 = .ok (.ifCond .eq 6, 3) := by decide +kernel
theorem dX3_halve_14 : decode cX3_halve 14 = .ok (.bipush (-12), 2) := by decide +kernel
theorem dX3_halve_16 : decode cX3_halve 16 = .ok (.ireturn, 1) := by decide +kernel
theorem dX3_halve_17 : decode cX3_halve 17 = .ok (.aload_n 0, 1) := by decide +kernel
theorem dX3_halve_18 : decode cX3_halve 18 = .ok (.getfield 63, 3) := by decide +kernel
theorem dX3_halve_21 : decode cX3_halve 21 = .ok (.getfield 80, 3) := by decide +kernel
theorem dX3_halve_24 : decode cX3_halve 24 = .ok (.iload_n 2, 1) := by decide +kernel
theorem dX3_halve_25 : decode cX3_halve 25 = .ok (.iaload, 1) := by decide +kernel
theorem dX3_halve_26 : decode cX3_halve 26 = .ok (.aload_n 1, 1) := by decide +kernel
theorem dX3_halve_27 : decode cX3_halve 27 = .ok (.getfield 63, 3) := by decide +kernel
theorem dX3_halve_30 : decode cX3_halve 30 = .ok (.getfield 80, 3) := by decide +kernel
theorem dX3_halve_33 : decode cX3_halve 33 = .ok (.iload_n 2, 1) := by decide +kernel
theorem dX3_halve_34 : decode cX3_halve 34 = .ok (.iaload, 1) := by decide +kernel
theorem dX3_halve_35 : decode cX3_halve 35 = .ok (.isub, 1) := by decide +kernel
theorem dX3_halve_36 : decode cX3_halve 36 = .ok (.iconst 2, 1) := by decide +kernel
theorem dX3_halve_37 : decode cX3_halve 37 = .ok (.idiv, 1) := by decide +kernel
theorem dX3_halve_38 : decode cX3_halve 38 = .ok (.istore_n 3, 1) := by decide +kernel
theorem dX3_halve_39 : decode cX3_halve 39 = .ok (.iload_n 3, 1) := by decide +kernel
theorem dX3_halve_40 : decode cX3_halve 40 = .ok (.ifCond .ge 14, 3) := by decide +kernel
theorem dX3_halve_43 : decode cX3_halve 43 = .ok (.aload_n 1, 1) := by decide +kernel
theorem dX3_halve_44 : decode cX3_halve 44 = .ok (.aload_n 0, 1) := by decide +kernel
theorem dX3_halve_45 : decode cX3_halve 45 = .ok (.iload_n 2, 1) := by decide +kernel
theorem dX3_halve_46 : decode cX3_halve 46 = .ok (.iload_n 3, 1) := by decide +kernel
theorem dX3_halve_47 : decode cX3_halve 47 = .ok (.ineg, 1) := by decide +kernel
theorem dX3_halve_48 : decode cX3_halve 48 = .ok (.invokestatic 171, 3) := by decide +kernel
theorem dX3_halve_51 : decode cX3_halve 51 = .ok (.goto 10, 3) := by decide +kernel
theorem dX3_halve_54 : decode cX3_halve 54 = .ok (.aload_n 0, 1) := by decide +kernel
theorem dX3_halve_55 : decode cX3_halve 55 = .ok (.aload_n 1, 1) := by decide +kernel
theorem dX3_halve_56 : decode cX3_halve 56 = .ok (.iload_n 2, 1) := by decide +kernel
theorem dX3_halve_57 : decode cX3_halve 57 = .ok (.iload_n 3, 1) := by decide +kernel
theorem dX3_halve_58 : decode cX3_halve 58 = .ok (.invokestatic 171, 3) := by decide +kernel
theorem dX3_halve_61 : decode cX3_halve 61 = .ok (.ireturn, 1) := by decide +kernel
theorem dX3_give_0 : decode cX3_give 0 = .ok (.aload_n 1, 1) := by decide +kernel
theorem dX3_give_1 : decode cX3_give 1 = .ok (.iload_n 3, 1) := by decide +kernel
theorem dX3_give_2 : decode cX3_give 2 = .ok (.invokevirtual 160, 3) := by decide +kernel
theorem dX3_give_5 : decode cX3_give 5 = .ok (.ifCond .ne 6, 3) := by decide +kernel
theorem dX3_give_8 : decode cX3_give 8 = .ok (.bipush (-14), 2) := by decide +kernel
theorem dX3_give_10 : decode cX3_give 10 = .ok (.ireturn, 1) := by decide +kernel
theorem dX3_give_11 : decode cX3_give 11 = .ok (.aload_n 0, 1) := by decide +kernel
theorem dX3_give_12 : decode cX3_give 12 = .ok (.getfield 63, 3) := by decide +kernel
theorem dX3_give_15 : decode cX3_give 15 = .ok (.getfield 80, 3) := by decide +kernel
theorem dX3_give_18 : decode cX3_give 18 = .ok (.iload_n 2, 1) := by decide +kernel
theorem dX3_give_19 : decode cX3_give 19 = .ok (.dup2, 1) := by decide +kernel
theorem dX3_give_20 : decode cX3_give 20 = .ok (.iaload, 1) := by decide +kernel
theorem dX3_give_21 : decode cX3_give 21 = .ok (.iload_n 3, 1) := by decide +kernel
theorem dX3_give_22 : decode cX3_give 22 = .ok (.isub, 1) := by decide +kernel
theorem dX3_give_23 : decode cX3_give 23 = .ok (.iastore, 1) := by decide +kernel
theorem dX3_give_24 : decode cX3_give 24 = .ok (.aload_n 1, 1) := by decide +kernel
theorem dX3_give_25 : decode cX3_give 25 = .ok (.getfield 63, 3) := by decide +kernel
theorem dX3_give_28 : decode cX3_give 28 = .ok (.getfield 80, 3) := by decide +kernel
theorem dX3_give_31 : decode cX3_give 31 = .ok (.iload_n 2, 1) := by decide +kernel
theorem dX3_give_32 : decode cX3_give 32 = .ok (.dup2, 1) := by decide +kernel
theorem dX3_give_33 : decode cX3_give 33 = .ok (.iaload, 1) := by decide +kernel
theorem dX3_give_34 : decode cX3_give 34 = .ok (.iload_n 3, 1) := by decide +kernel
theorem dX3_give_35 : decode cX3_give 35 = .ok (.iadd, 1) := by decide +kernel
theorem dX3_give_36 : decode cX3_give 36 = .ok (.iastore, 1) := by decide +kernel
theorem dX3_give_37 : decode cX3_give 37 = .ok (.iload_n 3, 1) := by decide +kernel
theorem dX3_give_38 : decode cX3_give 38 = .ok (.ireturn, 1) := by decide +kernel
