theorem dX4_init_0 : decode cX4_init 0 = .ok (.aload_n 0, 1) := by decide +kernel
theorem dX4_init_1 : decode cX4_init 1 = .ok (.invokespecial 1, 3) := by decide +kernel
theorem dX4_init_4 : decode cX4_init 4 = .ok (.aload_n 0, 1) := by decide +kernel
theorem dX4_init_5 : decode cX4_init 5 = .ok (.bipush 8, 2) := by decide +kernel
theorem dX4_init_7 : decode cX4_init 7 = .ok (.newarray .boolean, 2) := by decide +kernel
theorem dX4_init_9 : decode cX4_init 9 = .ok (.putfield 7, 3) := by decide +kernel
theorem dX4_init_12 : decode cX4_init 12 = .ok (.aload_n 0, 1) := by decide +kernel
theorem dX4_init_13 : decode cX4_init 13 = .ok (.bipush 8, 2) := by decide +kernel
theorem dX4_init_15 : decode cX4_init 15 = .ok (.newarray .boolean, 2) := by decide +kernel
theorem dX4_init_17 : decode cX4_init 17 = .ok (.putfield 13, 3) := by decide +kernel
theorem dX4_init_20 : decode cX4_init 20 = .ok (.aload_n 0, 1) := by decide +kernel
theorem dX4_init_21 : decode cX4_init 21 = .ok (.bipush 8, 2) := by decide +kernel
theorem dX4_init_23 : decode cX4_init 23 = .ok (.newarray .int, 2) := by decide +kernel
theorem dX4_init_25 : decode cX4_init 25 = .ok (.putfield 16, 3) := by decide +kernel
theorem dX4_init_28 : decode cX4_init 28 = .ok (.aload_n 0, 1) := by decide +kernel
theorem dX4_init_29 : decode cX4_init 29 = .ok (.bipush 45, 2) := by decide +kernel
theorem dX4_init_31 : decode cX4_init 31 = .ok (.newarray .int, 2) := by decide +kernel
theorem dX4_init_33 : decode cX4_init 33 = .ok (.putfield 20, 3) := by decide +kernel
theorem dX4_init_36 : decode cX4_init 36 = .ok (.aload_n 0, 1) := by decide +kernel
theorem dX4_init_37 : decode cX4_init 37 = .ok (.iconst 5, 1) := by decide +kernel
theorem dX4_init_38 : decode cX4_init 38 = .ok (.newarray .int, 2) := by decide +kernel
theorem dX4_init_40 : decode cX4_init 40 = .ok (.putfield 23, 3) := by decide +kernel
theorem dX4_init_43 : decode cX4_init 43 = .ok (.aload_n 0, 1) := by decide +kernel
theorem dX4_init_44 : decode cX4_init 44 = .ok (.bipush 35, 2) := by decide +kernel
theorem dX4_init_46 : decode cX4_init 46 = .ok (.newarray .int, 2) := by decide +kernel
theorem dX4_init_48 : decode cX4_init 48 = .ok (.putfield 26, 3) := by decide +kernel
theorem dX4_init_51 : decode cX4_init 51 = .ok (.return_, 1) := by decide +kernel
theorem dX4_in_0 : decode cX4_in 0 = .ok (.iload_n 0, 1) := by decide +kernel
theorem dX4_in_1 : decode cX4_in 1 = .ok (.iload_n 1, 1) := by decide +kernel
theorem dX4_in_2 : decode cX4_in 2 = .ok (.if_icmp .lt 12, 3) := by decide +kernel
theorem dX4_in_5 : decode cX4_in 5 = .ok (.iload_n 0, 1) := by decide +kernel
theorem dX4_in_6 : decode cX4_in 6 = .ok (.iload_n 2, 1) := by decide +kernel
theorem dX4_in_7 : decode cX4_in 7 = .ok (.if_icmp .gt 7, 3) := by decide +kernel
theorem dX4_in_10 : decode cX4_in 10 = .ok (.iconst 1, 1) := by decide +kernel
theorem dX4_in_11 : decode cX4_in 11 = .ok (.goto 4, 3) := by decide +kernel
theorem dX4_in_14 : decode cX4_in 14 = .ok (.iconst 0, 1) := by decide +kernel
theorem dX4_in_15 : decode cX4_in 15 = .ok (.ireturn, 1) := by decide +kernel
theorem dX4_isTill_0 : decode cX4_isTill 0 = .ok (.iload_n 0, 1) := by decide +kernel
theorem dX4_isTill_1 : decode cX4_isTill 1 = .ok (.iconst 0, 1) := by decide +kernel
theorem dX4_isTill_2 : decode cX4_isTill 2 = .ok (.bipush 7, 2) := by decide +kernel
theorem dX4_isTill_4 : decode cX4_isTill 4 = .ok (.invokestatic 33, 3) := by decide +kernel
theorem dX4_isTill_7 : decode cX4_isTill 7 = .ok (.ireturn, 1) := by decide +kernel
theorem dX4_worthOf_0 : decode cX4_worthOf 0 = .ok (.iload_n 0, 1) := by decide +kernel
theorem dX4_worthOf_1 : decode cX4_worthOf 1 = .ok (.ifCond .ne 7, 3) := by decide +kernel
theorem dX4_worthOf_4 : decode cX4_worthOf 4 = .ok (.iconst 1, 1) := by decide +kernel
theorem dX4_worthOf_5 : decode cX4_worthOf 5 = .ok (.goto 33, 3) := by decide +kernel
theorem dX4_worthOf_8 : decode cX4_worthOf 8 = .ok (.iload_n 0, 1) := by decide +kernel
theorem dX4_worthOf_9 : decode cX4_worthOf 9 = .ok (.iconst 1, 1) := by decide +kernel
theorem dX4_worthOf_10 : decode cX4_worthOf 10 = .ok (.if_icmp .ne 7, 3) := by decide +kernel
theorem dX4_worthOf_13 : decode cX4_worthOf 13 = .ok (.iconst 2, 1) := by decide +kernel
theorem dX4_worthOf_14 : decode cX4_worthOf 14 = .ok (.goto 24, 3) := by decide +kernel
theorem dX4_worthOf_17 : decode cX4_worthOf 17 = .ok (.iload_n 0, 1) := by decide +kernel
theorem dX4_worthOf_18 : decode cX4_worthOf 18 = .ok (.iconst 2, 1) := by decide +kernel
theorem dX4_worthOf_19 : decode cX4_worthOf 19 = .ok (.if_icmp .ne 7, 3) := by decide +kernel
theorem dX4_worthOf_22 : decode cX4_worthOf 22 = .ok (.iconst 5, 1) := by decide +kernel
theorem dX4_worthOf_23 : decode cX4_worthOf 23 = .ok (.goto 15, 3) := by decide +kernel
theorem dX4_worthOf_26 : decode cX4_worthOf 26 = .ok (.iload_n 0, 1) := by decide +kernel
theorem dX4_worthOf_27 : decode cX4_worthOf 27 = .ok (.iconst 3, 1) := by decide +kernel
theorem dX4_worthOf_28 : decode cX4_worthOf 28 = .ok (.if_icmp .ne 8, 3) := by decide +kernel
theorem dX4_worthOf_31 : decode cX4_worthOf 31 = .ok (.bipush 10, 2) := by decide +kernel
theorem dX4_worthOf_33 : decode cX4_worthOf 33 = .ok (.goto 5, 3) := by decide +kernel
theorem dX4_worthOf_36 : decode cX4_worthOf 36 = .ok (.bipush 20, 2) := by decide +kernel
theorem dX4_worthOf_38 : decode cX4_worthOf 38 = .ok (.ireturn, 1) := by decide +kernel
theorem dX4_all_0 : decode cX4_all 0 = .ok (.iconst 0, 1) := by decide +kernel
theorem dX4_all_1 : decode cX4_all 1 = .ok (.istore_n 2, 1) := by decide +kernel
theorem dX4_all_2 : decode cX4_all 2 = .ok (.iconst 0, 1) := by decide +kernel
theorem dX4_all_3 : decode cX4_all 3 = .ok (.istore_n 3, 1) := by decide +kernel
theorem dX4_all_4 : decode cX4_all 4 = .ok (.iload_n 3, 1) := by decide +kernel
theorem dX4_all_5 : decode cX4_all 5 = .ok (.iconst 5, 1) := by decide +kernel
theorem dX4_all_6 : decode cX4_all 6 = .ok (.if_icmp .ge 22, 3) := by decide +kernel
theorem dX4_all_9 : decode cX4_all 9 = .ok (.iload_n 2, 1) := by decide +kernel
theorem dX4_all_10 : decode cX4_all 10 = .ok (.aload_n 0, 1) := by decide +kernel
theorem dX4_all_11 : decode cX4_all 11 = .ok (.getfield 20, 3) := by decide +kernel
theorem dX4_all_14 : decode cX4_all 14 = .ok (.iconst 5, 1) := by decide +kernel
theorem dX4_all_15 : decode cX4_all 15 = .ok (.iload_n 1, 1) := by decide +kernel
theorem dX4_all_16 : decode cX4_all 16 = .ok (.imul, 1) := by decide +kernel
theorem dX4_all_17 : decode cX4_all 17 = .ok (.iload_n 3, 1) := by decide +kernel
theorem dX4_all_18 : decode cX4_all 18 = .ok (.iadd, 1) := by decide +kernel
theorem dX4_all_19 : decode cX4_all 19 = .ok (.iaload, 1) := by decide +kernel
theorem dX4_all_20 : decode cX4_all 20 = .ok (.iadd, 1) := by decide +kernel
theorem dX4_all_21 : decode cX4_all 21 = .ok (.istore_n 2, 1) := by decide +kernel
theorem dX4_all_22 : decode cX4_all 22 = .ok (.iinc 3 1, 3) := by decide +kernel
theorem dX4_all_25 : decode cX4_all 25 = .ok (.goto (-21), 3) := by decide +kernel
theorem dX4_all_28 : decode cX4_all 28 = .ok (.iload_n 2, 1) := by decide +kernel
theorem dX4_all_29 : decode cX4_all 29 = .ok (.ireturn, 1) := by decide +kernel
theorem dX4_worth_0 : decode cX4_worth 0 = .ok (.iconst 0, 1) := by decide +kernel
theorem dX4_worth_1 : decode cX4_worth 1 = .ok (.istore_n 2, 1) := by decide +kernel
theorem dX4_worth_2 : decode cX4_worth 2 = .ok (.iconst 0, 1) := by decide +kernel
theorem dX4_worth_3 : decode cX4_worth 3 = .ok (.istore_n 3, 1) := by decide +kernel
theorem dX4_worth_4 : decode cX4_worth 4 = .ok (.iload_n 3, 1) := by decide +kernel
theorem dX4_worth_5 : decode cX4_worth 5 = .ok (.iconst 5, 1) := by decide +kernel
theorem dX4_worth_6 : decode cX4_worth 6 = .ok (.if_icmp .ge 27, 3) := by decide +kernel
theorem dX4_worth_9 : decode cX4_worth 9 = .ok (.iload_n 2, 1) := by decide +kernel
theorem dX4_worth_10 : decode cX4_worth 10 = .ok (.iload_n 3, 1) := by decide +kernel
theorem dX4_worth_11 : decode cX4_worth 11 = .ok (.invokestatic 37, 3) := by decide +kernel
theorem dX4_worth_14 : decode cX4_worth 14 = .ok (.aload_n 0, 1) := by decide +kernel
theorem dX4_worth_15 : decode cX4_worth 15 = .ok (.getfield 20, 3) := by decide +kernel
theorem dX4_worth_18 : decode cX4_worth 18 = .ok (.iconst 5, 1) := by decide +kernel
theorem dX4_worth_19 : decode cX4_worth 19 = .ok (.iload_n 1, 1) := by decide +kernel
theorem dX4_worth_20 : decode cX4_worth 20 = .ok (.imul, 1) := by decide +kernel
theorem dX4_worth_21 : decode cX4_worth 21 = .ok (.iload_n 3, 1) := by decide +kernel
theorem dX4_worth_22 : decode cX4_worth 22 = .ok (.iadd, 1) := by decide +kernel
theorem dX4_worth_23 : decode cX4_worth 23 = .ok (.iaload, 1) := by decide +kernel
theorem dX4_worth_24 : decode cX4_worth 24 = .ok (.imul, 1) := by decide +kernel
theorem dX4_worth_25 : decode cX4_worth 25 = .ok (.iadd, 1) := by decide +kernel
theorem dX4_worth_26 : decode cX4_worth 26 = .ok (.istore_n 2, 1) := by decide +kernel
theorem dX4_worth_27 : decode cX4_worth 27 = .ok (.iinc 3 1, 3) := by decide +kernel
theorem dX4_worth_30 : decode cX4_worth 30 = .ok (.goto (-26), 3) := by decide +kernel
theorem dX4_worth_33 : decode cX4_worth 33 = .ok (.iload_n 2, 1) := by decide +kernel
theorem dX4_worth_34 : decode cX4_worth 34 = .ok (.ireturn, 1) := by decide +kernel
theorem dX4_go_0 : decode cX4_go 0 = .ok (.iconst 0, 1) := by decide +kernel
theorem dX4_go_1 : decode cX4_go 1 = .ok (.istore 4, 2) := by decide +kernel
theorem dX4_go_3 : decode cX4_go 3 = .ok (.iload 4, 2) := by decide +kernel
theorem dX4_go_5 : decode cX4_go 5 = .ok (.iconst 5, 1) := by decide +kernel
theorem dX4_go_6 : decode cX4_go 6 = .ok (.if_icmp .ge 45, 3) := by decide +kernel
theorem dX4_go_9 : decode cX4_go 9 = .ok (.aload_n 0, 1) := by decide +kernel
theorem dX4_go_10 : decode cX4_go 10 = .ok (.getfield 20, 3) := by decide +kernel
theorem dX4_go_13 : decode cX4_go 13 = .ok (.iconst 5, 1) := by decide +kernel
theorem dX4_go_14 : decode cX4_go 14 = .ok (.iload_n 1, 1) := by decide +kernel
theorem dX4_go_15 : decode cX4_go 15 = .ok (.imul, 1) := by decide +kernel
theorem dX4_go_16 : decode cX4_go 16 = .ok (.iload 4, 2) := by decide +kernel
theorem dX4_go_18 : decode cX4_go 18 = .ok (.iadd, 1) := by decide +kernel
theorem dX4_go_19 : decode cX4_go 19 = .ok (.dup2, 1) := by decide +kernel
theorem dX4_go_20 : decode cX4_go 20 = .ok (.iaload, 1) := by decide +kernel
theorem dX4_go_21 : decode cX4_go 21 = .ok (.aload_n 3, 1) := by decide +kernel
theorem dX4_go_22 : decode cX4_go 22 = .ok (.iload 4, 2) := by decide +kernel
theorem dX4_go_24 : decode cX4_go 24 = .ok (.iaload, 1) := by decide +kernel
theorem dX4_go_25 : decode cX4_go 25 = .ok (.isub, 1) := by decide +kernel
theorem dX4_go_26 : decode cX4_go 26 = .ok (.iastore, 1) := by decide +kernel
theorem dX4_go_27 : decode cX4_go 27 = .ok (.aload_n 0, 1) := by decide +kernel
theorem dX4_go_28 : decode cX4_go 28 = .ok (.getfield 20, 3) := by decide +kernel
theorem dX4_go_31 : decode cX4_go 31 = .ok (.iconst 5, 1) := by decide +kernel
theorem dX4_go_32 : decode cX4_go 32 = .ok (.iload_n 2, 1) := by decide +kernel
theorem dX4_go_33 : decode cX4_go 33 = .ok (.imul, 1) := by decide +kernel
theorem dX4_go_34 : decode cX4_go 34 = .ok (.iload 4, 2) := by decide +kernel
theorem dX4_go_36 : decode cX4_go 36 = .ok (.iadd, 1) := by decide +kernel
theorem dX4_go_37 : decode cX4_go 37 = .ok (.dup2, 1) := by decide +kernel
theorem dX4_go_38 : decode cX4_go 38 = .ok (.iaload, 1) := by decide +kernel
theorem dX4_go_39 : decode cX4_go 39 = .ok (.aload_n 3, 1) := by decide +kernel
theorem dX4_go_40 : decode cX4_go 40 = .ok (.iload 4, 2) := by decide +kernel
theorem dX4_go_42 : decode cX4_go 42 = .ok (.iaload, 1) := by decide +kernel
theorem dX4_go_43 : decode cX4_go 43 = .ok (.iadd, 1) := by decide +kernel
theorem dX4_go_44 : decode cX4_go 44 = .ok (.iastore, 1) := by decide +kernel
theorem dX4_go_45 : decode cX4_go 45 = .ok (.iinc 4 1, 3) := by decide +kernel
theorem dX4_go_48 : decode cX4_go 48 = .ok (.goto (-45), 3) := by decide +kernel
theorem dX4_go_51 : decode cX4_go 51 = .ok (.return_, 1) := by decide +kernel
theorem dX4_hold_0 : decode cX4_hold 0 = .ok (.aload_n 0, 1) := by decide +kernel
theorem dX4_hold_1 : decode cX4_hold 1 = .ok (.getfield 7, 3) := by decide +kernel
theorem dX4_hold_4 : decode cX4_hold 4 = .ok (.iload_n 1, 1) := by decide +kernel
theorem dX4_hold_5 : decode cX4_hold 5 = .ok (.baload, 1) := by decide +kernel
theorem dX4_hold_6 : decode cX4_hold 6 = .ok (.ifCond .ne 5, 3) := by decide +kernel
theorem dX4_hold_9 : decode cX4_hold 9 = .ok (.iconst 1, 1) := by decide +kernel
theorem dX4_hold_10 : decode cX4_hold 10 = .ok (.ireturn, 1) := by decide +kernel
theorem dX4_hold_11 : decode cX4_hold 11 = .ok (.aload_n 0, 1) := by decide +kernel
theorem dX4_hold_12 : decode cX4_hold 12 = .ok (.dup, 1) := by decide +kernel
theorem dX4_hold_13 : decode cX4_hold 13 = .ok (.getfield 41, 3) := by decide +kernel
theorem dX4_hold_16 : decode cX4_hold 16 = .ok (.iconst 1, 1) := by decide +kernel
theorem dX4_hold_17 : decode cX4_hold 17 = .ok (.iadd, 1) := by decide +kernel
theorem dX4_hold_18 : decode cX4_hold 18 = .ok (.putfield 41, 3) := by decide +kernel
theorem dX4_hold_21 : decode cX4_hold 21 = .ok (.aload_n 0, 1) := by decide +kernel
theorem dX4_hold_22 : decode cX4_hold 22 = .ok (.dup, 1) := by decide +kernel
theorem dX4_hold_23 : decode cX4_hold 23 = .ok (.getfield 44, 3) := by decide +kernel
theorem dX4_hold_26 : decode cX4_hold 26 = .ok (.iconst 1, 1) := by decide +kernel
theorem dX4_hold_27 : decode cX4_hold 27 = .ok (.iadd, 1) := by decide +kernel
theorem dX4_hold_28 : decode cX4_hold 28 = .ok (.putfield 44, 3) := by decide +kernel
theorem dX4_hold_31 : decode cX4_hold 31 = .ok (.aload_n 0, 1) := by decide +kernel
theorem dX4_hold_32 : decode cX4_hold 32 = .ok (.aload_n 0, 1) := by decide +kernel
theorem dX4_hold_33 : decode cX4_hold 33 = .ok (.getfield 44, 3) := by decide +kernel
theorem dX4_hold_36 : decode cX4_hold 36 = .ok (.aload_n 0, 1) := by decide +kernel
theorem dX4_hold_37 : decode cX4_hold 37 = .ok (.getfield 47, 3) := by decide +kernel
theorem dX4_hold_40 : decode cX4_hold 40 = .ok (.if_icmp .le 10, 3) := by decide +kernel
theorem dX4_hold_43 : decode cX4_hold 43 = .ok (.aload_n 0, 1) := by decide +kernel
theorem dX4_hold_44 : decode cX4_hold 44 = .ok (.getfield 44, 3) := by decide +kernel
theorem dX4_hold_47 : decode cX4_hold 47 = .ok (.goto 7, 3) := by decide +kernel
theorem dX4_hold_50 : decode cX4_hold 50 = .ok (.aload_n 0, 1) := by decide +kernel
theorem dX4_hold_51 : decode cX4_hold 51 = .ok (.getfield 47, 3) := by decide +kernel
theorem dX4_hold_54 : decode cX4_hold 54 = .ok (.putfield 47, 3) := by decide +kernel
theorem dX4_hold_57 : decode cX4_hold 57 = .ok (.iconst 0, 1) := by decide +kernel
theorem dX4_hold_58 : decode cX4_hold 58 = .ok (.ireturn, 1) := by decide +kernel
theorem dX4_leave_0 : decode cX4_leave 0 = .ok (.aload_n 0, 1) := by decide +kernel
theorem dX4_leave_1 : decode cX4_leave 1 = .ok (.dup, 1) := by decide +kernel
theorem dX4_leave_2 : decode cX4_leave 2 = .ok (.getfield 44, 3) := by decide +kernel
theorem dX4_leave_5 : decode cX4_leave 5 = .ok (.iconst 1, 1) := by decide +kernel
theorem dX4_leave_6 : decode cX4_leave 6 = .ok (.isub, 1) := by decide +kernel
theorem dX4_leave_7 : decode cX4_leave 7 = .ok (.putfield 44, 3) := by decide +kernel
theorem dX4_leave_10 : decode cX4_leave 10 = .ok (.aload_n 0, 1) := by decide +kernel
theorem dX4_leave_11 : decode cX4_leave 11 = .ok (.dup, 1) := by decide +kernel
theorem dX4_leave_12 : decode cX4_leave 12 = .ok (.getfield 50, 3) := by decide +kernel
theorem dX4_leave_15 : decode cX4_leave 15 = .ok (.iload_n 1, 1) := by decide +kernel
theorem dX4_leave_16 : decode cX4_leave 16 = .ok (.ifCond .ne 7, 3) := by decide +kernel
theorem dX4_leave_19 : decode cX4_leave 19 = .ok (.iconst 0, 1) := by decide +kernel
theorem dX4_leave_20 : decode cX4_leave 20 = .ok (.goto 4, 3) := by decide +kernel
theorem dX4_leave_23 : decode cX4_leave 23 = .ok (.iconst 1, 1) := by decide +kernel
theorem dX4_leave_24 : decode cX4_leave 24 = .ok (.iadd, 1) := by decide +kernel
theorem dX4_leave_25 : decode cX4_leave 25 = .ok (.putfield 50, 3) := by decide +kernel
theorem dX4_leave_28 : decode cX4_leave 28 = .ok (.iload_n 1, 1) := by decide +kernel
theorem dX4_leave_29 : decode cX4_leave 29 = .ok (.ireturn, 1) := by decide +kernel
theorem dX4_lacks_0 : decode cX4_lacks 0 = .ok (.iload_n 2, 1) := by decide +kernel
theorem dX4_lacks_1 : decode cX4_lacks 1 = .ok (.istore_n 3, 1) := by decide +kernel
theorem dX4_lacks_2 : decode cX4_lacks 2 = .ok (.iconst 4, 1) := by decide +kernel
theorem dX4_lacks_3 : decode cX4_lacks 3 = .ok (.istore 4, 2) := by decide +kernel
theorem dX4_lacks_5 : decode cX4_lacks 5 = .ok (.iload 4, 2) := by decide +kernel
theorem dX4_lacks_7 : decode cX4_lacks 7 = .ok (.ifCond .lt 73, 3) := by decide +kernel
theorem dX4_lacks_10 : decode cX4_lacks 10 = .ok (.iload_n 3, 1) := by decide +kernel
theorem dX4_lacks_11 : decode cX4_lacks 11 = .ok (.iload 4, 2) := by decide +kernel
theorem dX4_lacks_13 : decode cX4_lacks 13 = .ok (.invokestatic 37, 3) := by decide +kernel
theorem dX4_lacks_16 : decode cX4_lacks 16 = .ok (.idiv, 1) := by decide +kernel
theorem dX4_lacks_17 : decode cX4_lacks 17 = .ok (.istore 5, 2) := by decide +kernel
theorem dX4_lacks_19 : decode cX4_lacks 19 = .ok (.aload_n 0, 1) := by decide +kernel
theorem dX4_lacks_20 : decode cX4_lacks 20 = .ok (.getfield 23, 3) := by decide +kernel
theorem dX4_lacks_23 : decode cX4_lacks 23 = .ok (.iload 4, 2) := by decide +kernel
theorem dX4_lacks_25 : decode cX4_lacks 25 = .ok (.iload 5, 2) := by decide +kernel
theorem dX4_lacks_27 : decode cX4_lacks 27 = .ok (.aload_n 0, 1) := by decide +kernel
theorem dX4_lacks_28 : decode cX4_lacks 28 = .ok (.getfield 20, 3) := by decide +kernel
theorem dX4_lacks_31 : decode cX4_lacks 31 = .ok (.iconst 5, 1) := by decide +kernel
theorem dX4_lacks_32 : decode cX4_lacks 32 = .ok (.iload_n 1, 1) := by decide +kernel
theorem dX4_lacks_33 : decode cX4_lacks 33 = .ok (.imul, 1) := by decide +kernel
theorem dX4_lacks_34 : decode cX4_lacks 34 = .ok (.iload 4, 2) := by decide +kernel
theorem dX4_lacks_36 : decode cX4_lacks 36 = .ok (.iadd, 1) := by decide +kernel
theorem dX4_lacks_37 : decode cX4_lacks 37 = .ok (.iaload, 1) := by decide +kernel
theorem dX4_lacks_38 : decode cX4_lacks 38 = .ok (.if_icmp .ge 8, 3) := by decide +kernel
theorem dX4_lacks_41 : decode cX4_lacks 41 = .ok (.iload 5, 2) := by decide +kernel
theorem dX4_lacks_43 : decode cX4_lacks 43 = .ok (.goto 14, 3) := by decide +kernel
theorem dX4_lacks_46 : decode cX4_lacks 46 = .ok (.aload_n 0, 1) := by decide +kernel
theorem dX4_lacks_47 : decode cX4_lacks 47 = .ok (.getfield 20, 3) := by decide +kernel
theorem dX4_lacks_50 : decode cX4_lacks 50 = .ok (.iconst 5, 1) := by decide +kernel
theorem dX4_lacks_51 : decode cX4_lacks 51 = .ok (.iload_n 1, 1) := by decide +kernel
theorem dX4_lacks_52 : decode cX4_lacks 52 = .ok (.imul, 1) := by decide +kernel
theorem dX4_lacks_53 : decode cX4_lacks 53 = .ok (.iload 4, 2) := by decide +kernel
theorem dX4_lacks_55 : decode cX4_lacks 55 = .ok (.iadd, 1) := by decide +kernel
theorem dX4_lacks_56 : decode cX4_lacks 56 = .ok (.iaload, 1) := by decide +kernel
theorem dX4_lacks_57 : decode cX4_lacks 57 = .ok (.iastore, 1) := by decide +kernel
theorem dX4_lacks_58 : decode cX4_lacks 58 = .ok (.iload_n 3, 1) := by decide +kernel
theorem dX4_lacks_59 : decode cX4_lacks 59 = .ok (.aload_n 0, 1) := by decide +kernel
theorem dX4_lacks_60 : decode cX4_lacks 60 = .ok (.getfield 23, 3) := by decide +kernel
theorem dX4_lacks_63 : decode cX4_lacks 63 = .ok (.iload 4, 2) := by decide +kernel
theorem dX4_lacks_65 : decode cX4_lacks 65 = .ok (.iaload, 1) := by decide +kernel
theorem dX4_lacks_66 : decode cX4_lacks 66 = .ok (.iload 4, 2) := by decide +kernel
theorem dX4_lacks_68 : decode cX4_lacks 68 = .ok (.invokestatic 37, 3) := by decide +kernel
theorem dX4_lacks_71 : decode cX4_lacks 71 = .ok (.imul, 1) := by decide +kernel
theorem dX4_lacks_72 : decode cX4_lacks 72 = .ok (.isub, 1) := by decide +kernel
theorem dX4_lacks_73 : decode cX4_lacks 73 = .ok (.istore_n 3, 1) := by decide +kernel
theorem dX4_lacks_74 : decode cX4_lacks 74 = .ok (.iinc 4 (-1), 3) := by decide +kernel
theorem dX4_lacks_77 : decode cX4_lacks 77 = .ok (.goto (-72), 3) := by decide +kernel
theorem dX4_lacks_80 : decode cX4_lacks 80 = .ok (.iload_n 3, 1) := by decide +kernel
theorem dX4_lacks_81 : decode cX4_lacks 81 = .ok (.ireturn, 1) := by decide +kernel
theorem dX4_pay_0 : decode cX4_pay 0 = .ok (.aload_n 0, 1) := by decide +kernel
theorem dX4_pay_1 : decode cX4_pay 1 = .ok (.getfield 13, 3) := by decide +kernel
theorem dX4_pay_4 : decode cX4_pay 4 = .ok (.iload_n 1, 1) := by decide +kernel
theorem dX4_pay_5 : decode cX4_pay 5 = .ok (.baload, 1) := by decide +kernel
theorem dX4_pay_6 : decode cX4_pay 6 = .ok (.ifCond .eq 5, 3) := by decide +kernel
theorem dX4_pay_9 : decode cX4_pay 9 = .ok (.iconst 2, 1) := by decide +kernel
theorem dX4_pay_10 : decode cX4_pay 10 = .ok (.ireturn, 1) := by decide +kernel
theorem dX4_pay_11 : decode cX4_pay 11 = .ok (.aload_n 0, 1) := by decide +kernel
theorem dX4_pay_12 : decode cX4_pay 12 = .ok (.iload_n 1, 1) := by decide +kernel
theorem dX4_pay_13 : decode cX4_pay 13 = .ok (.iload_n 2, 1) := by decide +kernel
theorem dX4_pay_14 : decode cX4_pay 14 = .ok (.invokevirtual 53, 3) := by decide +kernel
theorem dX4_pay_17 : decode cX4_pay 17 = .ok (.ifCond .le 5, 3) := by decide +kernel
theorem dX4_pay_20 : decode cX4_pay 20 = .ok (.iconst 3, 1) := by decide +kernel
theorem dX4_pay_21 : decode cX4_pay 21 = .ok (.ireturn, 1) := by decide +kernel
theorem dX4_pay_22 : decode cX4_pay 22 = .ok (.aload_n 0, 1) := by decide +kernel
theorem dX4_pay_23 : decode cX4_pay 23 = .ok (.iload_n 1, 1) := by decide +kernel
theorem dX4_pay_24 : decode cX4_pay 24 = .ok (.bipush 8, 2) := by decide +kernel
theorem dX4_pay_26 : decode cX4_pay 26 = .ok (.aload_n 0, 1) := by decide +kernel
theorem dX4_pay_27 : decode cX4_pay 27 = .ok (.getfield 23, 3) := by decide +kernel
theorem dX4_pay_30 : decode cX4_pay 30 = .ok (.invokevirtual 57, 3) := by decide +kernel
theorem dX4_pay_33 : decode cX4_pay 33 = .ok (.iconst 0, 1) := by decide +kernel
theorem dX4_pay_34 : decode cX4_pay 34 = .ok (.ireturn, 1) := by decide +kernel
theorem dX4_sum_0 : decode cX4_sum 0 = .ok (.iconst 0, 1) := by decide +kernel
theorem dX4_sum_1 : decode cX4_sum 1 = .ok (.istore_n 1, 1) := by decide +kernel
theorem dX4_sum_2 : decode cX4_sum 2 = .ok (.iconst 0, 1) := by decide +kernel
theorem dX4_sum_3 : decode cX4_sum 3 = .ok (.istore_n 2, 1) := by decide +kernel
theorem dX4_sum_4 : decode cX4_sum 4 = .ok (.iload_n 2, 1) := by decide +kernel
theorem dX4_sum_5 : decode cX4_sum 5 = .ok (.iconst 5, 1) := by decide +kernel
theorem dX4_sum_6 : decode cX4_sum 6 = .ok (.if_icmp .ge 15, 3) := by decide +kernel
theorem dX4_sum_9 : decode cX4_sum 9 = .ok (.iload_n 1, 1) := by decide +kernel
theorem dX4_sum_10 : decode cX4_sum 10 = .ok (.aload_n 0, 1) := by decide +kernel
theorem dX4_sum_11 : decode cX4_sum 11 = .ok (.iload_n 2, 1) := by decide +kernel
theorem dX4_sum_12 : decode cX4_sum 12 = .ok (.iaload, 1) := by decide +kernel
theorem dX4_sum_13 : decode cX4_sum 13 = .ok (.iadd, 1) := by decide +kernel
theorem dX4_sum_14 : decode cX4_sum 14 = .ok (.istore_n 1, 1) := by decide +kernel
theorem dX4_sum_15 : decode cX4_sum 15 = .ok (.iinc 2 1, 3) := by decide +kernel
theorem dX4_sum_18 : decode cX4_sum 18 = .ok (.goto (-14), 3) := by decide +kernel
theorem dX4_sum_21 : decode cX4_sum 21 = .ok (.iload_n 1, 1) := by decide +kernel
theorem dX4_sum_22 : decode cX4_sum 22 = .ok (.ireturn, 1) := by decide +kernel
theorem dX4_lay_0 : decode cX4_lay 0 = .ok (.aload_n 0, 1) := by decide +kernel
theorem dX4_lay_1 : decode cX4_lay 1 = .ok (.getfield 13, 3) := by decide +kernel
theorem dX4_lay_4 : decode cX4_lay 4 = .ok (.iload_n 1, 1) := by decide +kernel
theorem dX4_lay_5 : decode cX4_lay 5 = .ok (.baload, 1) := by decide +kernel
theorem dX4_lay_6 : decode cX4_lay 6 = .ok (.ifCond .eq 5, 3) := by decide +kernel
theorem dX4_lay_9 : decode cX4_lay 9 = .ok (.iconst 2, 1) := by decide +kernel
theorem dX4_lay_10 : decode cX4_lay 10 = .ok (.ireturn, 1) := by decide +kernel
theorem dX4_lay_11 : decode cX4_lay 11 = .ok (.aload_n 0, 1) := by decide +kernel
theorem dX4_lay_12 : decode cX4_lay 12 = .ok (.iload_n 1, 1) := by decide +kernel
theorem dX4_lay_13 : decode cX4_lay 13 = .ok (.invokevirtual 61, 3) := by decide +kernel
theorem dX4_lay_16 : decode cX4_lay 16 = .ok (.aload_n 2, 1) := by decide +kernel
theorem dX4_lay_17 : decode cX4_lay 17 = .ok (.invokestatic 64, 3) := by decide +kernel
theorem dX4_lay_20 : decode cX4_lay 20 = .ok (.iadd, 1) := by decide +kernel
theorem dX4_lay_21 : decode cX4_lay 21 = .ok (.aload_n 0, 1) := by decide +kernel
theorem dX4_lay_22 : decode cX4_lay 22 = .ok (.getfield 16, 3) := by decide +kernel
theorem dX4_lay_25 : decode cX4_lay 25 = .ok (.iload_n 1, 1) := by decide +kernel
theorem dX4_lay_26 : decode cX4_lay 26 = .ok (.iaload, 1) := by decide +kernel
theorem dX4_lay_27 : decode cX4_lay 27 = .ok (.if_icmp .le 5, 3) := by decide +kernel
theorem dX4_lay_30 : decode cX4_lay 30 = .ok (.iconst 4, 1) := by decide +kernel
theorem dX4_lay_31 : decode cX4_lay 31 = .ok (.ireturn, 1) := by decide +kernel
theorem dX4_lay_32 : decode cX4_lay 32 = .ok (.aload_n 0, 1) := by decide +kernel
theorem dX4_lay_33 : decode cX4_lay 33 = .ok (.bipush 8, 2) := by decide +kernel
theorem dX4_lay_35 : decode cX4_lay 35 = .ok (.iload_n 1, 1) := by decide +kernel
theorem dX4_lay_36 : decode cX4_lay 36 = .ok (.aload_n 2, 1) := by decide +kernel
theorem dX4_lay_37 : decode cX4_lay 37 = .ok (.invokevirtual 57, 3) := by decide +kernel
theorem dX4_lay_40 : decode cX4_lay 40 = .ok (.iconst 0, 1) := by decide +kernel
theorem dX4_lay_41 : decode cX4_lay 41 = .ok (.ireturn, 1) := by decide +kernel
theorem dX4_told_0 : decode cX4_told 0 = .ok (.iload_n 0, 1) := by decide +kernel
theorem dX4_told_1 : decode cX4_told 1 = .ok (.ifCond .ne 7, 3) := by decide +kernel
theorem dX4_told_4 : decode cX4_told 4 = .ok (.iload_n 1, 1) := by decide +kernel
theorem dX4_told_5 : decode cX4_told 5 = .ok (.goto 7, 3) := by decide +kernel
theorem dX4_told_8 : decode cX4_told 8 = .ok (.bipush (-10), 2) := by decide +kernel
theorem dX4_told_10 : decode cX4_told 10 = .ok (.iload_n 0, 1) := by decide +kernel
theorem dX4_told_11 : decode cX4_told 11 = .ok (.isub, 1) := by decide +kernel
theorem dX4_told_12 : decode cX4_told 12 = .ok (.ireturn, 1) := by decide +kernel
theorem dX4_till_0 : decode cX4_till 0 = .ok (.aload_n 0, 1) := by decide +kernel
theorem dX4_till_1 : decode cX4_till 1 = .ok (.iconst 0, 1) := by decide +kernel
theorem dX4_till_2 : decode cX4_till 2 = .ok (.putfield 29, 3) := by decide +kernel
theorem dX4_till_5 : decode cX4_till 5 = .ok (.iload_n 1, 1) := by decide +kernel
theorem dX4_till_6 : decode cX4_till 6 = .ok (.invokestatic 68, 3) := by decide +kernel
theorem dX4_till_9 : decode cX4_till 9 = .ok (.ifCond .eq 14, 3) := by decide +kernel
theorem dX4_till_12 : decode cX4_till 12 = .ok (.iload_n 2, 1) := by decide +kernel
theorem dX4_till_13 : decode cX4_till 13 = .ok (.iconst 0, 1) := by decide +kernel
theorem dX4_till_14 : decode cX4_till 14 = .ok (.sipush 200, 3) := by decide +kernel
theorem dX4_till_17 : decode cX4_till 17 = .ok (.invokestatic 33, 3) := by decide +kernel
theorem dX4_till_20 : decode cX4_till 20 = .ok (.ifCond .ne 5, 3) := by decide +kernel
theorem dX4_till_23 : decode cX4_till 23 = .ok (.iconst (-1), 1) := by decide +kernel
theorem dX4_till_24 : decode cX4_till 24 = .ok (.ireturn, 1) := by decide +kernel
theorem dX4_till_25 : decode cX4_till 25 = .ok (.aload_n 0, 1) := by decide +kernel
theorem dX4_till_26 : decode cX4_till 26 = .ok (.getfield 7, 3) := by decide +kernel
theorem dX4_till_29 : decode cX4_till 29 = .ok (.iload_n 1, 1) := by decide +kernel
theorem dX4_till_30 : decode cX4_till 30 = .ok (.iconst 1, 1) := by decide +kernel
theorem dX4_till_31 : decode cX4_till 31 = .ok (.bastore, 1) := by decide +kernel
theorem dX4_till_32 : decode cX4_till 32 = .ok (.aload_n 0, 1) := by decide +kernel
theorem dX4_till_33 : decode cX4_till 33 = .ok (.getfield 13, 3) := by decide +kernel
theorem dX4_till_36 : decode cX4_till 36 = .ok (.iload_n 1, 1) := by decide +kernel
theorem dX4_till_37 : decode cX4_till 37 = .ok (.iconst 0, 1) := by decide +kernel
theorem dX4_till_38 : decode cX4_till 38 = .ok (.bastore, 1) := by decide +kernel
theorem dX4_till_39 : decode cX4_till 39 = .ok (.aload_n 0, 1) := by decide +kernel
theorem dX4_till_40 : decode cX4_till 40 = .ok (.getfield 16, 3) := by decide +kernel
theorem dX4_till_43 : decode cX4_till 43 = .ok (.iload_n 1, 1) := by decide +kernel
theorem dX4_till_44 : decode cX4_till 44 = .ok (.iload_n 2, 1) := by decide +kernel
theorem dX4_till_45 : decode cX4_till 45 = .ok (.iastore, 1) := by decide +kernel
theorem dX4_till_46 : decode cX4_till 46 = .ok (.aload_n 0, 1) := by decide +kernel
theorem dX4_till_47 : decode cX4_till 47 = .ok (.iload_n 1, 1) := by decide +kernel
theorem dX4_till_48 : decode cX4_till 48 = .ok (.invokevirtual 72, 3) := by decide +kernel
theorem dX4_till_51 : decode cX4_till 51 = .ok (.iconst 1, 1) := by decide +kernel
theorem dX4_till_52 : decode cX4_till 52 = .ok (.ireturn, 1) := by decide +kernel
theorem dX4_empty_0 : decode cX4_empty 0 = .ok (.iconst 0, 1) := by decide +kernel
theorem dX4_empty_1 : decode cX4_empty 1 = .ok (.istore_n 2, 1) := by decide +kernel
theorem dX4_empty_2 : decode cX4_empty 2 = .ok (.iload_n 2, 1) := by decide +kernel
theorem dX4_empty_3 : decode cX4_empty 3 = .ok (.iconst 5, 1) := by decide +kernel
theorem dX4_empty_4 : decode cX4_empty 4 = .ok (.if_icmp .ge 20, 3) := by decide +kernel
theorem dX4_empty_7 : decode cX4_empty 7 = .ok (.aload_n 0, 1) := by decide +kernel
theorem dX4_empty_8 : decode cX4_empty 8 = .ok (.getfield 20, 3) := by decide +kernel
theorem dX4_empty_11 : decode cX4_empty 11 = .ok (.iconst 5, 1) := by decide +kernel
theorem dX4_empty_12 : decode cX4_empty 12 = .ok (.iload_n 1, 1) := by decide +kernel
theorem dX4_empty_13 : decode cX4_empty 13 = .ok (.imul, 1) := by decide +kernel
theorem dX4_empty_14 : decode cX4_empty 14 = .ok (.iload_n 2, 1) := by decide +kernel
theorem dX4_empty_15 : decode cX4_empty 15 = .ok (.iadd, 1) := by decide +kernel
theorem dX4_empty_16 : decode cX4_empty 16 = .ok (.iconst 0, 1) := by decide +kernel
theorem dX4_empty_17 : decode cX4_empty 17 = .ok (.iastore, 1) := by decide +kernel
theorem dX4_empty_18 : decode cX4_empty 18 = .ok (.iinc 2 1, 3) := by decide +kernel
theorem dX4_empty_21 : decode cX4_empty 21 = .ok (.goto (-19), 3) := by decide +kernel
theorem dX4_empty_24 : decode cX4_empty 24 = .ok (.return_, 1) := by decide +kernel
theorem dX4_drop_0 : decode cX4_drop 0 = .ok (.aload_n 0, 1) := by decide +kernel
theorem dX4_drop_1 : decode cX4_drop 1 = .ok (.iconst 0, 1) := by decide +kernel
theorem dX4_drop_2 : decode cX4_drop 2 = .ok (.putfield 29, 3) := by decide +kernel
theorem dX4_drop_5 : decode cX4_drop 5 = .ok (.iload_n 1, 1) := by decide +kernel
theorem dX4_drop_6 : decode cX4_drop 6 = .ok (.invokestatic 68, 3) := by decide +kernel
theorem dX4_drop_9 : decode cX4_drop 9 = .ok (.ifCond .ne 5, 3) := by decide +kernel
theorem dX4_drop_12 : decode cX4_drop 12 = .ok (.iconst (-1), 1) := by decide +kernel
theorem dX4_drop_13 : decode cX4_drop 13 = .ok (.ireturn, 1) := by decide +kernel
theorem dX4_drop_14 : decode cX4_drop 14 = .ok (.aload_n 0, 1) := by decide +kernel
theorem dX4_drop_15 : decode cX4_drop 15 = .ok (.getfield 7, 3) := by decide +kernel
theorem dX4_drop_18 : decode cX4_drop 18 = .ok (.iload_n 1, 1) := by decide +kernel
theorem dX4_drop_19 : decode cX4_drop 19 = .ok (.baload, 1) := by decide +kernel
theorem dX4_drop_20 : decode cX4_drop 20 = .ok (.ifCond .eq 7, 3) := by decide +kernel
theorem dX4_drop_23 : decode cX4_drop 23 = .ok (.iconst 1, 1) := by decide +kernel
theorem dX4_drop_24 : decode cX4_drop 24 = .ok (.goto 4, 3) := by decide +kernel
theorem dX4_drop_27 : decode cX4_drop 27 = .ok (.iconst 0, 1) := by decide +kernel
theorem dX4_drop_28 : decode cX4_drop 28 = .ok (.istore_n 2, 1) := by decide +kernel
theorem dX4_drop_29 : decode cX4_drop 29 = .ok (.aload_n 0, 1) := by decide +kernel
theorem dX4_drop_30 : decode cX4_drop 30 = .ok (.getfield 7, 3) := by decide +kernel
theorem dX4_drop_33 : decode cX4_drop 33 = .ok (.iload_n 1, 1) := by decide +kernel
theorem dX4_drop_34 : decode cX4_drop 34 = .ok (.iconst 0, 1) := by decide +kernel
theorem dX4_drop_35 : decode cX4_drop 35 = .ok (.bastore, 1) := by decide +kernel
theorem dX4_drop_36 : decode cX4_drop 36 = .ok (.aload_n 0, 1) := by decide +kernel
theorem dX4_drop_37 : decode cX4_drop 37 = .ok (.iload_n 1, 1) := by decide +kernel
theorem dX4_drop_38 : decode cX4_drop 38 = .ok (.invokevirtual 72, 3) := by decide +kernel
theorem dX4_drop_41 : decode cX4_drop 41 = .ok (.iload_n 2, 1) := by decide +kernel
theorem dX4_drop_42 : decode cX4_drop 42 = .ok (.ireturn, 1) := by decide +kernel
theorem dX4_shut_0 : decode cX4_shut 0 = .ok (.aload_n 0, 1) := by decide +kernel
theorem dX4_shut_1 : decode cX4_shut 1 = .ok (.iconst 0, 1) := by decide +kernel
theorem dX4_shut_2 : decode cX4_shut 2 = .ok (.putfield 29, 3) := by decide +kernel
theorem dX4_shut_5 : decode cX4_shut 5 = .ok (.iload_n 1, 1) := by decide +kernel
theorem dX4_shut_6 : decode cX4_shut 6 = .ok (.invokestatic 68, 3) := by decide +kernel
theorem dX4_shut_9 : decode cX4_shut 9 = .ok (.ifCond .ne 5, 3) := by decide +kernel
theorem dX4_shut_12 : decode cX4_shut 12 = .ok (.iconst (-1), 1) := by decide +kernel
theorem dX4_shut_13 : decode cX4_shut 13 = .ok (.ireturn, 1) := by decide +kernel
theorem dX4_shut_14 : decode cX4_shut 14 = .ok (.aload_n 0, 1) := by decide +kernel
theorem dX4_shut_15 : decode cX4_shut 15 = .ok (.iload_n 1, 1) := by decide +kernel
theorem dX4_shut_16 : decode cX4_shut 16 = .ok (.invokevirtual 76, 3) := by decide +kernel
theorem dX4_shut_19 : decode cX4_shut 19 = .ok (.istore_n 3, 1) := by decide +kernel
theorem dX4_shut_20 : decode cX4_shut 20 = .ok (.iload_n 3, 1) := by decide +kernel
theorem dX4_shut_21 : decode cX4_shut 21 = .ok (.ifCond .eq 9, 3) := by decide +kernel
theorem dX4_shut_24 : decode cX4_shut 24 = .ok (.iload_n 3, 1) := by decide +kernel
theorem dX4_shut_25 : decode cX4_shut 25 = .ok (.iconst 0, 1) := by decide +kernel
theorem dX4_shut_26 : decode cX4_shut 26 = .ok (.invokestatic 79, 3) := by decide +kernel
theorem dX4_shut_29 : decode cX4_shut 29 = .ok (.ireturn, 1) := by decide +kernel
theorem dX4_shut_30 : decode cX4_shut 30 = .ok (.aload_n 0, 1) := by decide +kernel
theorem dX4_shut_31 : decode cX4_shut 31 = .ok (.getfield 13, 3) := by decide +kernel
theorem dX4_shut_34 : decode cX4_shut 34 = .ok (.iload_n 1, 1) := by decide +kernel
theorem dX4_shut_35 : decode cX4_shut 35 = .ok (.baload, 1) := by decide +kernel
theorem dX4_shut_36 : decode cX4_shut 36 = .ok (.ifCond .eq 7, 3) := by decide +kernel
theorem dX4_shut_39 : decode cX4_shut 39 = .ok (.iconst 1, 1) := by decide +kernel
theorem dX4_shut_40 : decode cX4_shut 40 = .ok (.goto 4, 3) := by decide +kernel
theorem dX4_shut_43 : decode cX4_shut 43 = .ok (.iconst 0, 1) := by decide +kernel
theorem dX4_shut_44 : decode cX4_shut 44 = .ok (.istore 4, 2) := by decide +kernel
theorem dX4_shut_46 : decode cX4_shut 46 = .ok (.aload_n 0, 1) := by decide +kernel
theorem dX4_shut_47 : decode cX4_shut 47 = .ok (.getfield 13, 3) := by decide +kernel
theorem dX4_shut_50 : decode cX4_shut 50 = .ok (.iload_n 1, 1) := by decide +kernel
theorem dX4_shut_51 : decode cX4_shut 51 = .ok (.iload_n 2, 1) := by decide +kernel
theorem dX4_shut_52 : decode cX4_shut 52 = .ok (.bastore, 1) := by decide +kernel
theorem dX4_shut_53 : decode cX4_shut 53 = .ok (.aload_n 0, 1) := by decide +kernel
theorem dX4_shut_54 : decode cX4_shut 54 = .ok (.iconst 0, 1) := by decide +kernel
theorem dX4_shut_55 : decode cX4_shut 55 = .ok (.invokevirtual 82, 3) := by decide +kernel
theorem dX4_shut_58 : decode cX4_shut 58 = .ok (.iload 4, 2) := by decide +kernel
theorem dX4_shut_60 : decode cX4_shut 60 = .ok (.invokestatic 79, 3) := by decide +kernel
theorem dX4_shut_63 : decode cX4_shut 63 = .ok (.ireturn, 1) := by decide +kernel
theorem dX4_put_0 : decode cX4_put 0 = .ok (.aload_n 0, 1) := by decide +kernel
theorem dX4_put_1 : decode cX4_put 1 = .ok (.iconst 0, 1) := by decide +kernel
theorem dX4_put_2 : decode cX4_put 2 = .ok (.putfield 29, 3) := by decide +kernel
theorem dX4_put_5 : decode cX4_put 5 = .ok (.iload_n 1, 1) := by decide +kernel
theorem dX4_put_6 : decode cX4_put 6 = .ok (.invokestatic 68, 3) := by decide +kernel
theorem dX4_put_9 : decode cX4_put 9 = .ok (.ifCond .eq 23, 3) := by decide +kernel
theorem dX4_put_12 : decode cX4_put 12 = .ok (.iload_n 2, 1) := by decide +kernel
theorem dX4_put_13 : decode cX4_put 13 = .ok (.iconst 0, 1) := by decide +kernel
theorem dX4_put_14 : decode cX4_put 14 = .ok (.iconst 4, 1) := by decide +kernel
theorem dX4_put_15 : decode cX4_put 15 = .ok (.invokestatic 33, 3) := by decide +kernel
theorem dX4_put_18 : decode cX4_put 18 = .ok (.ifCond .eq 14, 3) := by decide +kernel
theorem dX4_put_21 : decode cX4_put 21 = .ok (.iload_n 3, 1) := by decide +kernel
theorem dX4_put_22 : decode cX4_put 22 = .ok (.iconst 0, 1) := by decide +kernel
theorem dX4_put_23 : decode cX4_put 23 = .ok (.sipush 200, 3) := by decide +kernel
theorem dX4_put_26 : decode cX4_put 26 = .ok (.invokestatic 33, 3) := by decide +kernel
theorem dX4_put_29 : decode cX4_put 29 = .ok (.ifCond .ne 5, 3) := by decide +kernel
theorem dX4_put_32 : decode cX4_put 32 = .ok (.iconst (-1), 1) := by decide +kernel
theorem dX4_put_33 : decode cX4_put 33 = .ok (.ireturn, 1) := by decide +kernel
theorem dX4_put_34 : decode cX4_put 34 = .ok (.aload_n 0, 1) := by decide +kernel
theorem dX4_put_35 : decode cX4_put 35 = .ok (.iload_n 1, 1) := by decide +kernel
theorem dX4_put_36 : decode cX4_put 36 = .ok (.invokevirtual 76, 3) := by decide +kernel
theorem dX4_put_39 : decode cX4_put 39 = .ok (.istore 4, 2) := by decide +kernel
theorem dX4_put_41 : decode cX4_put 41 = .ok (.iload 4, 2) := by decide +kernel
theorem dX4_put_43 : decode cX4_put 43 = .ok (.ifCond .eq 10, 3) := by decide +kernel
theorem dX4_put_46 : decode cX4_put 46 = .ok (.iload 4, 2) := by decide +kernel
theorem dX4_put_48 : decode cX4_put 48 = .ok (.iconst 0, 1) := by decide +kernel
theorem dX4_put_49 : decode cX4_put 49 = .ok (.invokestatic 79, 3) := by decide +kernel
theorem dX4_put_52 : decode cX4_put 52 = .ok (.ireturn, 1) := by decide +kernel
theorem dX4_put_53 : decode cX4_put 53 = .ok (.aload_n 0, 1) := by decide +kernel
theorem dX4_put_54 : decode cX4_put 54 = .ok (.getfield 20, 3) := by decide +kernel
theorem dX4_put_57 : decode cX4_put 57 = .ok (.bipush 40, 2) := by decide +kernel
theorem dX4_put_59 : decode cX4_put 59 = .ok (.iload_n 2, 1) := by decide +kernel
theorem dX4_put_60 : decode cX4_put 60 = .ok (.iadd, 1) := by decide +kernel
theorem dX4_put_61 : decode cX4_put 61 = .ok (.dup2, 1) := by decide +kernel
theorem dX4_put_62 : decode cX4_put 62 = .ok (.iaload, 1) := by decide +kernel
theorem dX4_put_63 : decode cX4_put 63 = .ok (.iload_n 3, 1) := by decide +kernel
theorem dX4_put_64 : decode cX4_put 64 = .ok (.iadd, 1) := by decide +kernel
theorem dX4_put_65 : decode cX4_put 65 = .ok (.iastore, 1) := by decide +kernel
theorem dX4_put_66 : decode cX4_put 66 = .ok (.iconst 5, 1) := by decide +kernel
theorem dX4_put_67 : decode cX4_put 67 = .ok (.newarray .int, 2) := by decide +kernel
theorem dX4_put_69 : decode cX4_put 69 = .ok (.astore 5, 2) := by decide +kernel
theorem dX4_put_71 : decode cX4_put 71 = .ok (.aload 5, 2) := by decide +kernel
theorem dX4_put_73 : decode cX4_put 73 = .ok (.iload_n 2, 1) := by decide +kernel
theorem dX4_put_74 : decode cX4_put 74 = .ok (.iload_n 3, 1) := by decide +kernel
theorem dX4_put_75 : decode cX4_put 75 = .ok (.iastore, 1) := by decide +kernel
theorem dX4_put_76 : decode cX4_put 76 = .ok (.aload_n 0, 1) := by decide +kernel
theorem dX4_put_77 : decode cX4_put 77 = .ok (.aload_n 0, 1) := by decide +kernel
theorem dX4_put_78 : decode cX4_put 78 = .ok (.iload_n 1, 1) := by decide +kernel
theorem dX4_put_79 : decode cX4_put 79 = .ok (.aload 5, 2) := by decide +kernel
theorem dX4_put_81 : decode cX4_put 81 = .ok (.invokevirtual 85, 3) := by decide +kernel
theorem dX4_put_84 : decode cX4_put 84 = .ok (.invokevirtual 82, 3) := by decide +kernel
theorem dX4_put_87 : decode cX4_put 87 = .ok (.istore 4, 2) := by decide +kernel
theorem dX4_put_89 : decode cX4_put 89 = .ok (.iload 4, 2) := by decide +kernel
theorem dX4_put_91 : decode cX4_put 91 = .ok (.aload_n 0, 1) := by decide +kernel
theorem dX4_put_92 : decode cX4_put 92 = .ok (.iload_n 1, 1) := by decide +kernel
theorem dX4_put_93 : decode cX4_put 93 = .ok (.invokevirtual 61, 3) := by decide +kernel
theorem dX4_put_96 : decode cX4_put 96 = .ok (.invokestatic 79, 3) := by decide +kernel
theorem dX4_put_99 : decode cX4_put 99 = .ok (.ireturn, 1) := by decide +kernel
theorem dX4_take_0 : decode cX4_take 0 = .ok (.aload_n 0, 1) := by decide +kernel
theorem dX4_take_1 : decode cX4_take 1 = .ok (.iconst 0, 1) := by decide +kernel
theorem dX4_take_2 : decode cX4_take 2 = .ok (.putfield 29, 3) := by decide +kernel
theorem dX4_take_5 : decode cX4_take 5 = .ok (.iload_n 1, 1) := by decide +kernel
theorem dX4_take_6 : decode cX4_take 6 = .ok (.invokestatic 68, 3) := by decide +kernel
theorem dX4_take_9 : decode cX4_take 9 = .ok (.ifCond .eq 14, 3) := by decide +kernel
theorem dX4_take_12 : decode cX4_take 12 = .ok (.iload_n 2, 1) := by decide +kernel
theorem dX4_take_13 : decode cX4_take 13 = .ok (.iconst 0, 1) := by decide +kernel
theorem dX4_take_14 : decode cX4_take 14 = .ok (.sipush 10000, 3) := by decide +kernel
theorem dX4_take_17 : decode cX4_take 17 = .ok (.invokestatic 33, 3) := by decide +kernel
theorem dX4_take_20 : decode cX4_take 20 = .ok (.ifCond .ne 5, 3) := by decide +kernel
theorem dX4_take_23 : decode cX4_take 23 = .ok (.iconst (-1), 1) := by decide +kernel
theorem dX4_take_24 : decode cX4_take 24 = .ok (.ireturn, 1) := by decide +kernel
theorem dX4_take_25 : decode cX4_take 25 = .ok (.aload_n 0, 1) := by decide +kernel
theorem dX4_take_26 : decode cX4_take 26 = .ok (.iload_n 1, 1) := by decide +kernel
theorem dX4_take_27 : decode cX4_take 27 = .ok (.invokevirtual 76, 3) := by decide +kernel
theorem dX4_take_30 : decode cX4_take 30 = .ok (.istore_n 3, 1) := by decide +kernel
theorem dX4_take_31 : decode cX4_take 31 = .ok (.iload_n 3, 1) := by decide +kernel
theorem dX4_take_32 : decode cX4_take 32 = .ok (.ifCond .eq 9, 3) := by decide +kernel
theorem dX4_take_35 : decode cX4_take 35 = .ok (.iload_n 3, 1) := by decide +kernel
theorem dX4_take_36 : decode cX4_take 36 = .ok (.iconst 0, 1) := by decide +kernel
theorem dX4_take_37 : decode cX4_take 37 = .ok (.invokestatic 79, 3) := by decide +kernel
theorem dX4_take_40 : decode cX4_take 40 = .ok (.ireturn, 1) := by decide +kernel
theorem dX4_take_41 : decode cX4_take 41 = .ok (.aload_n 0, 1) := by decide +kernel
theorem dX4_take_42 : decode cX4_take 42 = .ok (.aload_n 0, 1) := by decide +kernel
theorem dX4_take_43 : decode cX4_take 43 = .ok (.iload_n 1, 1) := by decide +kernel
theorem dX4_take_44 : decode cX4_take 44 = .ok (.iload_n 2, 1) := by decide +kernel
theorem dX4_take_45 : decode cX4_take 45 = .ok (.invokevirtual 89, 3) := by decide +kernel
theorem dX4_take_48 : decode cX4_take 48 = .ok (.invokevirtual 82, 3) := by decide +kernel
theorem dX4_take_51 : decode cX4_take 51 = .ok (.istore_n 3, 1) := by decide +kernel
theorem dX4_take_52 : decode cX4_take 52 = .ok (.iload_n 3, 1) := by decide +kernel
theorem dX4_take_53 : decode cX4_take 53 = .ok (.aload_n 0, 1) := by decide +kernel
theorem dX4_take_54 : decode cX4_take 54 = .ok (.getfield 23, 3) := by decide +kernel
theorem dX4_take_57 : decode cX4_take 57 = .ok (.invokestatic 64, 3) := by decide +kernel
theorem dX4_take_60 : decode cX4_take 60 = .ok (.invokestatic 79, 3) := by decide +kernel
theorem dX4_take_63 : decode cX4_take 63 = .ok (.ireturn, 1) := by decide +kernel
theorem dX4_move_0 : decode cX4_move 0 = .ok (.aload_n 0, 1) := by decide +kernel
theorem dX4_move_1 : decode cX4_move 1 = .ok (.iconst 0, 1) := by decide +kernel
theorem dX4_move_2 : decode cX4_move 2 = .ok (.putfield 29, 3) := by decide +kernel
theorem dX4_move_5 : decode cX4_move 5 = .ok (.iload_n 1, 1) := by decide +kernel
theorem dX4_move_6 : decode cX4_move 6 = .ok (.invokestatic 68, 3) := by decide +kernel
theorem dX4_move_9 : decode cX4_move 9 = .ok (.ifCond .eq 21, 3) := by decide +kernel
theorem dX4_move_12 : decode cX4_move 12 = .ok (.iload_n 2, 1) := by decide +kernel
theorem dX4_move_13 : decode cX4_move 13 = .ok (.invokestatic 68, 3) := by decide +kernel
theorem dX4_move_16 : decode cX4_move 16 = .ok (.ifCond .eq 14, 3) := by decide +kernel
theorem dX4_move_19 : decode cX4_move 19 = .ok (.iload_n 3, 1) := by decide +kernel
theorem dX4_move_20 : decode cX4_move 20 = .ok (.iconst 0, 1) := by decide +kernel
theorem dX4_move_21 : decode cX4_move 21 = .ok (.sipush 10000, 3) := by decide +kernel
theorem dX4_move_24 : decode cX4_move 24 = .ok (.invokestatic 33, 3) := by decide +kernel
theorem dX4_move_27 : decode cX4_move 27 = .ok (.ifCond .ne 5, 3) := by decide +kernel
theorem dX4_move_30 : decode cX4_move 30 = .ok (.iconst (-1), 1) := by decide +kernel
theorem dX4_move_31 : decode cX4_move 31 = .ok (.ireturn, 1) := by decide +kernel
theorem dX4_move_32 : decode cX4_move 32 = .ok (.aload_n 0, 1) := by decide +kernel
theorem dX4_move_33 : decode cX4_move 33 = .ok (.iload_n 1, 1) := by decide +kernel
theorem dX4_move_34 : decode cX4_move 34 = .ok (.invokevirtual 76, 3) := by decide +kernel
theorem dX4_move_37 : decode cX4_move 37 = .ok (.istore 5, 2) := by decide +kernel
theorem dX4_move_39 : decode cX4_move 39 = .ok (.iload 5, 2) := by decide +kernel
theorem dX4_move_41 : decode cX4_move 41 = .ok (.ifCond .eq 10, 3) := by decide +kernel
theorem dX4_move_44 : decode cX4_move 44 = .ok (.iload 5, 2) := by decide +kernel
theorem dX4_move_46 : decode cX4_move 46 = .ok (.iconst 0, 1) := by decide +kernel
theorem dX4_move_47 : decode cX4_move 47 = .ok (.invokestatic 79, 3) := by decide +kernel
theorem dX4_move_50 : decode cX4_move 50 = .ok (.ireturn, 1) := by decide +kernel
theorem dX4_move_51 : decode cX4_move 51 = .ok (.aload_n 0, 1) := by decide +kernel
theorem dX4_move_52 : decode cX4_move 52 = .ok (.iload_n 1, 1) := by decide +kernel
theorem dX4_move_53 : decode cX4_move 53 = .ok (.iload_n 3, 1) := by decide +kernel
theorem dX4_move_54 : decode cX4_move 54 = .ok (.invokevirtual 89, 3) := by decide +kernel
theorem dX4_move_57 : decode cX4_move 57 = .ok (.istore 5, 2) := by decide +kernel
theorem dX4_move_59 : decode cX4_move 59 = .ok (.iload 5, 2) := by decide +kernel
theorem dX4_move_61 : decode cX4_move 61 = .ok (.ifCond .ne 56, 3) := by decide +kernel
theorem dX4_move_64 : decode cX4_move 64 = .ok (.aload_n 0, 1) := by decide +kernel
theorem dX4_move_65 : decode cX4_move 65 = .ok (.iload_n 2, 1) := by decide +kernel
theorem dX4_move_66 : decode cX4_move 66 = .ok (.invokevirtual 76, 3) := by decide +kernel
theorem dX4_move_69 : decode cX4_move 69 = .ok (.istore 5, 2) := by decide +kernel
theorem dX4_move_71 : decode cX4_move 71 = .ok (.iload 5, 2) := by decide +kernel
theorem dX4_move_73 : decode cX4_move 73 = .ok (.ifCond .ne 19, 3) := by decide +kernel
theorem dX4_move_76 : decode cX4_move 76 = .ok (.aload_n 0, 1) := by decide +kernel
theorem dX4_move_77 : decode cX4_move 77 = .ok (.aload_n 0, 1) := by decide +kernel
theorem dX4_move_78 : decode cX4_move 78 = .ok (.iload_n 2, 1) := by decide +kernel
theorem dX4_move_79 : decode cX4_move 79 = .ok (.aload_n 0, 1) := by decide +kernel
theorem dX4_move_80 : decode cX4_move 80 = .ok (.getfield 23, 3) := by decide +kernel
theorem dX4_move_83 : decode cX4_move 83 = .ok (.invokevirtual 85, 3) := by decide +kernel
theorem dX4_move_86 : decode cX4_move 86 = .ok (.invokevirtual 82, 3) := by decide +kernel
theorem dX4_move_89 : decode cX4_move 89 = .ok (.goto 5, 3) := by decide +kernel
theorem dX4_move_92 : decode cX4_move 92 = .ok (.iload 5, 2) := by decide +kernel
theorem dX4_move_94 : decode cX4_move 94 = .ok (.istore 5, 2) := by decide +kernel
theorem dX4_move_96 : decode cX4_move 96 = .ok (.iload 5, 2) := by decide +kernel
theorem dX4_move_98 : decode cX4_move 98 = .ok (.ifCond .eq 19, 3) := by decide +kernel
theorem dX4_move_101 : decode cX4_move 101 = .ok (.iload 4, 2) := by decide +kernel
theorem dX4_move_103 : decode cX4_move 103 = .ok (.ifCond .eq 14, 3) := by decide +kernel
theorem dX4_move_106 : decode cX4_move 106 = .ok (.aload_n 0, 1) := by decide +kernel
theorem dX4_move_107 : decode cX4_move 107 = .ok (.bipush 8, 2) := by decide +kernel
theorem dX4_move_109 : decode cX4_move 109 = .ok (.iload_n 1, 1) := by decide +kernel
theorem dX4_move_110 : decode cX4_move 110 = .ok (.aload_n 0, 1) := by decide +kernel
theorem dX4_move_111 : decode cX4_move 111 = .ok (.getfield 23, 3) := by decide +kernel
theorem dX4_move_114 : decode cX4_move 114 = .ok (.invokevirtual 57, 3) := by decide +kernel
theorem dX4_move_117 : decode cX4_move 117 = .ok (.aload_n 0, 1) := by decide +kernel
theorem dX4_move_118 : decode cX4_move 118 = .ok (.iload 5, 2) := by decide +kernel
theorem dX4_move_120 : decode cX4_move 120 = .ok (.invokevirtual 82, 3) := by decide +kernel
theorem dX4_move_123 : decode cX4_move 123 = .ok (.aload_n 0, 1) := by decide +kernel
theorem dX4_move_124 : decode cX4_move 124 = .ok (.getfield 23, 3) := by decide +kernel
theorem dX4_move_127 : decode cX4_move 127 = .ok (.invokestatic 64, 3) := by decide +kernel
theorem dX4_move_130 : decode cX4_move 130 = .ok (.invokestatic 79, 3) := by decide +kernel
theorem dX4_move_133 : decode cX4_move 133 = .ok (.ireturn, 1) := by decide +kernel
theorem dX4_digits_0 : decode cX4_digits 0 = .ok (.iconst 1, 1) := by decide +kernel
theorem dX4_digits_1 : decode cX4_digits 1 = .ok (.istore_n 1, 1) := by decide +kernel
theorem dX4_digits_2 : decode cX4_digits 2 = .ok (.iload_n 0, 1) := by decide +kernel
theorem dX4_digits_3 : decode cX4_digits 3 = .ok (.istore_n 2, 1) := by decide +kernel
theorem dX4_digits_4 : decode cX4_digits 4 = .ok (.iload_n 2, 1) := by decide +kernel
theorem dX4_digits_5 : decode cX4_digits 5 = .ok (.bipush 9, 2) := by decide +kernel
theorem dX4_digits_7 : decode cX4_digits 7 = .ok (.if_icmp .le 14, 3) := by decide +kernel
theorem dX4_digits_10 : decode cX4_digits 10 = .ok (.iinc 1 1, 3) := by decide +kernel
theorem dX4_digits_13 : decode cX4_digits 13 = .ok (.iload_n 2, 1) := by decide +kernel
theorem dX4_digits_14 : decode cX4_digits 14 = .ok (.bipush 10, 2) := by decide +kernel
theorem dX4_digits_16 : decode cX4_digits 16 = .ok (.idiv, 1) := by decide +kernel
theorem dX4_digits_17 : decode cX4_digits 17 = .ok (.istore_n 2, 1) := by decide +kernel
theorem dX4_digits_18 : decode cX4_digits 18 = .ok (.goto (-14), 3) := by decide +kernel
theorem dX4_digits_21 : decode cX4_digits 21 = .ok (.iload_n 1, 1) := by decide +kernel
theorem dX4_digits_22 : decode cX4_digits 22 = .ok (.ireturn, 1) := by decide +kernel
theorem dX4_digit_0 : decode cX4_digit 0 = .ok (.iload_n 0, 1) := by decide +kernel
theorem dX4_digit_1 : decode cX4_digit 1 = .ok (.istore_n 3, 1) := by decide +kernel
theorem dX4_digit_2 : decode cX4_digit 2 = .ok (.iload_n 2, 1) := by decide +kernel
theorem dX4_digit_3 : decode cX4_digit 3 = .ok (.iconst 1, 1) := by decide +kernel
theorem dX4_digit_4 : decode cX4_digit 4 = .ok (.iadd, 1) := by decide +kernel
theorem dX4_digit_5 : decode cX4_digit 5 = .ok (.istore 4, 2) := by decide +kernel
theorem dX4_digit_7 : decode cX4_digit 7 = .ok (.iload 4, 2) := by decide +kernel
theorem dX4_digit_9 : decode cX4_digit 9 = .ok (.iload_n 1, 1) := by decide +kernel
theorem dX4_digit_10 : decode cX4_digit 10 = .ok (.if_icmp .ge 14, 3) := by decide +kernel
theorem dX4_digit_13 : decode cX4_digit 13 = .ok (.iload_n 3, 1) := by decide +kernel
theorem dX4_digit_14 : decode cX4_digit 14 = .ok (.bipush 10, 2) := by decide +kernel
theorem dX4_digit_16 : decode cX4_digit 16 = .ok (.idiv, 1) := by decide +kernel
theorem dX4_digit_17 : decode cX4_digit 17 = .ok (.istore_n 3, 1) := by decide +kernel
theorem dX4_digit_18 : decode cX4_digit 18 = .ok (.iinc 4 1, 3) := by decide +kernel
theorem dX4_digit_21 : decode cX4_digit 21 = .ok (.goto (-14), 3) := by decide +kernel
theorem dX4_digit_24 : decode cX4_digit 24 = .ok (.iload_n 3, 1) := by decide +kernel
theorem dX4_digit_25 : decode cX4_digit 25 = .ok (.bipush 10, 2) := by decide +kernel
theorem dX4_digit_27 : decode cX4_digit 27 = .ok (.irem, 1) := by decide +kernel
theorem dX4_digit_28 : decode cX4_digit 28 = .ok (.ireturn, 1) := by decide +kernel
theorem dX4_keep_0 : decode cX4_keep 0 = .ok (.iconst 0, 1) := by decide +kernel
theorem dX4_keep_1 : decode cX4_keep 1 = .ok (.istore_n 3, 1) := by decide +kernel
theorem dX4_keep_2 : decode cX4_keep 2 = .ok (.iload_n 3, 1) := by decide +kernel
theorem dX4_keep_3 : decode cX4_keep 3 = .ok (.iconst 5, 1) := by decide +kernel
theorem dX4_keep_4 : decode cX4_keep 4 = .ok (.if_icmp .ge 29, 3) := by decide +kernel
theorem dX4_keep_7 : decode cX4_keep 7 = .ok (.aload_n 0, 1) := by decide +kernel
theorem dX4_keep_8 : decode cX4_keep 8 = .ok (.getfield 26, 3) := by decide +kernel
theorem dX4_keep_11 : decode cX4_keep 11 = .ok (.iconst 5, 1) := by decide +kernel
theorem dX4_keep_12 : decode cX4_keep 12 = .ok (.iload_n 2, 1) := by decide +kernel
theorem dX4_keep_13 : decode cX4_keep 13 = .ok (.imul, 1) := by decide +kernel
theorem dX4_keep_14 : decode cX4_keep 14 = .ok (.iload_n 3, 1) := by decide +kernel
theorem dX4_keep_15 : decode cX4_keep 15 = .ok (.iadd, 1) := by decide +kernel
theorem dX4_keep_16 : decode cX4_keep 16 = .ok (.aload_n 0, 1) := by decide +kernel
theorem dX4_keep_17 : decode cX4_keep 17 = .ok (.getfield 20, 3) := by decide +kernel
theorem dX4_keep_20 : decode cX4_keep 20 = .ok (.iconst 5, 1) := by decide +kernel
theorem dX4_keep_21 : decode cX4_keep 21 = .ok (.iload_n 1, 1) := by decide +kernel
theorem dX4_keep_22 : decode cX4_keep 22 = .ok (.imul, 1) := by decide +kernel
theorem dX4_keep_23 : decode cX4_keep 23 = .ok (.iload_n 3, 1) := by decide +kernel
theorem dX4_keep_24 : decode cX4_keep 24 = .ok (.iadd, 1) := by decide +kernel
theorem dX4_keep_25 : decode cX4_keep 25 = .ok (.iaload, 1) := by decide +kernel
theorem dX4_keep_26 : decode cX4_keep 26 = .ok (.iastore, 1) := by decide +kernel
theorem dX4_keep_27 : decode cX4_keep 27 = .ok (.iinc 3 1, 3) := by decide +kernel
theorem dX4_keep_30 : decode cX4_keep 30 = .ok (.goto (-28), 3) := by decide +kernel
theorem dX4_keep_33 : decode cX4_keep 33 = .ok (.return_, 1) := by decide +kernel
theorem dX4_putBack_0 : decode cX4_putBack 0 = .ok (.iconst 0, 1) := by decide +kernel
theorem dX4_putBack_1 : decode cX4_putBack 1 = .ok (.istore_n 3, 1) := by decide +kernel
theorem dX4_putBack_2 : decode cX4_putBack 2 = .ok (.iload_n 3, 1) := by decide +kernel
theorem dX4_putBack_3 : decode cX4_putBack 3 = .ok (.iconst 5, 1) := by decide +kernel
theorem dX4_putBack_4 : decode cX4_putBack 4 = .ok (.if_icmp .ge 29, 3) := by decide +kernel
theorem dX4_putBack_7 : decode cX4_putBack 7 = .ok (.aload_n 0, 1) := by decide +kernel
theorem dX4_putBack_8 : decode cX4_putBack 8 = .ok (.getfield 20, 3) := by decide +kernel
theorem dX4_putBack_11 : decode cX4_putBack 11 = .ok (.iconst 5, 1) := by decide +kernel
theorem dX4_putBack_12 : decode cX4_putBack 12 = .ok (.iload_n 1, 1) := by decide +kernel
theorem dX4_putBack_13 : decode cX4_putBack 13 = .ok (.imul, 1) := by decide +kernel
theorem dX4_putBack_14 : decode cX4_putBack 14 = .ok (.iload_n 3, 1) := by decide +kernel
theorem dX4_putBack_15 : decode cX4_putBack 15 = .ok (.iadd, 1) := by decide +kernel
theorem dX4_putBack_16 : decode cX4_putBack 16 = .ok (.aload_n 0, 1) := by decide +kernel
theorem dX4_putBack_17 : decode cX4_putBack 17 = .ok (.getfield 26, 3) := by decide +kernel
theorem dX4_putBack_20 : decode cX4_putBack 20 = .ok (.iconst 5, 1) := by decide +kernel
theorem dX4_putBack_21 : decode cX4_putBack 21 = .ok (.iload_n 2, 1) := by decide +kernel
theorem dX4_putBack_22 : decode cX4_putBack 22 = .ok (.imul, 1) := by decide +kernel
theorem dX4_putBack_23 : decode cX4_putBack 23 = .ok (.iload_n 3, 1) := by decide +kernel
theorem dX4_putBack_24 : decode cX4_putBack 24 = .ok (.iadd, 1) := by decide +kernel
theorem dX4_putBack_25 : decode cX4_putBack 25 = .ok (.iaload, 1) := by decide +kernel
theorem dX4_putBack_26 : decode cX4_putBack 26 = .ok (.iastore, 1) := by decide +kernel
theorem dX4_putBack_27 : decode cX4_putBack 27 = .ok (.iinc 3 1, 3) := by decide +kernel
theorem dX4_putBack_30 : decode cX4_putBack 30 = .ok (.goto (-28), 3) := by decide +kernel
theorem dX4_putBack_33 : decode cX4_putBack 33 = .ok (.return_, 1) := by decide +kernel
theorem dX4_pass_0 : decode cX4_pass 0 = .ok (.aload_n 0, 1) := by decide +kernel
theorem dX4_pass_1 : decode cX4_pass 1 = .ok (.iconst 0, 1) := by decide +kernel
theorem dX4_pass_2 : decode cX4_pass 2 = .ok (.putfield 29, 3) := by decide +kernel
theorem dX4_pass_5 : decode cX4_pass 5 = .ok (.iload_n 1, 1) := by decide +kernel
theorem dX4_pass_6 : decode cX4_pass 6 = .ok (.iconst 0, 1) := by decide +kernel
theorem dX4_pass_7 : decode cX4_pass 7 = .ok (.ldc 92, 2) := by decide +kernel
theorem dX4_pass_9 : decode cX4_pass 9 = .ok (.invokestatic 33, 3) := by decide +kernel
theorem dX4_pass_12 : decode cX4_pass 12 = .ok (.ifCond .eq 18, 3) := by decide +kernel
theorem dX4_pass_15 : decode cX4_pass 15 = .ok (.iload_n 2, 1) := by decide +kernel
theorem dX4_pass_16 : decode cX4_pass 16 = .ok (.iconst 0, 1) := by decide +kernel
theorem dX4_pass_17 : decode cX4_pass 17 = .ok (.sipush 10000, 3) := by decide +kernel
theorem dX4_pass_20 : decode cX4_pass 20 = .ok (.invokestatic 33, 3) := by decide +kernel
theorem dX4_pass_23 : decode cX4_pass 23 = .ok (.ifCond .eq 7, 3) := by decide +kernel
theorem dX4_pass_26 : decode cX4_pass 26 = .ok (.iconst 1, 1) := by decide +kernel
theorem dX4_pass_27 : decode cX4_pass 27 = .ok (.goto 4, 3) := by decide +kernel
theorem dX4_pass_30 : decode cX4_pass 30 = .ok (.iconst 0, 1) := by decide +kernel
theorem dX4_pass_31 : decode cX4_pass 31 = .ok (.istore 4, 2) := by decide +kernel
theorem dX4_pass_33 : decode cX4_pass 33 = .ok (.iload 4, 2) := by decide +kernel
theorem dX4_pass_35 : decode cX4_pass 35 = .ok (.ifCond .eq 10, 3) := by decide +kernel
theorem dX4_pass_38 : decode cX4_pass 38 = .ok (.iload_n 1, 1) := by decide +kernel
theorem dX4_pass_39 : decode cX4_pass 39 = .ok (.invokestatic 93, 3) := by decide +kernel
theorem dX4_pass_42 : decode cX4_pass 42 = .ok (.goto 4, 3) := by decide +kernel
theorem dX4_pass_45 : decode cX4_pass 45 = .ok (.iconst 0, 1) := by decide +kernel
theorem dX4_pass_46 : decode cX4_pass 46 = .ok (.istore 5, 2) := by decide +kernel
theorem dX4_pass_48 : decode cX4_pass 48 = .ok (.iconst 0, 1) := by decide +kernel
theorem dX4_pass_49 : decode cX4_pass 49 = .ok (.istore 6, 2) := by decide +kernel
theorem dX4_pass_51 : decode cX4_pass 51 = .ok (.iload 6, 2) := by decide +kernel
theorem dX4_pass_53 : decode cX4_pass 53 = .ok (.iload 5, 2) := by decide +kernel
theorem dX4_pass_55 : decode cX4_pass 55 = .ok (.if_icmp .ge 34, 3) := by decide +kernel
theorem dX4_pass_58 : decode cX4_pass 58 = .ok (.iload 4, 2) := by decide +kernel
theorem dX4_pass_60 : decode cX4_pass 60 = .ok (.ifCond .eq 20, 3) := by decide +kernel
theorem dX4_pass_63 : decode cX4_pass 63 = .ok (.iload_n 1, 1) := by decide +kernel
theorem dX4_pass_64 : decode cX4_pass 64 = .ok (.iload 5, 2) := by decide +kernel
theorem dX4_pass_66 : decode cX4_pass 66 = .ok (.iload 6, 2) := by decide +kernel
theorem dX4_pass_68 : decode cX4_pass 68 = .ok (.invokestatic 96, 3) := by decide +kernel
theorem dX4_pass_71 : decode cX4_pass 71 = .ok (.bipush 8, 2) := by decide +kernel
theorem dX4_pass_73 : decode cX4_pass 73 = .ok (.if_icmp .ge 7, 3) := by decide +kernel
theorem dX4_pass_76 : decode cX4_pass 76 = .ok (.iconst 1, 1) := by decide +kernel
theorem dX4_pass_77 : decode cX4_pass 77 = .ok (.goto 4, 3) := by decide +kernel
theorem dX4_pass_80 : decode cX4_pass 80 = .ok (.iconst 0, 1) := by decide +kernel
theorem dX4_pass_81 : decode cX4_pass 81 = .ok (.istore 4, 2) := by decide +kernel
theorem dX4_pass_83 : decode cX4_pass 83 = .ok (.iinc 6 1, 3) := by decide +kernel
theorem dX4_pass_86 : decode cX4_pass 86 = .ok (.goto (-35), 3) := by decide +kernel
theorem dX4_pass_89 : decode cX4_pass 89 = .ok (.iload 4, 2) := by decide +kernel
theorem dX4_pass_91 : decode cX4_pass 91 = .ok (.ifCond .ne 5, 3) := by decide +kernel
theorem dX4_pass_94 : decode cX4_pass 94 = .ok (.iconst (-1), 1) := by decide +kernel
theorem dX4_pass_95 : decode cX4_pass 95 = .ok (.ireturn, 1) := by decide +kernel
theorem dX4_pass_96 : decode cX4_pass 96 = .ok (.aload_n 0, 1) := by decide +kernel
theorem dX4_pass_97 : decode cX4_pass 97 = .ok (.bipush 8, 2) := by decide +kernel
theorem dX4_pass_99 : decode cX4_pass 99 = .ok (.bipush 6, 2) := by decide +kernel
theorem dX4_pass_101 : decode cX4_pass 101 = .ok (.invokevirtual 100, 3) := by decide +kernel
theorem dX4_pass_104 : decode cX4_pass 104 = .ok (.iconst 0, 1) := by decide +kernel
theorem dX4_pass_105 : decode cX4_pass 105 = .ok (.istore 6, 2) := by decide +kernel
theorem dX4_pass_107 : decode cX4_pass 107 = .ok (.iconst 0, 1) := by decide +kernel
theorem dX4_pass_108 : decode cX4_pass 108 = .ok (.istore 7, 2) := by decide +kernel
theorem dX4_pass_110 : decode cX4_pass 110 = .ok (.iload 6, 2) := by decide +kernel
theorem dX4_pass_112 : decode cX4_pass 112 = .ok (.iload 5, 2) := by decide +kernel
theorem dX4_pass_114 : decode cX4_pass 114 = .ok (.if_icmp .ge 99, 3) := by decide +kernel
theorem dX4_pass_117 : decode cX4_pass 117 = .ok (.iload 7, 2) := by decide +kernel
theorem dX4_pass_119 : decode cX4_pass 119 = .ok (.ifCond .ne 94, 3) := by decide +kernel
theorem dX4_pass_122 : decode cX4_pass 122 = .ok (.iload_n 1, 1) := by decide +kernel
theorem dX4_pass_123 : decode cX4_pass 123 = .ok (.iload 5, 2) := by decide +kernel
theorem dX4_pass_125 : decode cX4_pass 125 = .ok (.iload 6, 2) := by decide +kernel
theorem dX4_pass_127 : decode cX4_pass 127 = .ok (.invokestatic 96, 3) := by decide +kernel
theorem dX4_pass_130 : decode cX4_pass 130 = .ok (.istore 8, 2) := by decide +kernel
theorem dX4_pass_132 : decode cX4_pass 132 = .ok (.aload_n 0, 1) := by decide +kernel
theorem dX4_pass_133 : decode cX4_pass 133 = .ok (.iload 8, 2) := by decide +kernel
theorem dX4_pass_135 : decode cX4_pass 135 = .ok (.invokevirtual 76, 3) := by decide +kernel
theorem dX4_pass_138 : decode cX4_pass 138 = .ok (.istore 7, 2) := by decide +kernel
theorem dX4_pass_140 : decode cX4_pass 140 = .ok (.iload 7, 2) := by decide +kernel
theorem dX4_pass_142 : decode cX4_pass 142 = .ok (.ifCond .ne 68, 3) := by decide +kernel
theorem dX4_pass_145 : decode cX4_pass 145 = .ok (.aload_n 0, 1) := by decide +kernel
theorem dX4_pass_146 : decode cX4_pass 146 = .ok (.iload 8, 2) := by decide +kernel
theorem dX4_pass_148 : decode cX4_pass 148 = .ok (.iload 6, 2) := by decide +kernel
theorem dX4_pass_150 : decode cX4_pass 150 = .ok (.invokevirtual 100, 3) := by decide +kernel
theorem dX4_pass_153 : decode cX4_pass 153 = .ok (.iinc 6 1, 3) := by decide +kernel
theorem dX4_pass_156 : decode cX4_pass 156 = .ok (.iload 6, 2) := by decide +kernel
theorem dX4_pass_158 : decode cX4_pass 158 = .ok (.iconst 1, 1) := by decide +kernel
theorem dX4_pass_159 : decode cX4_pass 159 = .ok (.if_icmp .le 16, 3) := by decide +kernel
theorem dX4_pass_162 : decode cX4_pass 162 = .ok (.aload_n 0, 1) := by decide +kernel
theorem dX4_pass_163 : decode cX4_pass 163 = .ok (.iload 8, 2) := by decide +kernel
theorem dX4_pass_165 : decode cX4_pass 165 = .ok (.aload_n 0, 1) := by decide +kernel
theorem dX4_pass_166 : decode cX4_pass 166 = .ok (.getfield 23, 3) := by decide +kernel
theorem dX4_pass_169 : decode cX4_pass 169 = .ok (.invokevirtual 85, 3) := by decide +kernel
theorem dX4_pass_172 : decode cX4_pass 172 = .ok (.goto 4, 3) := by decide +kernel
theorem dX4_pass_175 : decode cX4_pass 175 = .ok (.iconst 0, 1) := by decide +kernel
theorem dX4_pass_176 : decode cX4_pass 176 = .ok (.istore 7, 2) := by decide +kernel
theorem dX4_pass_178 : decode cX4_pass 178 = .ok (.iload 7, 2) := by decide +kernel
theorem dX4_pass_180 : decode cX4_pass 180 = .ok (.ifCond .ne 26, 3) := by decide +kernel
theorem dX4_pass_183 : decode cX4_pass 183 = .ok (.iload 6, 2) := by decide +kernel
theorem dX4_pass_185 : decode cX4_pass 185 = .ok (.iload 5, 2) := by decide +kernel
theorem dX4_pass_187 : decode cX4_pass 187 = .ok (.if_icmp .lt 9, 3) := by decide +kernel
theorem dX4_pass_190 : decode cX4_pass 190 = .ok (.iload 5, 2) := by decide +kernel
theorem dX4_pass_192 : decode cX4_pass 192 = .ok (.iconst 1, 1) := by decide +kernel
theorem dX4_pass_193 : decode cX4_pass 193 = .ok (.if_icmp .ne 13, 3) := by decide +kernel
theorem dX4_pass_196 : decode cX4_pass 196 = .ok (.aload_n 0, 1) := by decide +kernel
theorem dX4_pass_197 : decode cX4_pass 197 = .ok (.iload 8, 2) := by decide +kernel
theorem dX4_pass_199 : decode cX4_pass 199 = .ok (.iload_n 2, 1) := by decide +kernel
theorem dX4_pass_200 : decode cX4_pass 200 = .ok (.invokevirtual 89, 3) := by decide +kernel
theorem dX4_pass_203 : decode cX4_pass 203 = .ok (.goto 5, 3) := by decide +kernel
theorem dX4_pass_206 : decode cX4_pass 206 = .ok (.iload 7, 2) := by decide +kernel
theorem dX4_pass_208 : decode cX4_pass 208 = .ok (.istore 7, 2) := by decide +kernel
theorem dX4_pass_210 : decode cX4_pass 210 = .ok (.goto (-100), 3) := by decide +kernel
theorem dX4_pass_213 : decode cX4_pass 213 = .ok (.iload 6, 2) := by decide +kernel
theorem dX4_pass_215 : decode cX4_pass 215 = .ok (.iconst 1, 1) := by decide +kernel
theorem dX4_pass_216 : decode cX4_pass 216 = .ok (.isub, 1) := by decide +kernel
theorem dX4_pass_217 : decode cX4_pass 217 = .ok (.istore 8, 2) := by decide +kernel
theorem dX4_pass_219 : decode cX4_pass 219 = .ok (.iload 8, 2) := by decide +kernel
theorem dX4_pass_221 : decode cX4_pass 221 = .ok (.ifCond .lt 40, 3) := by decide +kernel
theorem dX4_pass_224 : decode cX4_pass 224 = .ok (.aload_n 0, 1) := by decide +kernel
theorem dX4_pass_225 : decode cX4_pass 225 = .ok (.iload 7, 2) := by decide +kernel
theorem dX4_pass_227 : decode cX4_pass 227 = .ok (.invokevirtual 82, 3) := by decide +kernel
theorem dX4_pass_230 : decode cX4_pass 230 = .ok (.istore 7, 2) := by decide +kernel
theorem dX4_pass_232 : decode cX4_pass 232 = .ok (.iload 7, 2) := by decide +kernel
theorem dX4_pass_234 : decode cX4_pass 234 = .ok (.ifCond .eq 21, 3) := by decide +kernel
theorem dX4_pass_237 : decode cX4_pass 237 = .ok (.iload_n 3, 1) := by decide +kernel
theorem dX4_pass_238 : decode cX4_pass 238 = .ok (.ifCond .eq 17, 3) := by decide +kernel
theorem dX4_pass_241 : decode cX4_pass 241 = .ok (.aload_n 0, 1) := by decide +kernel
theorem dX4_pass_242 : decode cX4_pass 242 = .ok (.iload_n 1, 1) := by decide +kernel
theorem dX4_pass_243 : decode cX4_pass 243 = .ok (.iload 5, 2) := by decide +kernel
theorem dX4_pass_245 : decode cX4_pass 245 = .ok (.iload 8, 2) := by decide +kernel
theorem dX4_pass_247 : decode cX4_pass 247 = .ok (.invokestatic 96, 3) := by decide +kernel
theorem dX4_pass_250 : decode cX4_pass 250 = .ok (.iload 8, 2) := by decide +kernel
theorem dX4_pass_252 : decode cX4_pass 252 = .ok (.invokevirtual 104, 3) := by decide +kernel
theorem dX4_pass_255 : decode cX4_pass 255 = .ok (.iinc 8 (-1), 3) := by decide +kernel
theorem dX4_pass_258 : decode cX4_pass 258 = .ok (.goto (-39), 3) := by decide +kernel
theorem dX4_pass_261 : decode cX4_pass 261 = .ok (.iload 7, 2) := by decide +kernel
theorem dX4_pass_263 : decode cX4_pass 263 = .ok (.ifCond .eq 15, 3) := by decide +kernel
theorem dX4_pass_266 : decode cX4_pass 266 = .ok (.iload_n 3, 1) := by decide +kernel
theorem dX4_pass_267 : decode cX4_pass 267 = .ok (.ifCond .eq 11, 3) := by decide +kernel
theorem dX4_pass_270 : decode cX4_pass 270 = .ok (.aload_n 0, 1) := by decide +kernel
theorem dX4_pass_271 : decode cX4_pass 271 = .ok (.bipush 8, 2) := by decide +kernel
theorem dX4_pass_273 : decode cX4_pass 273 = .ok (.bipush 6, 2) := by decide +kernel
theorem dX4_pass_275 : decode cX4_pass 275 = .ok (.invokevirtual 104, 3) := by decide +kernel
theorem dX4_pass_278 : decode cX4_pass 278 = .ok (.iload 7, 2) := by decide +kernel
theorem dX4_pass_280 : decode cX4_pass 280 = .ok (.iload 5, 2) := by decide +kernel
theorem dX4_pass_282 : decode cX4_pass 282 = .ok (.invokestatic 79, 3) := by decide +kernel
theorem dX4_pass_285 : decode cX4_pass 285 = .ok (.ireturn, 1) := by decide +kernel
theorem dX4_first_0 : decode cX4_first 0 = .ok (.aload_n 0, 1) := by decide +kernel
theorem dX4_first_1 : decode cX4_first 1 = .ok (.iconst 0, 1) := by decide +kernel
theorem dX4_first_2 : decode cX4_first 2 = .ok (.putfield 29, 3) := by decide +kernel
theorem dX4_first_5 : decode cX4_first 5 = .ok (.iload_n 1, 1) := by decide +kernel
theorem dX4_first_6 : decode cX4_first 6 = .ok (.iconst 0, 1) := by decide +kernel
theorem dX4_first_7 : decode cX4_first 7 = .ok (.sipush 10000, 3) := by decide +kernel
theorem dX4_first_10 : decode cX4_first 10 = .ok (.invokestatic 33, 3) := by decide +kernel
theorem dX4_first_13 : decode cX4_first 13 = .ok (.ifCond .ne 5, 3) := by decide +kernel
theorem dX4_first_16 : decode cX4_first 16 = .ok (.iconst (-1), 1) := by decide +kernel
theorem dX4_first_17 : decode cX4_first 17 = .ok (.ireturn, 1) := by decide +kernel
theorem dX4_first_18 : decode cX4_first 18 = .ok (.iconst 0, 1) := by decide +kernel
theorem dX4_first_19 : decode cX4_first 19 = .ok (.istore_n 2, 1) := by decide +kernel
theorem dX4_first_20 : decode cX4_first 20 = .ok (.iload_n 2, 1) := by decide +kernel
theorem dX4_first_21 : decode cX4_first 21 = .ok (.bipush 8, 2) := by decide +kernel
theorem dX4_first_23 : decode cX4_first 23 = .ok (.if_icmp .ge 43, 3) := by decide +kernel
theorem dX4_first_26 : decode cX4_first 26 = .ok (.aload_n 0, 1) := by decide +kernel
theorem dX4_first_27 : decode cX4_first 27 = .ok (.iload_n 2, 1) := by decide +kernel
theorem dX4_first_28 : decode cX4_first 28 = .ok (.invokevirtual 76, 3) := by decide +kernel
theorem dX4_first_31 : decode cX4_first 31 = .ok (.ifCond .ne 29, 3) := by decide +kernel
theorem dX4_first_34 : decode cX4_first 34 = .ok (.aload_n 0, 1) := by decide +kernel
theorem dX4_first_35 : decode cX4_first 35 = .ok (.iconst 0, 1) := by decide +kernel
theorem dX4_first_36 : decode cX4_first 36 = .ok (.invokevirtual 82, 3) := by decide +kernel
theorem dX4_first_39 : decode cX4_first 39 = .ok (.istore_n 3, 1) := by decide +kernel
theorem dX4_first_40 : decode cX4_first 40 = .ok (.aload_n 0, 1) := by decide +kernel
theorem dX4_first_41 : decode cX4_first 41 = .ok (.getfield 13, 3) := by decide +kernel
theorem dX4_first_44 : decode cX4_first 44 = .ok (.iload_n 2, 1) := by decide +kernel
theorem dX4_first_45 : decode cX4_first 45 = .ok (.baload, 1) := by decide +kernel
theorem dX4_first_46 : decode cX4_first 46 = .ok (.ifCond .ne 14, 3) := by decide +kernel
theorem dX4_first_49 : decode cX4_first 49 = .ok (.aload_n 0, 1) := by decide +kernel
theorem dX4_first_50 : decode cX4_first 50 = .ok (.iload_n 2, 1) := by decide +kernel
theorem dX4_first_51 : decode cX4_first 51 = .ok (.iload_n 1, 1) := by decide +kernel
theorem dX4_first_52 : decode cX4_first 52 = .ok (.invokevirtual 53, 3) := by decide +kernel
theorem dX4_first_55 : decode cX4_first 55 = .ok (.ifCond .ne 5, 3) := by decide +kernel
theorem dX4_first_58 : decode cX4_first 58 = .ok (.iload_n 2, 1) := by decide +kernel
theorem dX4_first_59 : decode cX4_first 59 = .ok (.ireturn, 1) := by decide +kernel
theorem dX4_first_60 : decode cX4_first 60 = .ok (.iinc 2 1, 3) := by decide +kernel
theorem dX4_first_63 : decode cX4_first 63 = .ok (.goto (-43), 3) := by decide +kernel
theorem dX4_first_66 : decode cX4_first 66 = .ok (.bipush (-2), 2) := by decide +kernel
theorem dX4_first_68 : decode cX4_first 68 = .ok (.ireturn, 1) := by decide +kernel
theorem dX4_share_0 : decode cX4_share 0 = .ok (.aload_n 0, 1) := by decide +kernel
theorem dX4_share_1 : decode cX4_share 1 = .ok (.iconst 0, 1) := by decide +kernel
theorem dX4_share_2 : decode cX4_share 2 = .ok (.putfield 29, 3) := by decide +kernel
theorem dX4_share_5 : decode cX4_share 5 = .ok (.iload_n 1, 1) := by decide +kernel
theorem dX4_share_6 : decode cX4_share 6 = .ok (.invokestatic 68, 3) := by decide +kernel
theorem dX4_share_9 : decode cX4_share 9 = .ok (.ifCond .eq 19, 3) := by decide +kernel
theorem dX4_share_12 : decode cX4_share 12 = .ok (.iload_n 2, 1) := by decide +kernel
theorem dX4_share_13 : decode cX4_share 13 = .ok (.invokestatic 68, 3) := by decide +kernel
theorem dX4_share_16 : decode cX4_share 16 = .ok (.ifCond .eq 12, 3) := by decide +kernel
theorem dX4_share_19 : decode cX4_share 19 = .ok (.iload_n 3, 1) := by decide +kernel
theorem dX4_share_20 : decode cX4_share 20 = .ok (.iconst 0, 1) := by decide +kernel
theorem dX4_share_21 : decode cX4_share 21 = .ok (.iconst 4, 1) := by decide +kernel
theorem dX4_share_22 : decode cX4_share 22 = .ok (.invokestatic 33, 3) := by decide +kernel
theorem dX4_share_25 : decode cX4_share 25 = .ok (.ifCond .ne 5, 3) := by decide +kernel
theorem dX4_share_28 : decode cX4_share 28 = .ok (.iconst (-1), 1) := by decide +kernel
theorem dX4_share_29 : decode cX4_share 29 = .ok (.ireturn, 1) := by decide +kernel
theorem dX4_share_30 : decode cX4_share 30 = .ok (.aload_n 0, 1) := by decide +kernel
theorem dX4_share_31 : decode cX4_share 31 = .ok (.iload_n 1, 1) := by decide +kernel
theorem dX4_share_32 : decode cX4_share 32 = .ok (.invokevirtual 76, 3) := by decide +kernel
theorem dX4_share_35 : decode cX4_share 35 = .ok (.istore 4, 2) := by decide +kernel
theorem dX4_share_37 : decode cX4_share 37 = .ok (.iload 4, 2) := by decide +kernel
theorem dX4_share_39 : decode cX4_share 39 = .ok (.ifCond .eq 10, 3) := by decide +kernel
theorem dX4_share_42 : decode cX4_share 42 = .ok (.iload 4, 2) := by decide +kernel
theorem dX4_share_44 : decode cX4_share 44 = .ok (.iconst 0, 1) := by decide +kernel
theorem dX4_share_45 : decode cX4_share 45 = .ok (.invokestatic 79, 3) := by decide +kernel
theorem dX4_share_48 : decode cX4_share 48 = .ok (.ireturn, 1) := by decide +kernel
theorem dX4_share_49 : decode cX4_share 49 = .ok (.aload_n 0, 1) := by decide +kernel
theorem dX4_share_50 : decode cX4_share 50 = .ok (.iload_n 2, 1) := by decide +kernel
theorem dX4_share_51 : decode cX4_share 51 = .ok (.invokevirtual 76, 3) := by decide +kernel
theorem dX4_share_54 : decode cX4_share 54 = .ok (.istore 4, 2) := by decide +kernel
theorem dX4_share_56 : decode cX4_share 56 = .ok (.iconst 0, 1) := by decide +kernel
theorem dX4_share_57 : decode cX4_share 57 = .ok (.istore 5, 2) := by decide +kernel
theorem dX4_share_59 : decode cX4_share 59 = .ok (.iload 4, 2) := by decide +kernel
theorem dX4_share_61 : decode cX4_share 61 = .ok (.ifCond .ne 177, 3) := by decide +kernel
theorem dX4_share_64 : decode cX4_share 64 = .ok (.aload_n 0, 1) := by decide +kernel
theorem dX4_share_65 : decode cX4_share 65 = .ok (.getfield 20, 3) := by decide +kernel
theorem dX4_share_68 : decode cX4_share 68 = .ok (.iconst 5, 1) := by decide +kernel
theorem dX4_share_69 : decode cX4_share 69 = .ok (.iload_n 1, 1) := by decide +kernel
theorem dX4_share_70 : decode cX4_share 70 = .ok (.imul, 1) := by decide +kernel
theorem dX4_share_71 : decode cX4_share 71 = .ok (.iload_n 3, 1) := by decide +kernel
theorem dX4_share_72 : decode cX4_share 72 = .ok (.iadd, 1) := by decide +kernel
theorem dX4_share_73 : decode cX4_share 73 = .ok (.iaload, 1) := by decide +kernel
theorem dX4_share_74 : decode cX4_share 74 = .ok (.istore 6, 2) := by decide +kernel
theorem dX4_share_76 : decode cX4_share 76 = .ok (.aload_n 0, 1) := by decide +kernel
theorem dX4_share_77 : decode cX4_share 77 = .ok (.getfield 20, 3) := by decide +kernel
theorem dX4_share_80 : decode cX4_share 80 = .ok (.iconst 5, 1) := by decide +kernel
theorem dX4_share_81 : decode cX4_share 81 = .ok (.iload_n 2, 1) := by decide +kernel
theorem dX4_share_82 : decode cX4_share 82 = .ok (.imul, 1) := by decide +kernel
theorem dX4_share_83 : decode cX4_share 83 = .ok (.iload_n 3, 1) := by decide +kernel
theorem dX4_share_84 : decode cX4_share 84 = .ok (.iadd, 1) := by decide +kernel
theorem dX4_share_85 : decode cX4_share 85 = .ok (.iaload, 1) := by decide +kernel
theorem dX4_share_86 : decode cX4_share 86 = .ok (.istore 7, 2) := by decide +kernel
theorem dX4_share_88 : decode cX4_share 88 = .ok (.iload 6, 2) := by decide +kernel
theorem dX4_share_90 : decode cX4_share 90 = .ok (.iload 7, 2) := by decide +kernel
theorem dX4_share_92 : decode cX4_share 92 = .ok (.if_icmp .le 7, 3) := by decide +kernel
theorem dX4_share_95 : decode cX4_share 95 = .ok (.iload_n 1, 1) := by decide +kernel
theorem dX4_share_96 : decode cX4_share 96 = .ok (.goto 4, 3) := by decide +kernel
theorem dX4_share_99 : decode cX4_share 99 = .ok (.iload_n 2, 1) := by decide +kernel
theorem dX4_share_100 : decode cX4_share 100 = .ok (.istore 8, 2) := by decide +kernel
theorem dX4_share_102 : decode cX4_share 102 = .ok (.iload 6, 2) := by decide +kernel
theorem dX4_share_104 : decode cX4_share 104 = .ok (.iload 7, 2) := by decide +kernel
theorem dX4_share_106 : decode cX4_share 106 = .ok (.if_icmp .le 7, 3) := by decide +kernel
theorem dX4_share_109 : decode cX4_share 109 = .ok (.iload_n 2, 1) := by decide +kernel
theorem dX4_share_110 : decode cX4_share 110 = .ok (.goto 4, 3) := by decide +kernel
theorem dX4_share_113 : decode cX4_share 113 = .ok (.iload_n 1, 1) := by decide +kernel
theorem dX4_share_114 : decode cX4_share 114 = .ok (.istore 9, 2) := by decide +kernel
theorem dX4_share_116 : decode cX4_share 116 = .ok (.iload 6, 2) := by decide +kernel
theorem dX4_share_118 : decode cX4_share 118 = .ok (.iload 7, 2) := by decide +kernel
theorem dX4_share_120 : decode cX4_share 120 = .ok (.if_icmp .le 11, 3) := by decide +kernel
theorem dX4_share_123 : decode cX4_share 123 = .ok (.iload 6, 2) := by decide +kernel
theorem dX4_share_125 : decode cX4_share 125 = .ok (.iload 7, 2) := by decide +kernel
theorem dX4_share_127 : decode cX4_share 127 = .ok (.isub, 1) := by decide +kernel
theorem dX4_share_128 : decode cX4_share 128 = .ok (.goto 8, 3) := by decide +kernel
theorem dX4_share_131 : decode cX4_share 131 = .ok (.iload 7, 2) := by decide +kernel
theorem dX4_share_133 : decode cX4_share 133 = .ok (.iload 6, 2) := by decide +kernel
theorem dX4_share_135 : decode cX4_share 135 = .ok (.isub, 1) := by decide +kernel
theorem dX4_share_136 : decode cX4_share 136 = .ok (.iconst 2, 1) := by decide +kernel
theorem dX4_share_137 : decode cX4_share 137 = .ok (.idiv, 1) := by decide +kernel
theorem dX4_share_138 : decode cX4_share 138 = .ok (.istore 5, 2) := by decide +kernel
theorem dX4_share_140 : decode cX4_share 140 = .ok (.aload_n 0, 1) := by decide +kernel
theorem dX4_share_141 : decode cX4_share 141 = .ok (.getfield 13, 3) := by decide +kernel
theorem dX4_share_144 : decode cX4_share 144 = .ok (.iload_n 1, 1) := by decide +kernel
theorem dX4_share_145 : decode cX4_share 145 = .ok (.baload, 1) := by decide +kernel
theorem dX4_share_146 : decode cX4_share 146 = .ok (.ifCond .ne 12, 3) := by decide +kernel
theorem dX4_share_149 : decode cX4_share 149 = .ok (.aload_n 0, 1) := by decide +kernel
theorem dX4_share_150 : decode cX4_share 150 = .ok (.getfield 13, 3) := by decide +kernel
theorem dX4_share_153 : decode cX4_share 153 = .ok (.iload_n 2, 1) := by decide +kernel
theorem dX4_share_154 : decode cX4_share 154 = .ok (.baload, 1) := by decide +kernel
theorem dX4_share_155 : decode cX4_share 155 = .ok (.ifCond .eq 7, 3) := by decide +kernel
theorem dX4_share_158 : decode cX4_share 158 = .ok (.iconst 2, 1) := by decide +kernel
theorem dX4_share_159 : decode cX4_share 159 = .ok (.goto 32, 3) := by decide +kernel
theorem dX4_share_162 : decode cX4_share 162 = .ok (.iload 5, 2) := by decide +kernel
theorem dX4_share_164 : decode cX4_share 164 = .ok (.ifCond .le 26, 3) := by decide +kernel
theorem dX4_share_167 : decode cX4_share 167 = .ok (.aload_n 0, 1) := by decide +kernel
theorem dX4_share_168 : decode cX4_share 168 = .ok (.iload 9, 2) := by decide +kernel
theorem dX4_share_170 : decode cX4_share 170 = .ok (.invokevirtual 61, 3) := by decide +kernel
theorem dX4_share_173 : decode cX4_share 173 = .ok (.iload 5, 2) := by decide +kernel
theorem dX4_share_175 : decode cX4_share 175 = .ok (.iadd, 1) := by decide +kernel
theorem dX4_share_176 : decode cX4_share 176 = .ok (.aload_n 0, 1) := by decide +kernel
theorem dX4_share_177 : decode cX4_share 177 = .ok (.getfield 16, 3) := by decide +kernel
theorem dX4_share_180 : decode cX4_share 180 = .ok (.iload 9, 2) := by decide +kernel
theorem dX4_share_182 : decode cX4_share 182 = .ok (.iaload, 1) := by decide +kernel
theorem dX4_share_183 : decode cX4_share 183 = .ok (.if_icmp .le 7, 3) := by decide +kernel
theorem dX4_share_186 : decode cX4_share 186 = .ok (.iconst 4, 1) := by decide +kernel
theorem dX4_share_187 : decode cX4_share 187 = .ok (.goto 4, 3) := by decide +kernel
theorem dX4_share_190 : decode cX4_share 190 = .ok (.iconst 0, 1) := by decide +kernel
theorem dX4_share_191 : decode cX4_share 191 = .ok (.istore 4, 2) := by decide +kernel
theorem dX4_share_193 : decode cX4_share 193 = .ok (.iload 4, 2) := by decide +kernel
theorem dX4_share_195 : decode cX4_share 195 = .ok (.ifCond .ne 35, 3) := by decide +kernel
theorem dX4_share_198 : decode cX4_share 198 = .ok (.aload_n 0, 1) := by decide +kernel
theorem dX4_share_199 : decode cX4_share 199 = .ok (.getfield 20, 3) := by decide +kernel
theorem dX4_share_202 : decode cX4_share 202 = .ok (.iconst 5, 1) := by decide +kernel
theorem dX4_share_203 : decode cX4_share 203 = .ok (.iload 8, 2) := by decide +kernel
theorem dX4_share_205 : decode cX4_share 205 = .ok (.imul, 1) := by decide +kernel
theorem dX4_share_206 : decode cX4_share 206 = .ok (.iload_n 3, 1) := by decide +kernel
theorem dX4_share_207 : decode cX4_share 207 = .ok (.iadd, 1) := by decide +kernel
theorem dX4_share_208 : decode cX4_share 208 = .ok (.dup2, 1) := by decide +kernel
theorem dX4_share_209 : decode cX4_share 209 = .ok (.iaload, 1) := by decide +kernel
theorem dX4_share_210 : decode cX4_share 210 = .ok (.iload 5, 2) := by decide +kernel
theorem dX4_share_212 : decode cX4_share 212 = .ok (.isub, 1) := by decide +kernel
theorem dX4_share_213 : decode cX4_share 213 = .ok (.iastore, 1) := by decide +kernel
theorem dX4_share_214 : decode cX4_share 214 = .ok (.aload_n 0, 1) := by decide +kernel
theorem dX4_share_215 : decode cX4_share 215 = .ok (.getfield 20, 3) := by decide +kernel
theorem dX4_share_218 : decode cX4_share 218 = .ok (.iconst 5, 1) := by decide +kernel
theorem dX4_share_219 : decode cX4_share 219 = .ok (.iload 9, 2) := by decide +kernel
theorem dX4_share_221 : decode cX4_share 221 = .ok (.imul, 1) := by decide +kernel
theorem dX4_share_222 : decode cX4_share 222 = .ok (.iload_n 3, 1) := by decide +kernel
theorem dX4_share_223 : decode cX4_share 223 = .ok (.iadd, 1) := by decide +kernel
theorem dX4_share_224 : decode cX4_share 224 = .ok (.dup2, 1) := by decide +kernel
theorem dX4_share_225 : decode cX4_share 225 = .ok (.iaload, 1) := by decide +kernel
theorem dX4_share_226 : decode cX4_share 226 = .ok (.iload 5, 2) := by decide +kernel
theorem dX4_share_228 : decode cX4_share 228 = .ok (.iadd, 1) := by decide +kernel
theorem dX4_share_229 : decode cX4_share 229 = .ok (.iastore, 1) := by decide +kernel
theorem dX4_share_230 : decode cX4_share 230 = .ok (.aload_n 0, 1) := by decide +kernel
theorem dX4_share_231 : decode cX4_share 231 = .ok (.iload 4, 2) := by decide +kernel
theorem dX4_share_233 : decode cX4_share 233 = .ok (.invokevirtual 82, 3) := by decide +kernel
theorem dX4_share_236 : decode cX4_share 236 = .ok (.istore 4, 2) := by decide +kernel
theorem dX4_share_238 : decode cX4_share 238 = .ok (.aload_n 0, 1) := by decide +kernel
theorem dX4_share_239 : decode cX4_share 239 = .ok (.iload 4, 2) := by decide +kernel
theorem dX4_share_241 : decode cX4_share 241 = .ok (.invokevirtual 82, 3) := by decide +kernel
theorem dX4_share_244 : decode cX4_share 244 = .ok (.iload 5, 2) := by decide +kernel
theorem dX4_share_246 : decode cX4_share 246 = .ok (.invokestatic 79, 3) := by decide +kernel
theorem dX4_share_249 : decode cX4_share 249 = .ok (.ireturn, 1) := by decide +kernel
theorem dX4_told__0 : decode cX4_told_ 0 = .ok (.iload_n 2, 1) := by decide +kernel
theorem dX4_told__1 : decode cX4_told_ 1 = .ok (.iconst 5, 1) := by decide +kernel
theorem dX4_told__2 : decode cX4_told_ 2 = .ok (.if_icmp .ge 16, 3) := by decide +kernel
theorem dX4_told__5 : decode cX4_told_ 5 = .ok (.aload_n 0, 1) := by decide +kernel
theorem dX4_told__6 : decode cX4_told_ 6 = .ok (.getfield 20, 3) := by decide +kernel
theorem dX4_told__9 : decode cX4_told_ 9 = .ok (.iconst 5, 1) := by decide +kernel
theorem dX4_told__10 : decode cX4_told_ 10 = .ok (.iload_n 1, 1) := by decide +kernel
theorem dX4_told__11 : decode cX4_told_ 11 = .ok (.imul, 1) := by decide +kernel
theorem dX4_told__12 : decode cX4_told_ 12 = .ok (.iload_n 2, 1) := by decide +kernel
theorem dX4_told__13 : decode cX4_told_ 13 = .ok (.iadd, 1) := by decide +kernel
theorem dX4_told__14 : decode cX4_told_ 14 = .ok (.iaload, 1) := by decide +kernel
theorem dX4_told__15 : decode cX4_told_ 15 = .ok (.goto 59, 3) := by decide +kernel
theorem dX4_told__18 : decode cX4_told_ 18 = .ok (.iload_n 2, 1) := by decide +kernel
theorem dX4_told__19 : decode cX4_told_ 19 = .ok (.iconst 5, 1) := by decide +kernel
theorem dX4_told__20 : decode cX4_told_ 20 = .ok (.if_icmp .ne 11, 3) := by decide +kernel
theorem dX4_told__23 : decode cX4_told_ 23 = .ok (.aload_n 0, 1) := by decide +kernel
theorem dX4_told__24 : decode cX4_told_ 24 = .ok (.iload_n 1, 1) := by decide +kernel
theorem dX4_told__25 : decode cX4_told_ 25 = .ok (.invokevirtual 61, 3) := by decide +kernel
theorem dX4_told__28 : decode cX4_told_ 28 = .ok (.goto 46, 3) := by decide +kernel
theorem dX4_told__31 : decode cX4_told_ 31 = .ok (.iload_n 2, 1) := by decide +kernel
theorem dX4_told__32 : decode cX4_told_ 32 = .ok (.bipush 6, 2) := by decide +kernel
theorem dX4_told__34 : decode cX4_told_ 34 = .ok (.if_icmp .ne 11, 3) := by decide +kernel
theorem dX4_told__37 : decode cX4_told_ 37 = .ok (.aload_n 0, 1) := by decide +kernel
theorem dX4_told__38 : decode cX4_told_ 38 = .ok (.iload_n 1, 1) := by decide +kernel
theorem dX4_told__39 : decode cX4_told_ 39 = .ok (.invokevirtual 107, 3) := by decide +kernel
theorem dX4_told__42 : decode cX4_told_ 42 = .ok (.goto 32, 3) := by decide +kernel
theorem dX4_told__45 : decode cX4_told_ 45 = .ok (.iload_n 2, 1) := by decide +kernel
theorem dX4_told__46 : decode cX4_told_ 46 = .ok (.bipush 7, 2) := by decide +kernel
theorem dX4_told__48 : decode cX4_told_ 48 = .ok (.if_icmp .ne 12, 3) := by decide +kernel
theorem dX4_told__51 : decode cX4_told_ 51 = .ok (.aload_n 0, 1) := by decide +kernel
theorem dX4_told__52 : decode cX4_told_ 52 = .ok (.getfield 16, 3) := by decide +kernel
theorem dX4_told__55 : decode cX4_told_ 55 = .ok (.iload_n 1, 1) := by decide +kernel
theorem dX4_told__56 : decode cX4_told_ 56 = .ok (.iaload, 1) := by decide +kernel
theorem dX4_told__57 : decode cX4_told_ 57 = .ok (.goto 17, 3) := by decide +kernel
theorem dX4_told__60 : decode cX4_told_ 60 = .ok (.aload_n 0, 1) := by decide +kernel
theorem dX4_told__61 : decode cX4_told_ 61 = .ok (.getfield 13, 3) := by decide +kernel
theorem dX4_told__64 : decode cX4_told_ 64 = .ok (.iload_n 1, 1) := by decide +kernel
theorem dX4_told__65 : decode cX4_told_ 65 = .ok (.baload, 1) := by decide +kernel
theorem dX4_told__66 : decode cX4_told_ 66 = .ok (.ifCond .eq 7, 3) := by decide +kernel
theorem dX4_told__69 : decode cX4_told_ 69 = .ok (.iconst 1, 1) := by decide +kernel
theorem dX4_told__70 : decode cX4_told_ 70 = .ok (.goto 4, 3) := by decide +kernel
theorem dX4_told__73 : decode cX4_told_ 73 = .ok (.iconst 0, 1) := by decide +kernel
theorem dX4_told__74 : decode cX4_told_ 74 = .ok (.ireturn, 1) := by decide +kernel
theorem dX4_look_0 : decode cX4_look 0 = .ok (.aload_n 0, 1) := by decide +kernel
theorem dX4_look_1 : decode cX4_look 1 = .ok (.iconst 0, 1) := by decide +kernel
theorem dX4_look_2 : decode cX4_look 2 = .ok (.putfield 29, 3) := by decide +kernel
theorem dX4_look_5 : decode cX4_look 5 = .ok (.iload_n 1, 1) := by decide +kernel
theorem dX4_look_6 : decode cX4_look 6 = .ok (.invokestatic 68, 3) := by decide +kernel
theorem dX4_look_9 : decode cX4_look 9 = .ok (.ifCond .eq 13, 3) := by decide +kernel
theorem dX4_look_12 : decode cX4_look 12 = .ok (.iload_n 2, 1) := by decide +kernel
theorem dX4_look_13 : decode cX4_look 13 = .ok (.iconst 0, 1) := by decide +kernel
theorem dX4_look_14 : decode cX4_look 14 = .ok (.bipush 8, 2) := by decide +kernel
theorem dX4_look_16 : decode cX4_look 16 = .ok (.invokestatic 33, 3) := by decide +kernel
theorem dX4_look_19 : decode cX4_look 19 = .ok (.ifCond .ne 5, 3) := by decide +kernel
theorem dX4_look_22 : decode cX4_look 22 = .ok (.iconst (-1), 1) := by decide +kernel
theorem dX4_look_23 : decode cX4_look 23 = .ok (.ireturn, 1) := by decide +kernel
theorem dX4_look_24 : decode cX4_look 24 = .ok (.aload_n 0, 1) := by decide +kernel
theorem dX4_look_25 : decode cX4_look 25 = .ok (.iload_n 1, 1) := by decide +kernel
theorem dX4_look_26 : decode cX4_look 26 = .ok (.invokevirtual 76, 3) := by decide +kernel
theorem dX4_look_29 : decode cX4_look 29 = .ok (.istore_n 3, 1) := by decide +kernel
theorem dX4_look_30 : decode cX4_look 30 = .ok (.iload_n 3, 1) := by decide +kernel
theorem dX4_look_31 : decode cX4_look 31 = .ok (.ifCond .eq 9, 3) := by decide +kernel
theorem dX4_look_34 : decode cX4_look 34 = .ok (.iload_n 3, 1) := by decide +kernel
theorem dX4_look_35 : decode cX4_look 35 = .ok (.iconst 0, 1) := by decide +kernel
theorem dX4_look_36 : decode cX4_look 36 = .ok (.invokestatic 79, 3) := by decide +kernel
theorem dX4_look_39 : decode cX4_look 39 = .ok (.ireturn, 1) := by decide +kernel
theorem dX4_look_40 : decode cX4_look 40 = .ok (.aload_n 0, 1) := by decide +kernel
theorem dX4_look_41 : decode cX4_look 41 = .ok (.iconst 0, 1) := by decide +kernel
theorem dX4_look_42 : decode cX4_look 42 = .ok (.invokevirtual 82, 3) := by decide +kernel
theorem dX4_look_45 : decode cX4_look 45 = .ok (.aload_n 0, 1) := by decide +kernel
theorem dX4_look_46 : decode cX4_look 46 = .ok (.iload_n 1, 1) := by decide +kernel
theorem dX4_look_47 : decode cX4_look 47 = .ok (.iload_n 2, 1) := by decide +kernel
theorem dX4_look_48 : decode cX4_look 48 = .ok (.bipush 8, 2) := by decide +kernel
theorem dX4_look_50 : decode cX4_look 50 = .ok (.invokevirtual 110, 3) := by decide +kernel
theorem dX4_look_53 : decode cX4_look 53 = .ok (.invokestatic 79, 3) := by decide +kernel
theorem dX4_look_56 : decode cX4_look 56 = .ok (.ireturn, 1) := by decide +kernel
theorem dX4_hand_0 : decode cX4_hand 0 = .ok (.aload_n 0, 1) := by decide +kernel
theorem dX4_hand_1 : decode cX4_hand 1 = .ok (.iconst 0, 1) := by decide +kernel
theorem dX4_hand_2 : decode cX4_hand 2 = .ok (.putfield 29, 3) := by decide +kernel
theorem dX4_hand_5 : decode cX4_hand 5 = .ok (.iload_n 1, 1) := by decide +kernel
theorem dX4_hand_6 : decode cX4_hand 6 = .ok (.iconst 0, 1) := by decide +kernel
theorem dX4_hand_7 : decode cX4_hand 7 = .ok (.bipush 6, 2) := by decide +kernel
theorem dX4_hand_9 : decode cX4_hand 9 = .ok (.invokestatic 33, 3) := by decide +kernel
theorem dX4_hand_12 : decode cX4_hand 12 = .ok (.ifCond .eq 15, 3) := by decide +kernel
theorem dX4_hand_15 : decode cX4_hand 15 = .ok (.aload_n 0, 1) := by decide +kernel
theorem dX4_hand_16 : decode cX4_hand 16 = .ok (.bipush 8, 2) := by decide +kernel
theorem dX4_hand_18 : decode cX4_hand 18 = .ok (.iload_n 1, 1) := by decide +kernel
theorem dX4_hand_19 : decode cX4_hand 19 = .ok (.bipush 6, 2) := by decide +kernel
theorem dX4_hand_21 : decode cX4_hand 21 = .ok (.invokevirtual 110, 3) := by decide +kernel
theorem dX4_hand_24 : decode cX4_hand 24 = .ok (.goto 4, 3) := by decide +kernel
theorem dX4_hand_27 : decode cX4_hand 27 = .ok (.iconst (-1), 1) := by decide +kernel
theorem dX4_hand_28 : decode cX4_hand 28 = .ok (.ireturn, 1) := by decide +kernel
theorem dX4_count_0 : decode cX4_count 0 = .ok (.aload_n 0, 1) := by decide +kernel
theorem dX4_count_1 : decode cX4_count 1 = .ok (.iconst 0, 1) := by decide +kernel
theorem dX4_count_2 : decode cX4_count 2 = .ok (.putfield 29, 3) := by decide +kernel
theorem dX4_count_5 : decode cX4_count 5 = .ok (.iconst 0, 1) := by decide +kernel
theorem dX4_count_6 : decode cX4_count 6 = .ok (.istore_n 2, 1) := by decide +kernel
theorem dX4_count_7 : decode cX4_count 7 = .ok (.iconst 0, 1) := by decide +kernel
theorem dX4_count_8 : decode cX4_count 8 = .ok (.istore_n 3, 1) := by decide +kernel
theorem dX4_count_9 : decode cX4_count 9 = .ok (.iload_n 3, 1) := by decide +kernel
theorem dX4_count_10 : decode cX4_count 10 = .ok (.bipush 8, 2) := by decide +kernel
theorem dX4_count_12 : decode cX4_count 12 = .ok (.if_icmp .ge 26, 3) := by decide +kernel
theorem dX4_count_15 : decode cX4_count 15 = .ok (.iload_n 2, 1) := by decide +kernel
theorem dX4_count_16 : decode cX4_count 16 = .ok (.aload_n 0, 1) := by decide +kernel
theorem dX4_count_17 : decode cX4_count 17 = .ok (.getfield 7, 3) := by decide +kernel
theorem dX4_count_20 : decode cX4_count 20 = .ok (.iload_n 3, 1) := by decide +kernel
theorem dX4_count_21 : decode cX4_count 21 = .ok (.baload, 1) := by decide +kernel
theorem dX4_count_22 : decode cX4_count 22 = .ok (.ifCond .eq 7, 3) := by decide +kernel
theorem dX4_count_25 : decode cX4_count 25 = .ok (.iconst 1, 1) := by decide +kernel
theorem dX4_count_26 : decode cX4_count 26 = .ok (.goto 4, 3) := by decide +kernel
theorem dX4_count_29 : decode cX4_count 29 = .ok (.iconst 0, 1) := by decide +kernel
theorem dX4_count_30 : decode cX4_count 30 = .ok (.iadd, 1) := by decide +kernel
theorem dX4_count_31 : decode cX4_count 31 = .ok (.istore_n 2, 1) := by decide +kernel
theorem dX4_count_32 : decode cX4_count 32 = .ok (.iinc 3 1, 3) := by decide +kernel
theorem dX4_count_35 : decode cX4_count 35 = .ok (.goto (-26), 3) := by decide +kernel
theorem dX4_count_38 : decode cX4_count 38 = .ok (.iload_n 1, 1) := by decide +kernel
theorem dX4_count_39 : decode cX4_count 39 = .ok (.ifCond .ne 10, 3) := by decide +kernel
theorem dX4_count_42 : decode cX4_count 42 = .ok (.aload_n 0, 1) := by decide +kernel
theorem dX4_count_43 : decode cX4_count 43 = .ok (.getfield 41, 3) := by decide +kernel
theorem dX4_count_46 : decode cX4_count 46 = .ok (.goto 37, 3) := by decide +kernel
theorem dX4_count_49 : decode cX4_count 49 = .ok (.iload_n 1, 1) := by decide +kernel
theorem dX4_count_50 : decode cX4_count 50 = .ok (.iconst 1, 1) := by decide +kernel
theorem dX4_count_51 : decode cX4_count 51 = .ok (.if_icmp .ne 10, 3) := by decide +kernel
theorem dX4_count_54 : decode cX4_count 54 = .ok (.aload_n 0, 1) := by decide +kernel
theorem dX4_count_55 : decode cX4_count 55 = .ok (.getfield 50, 3) := by decide +kernel
theorem dX4_count_58 : decode cX4_count 58 = .ok (.goto 25, 3) := by decide +kernel
theorem dX4_count_61 : decode cX4_count 61 = .ok (.iload_n 1, 1) := by decide +kernel
theorem dX4_count_62 : decode cX4_count 62 = .ok (.iconst 2, 1) := by decide +kernel
theorem dX4_count_63 : decode cX4_count 63 = .ok (.if_icmp .ne 10, 3) := by decide +kernel
theorem dX4_count_66 : decode cX4_count 66 = .ok (.aload_n 0, 1) := by decide +kernel
theorem dX4_count_67 : decode cX4_count 67 = .ok (.getfield 47, 3) := by decide +kernel
theorem dX4_count_70 : decode cX4_count 70 = .ok (.goto 13, 3) := by decide +kernel
theorem dX4_count_73 : decode cX4_count 73 = .ok (.iload_n 1, 1) := by decide +kernel
theorem dX4_count_74 : decode cX4_count 74 = .ok (.iconst 3, 1) := by decide +kernel
theorem dX4_count_75 : decode cX4_count 75 = .ok (.if_icmp .ne 7, 3) := by decide +kernel
theorem dX4_count_78 : decode cX4_count 78 = .ok (.iload_n 2, 1) := by decide +kernel
theorem dX4_count_79 : decode cX4_count 79 = .ok (.goto 4, 3) := by decide +kernel
theorem dX4_count_82 : decode cX4_count 82 = .ok (.iconst (-1), 1) := by decide +kernel
theorem dX4_count_83 : decode cX4_count 83 = .ok (.ireturn, 1) := by decide +kernel
