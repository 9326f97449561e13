theorem dX1_init_0 : decode cX1_init 0 = .ok (.aload_n 0, 1) := by decide +kernel
theorem dX1_init_1 : decode cX1_init 1 = .ok (.invokespecial 1, 3) := by decide +kernel
theorem dX1_init_4 : decode cX1_init 4 = .ok (.aload_n 0, 1) := by decide +kernel
theorem dX1_init_5 : decode cX1_init 5 = .ok (.bipush 8, 2) := by decide +kernel
theorem dX1_init_7 : decode cX1_init 7 = .ok (.newarray .int, 2) := by decide +kernel
theorem dX1_init_9 : decode cX1_init 9 = .ok (.putfield 9, 3) := by decide +kernel
theorem dX1_init_12 : decode cX1_init 12 = .ok (.aload_n 0, 1) := by decide +kernel
theorem dX1_init_13 : decode cX1_init 13 = .ok (.bipush 8, 2) := by decide +kernel
theorem dX1_init_15 : decode cX1_init 15 = .ok (.newarray .int, 2) := by decide +kernel
theorem dX1_init_17 : decode cX1_init 17 = .ok (.putfield 13, 3) := by decide +kernel
theorem dX1_init_20 : decode cX1_init 20 = .ok (.aload_n 0, 1) := by decide +kernel
theorem dX1_init_21 : decode cX1_init 21 = .ok (.bipush 96, 2) := by decide +kernel
theorem dX1_init_23 : decode cX1_init 23 = .ok (.newarray .int, 2) := by decide +kernel
theorem dX1_init_25 : decode cX1_init 25 = .ok (.putfield 16, 3) := by decide +kernel
theorem dX1_init_28 : decode cX1_init 28 = .ok (.return_, 1) := by decide +kernel
theorem dX1_in_0 : decode cX1_in 0 = .ok (.iload_n 0, 1) := by decide +kernel
theorem dX1_in_1 : decode cX1_in 1 = .ok (.iload_n 1, 1) := by decide +kernel
theorem dX1_in_2 : decode cX1_in 2 = .ok (.if_icmp .lt 12, 3) := by decide +kernel
theorem dX1_in_5 : decode cX1_in 5 = .ok (.iload_n 0, 1) := by decide +kernel
theorem dX1_in_6 : decode cX1_in 6 = .ok (.iload_n 2, 1) := by decide +kernel
theorem dX1_in_7 : decode cX1_in 7 = .ok (.if_icmp .gt 7, 3) := by decide +kernel
theorem dX1_in_10 : decode cX1_in 10 = .ok (.iconst 1, 1) := by decide +kernel
theorem dX1_in_11 : decode cX1_in 11 = .ok (.goto 4, 3) := by decide +kernel
theorem dX1_in_14 : decode cX1_in 14 = .ok (.iconst 0, 1) := by decide +kernel
theorem dX1_in_15 : decode cX1_in 15 = .ok (.ireturn, 1) := by decide +kernel
set_option maxRecDepth 20000 in
theorem ggX1_isTrack_X1_in : GoodIn wsX1_isTrack wsX1_in := goodIn_r _ [4] (by decide +kernel) (by decide +kernel)
set_option maxRecDepth 20000 in
theorem gX1_isTrack_X1_in : GoodIn wsX1_isTrack (va_wsS RX1 19 yX1_in wsX1_in) := goodIn_app (goodIn_of _ (by decide +kernel)) ggX1_isTrack_X1_in
theorem dX1_isTrack_0 : decode cX1_isTrack 0 = .ok (.iload_n 0, 1) := by decide +kernel
theorem dX1_isTrack_1 : decode cX1_isTrack 1 = .ok (.iconst 0, 1) := by decide +kernel
theorem dX1_isTrack_2 : decode cX1_isTrack 2 = .ok (.bipush 7, 2) := by decide +kernel
theorem dX1_isTrack_4 : decode cX1_isTrack 4 = .ok (.invokestatic 19, 3) := by decide +kernel
theorem dX1_isTrack_7 : decode cX1_isTrack 7 = .ok (.ireturn, 1) := by decide +kernel
theorem dX1_holds_0 : decode cX1_holds 0 = .ok (.aload_n 0, 1) := by decide +kernel
theorem dX1_holds_1 : decode cX1_holds 1 = .ok (.dup, 1) := by decide +kernel
theorem dX1_holds_2 : decode cX1_holds 2 = .ok (.getfield 23, 3) := by decide +kernel
theorem dX1_holds_5 : decode cX1_holds 5 = .ok (.iconst 1, 1) := by decide +kernel
theorem dX1_holds_6 : decode cX1_holds 6 = .ok (.iadd, 1) := by decide +kernel
theorem dX1_holds_7 : decode cX1_holds 7 = .ok (.putfield 23, 3) := by decide +kernel
theorem dX1_holds_10 : decode cX1_holds 10 = .ok (.aload_n 0, 1) := by decide +kernel
theorem dX1_holds_11 : decode cX1_holds 11 = .ok (.getfield 9, 3) := by decide +kernel
theorem dX1_holds_14 : decode cX1_holds 14 = .ok (.iload_n 1, 1) := by decide +kernel
theorem dX1_holds_15 : decode cX1_holds 15 = .ok (.iaload, 1) := by decide +kernel
theorem dX1_holds_16 : decode cX1_holds 16 = .ok (.ifCond .ne 5, 3) := by decide +kernel
theorem dX1_holds_19 : decode cX1_holds 19 = .ok (.iconst 0, 1) := by decide +kernel
theorem dX1_holds_20 : decode cX1_holds 20 = .ok (.ireturn, 1) := by decide +kernel
theorem dX1_holds_21 : decode cX1_holds 21 = .ok (.aload_n 0, 1) := by decide +kernel
theorem dX1_holds_22 : decode cX1_holds 22 = .ok (.dup, 1) := by decide +kernel
theorem dX1_holds_23 : decode cX1_holds 23 = .ok (.getfield 27, 3) := by decide +kernel
theorem dX1_holds_26 : decode cX1_holds 26 = .ok (.iconst 1, 1) := by decide +kernel
theorem dX1_holds_27 : decode cX1_holds 27 = .ok (.iadd, 1) := by decide +kernel
theorem dX1_holds_28 : decode cX1_holds 28 = .ok (.putfield 27, 3) := by decide +kernel
theorem dX1_holds_31 : decode cX1_holds 31 = .ok (.aload_n 0, 1) := by decide +kernel
theorem dX1_holds_32 : decode cX1_holds 32 = .ok (.dup, 1) := by decide +kernel
theorem dX1_holds_33 : decode cX1_holds 33 = .ok (.getfield 30, 3) := by decide +kernel
theorem dX1_holds_36 : decode cX1_holds 36 = .ok (.iconst 1, 1) := by decide +kernel
theorem dX1_holds_37 : decode cX1_holds 37 = .ok (.iadd, 1) := by decide +kernel
theorem dX1_holds_38 : decode cX1_holds 38 = .ok (.putfield 30, 3) := by decide +kernel
theorem dX1_holds_41 : decode cX1_holds 41 = .ok (.aload_n 0, 1) := by decide +kernel
theorem dX1_holds_42 : decode cX1_holds 42 = .ok (.aload_n 0, 1) := by decide +kernel
theorem dX1_holds_43 : decode cX1_holds 43 = .ok (.getfield 30, 3) := by decide +kernel
theorem dX1_holds_46 : decode cX1_holds 46 = .ok (.aload_n 0, 1) := by decide +kernel
theorem dX1_holds_47 : decode cX1_holds 47 = .ok (.getfield 33, 3) := by decide +kernel
theorem dX1_holds_50 : decode cX1_holds 50 = .ok (.if_icmp .le 10, 3) := by decide +kernel
theorem dX1_holds_53 : decode cX1_holds 53 = .ok (.aload_n 0, 1) := by decide +kernel
theorem dX1_holds_54 : decode cX1_holds 54 = .ok (.getfield 30, 3) := by decide +kernel
theorem dX1_holds_57 : decode cX1_holds 57 = .ok (.goto 7, 3) := by decide +kernel
theorem dX1_holds_60 : decode cX1_holds 60 = .ok (.aload_n 0, 1) := by decide +kernel
theorem dX1_holds_61 : decode cX1_holds 61 = .ok (.getfield 33, 3) := by decide +kernel
theorem dX1_holds_64 : decode cX1_holds 64 = .ok (.putfield 33, 3) := by decide +kernel
theorem dX1_holds_67 : decode cX1_holds 67 = .ok (.iconst 1, 1) := by decide +kernel
theorem dX1_holds_68 : decode cX1_holds 68 = .ok (.ireturn, 1) := by decide +kernel
theorem dX1_goes_0 : decode cX1_goes 0 = .ok (.aload_n 0, 1) := by decide +kernel
theorem dX1_goes_1 : decode cX1_goes 1 = .ok (.dup, 1) := by decide +kernel
theorem dX1_goes_2 : decode cX1_goes 2 = .ok (.getfield 30, 3) := by decide +kernel
theorem dX1_goes_5 : decode cX1_goes 5 = .ok (.iload_n 1, 1) := by decide +kernel
theorem dX1_goes_6 : decode cX1_goes 6 = .ok (.isub, 1) := by decide +kernel
theorem dX1_goes_7 : decode cX1_goes 7 = .ok (.putfield 30, 3) := by decide +kernel
theorem dX1_goes_10 : decode cX1_goes 10 = .ok (.iload_n 2, 1) := by decide +kernel
theorem dX1_goes_11 : decode cX1_goes 11 = .ok (.ifCond .ge 13, 3) := by decide +kernel
theorem dX1_goes_14 : decode cX1_goes 14 = .ok (.aload_n 0, 1) := by decide +kernel
theorem dX1_goes_15 : decode cX1_goes 15 = .ok (.dup, 1) := by decide +kernel
theorem dX1_goes_16 : decode cX1_goes 16 = .ok (.getfield 36, 3) := by decide +kernel
theorem dX1_goes_19 : decode cX1_goes 19 = .ok (.iload_n 1, 1) := by decide +kernel
theorem dX1_goes_20 : decode cX1_goes 20 = .ok (.iadd, 1) := by decide +kernel
theorem dX1_goes_21 : decode cX1_goes 21 = .ok (.putfield 36, 3) := by decide +kernel
theorem dX1_goes_24 : decode cX1_goes 24 = .ok (.iload_n 2, 1) := by decide +kernel
theorem dX1_goes_25 : decode cX1_goes 25 = .ok (.ireturn, 1) := by decide +kernel
theorem dX1_last_0 : decode cX1_last 0 = .ok (.aload_n 0, 1) := by decide +kernel
theorem dX1_last_1 : decode cX1_last 1 = .ok (.getfield 16, 3) := by decide +kernel
theorem dX1_last_4 : decode cX1_last 4 = .ok (.bipush 12, 2) := by decide +kernel
theorem dX1_last_6 : decode cX1_last 6 = .ok (.iload_n 1, 1) := by decide +kernel
theorem dX1_last_7 : decode cX1_last 7 = .ok (.imul, 1) := by decide +kernel
theorem dX1_last_8 : decode cX1_last 8 = .ok (.aload_n 0, 1) := by decide +kernel
theorem dX1_last_9 : decode cX1_last 9 = .ok (.getfield 13, 3) := by decide +kernel
theorem dX1_last_12 : decode cX1_last 12 = .ok (.iload_n 1, 1) := by decide +kernel
theorem dX1_last_13 : decode cX1_last 13 = .ok (.iaload, 1) := by decide +kernel
theorem dX1_last_14 : decode cX1_last 14 = .ok (.iadd, 1) := by decide +kernel
theorem dX1_last_15 : decode cX1_last 15 = .ok (.iconst 1, 1) := by decide +kernel
theorem dX1_last_16 : decode cX1_last 16 = .ok (.isub, 1) := by decide +kernel
theorem dX1_last_17 : decode cX1_last 17 = .ok (.iaload, 1) := by decide +kernel
theorem dX1_last_18 : decode cX1_last 18 = .ok (.ireturn, 1) := by decide +kernel
theorem dX1_come_0 : decode cX1_come 0 = .ok (.aload_n 0, 1) := by decide +kernel
theorem dX1_come_1 : decode cX1_come 1 = .ok (.getfield 16, 3) := by decide +kernel
theorem dX1_come_4 : decode cX1_come 4 = .ok (.bipush 12, 2) := by decide +kernel
theorem dX1_come_6 : decode cX1_come 6 = .ok (.iload_n 1, 1) := by decide +kernel
theorem dX1_come_7 : decode cX1_come 7 = .ok (.imul, 1) := by decide +kernel
theorem dX1_come_8 : decode cX1_come 8 = .ok (.aload_n 0, 1) := by decide +kernel
theorem dX1_come_9 : decode cX1_come 9 = .ok (.getfield 13, 3) := by decide +kernel
theorem dX1_come_12 : decode cX1_come 12 = .ok (.iload_n 1, 1) := by decide +kernel
theorem dX1_come_13 : decode cX1_come 13 = .ok (.iaload, 1) := by decide +kernel
theorem dX1_come_14 : decode cX1_come 14 = .ok (.iadd, 1) := by decide +kernel
theorem dX1_come_15 : decode cX1_come 15 = .ok (.iload_n 2, 1) := by decide +kernel
theorem dX1_come_16 : decode cX1_come 16 = .ok (.iastore, 1) := by decide +kernel
theorem dX1_come_17 : decode cX1_come 17 = .ok (.aload_n 0, 1) := by decide +kernel
theorem dX1_come_18 : decode cX1_come 18 = .ok (.getfield 13, 3) := by decide +kernel
theorem dX1_come_21 : decode cX1_come 21 = .ok (.iload_n 1, 1) := by decide +kernel
theorem dX1_come_22 : decode cX1_come 22 = .ok (.dup2, 1) := by decide +kernel
theorem dX1_come_23 : decode cX1_come 23 = .ok (.iaload, 1) := by decide +kernel
theorem dX1_come_24 : decode cX1_come 24 = .ok (.iconst 1, 1) := by decide +kernel
theorem dX1_come_25 : decode cX1_come 25 = .ok (.iadd, 1) := by decide +kernel
theorem dX1_come_26 : decode cX1_come 26 = .ok (.iastore, 1) := by decide +kernel
theorem dX1_come_27 : decode cX1_come 27 = .ok (.return_, 1) := by decide +kernel
theorem dX1_isFull_0 : decode cX1_isFull 0 = .ok (.aload_n 0, 1) := by decide +kernel
theorem dX1_isFull_1 : decode cX1_isFull 1 = .ok (.getfield 13, 3) := by decide +kernel
theorem dX1_isFull_4 : decode cX1_isFull 4 = .ok (.iload_n 1, 1) := by decide +kernel
theorem dX1_isFull_5 : decode cX1_isFull 5 = .ok (.iaload, 1) := by decide +kernel
theorem dX1_isFull_6 : decode cX1_isFull 6 = .ok (.aload_n 0, 1) := by decide +kernel
theorem dX1_isFull_7 : decode cX1_isFull 7 = .ok (.getfield 9, 3) := by decide +kernel
theorem dX1_isFull_10 : decode cX1_isFull 10 = .ok (.iload_n 1, 1) := by decide +kernel
theorem dX1_isFull_11 : decode cX1_isFull 11 = .ok (.iaload, 1) := by decide +kernel
theorem dX1_isFull_12 : decode cX1_isFull 12 = .ok (.if_icmp .ne 7, 3) := by decide +kernel
theorem dX1_isFull_15 : decode cX1_isFull 15 = .ok (.iconst 1, 1) := by decide +kernel
theorem dX1_isFull_16 : decode cX1_isFull 16 = .ok (.goto 4, 3) := by decide +kernel
theorem dX1_isFull_19 : decode cX1_isFull 19 = .ok (.iconst 0, 1) := by decide +kernel
theorem dX1_isFull_20 : decode cX1_isFull 20 = .ok (.ireturn, 1) := by decide +kernel
theorem dX1_trackOf_0 : decode cX1_trackOf 0 = .ok (.lload_n 0, 1) := by decide +kernel
theorem dX1_trackOf_1 : decode cX1_trackOf 1 = .ok (.iconst 3, 1) := by decide +kernel
theorem dX1_trackOf_2 : decode cX1_trackOf 2 = .ok (.iload_n 2, 1) := by decide +kernel
theorem dX1_trackOf_3 : decode cX1_trackOf 3 = .ok (.imul, 1) := by decide +kernel
theorem dX1_trackOf_4 : decode cX1_trackOf 4 = .ok (.lshr, 1) := by decide +kernel
theorem dX1_trackOf_5 : decode cX1_trackOf 5 = .ok (.l2i, 1) := by decide +kernel
theorem dX1_trackOf_6 : decode cX1_trackOf 6 = .ok (.bipush 7, 2) := by decide +kernel
theorem dX1_trackOf_8 : decode cX1_trackOf 8 = .ok (.iand, 1) := by decide +kernel
theorem dX1_trackOf_9 : decode cX1_trackOf 9 = .ok (.ireturn, 1) := by decide +kernel
set_option maxRecDepth 20000 in
theorem ggX1_lay_X1_isTrack : GoodIn wsX1_lay wsX1_isTrack := goodIn_r _ [6, 7, 8, 5, 9] (by decide +kernel) (by decide +kernel)
set_option maxRecDepth 20000 in
theorem gX1_lay_X1_isTrack : GoodIn wsX1_lay (va_wsS RX1 39 yX1_isTrack wsX1_isTrack) := goodIn_app (goodIn_of _ (by decide +kernel)) ggX1_lay_X1_isTrack
set_option maxRecDepth 20000 in
theorem ggX1_lay_X1_in : GoodIn wsX1_lay wsX1_in := goodIn_r _ [9] (by decide +kernel) (by decide +kernel)
set_option maxRecDepth 20000 in
theorem gX1_lay_X1_in : GoodIn wsX1_lay (va_wsS RX1 19 yX1_in wsX1_in) := goodIn_app (goodIn_of _ (by decide +kernel)) ggX1_lay_X1_in
theorem dX1_lay_0 : decode cX1_lay 0 = .ok (.iload_n 1, 1) := by decide +kernel
theorem dX1_lay_1 : decode cX1_lay 1 = .ok (.invokestatic 39, 3) := by decide +kernel
theorem dX1_lay_4 : decode cX1_lay 4 = .ok (.ifCond .eq 13, 3) := by decide +kernel
theorem dX1_lay_7 : decode cX1_lay 7 = .ok (.iload_n 2, 1) := by decide +kernel
theorem dX1_lay_8 : decode cX1_lay 8 = .ok (.iconst 1, 1) := by decide +kernel
theorem dX1_lay_9 : decode cX1_lay 9 = .ok (.bipush 12, 2) := by decide +kernel
theorem dX1_lay_11 : decode cX1_lay 11 = .ok (.invokestatic 19, 3) := by decide +kernel
theorem dX1_lay_14 : decode cX1_lay 14 = .ok (.ifCond .ne 6, 3) := by decide +kernel
theorem dX1_lay_17 : decode cX1_lay 17 = .ok (.bipush (-2), 2) := by decide +kernel
theorem dX1_lay_19 : decode cX1_lay 19 = .ok (.ireturn, 1) := by decide +kernel
theorem dX1_lay_20 : decode cX1_lay 20 = .ok (.aload_n 0, 1) := by decide +kernel
theorem dX1_lay_21 : decode cX1_lay 21 = .ok (.getfield 9, 3) := by decide +kernel
theorem dX1_lay_24 : decode cX1_lay 24 = .ok (.iload_n 1, 1) := by decide +kernel
theorem dX1_lay_25 : decode cX1_lay 25 = .ok (.iaload, 1) := by decide +kernel
theorem dX1_lay_26 : decode cX1_lay 26 = .ok (.ifCond .le 5, 3) := by decide +kernel
theorem dX1_lay_29 : decode cX1_lay 29 = .ok (.iconst 0, 1) := by decide +kernel
theorem dX1_lay_30 : decode cX1_lay 30 = .ok (.ireturn, 1) := by decide +kernel
theorem dX1_lay_31 : decode cX1_lay 31 = .ok (.aload_n 0, 1) := by decide +kernel
theorem dX1_lay_32 : decode cX1_lay 32 = .ok (.getfield 9, 3) := by decide +kernel
theorem dX1_lay_35 : decode cX1_lay 35 = .ok (.iload_n 1, 1) := by decide +kernel
theorem dX1_lay_36 : decode cX1_lay 36 = .ok (.iload_n 2, 1) := by decide +kernel
theorem dX1_lay_37 : decode cX1_lay 37 = .ok (.iastore, 1) := by decide +kernel
theorem dX1_lay_38 : decode cX1_lay 38 = .ok (.aload_n 0, 1) := by decide +kernel
theorem dX1_lay_39 : decode cX1_lay 39 = .ok (.getfield 13, 3) := by decide +kernel
theorem dX1_lay_42 : decode cX1_lay 42 = .ok (.iload_n 1, 1) := by decide +kernel
theorem dX1_lay_43 : decode cX1_lay 43 = .ok (.iconst 0, 1) := by decide +kernel
theorem dX1_lay_44 : decode cX1_lay 44 = .ok (.iastore, 1) := by decide +kernel
theorem dX1_lay_45 : decode cX1_lay 45 = .ok (.iconst 1, 1) := by decide +kernel
theorem dX1_lay_46 : decode cX1_lay 46 = .ok (.ireturn, 1) := by decide +kernel
set_option maxRecDepth 20000 in
theorem ggX1_lift_X1_isTrack : GoodIn wsX1_lift wsX1_isTrack := goodIn_r _ [6, 7, 8, 5, 9] (by decide +kernel) (by decide +kernel)
set_option maxRecDepth 20000 in
theorem gX1_lift_X1_isTrack : GoodIn wsX1_lift (va_wsS RX1 39 yX1_isTrack wsX1_isTrack) := goodIn_app (goodIn_of _ (by decide +kernel)) ggX1_lift_X1_isTrack
theorem dX1_lift_0 : decode cX1_lift 0 = .ok (.iload_n 1, 1) := by decide +kernel
theorem dX1_lift_1 : decode cX1_lift 1 = .ok (.invokestatic 39, 3) := by decide +kernel
theorem dX1_lift_4 : decode cX1_lift 4 = .ok (.ifCond .ne 6, 3) := by decide +kernel
theorem dX1_lift_7 : decode cX1_lift 7 = .ok (.bipush (-2), 2) := by decide +kernel
theorem dX1_lift_9 : decode cX1_lift 9 = .ok (.ireturn, 1) := by decide +kernel
theorem dX1_lift_10 : decode cX1_lift 10 = .ok (.aload_n 0, 1) := by decide +kernel
theorem dX1_lift_11 : decode cX1_lift 11 = .ok (.getfield 9, 3) := by decide +kernel
theorem dX1_lift_14 : decode cX1_lift 14 = .ok (.iload_n 1, 1) := by decide +kernel
theorem dX1_lift_15 : decode cX1_lift 15 = .ok (.iaload, 1) := by decide +kernel
theorem dX1_lift_16 : decode cX1_lift 16 = .ok (.ifCond .ne 6, 3) := by decide +kernel
theorem dX1_lift_19 : decode cX1_lift 19 = .ok (.bipush (-3), 2) := by decide +kernel
theorem dX1_lift_21 : decode cX1_lift 21 = .ok (.ireturn, 1) := by decide +kernel
theorem dX1_lift_22 : decode cX1_lift 22 = .ok (.aload_n 0, 1) := by decide +kernel
theorem dX1_lift_23 : decode cX1_lift 23 = .ok (.getfield 13, 3) := by decide +kernel
theorem dX1_lift_26 : decode cX1_lift 26 = .ok (.iload_n 1, 1) := by decide +kernel
theorem dX1_lift_27 : decode cX1_lift 27 = .ok (.iaload, 1) := by decide +kernel
theorem dX1_lift_28 : decode cX1_lift 28 = .ok (.istore_n 2, 1) := by decide +kernel
theorem dX1_lift_29 : decode cX1_lift 29 = .ok (.aload_n 0, 1) := by decide +kernel
theorem dX1_lift_30 : decode cX1_lift 30 = .ok (.getfield 9, 3) := by decide +kernel
theorem dX1_lift_33 : decode cX1_lift 33 = .ok (.iload_n 1, 1) := by decide +kernel
theorem dX1_lift_34 : decode cX1_lift 34 = .ok (.iconst 0, 1) := by decide +kernel
theorem dX1_lift_35 : decode cX1_lift 35 = .ok (.iastore, 1) := by decide +kernel
theorem dX1_lift_36 : decode cX1_lift 36 = .ok (.aload_n 0, 1) := by decide +kernel
theorem dX1_lift_37 : decode cX1_lift 37 = .ok (.getfield 13, 3) := by decide +kernel
theorem dX1_lift_40 : decode cX1_lift 40 = .ok (.iload_n 1, 1) := by decide +kernel
theorem dX1_lift_41 : decode cX1_lift 41 = .ok (.iconst 0, 1) := by decide +kernel
theorem dX1_lift_42 : decode cX1_lift 42 = .ok (.iastore, 1) := by decide +kernel
theorem dX1_lift_43 : decode cX1_lift 43 = .ok (.iload_n 2, 1) := by decide +kernel
theorem dX1_lift_44 : decode cX1_lift 44 = .ok (.ireturn, 1) := by decide +kernel
set_option maxRecDepth 20000 in
theorem ggX1_couple_X1_isTrack : GoodIn wsX1_couple wsX1_isTrack := goodIn_r _ [5, 6, 7, 4, 8] (by decide +kernel) (by decide +kernel)
set_option maxRecDepth 20000 in
theorem gX1_couple_X1_isTrack : GoodIn wsX1_couple (va_wsS RX1 39 yX1_isTrack wsX1_isTrack) := goodIn_app (goodIn_of _ (by decide +kernel)) ggX1_couple_X1_isTrack
set_option maxRecDepth 20000 in
theorem ggX1_couple_X1_in : GoodIn wsX1_couple wsX1_in := goodIn_r _ [8] (by decide +kernel) (by decide +kernel)
set_option maxRecDepth 20000 in
theorem gX1_couple_X1_in : GoodIn wsX1_couple (va_wsS RX1 19 yX1_in wsX1_in) := goodIn_app (goodIn_of _ (by decide +kernel)) ggX1_couple_X1_in
set_option maxRecDepth 20000 in
theorem ggX1_couple_X1_holds : GoodIn wsX1_couple wsX1_holds := goodIn_r _ [12, 13, 14, 15, 16, 17, 32, 33, 34, 35, 36, 37, 38, 39, 40] (by decide +kernel) (by decide +kernel)
set_option maxRecDepth 20000 in
theorem gX1_couple_X1_holds : GoodIn wsX1_couple (wsV RX1 43 RX1 yX1_holds wsX1_holds) := goodIn_app (goodIn_of _ (by decide +kernel)) ggX1_couple_X1_holds
set_option maxRecDepth 20000 in
theorem ggX1_couple_X1_isFull : GoodIn wsX1_couple wsX1_isFull := goodIn_r _ [21, 1, 14, 32, 33, 34, 35, 36, 37, 38, 39, 40] (by decide +kernel) (by decide +kernel)
set_option maxRecDepth 20000 in
theorem gX1_couple_X1_isFull : GoodIn wsX1_couple (wsV RX1 46 RX1 yX1_isFull wsX1_isFull) := goodIn_app (goodIn_of _ (by decide +kernel)) ggX1_couple_X1_isFull
set_option maxRecDepth 20000 in
theorem ggX1_couple_X1_goes : GoodIn wsX1_couple wsX1_goes := goodIn_r _ [25, 16, 26, 32, 33, 34, 35, 36, 37, 38, 39, 40] (by decide +kernel) (by decide +kernel)
set_option maxRecDepth 20000 in
theorem gX1_couple_X1_goes : GoodIn wsX1_couple (wsV RX1 49 RX1 yX1_goes wsX1_goes) := goodIn_app (goodIn_of _ (by decide +kernel)) ggX1_couple_X1_goes
set_option maxRecDepth 20000 in
theorem ggX1_couple_X1_come : GoodIn wsX1_couple wsX1_come := goodIn_r _ [30, 31, 1, 32, 33, 34, 35, 36, 37, 38, 39, 40] (by decide +kernel) (by decide +kernel)
set_option maxRecDepth 20000 in
theorem gX1_couple_X1_come : GoodIn wsX1_couple (wsV RX1 53 RX1 yX1_come wsX1_come) := goodIn_app (goodIn_of _ (by decide +kernel)) ggX1_couple_X1_come
theorem dX1_couple_0 : decode cX1_couple 0 = .ok (.iload_n 1, 1) := by decide +kernel
theorem dX1_couple_1 : decode cX1_couple 1 = .ok (.invokestatic 39, 3) := by decide +kernel
theorem dX1_couple_4 : decode cX1_couple 4 = .ok (.ifCond .eq 14, 3) := by decide +kernel
theorem dX1_couple_7 : decode cX1_couple 7 = .ok (.iload_n 2, 1) := by decide +kernel
theorem dX1_couple_8 : decode cX1_couple 8 = .ok (.iconst 1, 1) := by decide +kernel
theorem dX1_couple_9 : decode cX1_couple 9 = .ok (.sipush 999, 3) := by decide +kernel
theorem dX1_couple_12 : decode cX1_couple 12 = .ok (.invokestatic 19, 3) := by decide +kernel
theorem dX1_couple_15 : decode cX1_couple 15 = .ok (.ifCond .ne 6, 3) := by decide +kernel
theorem dX1_couple_18 : decode cX1_couple 18 = .ok (.bipush (-2), 2) := by decide +kernel
theorem dX1_couple_20 : decode cX1_couple 20 = .ok (.ireturn, 1) := by decide +kernel
theorem dX1_couple_21 : decode cX1_couple 21 = .ok (.aload_n 0, 1) := by decide +kernel
theorem dX1_couple_22 : decode cX1_couple 22 = .ok (.iload_n 1, 1) := by decide +kernel
theorem dX1_couple_23 : decode cX1_couple 23 = .ok (.invokevirtual 43, 3) := by decide +kernel
theorem dX1_couple_26 : decode cX1_couple 26 = .ok (.ifCond .ne 6, 3) := by decide +kernel
theorem dX1_couple_29 : decode cX1_couple 29 = .ok (.bipush (-3), 2) := by decide +kernel
theorem dX1_couple_31 : decode cX1_couple 31 = .ok (.ireturn, 1) := by decide +kernel
theorem dX1_couple_32 : decode cX1_couple 32 = .ok (.aload_n 0, 1) := by decide +kernel
theorem dX1_couple_33 : decode cX1_couple 33 = .ok (.iload_n 1, 1) := by decide +kernel
theorem dX1_couple_34 : decode cX1_couple 34 = .ok (.invokevirtual 46, 3) := by decide +kernel
theorem dX1_couple_37 : decode cX1_couple 37 = .ok (.ifCond .eq 11, 3) := by decide +kernel
theorem dX1_couple_40 : decode cX1_couple 40 = .ok (.aload_n 0, 1) := by decide +kernel
theorem dX1_couple_41 : decode cX1_couple 41 = .ok (.iconst 1, 1) := by decide +kernel
theorem dX1_couple_42 : decode cX1_couple 42 = .ok (.bipush (-4), 2) := by decide +kernel
theorem dX1_couple_44 : decode cX1_couple 44 = .ok (.invokevirtual 49, 3) := by decide +kernel
theorem dX1_couple_47 : decode cX1_couple 47 = .ok (.ireturn, 1) := by decide +kernel
theorem dX1_couple_48 : decode cX1_couple 48 = .ok (.aload_n 0, 1) := by decide +kernel
theorem dX1_couple_49 : decode cX1_couple 49 = .ok (.iload_n 1, 1) := by decide +kernel
theorem dX1_couple_50 : decode cX1_couple 50 = .ok (.iload_n 2, 1) := by decide +kernel
theorem dX1_couple_51 : decode cX1_couple 51 = .ok (.invokevirtual 53, 3) := by decide +kernel
theorem dX1_couple_54 : decode cX1_couple 54 = .ok (.aload_n 0, 1) := by decide +kernel
theorem dX1_couple_55 : decode cX1_couple 55 = .ok (.iconst 1, 1) := by decide +kernel
theorem dX1_couple_56 : decode cX1_couple 56 = .ok (.aload_n 0, 1) := by decide +kernel
theorem dX1_couple_57 : decode cX1_couple 57 = .ok (.getfield 13, 3) := by decide +kernel
theorem dX1_couple_60 : decode cX1_couple 60 = .ok (.iload_n 1, 1) := by decide +kernel
theorem dX1_couple_61 : decode cX1_couple 61 = .ok (.iaload, 1) := by decide +kernel
theorem dX1_couple_62 : decode cX1_couple 62 = .ok (.invokevirtual 49, 3) := by decide +kernel
theorem dX1_couple_65 : decode cX1_couple 65 = .ok (.ireturn, 1) := by decide +kernel
set_option maxRecDepth 20000 in
theorem ggX1_uncouple_X1_isTrack : GoodIn wsX1_uncouple wsX1_isTrack := goodIn_r _ [5, 6, 7, 4, 8] (by decide +kernel) (by decide +kernel)
set_option maxRecDepth 20000 in
theorem gX1_uncouple_X1_isTrack : GoodIn wsX1_uncouple (va_wsS RX1 39 yX1_isTrack wsX1_isTrack) := goodIn_app (goodIn_of _ (by decide +kernel)) ggX1_uncouple_X1_isTrack
set_option maxRecDepth 20000 in
theorem ggX1_uncouple_X1_holds : GoodIn wsX1_uncouple wsX1_holds := goodIn_r _ [12, 13, 14, 15, 16, 17, 28, 29, 30, 31, 32, 33, 34, 35, 36] (by decide +kernel) (by decide +kernel)
set_option maxRecDepth 20000 in
theorem gX1_uncouple_X1_holds : GoodIn wsX1_uncouple (wsV RX1 43 RX1 yX1_holds wsX1_holds) := goodIn_app (goodIn_of _ (by decide +kernel)) ggX1_uncouple_X1_holds
set_option maxRecDepth 20000 in
theorem ggX1_uncouple_X1_goes : GoodIn wsX1_uncouple wsX1_goes := goodIn_r _ [21, 16, 22, 28, 29, 30, 31, 32, 33, 34, 35, 36] (by decide +kernel) (by decide +kernel)
set_option maxRecDepth 20000 in
theorem gX1_uncouple_X1_goes : GoodIn wsX1_uncouple (wsV RX1 49 RX1 yX1_goes wsX1_goes) := goodIn_app (goodIn_of _ (by decide +kernel)) ggX1_uncouple_X1_goes
set_option maxRecDepth 20000 in
theorem ggX1_uncouple_X1_last : GoodIn wsX1_uncouple wsX1_last := goodIn_r _ [26, 27, 1, 28, 29, 30, 31, 32, 33, 34, 35, 36] (by decide +kernel) (by decide +kernel)
set_option maxRecDepth 20000 in
theorem gX1_uncouple_X1_last : GoodIn wsX1_uncouple (wsV RX1 57 RX1 yX1_last wsX1_last) := goodIn_app (goodIn_of _ (by decide +kernel)) ggX1_uncouple_X1_last
theorem dX1_uncouple_0 : decode cX1_uncouple 0 = .ok (.iload_n 1, 1) := by decide +kernel
theorem dX1_uncouple_1 : decode cX1_uncouple 1 = .ok (.invokestatic 39, 3) := by decide +kernel
theorem dX1_uncouple_4 : decode cX1_uncouple 4 = .ok (.ifCond .ne 6, 3) := by decide +kernel
theorem dX1_uncouple_7 : decode cX1_uncouple 7 = .ok (.bipush (-2), 2) := by decide +kernel
theorem dX1_uncouple_9 : decode cX1_uncouple 9 = .ok (.ireturn, 1) := by decide +kernel
theorem dX1_uncouple_10 : decode cX1_uncouple 10 = .ok (.aload_n 0, 1) := by decide +kernel
theorem dX1_uncouple_11 : decode cX1_uncouple 11 = .ok (.iload_n 1, 1) := by decide +kernel
theorem dX1_uncouple_12 : decode cX1_uncouple 12 = .ok (.invokevirtual 43, 3) := by decide +kernel
theorem dX1_uncouple_15 : decode cX1_uncouple 15 = .ok (.ifCond .ne 6, 3) := by decide +kernel
theorem dX1_uncouple_18 : decode cX1_uncouple 18 = .ok (.bipush (-3), 2) := by decide +kernel
theorem dX1_uncouple_20 : decode cX1_uncouple 20 = .ok (.ireturn, 1) := by decide +kernel
theorem dX1_uncouple_21 : decode cX1_uncouple 21 = .ok (.aload_n 0, 1) := by decide +kernel
theorem dX1_uncouple_22 : decode cX1_uncouple 22 = .ok (.getfield 13, 3) := by decide +kernel
theorem dX1_uncouple_25 : decode cX1_uncouple 25 = .ok (.iload_n 1, 1) := by decide +kernel
theorem dX1_uncouple_26 : decode cX1_uncouple 26 = .ok (.iaload, 1) := by decide +kernel
theorem dX1_uncouple_27 : decode cX1_uncouple 27 = .ok (.ifCond .ne 11, 3) := by decide +kernel
theorem dX1_uncouple_30 : decode cX1_uncouple 30 = .ok (.aload_n 0, 1) := by decide +kernel
theorem dX1_uncouple_31 : decode cX1_uncouple 31 = .ok (.iconst 1, 1) := by decide +kernel
theorem dX1_uncouple_32 : decode cX1_uncouple 32 = .ok (.bipush (-5), 2) := by decide +kernel
theorem dX1_uncouple_34 : decode cX1_uncouple 34 = .ok (.invokevirtual 49, 3) := by decide +kernel
theorem dX1_uncouple_37 : decode cX1_uncouple 37 = .ok (.ireturn, 1) := by decide +kernel
theorem dX1_uncouple_38 : decode cX1_uncouple 38 = .ok (.aload_n 0, 1) := by decide +kernel
theorem dX1_uncouple_39 : decode cX1_uncouple 39 = .ok (.iload_n 1, 1) := by decide +kernel
theorem dX1_uncouple_40 : decode cX1_uncouple 40 = .ok (.invokevirtual 57, 3) := by decide +kernel
theorem dX1_uncouple_43 : decode cX1_uncouple 43 = .ok (.istore_n 2, 1) := by decide +kernel
theorem dX1_uncouple_44 : decode cX1_uncouple 44 = .ok (.aload_n 0, 1) := by decide +kernel
theorem dX1_uncouple_45 : decode cX1_uncouple 45 = .ok (.getfield 13, 3) := by decide +kernel
theorem dX1_uncouple_48 : decode cX1_uncouple 48 = .ok (.iload_n 1, 1) := by decide +kernel
theorem dX1_uncouple_49 : decode cX1_uncouple 49 = .ok (.dup2, 1) := by decide +kernel
theorem dX1_uncouple_50 : decode cX1_uncouple 50 = .ok (.iaload, 1) := by decide +kernel
theorem dX1_uncouple_51 : decode cX1_uncouple 51 = .ok (.iconst 1, 1) := by decide +kernel
theorem dX1_uncouple_52 : decode cX1_uncouple 52 = .ok (.isub, 1) := by decide +kernel
theorem dX1_uncouple_53 : decode cX1_uncouple 53 = .ok (.iastore, 1) := by decide +kernel
theorem dX1_uncouple_54 : decode cX1_uncouple 54 = .ok (.aload_n 0, 1) := by decide +kernel
theorem dX1_uncouple_55 : decode cX1_uncouple 55 = .ok (.iconst 1, 1) := by decide +kernel
theorem dX1_uncouple_56 : decode cX1_uncouple 56 = .ok (.iload_n 2, 1) := by decide +kernel
theorem dX1_uncouple_57 : decode cX1_uncouple 57 = .ok (.invokevirtual 49, 3) := by decide +kernel
theorem dX1_uncouple_60 : decode cX1_uncouple 60 = .ok (.ireturn, 1) := by decide +kernel
set_option maxRecDepth 20000 in
theorem ggX1_shunt_X1_isTrack : GoodIn wsX1_shunt wsX1_isTrack := goodIn_r _ [6, 7, 8, 5, 9] (by decide +kernel) (by decide +kernel)
set_option maxRecDepth 20000 in
theorem gX1_shunt_X1_isTrack : GoodIn wsX1_shunt (va_wsS RX1 39 yX1_isTrack wsX1_isTrack) := goodIn_app (goodIn_of _ (by decide +kernel)) ggX1_shunt_X1_isTrack
set_option maxRecDepth 20000 in
theorem ggX1_shunt_X1_in : GoodIn wsX1_shunt wsX1_in := goodIn_r _ [9] (by decide +kernel) (by decide +kernel)
set_option maxRecDepth 20000 in
theorem gX1_shunt_X1_in : GoodIn wsX1_shunt (va_wsS RX1 19 yX1_in wsX1_in) := goodIn_app (goodIn_of _ (by decide +kernel)) ggX1_shunt_X1_in
set_option maxRecDepth 20000 in
theorem ggX1_shunt_X1_holds : GoodIn wsX1_shunt wsX1_holds := goodIn_r _ [13, 14, 15, 16, 17, 18, 37, 38, 39, 40, 41, 42, 43, 44, 45] (by decide +kernel) (by decide +kernel)
set_option maxRecDepth 20000 in
theorem gX1_shunt_X1_holds : GoodIn wsX1_shunt (wsV RX1 43 RX1 yX1_holds wsX1_holds) := goodIn_app (goodIn_of _ (by decide +kernel)) ggX1_shunt_X1_holds
set_option maxRecDepth 20000 in
theorem ggX1_shunt_X1_goes : GoodIn wsX1_shunt wsX1_goes := goodIn_r _ [22, 17, 23, 37, 38, 39, 40, 41, 42, 43, 44, 45] (by decide +kernel) (by decide +kernel)
set_option maxRecDepth 20000 in
theorem gX1_shunt_X1_goes : GoodIn wsX1_shunt (wsV RX1 49 RX1 yX1_goes wsX1_goes) := goodIn_app (goodIn_of _ (by decide +kernel)) ggX1_shunt_X1_goes
set_option maxRecDepth 20000 in
theorem ggX1_shunt_X1_last : GoodIn wsX1_shunt wsX1_last := goodIn_r _ [27, 28, 2, 37, 38, 39, 40, 41, 42, 43, 44, 45] (by decide +kernel) (by decide +kernel)
set_option maxRecDepth 20000 in
theorem gX1_shunt_X1_last : GoodIn wsX1_shunt (wsV RX1 57 RX1 yX1_last wsX1_last) := goodIn_app (goodIn_of _ (by decide +kernel)) ggX1_shunt_X1_last
set_option maxRecDepth 20000 in
theorem ggX1_shunt_X1_isFull : GoodIn wsX1_shunt wsX1_isFull := goodIn_r _ [32, 2, 15, 37, 38, 39, 40, 41, 42, 43, 44, 45] (by decide +kernel) (by decide +kernel)
set_option maxRecDepth 20000 in
theorem gX1_shunt_X1_isFull : GoodIn wsX1_shunt (wsV RX1 46 RX1 yX1_isFull wsX1_isFull) := goodIn_app (goodIn_of _ (by decide +kernel)) ggX1_shunt_X1_isFull
set_option maxRecDepth 20000 in
theorem ggX1_shunt_X1_come : GoodIn wsX1_shunt wsX1_come := goodIn_r _ [36, 28, 2, 37, 38, 39, 40, 41, 42, 43, 44, 45] (by decide +kernel) (by decide +kernel)
set_option maxRecDepth 20000 in
theorem gX1_shunt_X1_come : GoodIn wsX1_shunt (wsV RX1 53 RX1 yX1_come wsX1_come) := goodIn_app (goodIn_of _ (by decide +kernel)) ggX1_shunt_X1_come
theorem dX1_shunt_0 : decode cX1_shunt 0 = .ok (.iload_n 1, 1) := by decide +kernel
theorem dX1_shunt_1 : decode cX1_shunt 1 = .ok (.invokestatic 39, 3) := by decide +kernel
theorem dX1_shunt_4 : decode cX1_shunt 4 = .ok (.ifCond .eq 20, 3) := by decide +kernel
theorem dX1_shunt_7 : decode cX1_shunt 7 = .ok (.iload_n 2, 1) := by decide +kernel
theorem dX1_shunt_8 : decode cX1_shunt 8 = .ok (.invokestatic 39, 3) := by decide +kernel
theorem dX1_shunt_11 : decode cX1_shunt 11 = .ok (.ifCond .eq 13, 3) := by decide +kernel
theorem dX1_shunt_14 : decode cX1_shunt 14 = .ok (.iload_n 3, 1) := by decide +kernel
theorem dX1_shunt_15 : decode cX1_shunt 15 = .ok (.iconst 0, 1) := by decide +kernel
theorem dX1_shunt_16 : decode cX1_shunt 16 = .ok (.bipush 20, 2) := by decide +kernel
theorem dX1_shunt_18 : decode cX1_shunt 18 = .ok (.invokestatic 19, 3) := by decide +kernel
theorem dX1_shunt_21 : decode cX1_shunt 21 = .ok (.ifCond .ne 6, 3) := by decide +kernel
theorem dX1_shunt_24 : decode cX1_shunt 24 = .ok (.bipush (-2), 2) := by decide +kernel
theorem dX1_shunt_26 : decode cX1_shunt 26 = .ok (.ireturn, 1) := by decide +kernel
theorem dX1_shunt_27 : decode cX1_shunt 27 = .ok (.aload_n 0, 1) := by decide +kernel
theorem dX1_shunt_28 : decode cX1_shunt 28 = .ok (.iconst 0, 1) := by decide +kernel
theorem dX1_shunt_29 : decode cX1_shunt 29 = .ok (.putfield 61, 3) := by decide +kernel
theorem dX1_shunt_32 : decode cX1_shunt 32 = .ok (.aload_n 0, 1) := by decide +kernel
theorem dX1_shunt_33 : decode cX1_shunt 33 = .ok (.iload_n 1, 1) := by decide +kernel
theorem dX1_shunt_34 : decode cX1_shunt 34 = .ok (.invokevirtual 43, 3) := by decide +kernel
theorem dX1_shunt_37 : decode cX1_shunt 37 = .ok (.ifCond .ne 6, 3) := by decide +kernel
theorem dX1_shunt_40 : decode cX1_shunt 40 = .ok (.bipush (-3), 2) := by decide +kernel
theorem dX1_shunt_42 : decode cX1_shunt 42 = .ok (.ireturn, 1) := by decide +kernel
theorem dX1_shunt_43 : decode cX1_shunt 43 = .ok (.aload_n 0, 1) := by decide +kernel
theorem dX1_shunt_44 : decode cX1_shunt 44 = .ok (.iload_n 2, 1) := by decide +kernel
theorem dX1_shunt_45 : decode cX1_shunt 45 = .ok (.invokevirtual 43, 3) := by decide +kernel
theorem dX1_shunt_48 : decode cX1_shunt 48 = .ok (.ifCond .ne 11, 3) := by decide +kernel
theorem dX1_shunt_51 : decode cX1_shunt 51 = .ok (.aload_n 0, 1) := by decide +kernel
theorem dX1_shunt_52 : decode cX1_shunt 52 = .ok (.iconst 1, 1) := by decide +kernel
theorem dX1_shunt_53 : decode cX1_shunt 53 = .ok (.bipush (-3), 2) := by decide +kernel
theorem dX1_shunt_55 : decode cX1_shunt 55 = .ok (.invokevirtual 49, 3) := by decide +kernel
theorem dX1_shunt_58 : decode cX1_shunt 58 = .ok (.ireturn, 1) := by decide +kernel
theorem dX1_shunt_59 : decode cX1_shunt 59 = .ok (.iload_n 3, 1) := by decide +kernel
theorem dX1_shunt_60 : decode cX1_shunt 60 = .ok (.istore 4, 2) := by decide +kernel
theorem dX1_shunt_62 : decode cX1_shunt 62 = .ok (.iconst 0, 1) := by decide +kernel
theorem dX1_shunt_63 : decode cX1_shunt 63 = .ok (.istore 5, 2) := by decide +kernel
theorem dX1_shunt_65 : decode cX1_shunt 65 = .ok (.iload 5, 2) := by decide +kernel
theorem dX1_shunt_67 : decode cX1_shunt 67 = .ok (.iload_n 3, 1) := by decide +kernel
theorem dX1_shunt_68 : decode cX1_shunt 68 = .ok (.if_icmp .ge 86, 3) := by decide +kernel
theorem dX1_shunt_71 : decode cX1_shunt 71 = .ok (.iload 4, 2) := by decide +kernel
theorem dX1_shunt_73 : decode cX1_shunt 73 = .ok (.ifCond .lt 81, 3) := by decide +kernel
theorem dX1_shunt_76 : decode cX1_shunt 76 = .ok (.aload_n 0, 1) := by decide +kernel
theorem dX1_shunt_77 : decode cX1_shunt 77 = .ok (.getfield 13, 3) := by decide +kernel
theorem dX1_shunt_80 : decode cX1_shunt 80 = .ok (.iload_n 1, 1) := by decide +kernel
theorem dX1_shunt_81 : decode cX1_shunt 81 = .ok (.iaload, 1) := by decide +kernel
theorem dX1_shunt_82 : decode cX1_shunt 82 = .ok (.ifCond .ne 10, 3) := by decide +kernel
theorem dX1_shunt_85 : decode cX1_shunt 85 = .ok (.bipush (-5), 2) := by decide +kernel
theorem dX1_shunt_87 : decode cX1_shunt 87 = .ok (.istore 4, 2) := by decide +kernel
theorem dX1_shunt_89 : decode cX1_shunt 89 = .ok (.goto 59, 3) := by decide +kernel
theorem dX1_shunt_92 : decode cX1_shunt 92 = .ok (.aload_n 0, 1) := by decide +kernel
theorem dX1_shunt_93 : decode cX1_shunt 93 = .ok (.iload_n 1, 1) := by decide +kernel
theorem dX1_shunt_94 : decode cX1_shunt 94 = .ok (.invokevirtual 57, 3) := by decide +kernel
theorem dX1_shunt_97 : decode cX1_shunt 97 = .ok (.istore 6, 2) := by decide +kernel
theorem dX1_shunt_99 : decode cX1_shunt 99 = .ok (.aload_n 0, 1) := by decide +kernel
theorem dX1_shunt_100 : decode cX1_shunt 100 = .ok (.getfield 13, 3) := by decide +kernel
theorem dX1_shunt_103 : decode cX1_shunt 103 = .ok (.iload_n 1, 1) := by decide +kernel
theorem dX1_shunt_104 : decode cX1_shunt 104 = .ok (.dup2, 1) := by decide +kernel
theorem dX1_shunt_105 : decode cX1_shunt 105 = .ok (.iaload, 1) := by decide +kernel
theorem dX1_shunt_106 : decode cX1_shunt 106 = .ok (.iconst 1, 1) := by decide +kernel
theorem dX1_shunt_107 : decode cX1_shunt 107 = .ok (.isub, 1) := by decide +kernel
theorem dX1_shunt_108 : decode cX1_shunt 108 = .ok (.iastore, 1) := by decide +kernel
theorem dX1_shunt_109 : decode cX1_shunt 109 = .ok (.aload_n 0, 1) := by decide +kernel
theorem dX1_shunt_110 : decode cX1_shunt 110 = .ok (.iload_n 2, 1) := by decide +kernel
theorem dX1_shunt_111 : decode cX1_shunt 111 = .ok (.invokevirtual 46, 3) := by decide +kernel
theorem dX1_shunt_114 : decode cX1_shunt 114 = .ok (.ifCond .eq 17, 3) := by decide +kernel
theorem dX1_shunt_117 : decode cX1_shunt 117 = .ok (.aload_n 0, 1) := by decide +kernel
theorem dX1_shunt_118 : decode cX1_shunt 118 = .ok (.iload_n 1, 1) := by decide +kernel
theorem dX1_shunt_119 : decode cX1_shunt 119 = .ok (.iload 6, 2) := by decide +kernel
theorem dX1_shunt_121 : decode cX1_shunt 121 = .ok (.invokevirtual 53, 3) := by decide +kernel
theorem dX1_shunt_124 : decode cX1_shunt 124 = .ok (.bipush (-4), 2) := by decide +kernel
theorem dX1_shunt_126 : decode cX1_shunt 126 = .ok (.istore 4, 2) := by decide +kernel
theorem dX1_shunt_128 : decode cX1_shunt 128 = .ok (.goto 20, 3) := by decide +kernel
theorem dX1_shunt_131 : decode cX1_shunt 131 = .ok (.aload_n 0, 1) := by decide +kernel
theorem dX1_shunt_132 : decode cX1_shunt 132 = .ok (.iload_n 2, 1) := by decide +kernel
theorem dX1_shunt_133 : decode cX1_shunt 133 = .ok (.iload 6, 2) := by decide +kernel
theorem dX1_shunt_135 : decode cX1_shunt 135 = .ok (.invokevirtual 53, 3) := by decide +kernel
theorem dX1_shunt_138 : decode cX1_shunt 138 = .ok (.aload_n 0, 1) := by decide +kernel
theorem dX1_shunt_139 : decode cX1_shunt 139 = .ok (.dup, 1) := by decide +kernel
theorem dX1_shunt_140 : decode cX1_shunt 140 = .ok (.getfield 61, 3) := by decide +kernel
theorem dX1_shunt_143 : decode cX1_shunt 143 = .ok (.iconst 1, 1) := by decide +kernel
theorem dX1_shunt_144 : decode cX1_shunt 144 = .ok (.iadd, 1) := by decide +kernel
theorem dX1_shunt_145 : decode cX1_shunt 145 = .ok (.putfield 61, 3) := by decide +kernel
theorem dX1_shunt_148 : decode cX1_shunt 148 = .ok (.iinc 5 1, 3) := by decide +kernel
theorem dX1_shunt_151 : decode cX1_shunt 151 = .ok (.goto (-86), 3) := by decide +kernel
theorem dX1_shunt_154 : decode cX1_shunt 154 = .ok (.aload_n 0, 1) := by decide +kernel
theorem dX1_shunt_155 : decode cX1_shunt 155 = .ok (.iconst 2, 1) := by decide +kernel
theorem dX1_shunt_156 : decode cX1_shunt 156 = .ok (.iload 4, 2) := by decide +kernel
theorem dX1_shunt_158 : decode cX1_shunt 158 = .ok (.invokevirtual 49, 3) := by decide +kernel
theorem dX1_shunt_161 : decode cX1_shunt 161 = .ok (.ireturn, 1) := by decide +kernel
set_option maxRecDepth 20000 in
theorem ggX1_sweep_X1_isTrack : GoodIn wsX1_sweep wsX1_isTrack := goodIn_r _ [6, 7, 8, 5, 9] (by decide +kernel) (by decide +kernel)
set_option maxRecDepth 20000 in
theorem gX1_sweep_X1_isTrack : GoodIn wsX1_sweep (va_wsS RX1 39 yX1_isTrack wsX1_isTrack) := goodIn_app (goodIn_of _ (by decide +kernel)) ggX1_sweep_X1_isTrack
set_option maxRecDepth 20000 in
theorem ggX1_sweep_X1_holds : GoodIn wsX1_sweep wsX1_holds := goodIn_r _ [13, 14, 15, 16, 17, 18, 37, 38, 39, 40, 41, 42, 43, 44, 45] (by decide +kernel) (by decide +kernel)
set_option maxRecDepth 20000 in
theorem gX1_sweep_X1_holds : GoodIn wsX1_sweep (wsV RX1 43 RX1 yX1_holds wsX1_holds) := goodIn_app (goodIn_of _ (by decide +kernel)) ggX1_sweep_X1_holds
set_option maxRecDepth 20000 in
theorem ggX1_sweep_X1_last : GoodIn wsX1_sweep wsX1_last := goodIn_r _ [22, 23, 2, 37, 38, 39, 40, 41, 42, 43, 44, 45] (by decide +kernel) (by decide +kernel)
set_option maxRecDepth 20000 in
theorem gX1_sweep_X1_last : GoodIn wsX1_sweep (wsV RX1 57 RX1 yX1_last wsX1_last) := goodIn_app (goodIn_of _ (by decide +kernel)) ggX1_sweep_X1_last
set_option maxRecDepth 20000 in
theorem ggX1_sweep_X1_come : GoodIn wsX1_sweep wsX1_come := goodIn_r _ [27, 23, 2, 37, 38, 39, 40, 41, 42, 43, 44, 45] (by decide +kernel) (by decide +kernel)
set_option maxRecDepth 20000 in
theorem gX1_sweep_X1_come : GoodIn wsX1_sweep (wsV RX1 53 RX1 yX1_come wsX1_come) := goodIn_app (goodIn_of _ (by decide +kernel)) ggX1_sweep_X1_come
set_option maxRecDepth 20000 in
theorem ggX1_sweep_X1_goes : GoodIn wsX1_sweep wsX1_goes := goodIn_r _ [31, 17, 32, 37, 38, 39, 40, 41, 42, 43, 44, 45] (by decide +kernel) (by decide +kernel)
set_option maxRecDepth 20000 in
theorem gX1_sweep_X1_goes : GoodIn wsX1_sweep (wsV RX1 49 RX1 yX1_goes wsX1_goes) := goodIn_app (goodIn_of _ (by decide +kernel)) ggX1_sweep_X1_goes
set_option maxRecDepth 20000 in
theorem ggX1_sweep_X1_isFull : GoodIn wsX1_sweep wsX1_isFull := goodIn_r _ [36, 2, 15, 37, 38, 39, 40, 41, 42, 43, 44, 45] (by decide +kernel) (by decide +kernel)
set_option maxRecDepth 20000 in
theorem gX1_sweep_X1_isFull : GoodIn wsX1_sweep (wsV RX1 46 RX1 yX1_isFull wsX1_isFull) := goodIn_app (goodIn_of _ (by decide +kernel)) ggX1_sweep_X1_isFull
theorem dX1_sweep_0 : decode cX1_sweep 0 = .ok (.iload_n 1, 1) := by decide +kernel
theorem dX1_sweep_1 : decode cX1_sweep 1 = .ok (.invokestatic 39, 3) := by decide +kernel
theorem dX1_sweep_4 : decode cX1_sweep 4 = .ok (.ifCond .eq 27, 3) := by decide +kernel
theorem dX1_sweep_7 : decode cX1_sweep 7 = .ok (.iload_n 2, 1) := by decide +kernel
theorem dX1_sweep_8 : decode cX1_sweep 8 = .ok (.invokestatic 39, 3) := by decide +kernel
theorem dX1_sweep_11 : decode cX1_sweep 11 = .ok (.ifCond .eq 20, 3) := by decide +kernel
theorem dX1_sweep_14 : decode cX1_sweep 14 = .ok (.iload_n 3, 1) := by decide +kernel
theorem dX1_sweep_15 : decode cX1_sweep 15 = .ok (.invokestatic 39, 3) := by decide +kernel
theorem dX1_sweep_18 : decode cX1_sweep 18 = .ok (.ifCond .eq 13, 3) := by decide +kernel
theorem dX1_sweep_21 : decode cX1_sweep 21 = .ok (.iload_n 1, 1) := by decide +kernel
theorem dX1_sweep_22 : decode cX1_sweep 22 = .ok (.iload_n 2, 1) := by decide +kernel
theorem dX1_sweep_23 : decode cX1_sweep 23 = .ok (.if_icmp .eq 8, 3) := by decide +kernel
theorem dX1_sweep_26 : decode cX1_sweep 26 = .ok (.iload_n 1, 1) := by decide +kernel
theorem dX1_sweep_27 : decode cX1_sweep 27 = .ok (.iload_n 3, 1) := by decide +kernel
theorem dX1_sweep_28 : decode cX1_sweep 28 = .ok (.if_icmp .ne 6, 3) := by decide +kernel
theorem dX1_sweep_31 : decode cX1_sweep 31 = .ok (.bipush (-2), 2) := by decide +kernel
theorem dX1_sweep_33 : decode cX1_sweep 33 = .ok (.ireturn, 1) := by decide +kernel
theorem dX1_sweep_34 : decode cX1_sweep 34 = .ok (.aload_n 0, 1) := by decide +kernel
theorem dX1_sweep_35 : decode cX1_sweep 35 = .ok (.iconst 0, 1) := by decide +kernel
theorem dX1_sweep_36 : decode cX1_sweep 36 = .ok (.putfield 61, 3) := by decide +kernel
theorem dX1_sweep_39 : decode cX1_sweep 39 = .ok (.aload_n 0, 1) := by decide +kernel
theorem dX1_sweep_40 : decode cX1_sweep 40 = .ok (.iload_n 1, 1) := by decide +kernel
theorem dX1_sweep_41 : decode cX1_sweep 41 = .ok (.invokevirtual 43, 3) := by decide +kernel
theorem dX1_sweep_44 : decode cX1_sweep 44 = .ok (.ifCond .ne 6, 3) := by decide +kernel
theorem dX1_sweep_47 : decode cX1_sweep 47 = .ok (.bipush (-3), 2) := by decide +kernel
theorem dX1_sweep_49 : decode cX1_sweep 49 = .ok (.ireturn, 1) := by decide +kernel
theorem dX1_sweep_50 : decode cX1_sweep 50 = .ok (.iconst 1, 1) := by decide +kernel
theorem dX1_sweep_51 : decode cX1_sweep 51 = .ok (.istore 4, 2) := by decide +kernel
theorem dX1_sweep_53 : decode cX1_sweep 53 = .ok (.iload 4, 2) := by decide +kernel
theorem dX1_sweep_55 : decode cX1_sweep 55 = .ok (.ifCond .eq 145, 3) := by decide +kernel
theorem dX1_sweep_58 : decode cX1_sweep 58 = .ok (.aload_n 0, 1) := by decide +kernel
theorem dX1_sweep_59 : decode cX1_sweep 59 = .ok (.getfield 13, 3) := by decide +kernel
theorem dX1_sweep_62 : decode cX1_sweep 62 = .ok (.iload_n 1, 1) := by decide +kernel
theorem dX1_sweep_63 : decode cX1_sweep 63 = .ok (.iaload, 1) := by decide +kernel
theorem dX1_sweep_64 : decode cX1_sweep 64 = .ok (.ifCond .le 136, 3) := by decide +kernel
theorem dX1_sweep_67 : decode cX1_sweep 67 = .ok (.aload_n 0, 1) := by decide +kernel
theorem dX1_sweep_68 : decode cX1_sweep 68 = .ok (.iload_n 1, 1) := by decide +kernel
theorem dX1_sweep_69 : decode cX1_sweep 69 = .ok (.invokevirtual 57, 3) := by decide +kernel
theorem dX1_sweep_72 : decode cX1_sweep 72 = .ok (.istore 5, 2) := by decide +kernel
theorem dX1_sweep_74 : decode cX1_sweep 74 = .ok (.aload_n 0, 1) := by decide +kernel
theorem dX1_sweep_75 : decode cX1_sweep 75 = .ok (.getfield 13, 3) := by decide +kernel
theorem dX1_sweep_78 : decode cX1_sweep 78 = .ok (.iload_n 1, 1) := by decide +kernel
theorem dX1_sweep_79 : decode cX1_sweep 79 = .ok (.dup2, 1) := by decide +kernel
theorem dX1_sweep_80 : decode cX1_sweep 80 = .ok (.iaload, 1) := by decide +kernel
theorem dX1_sweep_81 : decode cX1_sweep 81 = .ok (.iconst 1, 1) := by decide +kernel
theorem dX1_sweep_82 : decode cX1_sweep 82 = .ok (.isub, 1) := by decide +kernel
theorem dX1_sweep_83 : decode cX1_sweep 83 = .ok (.iastore, 1) := by decide +kernel
theorem dX1_sweep_84 : decode cX1_sweep 84 = .ok (.iload 5, 2) := by decide +kernel
theorem dX1_sweep_86 : decode cX1_sweep 86 = .ok (.bipush 10, 2) := by decide +kernel
theorem dX1_sweep_88 : decode cX1_sweep 88 = .ok (.irem, 1) := by decide +kernel
theorem dX1_sweep_89 : decode cX1_sweep 89 = .ok (.ifCond .ne 9, 3) := by decide +kernel
theorem dX1_sweep_92 : decode cX1_sweep 92 = .ok (.iconst 0, 1) := by decide +kernel
theorem dX1_sweep_93 : decode cX1_sweep 93 = .ok (.istore 4, 2) := by decide +kernel
theorem dX1_sweep_95 : decode cX1_sweep 95 = .ok (.goto 102, 3) := by decide +kernel
theorem dX1_sweep_98 : decode cX1_sweep 98 = .ok (.iload 5, 2) := by decide +kernel
theorem dX1_sweep_100 : decode cX1_sweep 100 = .ok (.bipush 10, 2) := by decide +kernel
theorem dX1_sweep_102 : decode cX1_sweep 102 = .ok (.irem, 1) := by decide +kernel
theorem dX1_sweep_103 : decode cX1_sweep 103 = .ok (.bipush 9, 2) := by decide +kernel
theorem dX1_sweep_105 : decode cX1_sweep 105 = .ok (.if_icmp .eq 92, 3) := by decide +kernel
theorem dX1_sweep_108 : decode cX1_sweep 108 = .ok (.iload 5, 2) := by decide +kernel
theorem dX1_sweep_110 : decode cX1_sweep 110 = .ok (.iconst 2, 1) := by decide +kernel
theorem dX1_sweep_111 : decode cX1_sweep 111 = .ok (.irem, 1) := by decide +kernel
theorem dX1_sweep_112 : decode cX1_sweep 112 = .ok (.iconst 1, 1) := by decide +kernel
theorem dX1_sweep_113 : decode cX1_sweep 113 = .ok (.if_icmp .ne 7, 3) := by decide +kernel
theorem dX1_sweep_116 : decode cX1_sweep 116 = .ok (.iload_n 2, 1) := by decide +kernel
theorem dX1_sweep_117 : decode cX1_sweep 117 = .ok (.goto 4, 3) := by decide +kernel
theorem dX1_sweep_120 : decode cX1_sweep 120 = .ok (.iload_n 3, 1) := by decide +kernel
theorem dX1_sweep_121 : decode cX1_sweep 121 = .ok (.istore 6, 2) := by decide +kernel
theorem dX1_sweep_123 : decode cX1_sweep 123 = .ok (.aload_n 0, 1) := by decide +kernel
theorem dX1_sweep_124 : decode cX1_sweep 124 = .ok (.iload 6, 2) := by decide +kernel
theorem dX1_sweep_126 : decode cX1_sweep 126 = .ok (.invokevirtual 43, 3) := by decide +kernel
theorem dX1_sweep_129 : decode cX1_sweep 129 = .ok (.ifCond .ne 18, 3) := by decide +kernel
theorem dX1_sweep_132 : decode cX1_sweep 132 = .ok (.aload_n 0, 1) := by decide +kernel
theorem dX1_sweep_133 : decode cX1_sweep 133 = .ok (.iload_n 1, 1) := by decide +kernel
theorem dX1_sweep_134 : decode cX1_sweep 134 = .ok (.iload 5, 2) := by decide +kernel
theorem dX1_sweep_136 : decode cX1_sweep 136 = .ok (.invokevirtual 53, 3) := by decide +kernel
theorem dX1_sweep_139 : decode cX1_sweep 139 = .ok (.aload_n 0, 1) := by decide +kernel
theorem dX1_sweep_140 : decode cX1_sweep 140 = .ok (.iconst 1, 1) := by decide +kernel
theorem dX1_sweep_141 : decode cX1_sweep 141 = .ok (.bipush (-3), 2) := by decide +kernel
theorem dX1_sweep_143 : decode cX1_sweep 143 = .ok (.invokevirtual 49, 3) := by decide +kernel
theorem dX1_sweep_146 : decode cX1_sweep 146 = .ok (.ireturn, 1) := by decide +kernel
theorem dX1_sweep_147 : decode cX1_sweep 147 = .ok (.aload_n 0, 1) := by decide +kernel
theorem dX1_sweep_148 : decode cX1_sweep 148 = .ok (.iload 6, 2) := by decide +kernel
theorem dX1_sweep_150 : decode cX1_sweep 150 = .ok (.invokevirtual 46, 3) := by decide +kernel
theorem dX1_sweep_153 : decode cX1_sweep 153 = .ok (.ifCond .eq 18, 3) := by decide +kernel
theorem dX1_sweep_156 : decode cX1_sweep 156 = .ok (.aload_n 0, 1) := by decide +kernel
theorem dX1_sweep_157 : decode cX1_sweep 157 = .ok (.iload_n 1, 1) := by decide +kernel
theorem dX1_sweep_158 : decode cX1_sweep 158 = .ok (.iload 5, 2) := by decide +kernel
theorem dX1_sweep_160 : decode cX1_sweep 160 = .ok (.invokevirtual 53, 3) := by decide +kernel
theorem dX1_sweep_163 : decode cX1_sweep 163 = .ok (.aload_n 0, 1) := by decide +kernel
theorem dX1_sweep_164 : decode cX1_sweep 164 = .ok (.iconst 2, 1) := by decide +kernel
theorem dX1_sweep_165 : decode cX1_sweep 165 = .ok (.bipush (-4), 2) := by decide +kernel
theorem dX1_sweep_167 : decode cX1_sweep 167 = .ok (.invokevirtual 49, 3) := by decide +kernel
theorem dX1_sweep_170 : decode cX1_sweep 170 = .ok (.ireturn, 1) := by decide +kernel
theorem dX1_sweep_171 : decode cX1_sweep 171 = .ok (.aload_n 0, 1) := by decide +kernel
theorem dX1_sweep_172 : decode cX1_sweep 172 = .ok (.iload 6, 2) := by decide +kernel
theorem dX1_sweep_174 : decode cX1_sweep 174 = .ok (.iload 5, 2) := by decide +kernel
theorem dX1_sweep_176 : decode cX1_sweep 176 = .ok (.invokevirtual 53, 3) := by decide +kernel
theorem dX1_sweep_179 : decode cX1_sweep 179 = .ok (.aload_n 0, 1) := by decide +kernel
theorem dX1_sweep_180 : decode cX1_sweep 180 = .ok (.dup, 1) := by decide +kernel
theorem dX1_sweep_181 : decode cX1_sweep 181 = .ok (.getfield 61, 3) := by decide +kernel
theorem dX1_sweep_184 : decode cX1_sweep 184 = .ok (.iconst 1, 1) := by decide +kernel
theorem dX1_sweep_185 : decode cX1_sweep 185 = .ok (.iadd, 1) := by decide +kernel
theorem dX1_sweep_186 : decode cX1_sweep 186 = .ok (.putfield 61, 3) := by decide +kernel
theorem dX1_sweep_189 : decode cX1_sweep 189 = .ok (.aload_n 0, 1) := by decide +kernel
theorem dX1_sweep_190 : decode cX1_sweep 190 = .ok (.iconst 1, 1) := by decide +kernel
theorem dX1_sweep_191 : decode cX1_sweep 191 = .ok (.iconst 0, 1) := by decide +kernel
theorem dX1_sweep_192 : decode cX1_sweep 192 = .ok (.invokevirtual 49, 3) := by decide +kernel
theorem dX1_sweep_195 : decode cX1_sweep 195 = .ok (.istore 7, 2) := by decide +kernel
theorem dX1_sweep_197 : decode cX1_sweep 197 = .ok (.goto (-144), 3) := by decide +kernel
theorem dX1_sweep_200 : decode cX1_sweep 200 = .ok (.aload_n 0, 1) := by decide +kernel
theorem dX1_sweep_201 : decode cX1_sweep 201 = .ok (.iconst 1, 1) := by decide +kernel
theorem dX1_sweep_202 : decode cX1_sweep 202 = .ok (.aload_n 0, 1) := by decide +kernel
theorem dX1_sweep_203 : decode cX1_sweep 203 = .ok (.getfield 61, 3) := by decide +kernel
theorem dX1_sweep_206 : decode cX1_sweep 206 = .ok (.invokevirtual 49, 3) := by decide +kernel
theorem dX1_sweep_209 : decode cX1_sweep 209 = .ok (.ireturn, 1) := by decide +kernel
set_option maxRecDepth 20000 in
theorem ggX1_tour_X1_in : GoodIn wsX1_tour wsX1_in := goodIn_r _ [6] (by decide +kernel) (by decide +kernel)
set_option maxRecDepth 20000 in
theorem gX1_tour_X1_in : GoodIn wsX1_tour (va_wsS RX1 19 yX1_in wsX1_in) := goodIn_app (goodIn_of _ (by decide +kernel)) ggX1_tour_X1_in
set_option maxRecDepth 20000 in
theorem ggX1_tour_X1_trackOf : GoodIn wsX1_tour wsX1_trackOf := goodIn_r _ [9] (by decide +kernel) (by decide +kernel)
set_option maxRecDepth 20000 in
theorem gX1_tour_X1_trackOf : GoodIn wsX1_tour (va_wsS RX1 64 yX1_trackOf wsX1_trackOf) := goodIn_app (goodIn_of _ (by decide +kernel)) ggX1_tour_X1_trackOf
set_option maxRecDepth 20000 in
theorem ggX1_tour_X1_holds : GoodIn wsX1_tour wsX1_holds := goodIn_r _ [13, 14, 15, 16, 17, 18, 29, 30, 31, 32, 33, 34, 35, 36, 37] (by decide +kernel) (by decide +kernel)
set_option maxRecDepth 20000 in
theorem gX1_tour_X1_holds : GoodIn wsX1_tour (wsV RX1 43 RX1 yX1_holds wsX1_holds) := goodIn_app (goodIn_of _ (by decide +kernel)) ggX1_tour_X1_holds
set_option maxRecDepth 20000 in
theorem ggX1_tour_X1_last : GoodIn wsX1_tour wsX1_last := goodIn_r _ [22, 23, 2, 29, 30, 31, 32, 33, 34, 35, 36, 37] (by decide +kernel) (by decide +kernel)
set_option maxRecDepth 20000 in
theorem gX1_tour_X1_last : GoodIn wsX1_tour (wsV RX1 57 RX1 yX1_last wsX1_last) := goodIn_app (goodIn_of _ (by decide +kernel)) ggX1_tour_X1_last
set_option maxRecDepth 20000 in
theorem ggX1_tour_X1_goes : GoodIn wsX1_tour wsX1_goes := goodIn_r _ [27, 17, 28, 29, 30, 31, 32, 33, 34, 35, 36, 37] (by decide +kernel) (by decide +kernel)
set_option maxRecDepth 20000 in
theorem gX1_tour_X1_goes : GoodIn wsX1_tour (wsV RX1 49 RX1 yX1_goes wsX1_goes) := goodIn_app (goodIn_of _ (by decide +kernel)) ggX1_tour_X1_goes
theorem dX1_tour_0 : decode cX1_tour 0 = .ok (.iload_n 3, 1) := by decide +kernel
theorem dX1_tour_1 : decode cX1_tour 1 = .ok (.iconst 1, 1) := by decide +kernel
theorem dX1_tour_2 : decode cX1_tour 2 = .ok (.bipush 16, 2) := by decide +kernel
theorem dX1_tour_4 : decode cX1_tour 4 = .ok (.invokestatic 19, 3) := by decide +kernel
theorem dX1_tour_7 : decode cX1_tour 7 = .ok (.ifCond .ne 6, 3) := by decide +kernel
theorem dX1_tour_10 : decode cX1_tour 10 = .ok (.bipush (-2), 2) := by decide +kernel
theorem dX1_tour_12 : decode cX1_tour 12 = .ok (.ireturn, 1) := by decide +kernel
theorem dX1_tour_13 : decode cX1_tour 13 = .ok (.aload_n 0, 1) := by decide +kernel
theorem dX1_tour_14 : decode cX1_tour 14 = .ok (.iconst 0, 1) := by decide +kernel
theorem dX1_tour_15 : decode cX1_tour 15 = .ok (.putfield 61, 3) := by decide +kernel
theorem dX1_tour_18 : decode cX1_tour 18 = .ok (.iconst 0, 1) := by decide +kernel
theorem dX1_tour_19 : decode cX1_tour 19 = .ok (.istore 4, 2) := by decide +kernel
theorem dX1_tour_21 : decode cX1_tour 21 = .ok (.iconst 1, 1) := by decide +kernel
theorem dX1_tour_22 : decode cX1_tour 22 = .ok (.istore 5, 2) := by decide +kernel
theorem dX1_tour_24 : decode cX1_tour 24 = .ok (.iconst 0, 1) := by decide +kernel
theorem dX1_tour_25 : decode cX1_tour 25 = .ok (.istore 6, 2) := by decide +kernel
theorem dX1_tour_27 : decode cX1_tour 27 = .ok (.iload 6, 2) := by decide +kernel
theorem dX1_tour_29 : decode cX1_tour 29 = .ok (.iload_n 3, 1) := by decide +kernel
theorem dX1_tour_30 : decode cX1_tour 30 = .ok (.if_icmp .ge 104, 3) := by decide +kernel
theorem dX1_tour_33 : decode cX1_tour 33 = .ok (.iload 5, 2) := by decide +kernel
theorem dX1_tour_35 : decode cX1_tour 35 = .ok (.ifCond .eq 99, 3) := by decide +kernel
theorem dX1_tour_38 : decode cX1_tour 38 = .ok (.lload_n 1, 1) := by decide +kernel
theorem dX1_tour_39 : decode cX1_tour 39 = .ok (.iload 6, 2) := by decide +kernel
theorem dX1_tour_41 : decode cX1_tour 41 = .ok (.invokestatic 64, 3) := by decide +kernel
theorem dX1_tour_44 : decode cX1_tour 44 = .ok (.istore 7, 2) := by decide +kernel
theorem dX1_tour_46 : decode cX1_tour 46 = .ok (.aload_n 0, 1) := by decide +kernel
theorem dX1_tour_47 : decode cX1_tour 47 = .ok (.iload 7, 2) := by decide +kernel
theorem dX1_tour_49 : decode cX1_tour 49 = .ok (.invokevirtual 43, 3) := by decide +kernel
theorem dX1_tour_52 : decode cX1_tour 52 = .ok (.ifCond .ne 6, 3) := by decide +kernel
theorem dX1_tour_55 : decode cX1_tour 55 = .ok (.bipush (-3), 2) := by decide +kernel
theorem dX1_tour_57 : decode cX1_tour 57 = .ok (.ireturn, 1) := by decide +kernel
theorem dX1_tour_58 : decode cX1_tour 58 = .ok (.aload_n 0, 1) := by decide +kernel
theorem dX1_tour_59 : decode cX1_tour 59 = .ok (.getfield 13, 3) := by decide +kernel
theorem dX1_tour_62 : decode cX1_tour 62 = .ok (.iload 7, 2) := by decide +kernel
theorem dX1_tour_64 : decode cX1_tour 64 = .ok (.iaload, 1) := by decide +kernel
theorem dX1_tour_65 : decode cX1_tour 65 = .ok (.ifCond .ne 9, 3) := by decide +kernel
theorem dX1_tour_68 : decode cX1_tour 68 = .ok (.iconst 0, 1) := by decide +kernel
theorem dX1_tour_69 : decode cX1_tour 69 = .ok (.istore 5, 2) := by decide +kernel
theorem dX1_tour_71 : decode cX1_tour 71 = .ok (.goto 49, 3) := by decide +kernel
theorem dX1_tour_74 : decode cX1_tour 74 = .ok (.aload_n 0, 1) := by decide +kernel
theorem dX1_tour_75 : decode cX1_tour 75 = .ok (.iload 7, 2) := by decide +kernel
theorem dX1_tour_77 : decode cX1_tour 77 = .ok (.invokevirtual 57, 3) := by decide +kernel
theorem dX1_tour_80 : decode cX1_tour 80 = .ok (.bipush 10, 2) := by decide +kernel
theorem dX1_tour_82 : decode cX1_tour 82 = .ok (.irem, 1) := by decide +kernel
theorem dX1_tour_83 : decode cX1_tour 83 = .ok (.bipush 9, 2) := by decide +kernel
theorem dX1_tour_85 : decode cX1_tour 85 = .ok (.if_icmp .eq 35, 3) := by decide +kernel
theorem dX1_tour_88 : decode cX1_tour 88 = .ok (.iload 4, 2) := by decide +kernel
theorem dX1_tour_90 : decode cX1_tour 90 = .ok (.aload_n 0, 1) := by decide +kernel
theorem dX1_tour_91 : decode cX1_tour 91 = .ok (.iload 7, 2) := by decide +kernel
theorem dX1_tour_93 : decode cX1_tour 93 = .ok (.invokevirtual 57, 3) := by decide +kernel
theorem dX1_tour_96 : decode cX1_tour 96 = .ok (.iadd, 1) := by decide +kernel
theorem dX1_tour_97 : decode cX1_tour 97 = .ok (.istore 4, 2) := by decide +kernel
theorem dX1_tour_99 : decode cX1_tour 99 = .ok (.aload_n 0, 1) := by decide +kernel
theorem dX1_tour_100 : decode cX1_tour 100 = .ok (.getfield 13, 3) := by decide +kernel
theorem dX1_tour_103 : decode cX1_tour 103 = .ok (.iload 7, 2) := by decide +kernel
theorem dX1_tour_105 : decode cX1_tour 105 = .ok (.dup2, 1) := by decide +kernel
theorem dX1_tour_106 : decode cX1_tour 106 = .ok (.iaload, 1) := by decide +kernel
theorem dX1_tour_107 : decode cX1_tour 107 = .ok (.iconst 1, 1) := by decide +kernel
theorem dX1_tour_108 : decode cX1_tour 108 = .ok (.isub, 1) := by decide +kernel
theorem dX1_tour_109 : decode cX1_tour 109 = .ok (.iastore, 1) := by decide +kernel
theorem dX1_tour_110 : decode cX1_tour 110 = .ok (.aload_n 0, 1) := by decide +kernel
theorem dX1_tour_111 : decode cX1_tour 111 = .ok (.dup, 1) := by decide +kernel
theorem dX1_tour_112 : decode cX1_tour 112 = .ok (.getfield 61, 3) := by decide +kernel
theorem dX1_tour_115 : decode cX1_tour 115 = .ok (.iconst 1, 1) := by decide +kernel
theorem dX1_tour_116 : decode cX1_tour 116 = .ok (.iadd, 1) := by decide +kernel
theorem dX1_tour_117 : decode cX1_tour 117 = .ok (.putfield 61, 3) := by decide +kernel
theorem dX1_tour_120 : decode cX1_tour 120 = .ok (.aload_n 0, 1) := by decide +kernel
theorem dX1_tour_121 : decode cX1_tour 121 = .ok (.iconst 1, 1) := by decide +kernel
theorem dX1_tour_122 : decode cX1_tour 122 = .ok (.iconst 0, 1) := by decide +kernel
theorem dX1_tour_123 : decode cX1_tour 123 = .ok (.invokevirtual 49, 3) := by decide +kernel
theorem dX1_tour_126 : decode cX1_tour 126 = .ok (.istore 8, 2) := by decide +kernel
theorem dX1_tour_128 : decode cX1_tour 128 = .ok (.iinc 6 1, 3) := by decide +kernel
theorem dX1_tour_131 : decode cX1_tour 131 = .ok (.goto (-104), 3) := by decide +kernel
theorem dX1_tour_134 : decode cX1_tour 134 = .ok (.iload 4, 2) := by decide +kernel
theorem dX1_tour_136 : decode cX1_tour 136 = .ok (.ireturn, 1) := by decide +kernel
set_option maxRecDepth 20000 in
theorem ggX1_chain_X1_in : GoodIn wsX1_chain wsX1_in := goodIn_r _ [5] (by decide +kernel) (by decide +kernel)
set_option maxRecDepth 20000 in
theorem gX1_chain_X1_in : GoodIn wsX1_chain (va_wsS RX1 19 yX1_in wsX1_in) := goodIn_app (goodIn_of _ (by decide +kernel)) ggX1_chain_X1_in
set_option maxRecDepth 20000 in
theorem ggX1_chain_X1_trackOf : GoodIn wsX1_chain wsX1_trackOf := goodIn_r _ [8] (by decide +kernel) (by decide +kernel)
set_option maxRecDepth 20000 in
theorem gX1_chain_X1_trackOf : GoodIn wsX1_chain (va_wsS RX1 64 yX1_trackOf wsX1_trackOf) := goodIn_app (goodIn_of _ (by decide +kernel)) ggX1_chain_X1_trackOf
set_option maxRecDepth 20000 in
theorem ggX1_chain_X1_holds : GoodIn wsX1_chain wsX1_holds := goodIn_r _ [12, 13, 14, 15, 16, 17, 23, 24, 25, 26, 27, 28, 29, 30, 31] (by decide +kernel) (by decide +kernel)
set_option maxRecDepth 20000 in
theorem gX1_chain_X1_holds : GoodIn wsX1_chain (wsV RX1 43 RX1 yX1_holds wsX1_holds) := goodIn_app (goodIn_of _ (by decide +kernel)) ggX1_chain_X1_holds
set_option maxRecDepth 20000 in
theorem ggX1_chain_X1_goes : GoodIn wsX1_chain wsX1_goes := goodIn_r _ [21, 16, 22, 23, 24, 25, 26, 27, 28, 29, 30, 31] (by decide +kernel) (by decide +kernel)
set_option maxRecDepth 20000 in
theorem gX1_chain_X1_goes : GoodIn wsX1_chain (wsV RX1 49 RX1 yX1_goes wsX1_goes) := goodIn_app (goodIn_of _ (by decide +kernel)) ggX1_chain_X1_goes
theorem dX1_chain_0 : decode cX1_chain 0 = .ok (.iload_n 3, 1) := by decide +kernel
theorem dX1_chain_1 : decode cX1_chain 1 = .ok (.iconst 1, 1) := by decide +kernel
theorem dX1_chain_2 : decode cX1_chain 2 = .ok (.bipush 16, 2) := by decide +kernel
theorem dX1_chain_4 : decode cX1_chain 4 = .ok (.invokestatic 19, 3) := by decide +kernel
theorem dX1_chain_7 : decode cX1_chain 7 = .ok (.ifCond .ne 6, 3) := by decide +kernel
theorem dX1_chain_10 : decode cX1_chain 10 = .ok (.bipush (-2), 2) := by decide +kernel
theorem dX1_chain_12 : decode cX1_chain 12 = .ok (.ireturn, 1) := by decide +kernel
theorem dX1_chain_13 : decode cX1_chain 13 = .ok (.iconst 0, 1) := by decide +kernel
theorem dX1_chain_14 : decode cX1_chain 14 = .ok (.istore 4, 2) := by decide +kernel
theorem dX1_chain_16 : decode cX1_chain 16 = .ok (.iconst 0, 1) := by decide +kernel
theorem dX1_chain_17 : decode cX1_chain 17 = .ok (.istore 5, 2) := by decide +kernel
theorem dX1_chain_19 : decode cX1_chain 19 = .ok (.iload 5, 2) := by decide +kernel
theorem dX1_chain_21 : decode cX1_chain 21 = .ok (.iload_n 3, 1) := by decide +kernel
theorem dX1_chain_22 : decode cX1_chain 22 = .ok (.if_icmp .ge 47, 3) := by decide +kernel
theorem dX1_chain_25 : decode cX1_chain 25 = .ok (.lload_n 1, 1) := by decide +kernel
theorem dX1_chain_26 : decode cX1_chain 26 = .ok (.iload 5, 2) := by decide +kernel
theorem dX1_chain_28 : decode cX1_chain 28 = .ok (.invokestatic 64, 3) := by decide +kernel
theorem dX1_chain_31 : decode cX1_chain 31 = .ok (.istore 6, 2) := by decide +kernel
theorem dX1_chain_33 : decode cX1_chain 33 = .ok (.aload_n 0, 1) := by decide +kernel
theorem dX1_chain_34 : decode cX1_chain 34 = .ok (.iload 6, 2) := by decide +kernel
theorem dX1_chain_36 : decode cX1_chain 36 = .ok (.invokevirtual 43, 3) := by decide +kernel
theorem dX1_chain_39 : decode cX1_chain 39 = .ok (.ifCond .ne 12, 3) := by decide +kernel
theorem dX1_chain_42 : decode cX1_chain 42 = .ok (.aload_n 0, 1) := by decide +kernel
theorem dX1_chain_43 : decode cX1_chain 43 = .ok (.iload 5, 2) := by decide +kernel
theorem dX1_chain_45 : decode cX1_chain 45 = .ok (.bipush (-3), 2) := by decide +kernel
theorem dX1_chain_47 : decode cX1_chain 47 = .ok (.invokevirtual 49, 3) := by decide +kernel
theorem dX1_chain_50 : decode cX1_chain 50 = .ok (.ireturn, 1) := by decide +kernel
theorem dX1_chain_51 : decode cX1_chain 51 = .ok (.iload 4, 2) := by decide +kernel
theorem dX1_chain_53 : decode cX1_chain 53 = .ok (.aload_n 0, 1) := by decide +kernel
theorem dX1_chain_54 : decode cX1_chain 54 = .ok (.getfield 13, 3) := by decide +kernel
theorem dX1_chain_57 : decode cX1_chain 57 = .ok (.iload 6, 2) := by decide +kernel
theorem dX1_chain_59 : decode cX1_chain 59 = .ok (.iaload, 1) := by decide +kernel
theorem dX1_chain_60 : decode cX1_chain 60 = .ok (.iadd, 1) := by decide +kernel
theorem dX1_chain_61 : decode cX1_chain 61 = .ok (.istore 4, 2) := by decide +kernel
theorem dX1_chain_63 : decode cX1_chain 63 = .ok (.iinc 5 1, 3) := by decide +kernel
theorem dX1_chain_66 : decode cX1_chain 66 = .ok (.goto (-47), 3) := by decide +kernel
theorem dX1_chain_69 : decode cX1_chain 69 = .ok (.aload_n 0, 1) := by decide +kernel
theorem dX1_chain_70 : decode cX1_chain 70 = .ok (.iload_n 3, 1) := by decide +kernel
theorem dX1_chain_71 : decode cX1_chain 71 = .ok (.iload 4, 2) := by decide +kernel
theorem dX1_chain_73 : decode cX1_chain 73 = .ok (.invokevirtual 49, 3) := by decide +kernel
theorem dX1_chain_76 : decode cX1_chain 76 = .ok (.ireturn, 1) := by decide +kernel
set_option maxRecDepth 20000 in
theorem ggX1_survey_X1_in : GoodIn wsX1_survey wsX1_in := goodIn_r _ [5] (by decide +kernel) (by decide +kernel)
set_option maxRecDepth 20000 in
theorem gX1_survey_X1_in : GoodIn wsX1_survey (va_wsS RX1 19 yX1_in wsX1_in) := goodIn_app (goodIn_of _ (by decide +kernel)) ggX1_survey_X1_in
set_option maxRecDepth 20000 in
theorem ggX1_survey_X1_trackOf : GoodIn wsX1_survey wsX1_trackOf := goodIn_r _ [8] (by decide +kernel) (by decide +kernel)
set_option maxRecDepth 20000 in
theorem gX1_survey_X1_trackOf : GoodIn wsX1_survey (va_wsS RX1 64 yX1_trackOf wsX1_trackOf) := goodIn_app (goodIn_of _ (by decide +kernel)) ggX1_survey_X1_trackOf
set_option maxRecDepth 20000 in
theorem ggX1_survey_X1_holds : GoodIn wsX1_survey wsX1_holds := goodIn_r _ [12, 13, 14, 15, 16, 17, 23, 24, 25, 26, 27, 28, 29, 30, 31] (by decide +kernel) (by decide +kernel)
set_option maxRecDepth 20000 in
theorem gX1_survey_X1_holds : GoodIn wsX1_survey (wsV RX1 43 RX1 yX1_holds wsX1_holds) := goodIn_app (goodIn_of _ (by decide +kernel)) ggX1_survey_X1_holds
set_option maxRecDepth 20000 in
theorem ggX1_survey_X1_goes : GoodIn wsX1_survey wsX1_goes := goodIn_r _ [21, 16, 22, 23, 24, 25, 26, 27, 28, 29, 30, 31] (by decide +kernel) (by decide +kernel)
set_option maxRecDepth 20000 in
theorem gX1_survey_X1_goes : GoodIn wsX1_survey (wsV RX1 49 RX1 yX1_goes wsX1_goes) := goodIn_app (goodIn_of _ (by decide +kernel)) ggX1_survey_X1_goes
theorem dX1_survey_0 : decode cX1_survey 0 = .ok (.iload_n 3, 1) := by decide +kernel
theorem dX1_survey_1 : decode cX1_survey 1 = .ok (.iconst 1, 1) := by decide +kernel
theorem dX1_survey_2 : decode cX1_survey 2 = .ok (.bipush 16, 2) := by decide +kernel
theorem dX1_survey_4 : decode cX1_survey 4 = .ok (.invokestatic 19, 3) := by decide +kernel
theorem dX1_survey_7 : decode cX1_survey 7 = .ok (.ifCond .ne 6, 3) := by decide +kernel
theorem dX1_survey_10 : decode cX1_survey 10 = .ok (.bipush (-2), 2) := by decide +kernel
theorem dX1_survey_12 : decode cX1_survey 12 = .ok (.ireturn, 1) := by decide +kernel
theorem dX1_survey_13 : decode cX1_survey 13 = .ok (.iconst 0, 1) := by decide +kernel
theorem dX1_survey_14 : decode cX1_survey 14 = .ok (.istore 4, 2) := by decide +kernel
theorem dX1_survey_16 : decode cX1_survey 16 = .ok (.iconst 0, 1) := by decide +kernel
theorem dX1_survey_17 : decode cX1_survey 17 = .ok (.istore 5, 2) := by decide +kernel
theorem dX1_survey_19 : decode cX1_survey 19 = .ok (.iload 5, 2) := by decide +kernel
theorem dX1_survey_21 : decode cX1_survey 21 = .ok (.iload_n 3, 1) := by decide +kernel
theorem dX1_survey_22 : decode cX1_survey 22 = .ok (.if_icmp .ge 43, 3) := by decide +kernel
theorem dX1_survey_25 : decode cX1_survey 25 = .ok (.lload_n 1, 1) := by decide +kernel
theorem dX1_survey_26 : decode cX1_survey 26 = .ok (.iload 5, 2) := by decide +kernel
theorem dX1_survey_28 : decode cX1_survey 28 = .ok (.invokestatic 64, 3) := by decide +kernel
theorem dX1_survey_31 : decode cX1_survey 31 = .ok (.istore 6, 2) := by decide +kernel
theorem dX1_survey_33 : decode cX1_survey 33 = .ok (.aload_n 0, 1) := by decide +kernel
theorem dX1_survey_34 : decode cX1_survey 34 = .ok (.iload 6, 2) := by decide +kernel
theorem dX1_survey_36 : decode cX1_survey 36 = .ok (.invokevirtual 43, 3) := by decide +kernel
theorem dX1_survey_39 : decode cX1_survey 39 = .ok (.ifCond .eq 20, 3) := by decide +kernel
theorem dX1_survey_42 : decode cX1_survey 42 = .ok (.iload 4, 2) := by decide +kernel
theorem dX1_survey_44 : decode cX1_survey 44 = .ok (.aload_n 0, 1) := by decide +kernel
theorem dX1_survey_45 : decode cX1_survey 45 = .ok (.iconst 1, 1) := by decide +kernel
theorem dX1_survey_46 : decode cX1_survey 46 = .ok (.aload_n 0, 1) := by decide +kernel
theorem dX1_survey_47 : decode cX1_survey 47 = .ok (.getfield 13, 3) := by decide +kernel
theorem dX1_survey_50 : decode cX1_survey 50 = .ok (.iload 6, 2) := by decide +kernel
theorem dX1_survey_52 : decode cX1_survey 52 = .ok (.iaload, 1) := by decide +kernel
theorem dX1_survey_53 : decode cX1_survey 53 = .ok (.invokevirtual 49, 3) := by decide +kernel
theorem dX1_survey_56 : decode cX1_survey 56 = .ok (.iadd, 1) := by decide +kernel
theorem dX1_survey_57 : decode cX1_survey 57 = .ok (.istore 4, 2) := by decide +kernel
theorem dX1_survey_59 : decode cX1_survey 59 = .ok (.iinc 5 1, 3) := by decide +kernel
theorem dX1_survey_62 : decode cX1_survey 62 = .ok (.goto (-43), 3) := by decide +kernel
theorem dX1_survey_65 : decode cX1_survey 65 = .ok (.iload 4, 2) := by decide +kernel
theorem dX1_survey_67 : decode cX1_survey 67 = .ok (.ireturn, 1) := by decide +kernel
set_option maxRecDepth 20000 in
theorem ggX1_turn_X1_isTrack : GoodIn wsX1_turn wsX1_isTrack := goodIn_r _ [6, 7, 8, 5, 9] (by decide +kernel) (by decide +kernel)
set_option maxRecDepth 20000 in
theorem gX1_turn_X1_isTrack : GoodIn wsX1_turn (va_wsS RX1 39 yX1_isTrack wsX1_isTrack) := goodIn_app (goodIn_of _ (by decide +kernel)) ggX1_turn_X1_isTrack
set_option maxRecDepth 20000 in
theorem ggX1_turn_X1_holds : GoodIn wsX1_turn wsX1_holds := goodIn_r _ [13, 14, 15, 16, 17, 18, 24, 25, 26, 27, 28, 29, 30, 31, 32] (by decide +kernel) (by decide +kernel)
set_option maxRecDepth 20000 in
theorem gX1_turn_X1_holds : GoodIn wsX1_turn (wsV RX1 43 RX1 yX1_holds wsX1_holds) := goodIn_app (goodIn_of _ (by decide +kernel)) ggX1_turn_X1_holds
set_option maxRecDepth 20000 in
theorem ggX1_turn_X1_goes : GoodIn wsX1_turn wsX1_goes := goodIn_r _ [22, 17, 23, 24, 25, 26, 27, 28, 29, 30, 31, 32] (by decide +kernel) (by decide +kernel)
set_option maxRecDepth 20000 in
theorem gX1_turn_X1_goes : GoodIn wsX1_turn (wsV RX1 49 RX1 yX1_goes wsX1_goes) := goodIn_app (goodIn_of _ (by decide +kernel)) ggX1_turn_X1_goes
theorem dX1_turn_0 : decode cX1_turn 0 = .ok (.iload_n 1, 1) := by decide +kernel
theorem dX1_turn_1 : decode cX1_turn 1 = .ok (.invokestatic 39, 3) := by decide +kernel
theorem dX1_turn_4 : decode cX1_turn 4 = .ok (.ifCond .ne 6, 3) := by decide +kernel
theorem dX1_turn_7 : decode cX1_turn 7 = .ok (.bipush (-2), 2) := by decide +kernel
theorem dX1_turn_9 : decode cX1_turn 9 = .ok (.ireturn, 1) := by decide +kernel
theorem dX1_turn_10 : decode cX1_turn 10 = .ok (.aload_n 0, 1) := by decide +kernel
theorem dX1_turn_11 : decode cX1_turn 11 = .ok (.iload_n 1, 1) := by decide +kernel
theorem dX1_turn_12 : decode cX1_turn 12 = .ok (.invokevirtual 43, 3) := by decide +kernel
theorem dX1_turn_15 : decode cX1_turn 15 = .ok (.ifCond .ne 6, 3) := by decide +kernel
theorem dX1_turn_18 : decode cX1_turn 18 = .ok (.bipush (-3), 2) := by decide +kernel
theorem dX1_turn_20 : decode cX1_turn 20 = .ok (.ireturn, 1) := by decide +kernel
theorem dX1_turn_21 : decode cX1_turn 21 = .ok (.aload_n 0, 1) := by decide +kernel
theorem dX1_turn_22 : decode cX1_turn 22 = .ok (.getfield 13, 3) := by decide +kernel
theorem dX1_turn_25 : decode cX1_turn 25 = .ok (.iload_n 1, 1) := by decide +kernel
theorem dX1_turn_26 : decode cX1_turn 26 = .ok (.iaload, 1) := by decide +kernel
theorem dX1_turn_27 : decode cX1_turn 27 = .ok (.istore_n 2, 1) := by decide +kernel
theorem dX1_turn_28 : decode cX1_turn 28 = .ok (.iconst 0, 1) := by decide +kernel
theorem dX1_turn_29 : decode cX1_turn 29 = .ok (.istore_n 3, 1) := by decide +kernel
theorem dX1_turn_30 : decode cX1_turn 30 = .ok (.iload_n 3, 1) := by decide +kernel
theorem dX1_turn_31 : decode cX1_turn 31 = .ok (.iload_n 2, 1) := by decide +kernel
theorem dX1_turn_32 : decode cX1_turn 32 = .ok (.iconst 2, 1) := by decide +kernel
theorem dX1_turn_33 : decode cX1_turn 33 = .ok (.idiv, 1) := by decide +kernel
theorem dX1_turn_34 : decode cX1_turn 34 = .ok (.if_icmp .ge 77, 3) := by decide +kernel
theorem dX1_turn_37 : decode cX1_turn 37 = .ok (.aload_n 0, 1) := by decide +kernel
theorem dX1_turn_38 : decode cX1_turn 38 = .ok (.iload_n 1, 1) := by decide +kernel
theorem dX1_turn_39 : decode cX1_turn 39 = .ok (.invokevirtual 43, 3) := by decide +kernel
theorem dX1_turn_42 : decode cX1_turn 42 = .ok (.ifCond .eq 63, 3) := by decide +kernel
theorem dX1_turn_45 : decode cX1_turn 45 = .ok (.bipush 12, 2) := by decide +kernel
theorem dX1_turn_47 : decode cX1_turn 47 = .ok (.iload_n 1, 1) := by decide +kernel
theorem dX1_turn_48 : decode cX1_turn 48 = .ok (.imul, 1) := by decide +kernel
theorem dX1_turn_49 : decode cX1_turn 49 = .ok (.iload_n 3, 1) := by decide +kernel
theorem dX1_turn_50 : decode cX1_turn 50 = .ok (.iadd, 1) := by decide +kernel
theorem dX1_turn_51 : decode cX1_turn 51 = .ok (.istore 4, 2) := by decide +kernel
theorem dX1_turn_53 : decode cX1_turn 53 = .ok (.bipush 12, 2) := by decide +kernel
theorem dX1_turn_55 : decode cX1_turn 55 = .ok (.iload_n 1, 1) := by decide +kernel
theorem dX1_turn_56 : decode cX1_turn 56 = .ok (.imul, 1) := by decide +kernel
theorem dX1_turn_57 : decode cX1_turn 57 = .ok (.iload_n 2, 1) := by decide +kernel
theorem dX1_turn_58 : decode cX1_turn 58 = .ok (.iadd, 1) := by decide +kernel
theorem dX1_turn_59 : decode cX1_turn 59 = .ok (.iconst 1, 1) := by decide +kernel
theorem dX1_turn_60 : decode cX1_turn 60 = .ok (.isub, 1) := by decide +kernel
theorem dX1_turn_61 : decode cX1_turn 61 = .ok (.iload_n 3, 1) := by decide +kernel
theorem dX1_turn_62 : decode cX1_turn 62 = .ok (.isub, 1) := by decide +kernel
theorem dX1_turn_63 : decode cX1_turn 63 = .ok (.istore 5, 2) := by decide +kernel
theorem dX1_turn_65 : decode cX1_turn 65 = .ok (.aload_n 0, 1) := by decide +kernel
theorem dX1_turn_66 : decode cX1_turn 66 = .ok (.getfield 16, 3) := by decide +kernel
theorem dX1_turn_69 : decode cX1_turn 69 = .ok (.iload 4, 2) := by decide +kernel
theorem dX1_turn_71 : decode cX1_turn 71 = .ok (.iaload, 1) := by decide +kernel
theorem dX1_turn_72 : decode cX1_turn 72 = .ok (.istore 6, 2) := by decide +kernel
theorem dX1_turn_74 : decode cX1_turn 74 = .ok (.aload_n 0, 1) := by decide +kernel
theorem dX1_turn_75 : decode cX1_turn 75 = .ok (.getfield 16, 3) := by decide +kernel
theorem dX1_turn_78 : decode cX1_turn 78 = .ok (.iload 4, 2) := by decide +kernel
theorem dX1_turn_80 : decode cX1_turn 80 = .ok (.aload_n 0, 1) := by decide +kernel
theorem dX1_turn_81 : decode cX1_turn 81 = .ok (.getfield 16, 3) := by decide +kernel
theorem dX1_turn_84 : decode cX1_turn 84 = .ok (.iload 5, 2) := by decide +kernel
theorem dX1_turn_86 : decode cX1_turn 86 = .ok (.iaload, 1) := by decide +kernel
theorem dX1_turn_87 : decode cX1_turn 87 = .ok (.iastore, 1) := by decide +kernel
theorem dX1_turn_88 : decode cX1_turn 88 = .ok (.aload_n 0, 1) := by decide +kernel
theorem dX1_turn_89 : decode cX1_turn 89 = .ok (.getfield 16, 3) := by decide +kernel
theorem dX1_turn_92 : decode cX1_turn 92 = .ok (.iload 5, 2) := by decide +kernel
theorem dX1_turn_94 : decode cX1_turn 94 = .ok (.iload 6, 2) := by decide +kernel
theorem dX1_turn_96 : decode cX1_turn 96 = .ok (.iastore, 1) := by decide +kernel
theorem dX1_turn_97 : decode cX1_turn 97 = .ok (.aload_n 0, 1) := by decide +kernel
theorem dX1_turn_98 : decode cX1_turn 98 = .ok (.iconst 1, 1) := by decide +kernel
theorem dX1_turn_99 : decode cX1_turn 99 = .ok (.iconst 0, 1) := by decide +kernel
theorem dX1_turn_100 : decode cX1_turn 100 = .ok (.invokevirtual 49, 3) := by decide +kernel
theorem dX1_turn_103 : decode cX1_turn 103 = .ok (.istore 7, 2) := by decide +kernel
theorem dX1_turn_105 : decode cX1_turn 105 = .ok (.iinc 3 1, 3) := by decide +kernel
theorem dX1_turn_108 : decode cX1_turn 108 = .ok (.goto (-78), 3) := by decide +kernel
theorem dX1_turn_111 : decode cX1_turn 111 = .ok (.aload_n 0, 1) := by decide +kernel
theorem dX1_turn_112 : decode cX1_turn 112 = .ok (.iconst 1, 1) := by decide +kernel
theorem dX1_turn_113 : decode cX1_turn 113 = .ok (.iload_n 2, 1) := by decide +kernel
theorem dX1_turn_114 : decode cX1_turn 114 = .ok (.invokevirtual 49, 3) := by decide +kernel
theorem dX1_turn_117 : decode cX1_turn 117 = .ok (.ireturn, 1) := by decide +kernel
set_option maxRecDepth 20000 in
theorem ggX1_swap_X1_isTrack : GoodIn wsX1_swap wsX1_isTrack := goodIn_r _ [7, 8, 9, 6, 10] (by decide +kernel) (by decide +kernel)
set_option maxRecDepth 20000 in
theorem gX1_swap_X1_isTrack : GoodIn wsX1_swap (va_wsS RX1 39 yX1_isTrack wsX1_isTrack) := goodIn_app (goodIn_of _ (by decide +kernel)) ggX1_swap_X1_isTrack
set_option maxRecDepth 20000 in
theorem ggX1_swap_X1_holds : GoodIn wsX1_swap wsX1_holds := goodIn_r _ [14, 15, 2, 16, 17, 18, 24, 25, 26, 27, 28, 29, 30, 31, 32] (by decide +kernel) (by decide +kernel)
set_option maxRecDepth 20000 in
theorem gX1_swap_X1_holds : GoodIn wsX1_swap (wsV RX1 43 RX1 yX1_holds wsX1_holds) := goodIn_app (goodIn_of _ (by decide +kernel)) ggX1_swap_X1_holds
set_option maxRecDepth 20000 in
theorem ggX1_swap_X1_goes : GoodIn wsX1_swap wsX1_goes := goodIn_r _ [22, 17, 23, 24, 25, 26, 27, 28, 29, 30, 31, 32] (by decide +kernel) (by decide +kernel)
set_option maxRecDepth 20000 in
theorem gX1_swap_X1_goes : GoodIn wsX1_swap (wsV RX1 49 RX1 yX1_goes wsX1_goes) := goodIn_app (goodIn_of _ (by decide +kernel)) ggX1_swap_X1_goes
theorem dX1_swap_0 : decode cX1_swap 0 = .ok (.iload_n 1, 1) := by decide +kernel
theorem dX1_swap_1 : decode cX1_swap 1 = .ok (.invokestatic 39, 3) := by decide +kernel
theorem dX1_swap_4 : decode cX1_swap 4 = .ok (.ifCond .eq 10, 3) := by decide +kernel
theorem dX1_swap_7 : decode cX1_swap 7 = .ok (.iload_n 2, 1) := by decide +kernel
theorem dX1_swap_8 : decode cX1_swap 8 = .ok (.invokestatic 39, 3) := by decide +kernel
theorem dX1_swap_11 : decode cX1_swap 11 = .ok (.ifCond .ne 6, 3) := by decide +kernel
theorem dX1_swap_14 : decode cX1_swap 14 = .ok (.bipush (-2), 2) := by decide +kernel
theorem dX1_swap_16 : decode cX1_swap 16 = .ok (.ireturn, 1) := by decide +kernel
theorem dX1_swap_17 : decode cX1_swap 17 = .ok (.aload_n 0, 1) := by decide +kernel
theorem dX1_swap_18 : decode cX1_swap 18 = .ok (.iload_n 1, 1) := by decide +kernel
theorem dX1_swap_19 : decode cX1_swap 19 = .ok (.invokevirtual 43, 3) := by decide +kernel
theorem dX1_swap_22 : decode cX1_swap 22 = .ok (.ifCond .ne 6, 3) := by decide +kernel
theorem dX1_swap_25 : decode cX1_swap 25 = .ok (.bipush (-3), 2) := by decide +kernel
theorem dX1_swap_27 : decode cX1_swap 27 = .ok (.ireturn, 1) := by decide +kernel
theorem dX1_swap_28 : decode cX1_swap 28 = .ok (.aload_n 0, 1) := by decide +kernel
theorem dX1_swap_29 : decode cX1_swap 29 = .ok (.iload_n 2, 1) := by decide +kernel
theorem dX1_swap_30 : decode cX1_swap 30 = .ok (.invokevirtual 43, 3) := by decide +kernel
theorem dX1_swap_33 : decode cX1_swap 33 = .ok (.ifCond .ne 11, 3) := by decide +kernel
theorem dX1_swap_36 : decode cX1_swap 36 = .ok (.aload_n 0, 1) := by decide +kernel
theorem dX1_swap_37 : decode cX1_swap 37 = .ok (.iconst 1, 1) := by decide +kernel
theorem dX1_swap_38 : decode cX1_swap 38 = .ok (.bipush (-3), 2) := by decide +kernel
theorem dX1_swap_40 : decode cX1_swap 40 = .ok (.invokevirtual 49, 3) := by decide +kernel
theorem dX1_swap_43 : decode cX1_swap 43 = .ok (.ireturn, 1) := by decide +kernel
theorem dX1_swap_44 : decode cX1_swap 44 = .ok (.aload_n 0, 1) := by decide +kernel
theorem dX1_swap_45 : decode cX1_swap 45 = .ok (.iload_n 1, 1) := by decide +kernel
theorem dX1_swap_46 : decode cX1_swap 46 = .ok (.invokevirtual 43, 3) := by decide +kernel
theorem dX1_swap_49 : decode cX1_swap 49 = .ok (.ifCond .eq 33, 3) := by decide +kernel
theorem dX1_swap_52 : decode cX1_swap 52 = .ok (.aload_n 0, 1) := by decide +kernel
theorem dX1_swap_53 : decode cX1_swap 53 = .ok (.getfield 13, 3) := by decide +kernel
theorem dX1_swap_56 : decode cX1_swap 56 = .ok (.iload_n 1, 1) := by decide +kernel
theorem dX1_swap_57 : decode cX1_swap 57 = .ok (.iaload, 1) := by decide +kernel
theorem dX1_swap_58 : decode cX1_swap 58 = .ok (.aload_n 0, 1) := by decide +kernel
theorem dX1_swap_59 : decode cX1_swap 59 = .ok (.getfield 9, 3) := by decide +kernel
theorem dX1_swap_62 : decode cX1_swap 62 = .ok (.iload_n 2, 1) := by decide +kernel
theorem dX1_swap_63 : decode cX1_swap 63 = .ok (.iaload, 1) := by decide +kernel
theorem dX1_swap_64 : decode cX1_swap 64 = .ok (.if_icmp .gt 18, 3) := by decide +kernel
theorem dX1_swap_67 : decode cX1_swap 67 = .ok (.aload_n 0, 1) := by decide +kernel
theorem dX1_swap_68 : decode cX1_swap 68 = .ok (.getfield 13, 3) := by decide +kernel
theorem dX1_swap_71 : decode cX1_swap 71 = .ok (.iload_n 2, 1) := by decide +kernel
theorem dX1_swap_72 : decode cX1_swap 72 = .ok (.iaload, 1) := by decide +kernel
theorem dX1_swap_73 : decode cX1_swap 73 = .ok (.aload_n 0, 1) := by decide +kernel
theorem dX1_swap_74 : decode cX1_swap 74 = .ok (.getfield 9, 3) := by decide +kernel
theorem dX1_swap_77 : decode cX1_swap 77 = .ok (.iload_n 1, 1) := by decide +kernel
theorem dX1_swap_78 : decode cX1_swap 78 = .ok (.iaload, 1) := by decide +kernel
theorem dX1_swap_79 : decode cX1_swap 79 = .ok (.if_icmp .le 11, 3) := by decide +kernel
theorem dX1_swap_82 : decode cX1_swap 82 = .ok (.aload_n 0, 1) := by decide +kernel
theorem dX1_swap_83 : decode cX1_swap 83 = .ok (.iconst 3, 1) := by decide +kernel
theorem dX1_swap_84 : decode cX1_swap 84 = .ok (.bipush (-4), 2) := by decide +kernel
theorem dX1_swap_86 : decode cX1_swap 86 = .ok (.invokevirtual 49, 3) := by decide +kernel
theorem dX1_swap_89 : decode cX1_swap 89 = .ok (.ireturn, 1) := by decide +kernel
theorem dX1_swap_90 : decode cX1_swap 90 = .ok (.iconst 0, 1) := by decide +kernel
theorem dX1_swap_91 : decode cX1_swap 91 = .ok (.istore_n 3, 1) := by decide +kernel
theorem dX1_swap_92 : decode cX1_swap 92 = .ok (.iload_n 3, 1) := by decide +kernel
theorem dX1_swap_93 : decode cX1_swap 93 = .ok (.bipush 12, 2) := by decide +kernel
theorem dX1_swap_95 : decode cX1_swap 95 = .ok (.if_icmp .ge 57, 3) := by decide +kernel
theorem dX1_swap_98 : decode cX1_swap 98 = .ok (.aload_n 0, 1) := by decide +kernel
theorem dX1_swap_99 : decode cX1_swap 99 = .ok (.getfield 16, 3) := by decide +kernel
theorem dX1_swap_102 : decode cX1_swap 102 = .ok (.bipush 12, 2) := by decide +kernel
theorem dX1_swap_104 : decode cX1_swap 104 = .ok (.iload_n 1, 1) := by decide +kernel
theorem dX1_swap_105 : decode cX1_swap 105 = .ok (.imul, 1) := by decide +kernel
theorem dX1_swap_106 : decode cX1_swap 106 = .ok (.iload_n 3, 1) := by decide +kernel
theorem dX1_swap_107 : decode cX1_swap 107 = .ok (.iadd, 1) := by decide +kernel
theorem dX1_swap_108 : decode cX1_swap 108 = .ok (.iaload, 1) := by decide +kernel
theorem dX1_swap_109 : decode cX1_swap 109 = .ok (.istore 4, 2) := by decide +kernel
theorem dX1_swap_111 : decode cX1_swap 111 = .ok (.aload_n 0, 1) := by decide +kernel
theorem dX1_swap_112 : decode cX1_swap 112 = .ok (.getfield 16, 3) := by decide +kernel
theorem dX1_swap_115 : decode cX1_swap 115 = .ok (.bipush 12, 2) := by decide +kernel
theorem dX1_swap_117 : decode cX1_swap 117 = .ok (.iload_n 1, 1) := by decide +kernel
theorem dX1_swap_118 : decode cX1_swap 118 = .ok (.imul, 1) := by decide +kernel
theorem dX1_swap_119 : decode cX1_swap 119 = .ok (.iload_n 3, 1) := by decide +kernel
theorem dX1_swap_120 : decode cX1_swap 120 = .ok (.iadd, 1) := by decide +kernel
theorem dX1_swap_121 : decode cX1_swap 121 = .ok (.aload_n 0, 1) := by decide +kernel
theorem dX1_swap_122 : decode cX1_swap 122 = .ok (.getfield 16, 3) := by decide +kernel
theorem dX1_swap_125 : decode cX1_swap 125 = .ok (.bipush 12, 2) := by decide +kernel
theorem dX1_swap_127 : decode cX1_swap 127 = .ok (.iload_n 2, 1) := by decide +kernel
theorem dX1_swap_128 : decode cX1_swap 128 = .ok (.imul, 1) := by decide +kernel
theorem dX1_swap_129 : decode cX1_swap 129 = .ok (.iload_n 3, 1) := by decide +kernel
theorem dX1_swap_130 : decode cX1_swap 130 = .ok (.iadd, 1) := by decide +kernel
theorem dX1_swap_131 : decode cX1_swap 131 = .ok (.iaload, 1) := by decide +kernel
theorem dX1_swap_132 : decode cX1_swap 132 = .ok (.iastore, 1) := by decide +kernel
theorem dX1_swap_133 : decode cX1_swap 133 = .ok (.aload_n 0, 1) := by decide +kernel
theorem dX1_swap_134 : decode cX1_swap 134 = .ok (.getfield 16, 3) := by decide +kernel
theorem dX1_swap_137 : decode cX1_swap 137 = .ok (.bipush 12, 2) := by decide +kernel
theorem dX1_swap_139 : decode cX1_swap 139 = .ok (.iload_n 2, 1) := by decide +kernel
theorem dX1_swap_140 : decode cX1_swap 140 = .ok (.imul, 1) := by decide +kernel
theorem dX1_swap_141 : decode cX1_swap 141 = .ok (.iload_n 3, 1) := by decide +kernel
theorem dX1_swap_142 : decode cX1_swap 142 = .ok (.iadd, 1) := by decide +kernel
theorem dX1_swap_143 : decode cX1_swap 143 = .ok (.iload 4, 2) := by decide +kernel
theorem dX1_swap_145 : decode cX1_swap 145 = .ok (.iastore, 1) := by decide +kernel
theorem dX1_swap_146 : decode cX1_swap 146 = .ok (.iinc 3 1, 3) := by decide +kernel
theorem dX1_swap_149 : decode cX1_swap 149 = .ok (.goto (-57), 3) := by decide +kernel
theorem dX1_swap_152 : decode cX1_swap 152 = .ok (.aload_n 0, 1) := by decide +kernel
theorem dX1_swap_153 : decode cX1_swap 153 = .ok (.getfield 13, 3) := by decide +kernel
theorem dX1_swap_156 : decode cX1_swap 156 = .ok (.iload_n 1, 1) := by decide +kernel
theorem dX1_swap_157 : decode cX1_swap 157 = .ok (.iaload, 1) := by decide +kernel
theorem dX1_swap_158 : decode cX1_swap 158 = .ok (.istore_n 3, 1) := by decide +kernel
theorem dX1_swap_159 : decode cX1_swap 159 = .ok (.aload_n 0, 1) := by decide +kernel
theorem dX1_swap_160 : decode cX1_swap 160 = .ok (.getfield 13, 3) := by decide +kernel
theorem dX1_swap_163 : decode cX1_swap 163 = .ok (.iload_n 1, 1) := by decide +kernel
theorem dX1_swap_164 : decode cX1_swap 164 = .ok (.aload_n 0, 1) := by decide +kernel
theorem dX1_swap_165 : decode cX1_swap 165 = .ok (.getfield 13, 3) := by decide +kernel
theorem dX1_swap_168 : decode cX1_swap 168 = .ok (.iload_n 2, 1) := by decide +kernel
theorem dX1_swap_169 : decode cX1_swap 169 = .ok (.iaload, 1) := by decide +kernel
theorem dX1_swap_170 : decode cX1_swap 170 = .ok (.iastore, 1) := by decide +kernel
theorem dX1_swap_171 : decode cX1_swap 171 = .ok (.aload_n 0, 1) := by decide +kernel
theorem dX1_swap_172 : decode cX1_swap 172 = .ok (.getfield 13, 3) := by decide +kernel
theorem dX1_swap_175 : decode cX1_swap 175 = .ok (.iload_n 2, 1) := by decide +kernel
theorem dX1_swap_176 : decode cX1_swap 176 = .ok (.iload_n 3, 1) := by decide +kernel
theorem dX1_swap_177 : decode cX1_swap 177 = .ok (.iastore, 1) := by decide +kernel
theorem dX1_swap_178 : decode cX1_swap 178 = .ok (.aload_n 0, 1) := by decide +kernel
theorem dX1_swap_179 : decode cX1_swap 179 = .ok (.iconst 3, 1) := by decide +kernel
theorem dX1_swap_180 : decode cX1_swap 180 = .ok (.aload_n 0, 1) := by decide +kernel
theorem dX1_swap_181 : decode cX1_swap 181 = .ok (.getfield 13, 3) := by decide +kernel
theorem dX1_swap_184 : decode cX1_swap 184 = .ok (.iload_n 1, 1) := by decide +kernel
theorem dX1_swap_185 : decode cX1_swap 185 = .ok (.iaload, 1) := by decide +kernel
theorem dX1_swap_186 : decode cX1_swap 186 = .ok (.invokevirtual 49, 3) := by decide +kernel
theorem dX1_swap_189 : decode cX1_swap 189 = .ok (.ireturn, 1) := by decide +kernel
set_option maxRecDepth 20000 in
theorem ggX1_wagon_X1_isTrack : GoodIn wsX1_wagon wsX1_isTrack := goodIn_r _ [6, 7, 8, 5, 9] (by decide +kernel) (by decide +kernel)
set_option maxRecDepth 20000 in
theorem gX1_wagon_X1_isTrack : GoodIn wsX1_wagon (va_wsS RX1 39 yX1_isTrack wsX1_isTrack) := goodIn_app (goodIn_of _ (by decide +kernel)) ggX1_wagon_X1_isTrack
set_option maxRecDepth 20000 in
theorem ggX1_wagon_X1_in : GoodIn wsX1_wagon wsX1_in := goodIn_r _ [9] (by decide +kernel) (by decide +kernel)
set_option maxRecDepth 20000 in
theorem gX1_wagon_X1_in : GoodIn wsX1_wagon (va_wsS RX1 19 yX1_in wsX1_in) := goodIn_app (goodIn_of _ (by decide +kernel)) ggX1_wagon_X1_in
theorem dX1_wagon_0 : decode cX1_wagon 0 = .ok (.iload_n 1, 1) := by decide +kernel
theorem dX1_wagon_1 : decode cX1_wagon 1 = .ok (.invokestatic 39, 3) := by decide +kernel
theorem dX1_wagon_4 : decode cX1_wagon 4 = .ok (.ifCond .ne 6, 3) := by decide +kernel
theorem dX1_wagon_7 : decode cX1_wagon 7 = .ok (.bipush (-2), 2) := by decide +kernel
theorem dX1_wagon_9 : decode cX1_wagon 9 = .ok (.ireturn, 1) := by decide +kernel
theorem dX1_wagon_10 : decode cX1_wagon 10 = .ok (.iload_n 2, 1) := by decide +kernel
theorem dX1_wagon_11 : decode cX1_wagon 11 = .ok (.iconst 0, 1) := by decide +kernel
theorem dX1_wagon_12 : decode cX1_wagon 12 = .ok (.aload_n 0, 1) := by decide +kernel
theorem dX1_wagon_13 : decode cX1_wagon 13 = .ok (.getfield 13, 3) := by decide +kernel
theorem dX1_wagon_16 : decode cX1_wagon 16 = .ok (.iload_n 1, 1) := by decide +kernel
theorem dX1_wagon_17 : decode cX1_wagon 17 = .ok (.iaload, 1) := by decide +kernel
theorem dX1_wagon_18 : decode cX1_wagon 18 = .ok (.iconst 1, 1) := by decide +kernel
theorem dX1_wagon_19 : decode cX1_wagon 19 = .ok (.isub, 1) := by decide +kernel
theorem dX1_wagon_20 : decode cX1_wagon 20 = .ok (.invokestatic 19, 3) := by decide +kernel
theorem dX1_wagon_23 : decode cX1_wagon 23 = .ok (.ifCond .eq 17, 3) := by decide +kernel
theorem dX1_wagon_26 : decode cX1_wagon 26 = .ok (.aload_n 0, 1) := by decide +kernel
theorem dX1_wagon_27 : decode cX1_wagon 27 = .ok (.getfield 16, 3) := by decide +kernel
theorem dX1_wagon_30 : decode cX1_wagon 30 = .ok (.bipush 12, 2) := by decide +kernel
theorem dX1_wagon_32 : decode cX1_wagon 32 = .ok (.iload_n 1, 1) := by decide +kernel
theorem dX1_wagon_33 : decode cX1_wagon 33 = .ok (.imul, 1) := by decide +kernel
theorem dX1_wagon_34 : decode cX1_wagon 34 = .ok (.iload_n 2, 1) := by decide +kernel
theorem dX1_wagon_35 : decode cX1_wagon 35 = .ok (.iadd, 1) := by decide +kernel
theorem dX1_wagon_36 : decode cX1_wagon 36 = .ok (.iaload, 1) := by decide +kernel
theorem dX1_wagon_37 : decode cX1_wagon 37 = .ok (.goto 4, 3) := by decide +kernel
theorem dX1_wagon_40 : decode cX1_wagon 40 = .ok (.iconst 0, 1) := by decide +kernel
theorem dX1_wagon_41 : decode cX1_wagon 41 = .ok (.ireturn, 1) := by decide +kernel
theorem dX1_told_0 : decode cX1_told 0 = .ok (.iconst 0, 1) := by decide +kernel
theorem dX1_told_1 : decode cX1_told 1 = .ok (.istore_n 2, 1) := by decide +kernel
theorem dX1_told_2 : decode cX1_told 2 = .ok (.iconst 0, 1) := by decide +kernel
theorem dX1_told_3 : decode cX1_told 3 = .ok (.istore_n 3, 1) := by decide +kernel
theorem dX1_told_4 : decode cX1_told 4 = .ok (.iload_n 3, 1) := by decide +kernel
theorem dX1_told_5 : decode cX1_told 5 = .ok (.bipush 8, 2) := by decide +kernel
theorem dX1_told_7 : decode cX1_told 7 = .ok (.if_icmp .ge 26, 3) := by decide +kernel
theorem dX1_told_10 : decode cX1_told 10 = .ok (.iload_n 2, 1) := by decide +kernel
theorem dX1_told_11 : decode cX1_told 11 = .ok (.aload_n 0, 1) := by decide +kernel
theorem dX1_told_12 : decode cX1_told 12 = .ok (.getfield 9, 3) := by decide +kernel
theorem dX1_told_15 : decode cX1_told 15 = .ok (.iload_n 3, 1) := by decide +kernel
theorem dX1_told_16 : decode cX1_told 16 = .ok (.iaload, 1) := by decide +kernel
theorem dX1_told_17 : decode cX1_told 17 = .ok (.ifCond .le 7, 3) := by decide +kernel
theorem dX1_told_20 : decode cX1_told 20 = .ok (.iconst 1, 1) := by decide +kernel
theorem dX1_told_21 : decode cX1_told 21 = .ok (.goto 4, 3) := by decide +kernel
theorem dX1_told_24 : decode cX1_told 24 = .ok (.iconst 0, 1) := by decide +kernel
theorem dX1_told_25 : decode cX1_told 25 = .ok (.iadd, 1) := by decide +kernel
theorem dX1_told_26 : decode cX1_told 26 = .ok (.istore_n 2, 1) := by decide +kernel
theorem dX1_told_27 : decode cX1_told 27 = .ok (.iinc 3 1, 3) := by decide +kernel
theorem dX1_told_30 : decode cX1_told 30 = .ok (.goto (-26), 3) := by decide +kernel
theorem dX1_told_33 : decode cX1_told 33 = .ok (.iload_n 1, 1) := by decide +kernel
theorem dX1_told_34 : decode cX1_told 34 = .ok (.tableswitch 74 0 6 #[42, 47, 52, 57, 62, 67, 72], 42) := by decide +kernel
theorem dX1_told_76 : decode cX1_told 76 = .ok (.aload_n 0, 1) := by decide +kernel
theorem dX1_told_77 : decode cX1_told 77 = .ok (.getfield 23, 3) := by decide +kernel
theorem dX1_told_80 : decode cX1_told 80 = .ok (.ireturn, 1) := by decide +kernel
theorem dX1_told_81 : decode cX1_told 81 = .ok (.aload_n 0, 1) := by decide +kernel
theorem dX1_told_82 : decode cX1_told 82 = .ok (.getfield 27, 3) := by decide +kernel
theorem dX1_told_85 : decode cX1_told 85 = .ok (.ireturn, 1) := by decide +kernel
theorem dX1_told_86 : decode cX1_told 86 = .ok (.aload_n 0, 1) := by decide +kernel
theorem dX1_told_87 : decode cX1_told 87 = .ok (.getfield 36, 3) := by decide +kernel
theorem dX1_told_90 : decode cX1_told 90 = .ok (.ireturn, 1) := by decide +kernel
theorem dX1_told_91 : decode cX1_told 91 = .ok (.aload_n 0, 1) := by decide +kernel
theorem dX1_told_92 : decode cX1_told 92 = .ok (.getfield 30, 3) := by decide +kernel
theorem dX1_told_95 : decode cX1_told 95 = .ok (.ireturn, 1) := by decide +kernel
theorem dX1_told_96 : decode cX1_told 96 = .ok (.aload_n 0, 1) := by decide +kernel
theorem dX1_told_97 : decode cX1_told 97 = .ok (.getfield 33, 3) := by decide +kernel
theorem dX1_told_100 : decode cX1_told 100 = .ok (.ireturn, 1) := by decide +kernel
theorem dX1_told_101 : decode cX1_told 101 = .ok (.aload_n 0, 1) := by decide +kernel
theorem dX1_told_102 : decode cX1_told 102 = .ok (.getfield 61, 3) := by decide +kernel
theorem dX1_told_105 : decode cX1_told 105 = .ok (.ireturn, 1) := by decide +kernel
theorem dX1_told_106 : decode cX1_told 106 = .ok (.iload_n 2, 1) := by decide +kernel
theorem dX1_told_107 : decode cX1_told 107 = .ok (.ireturn, 1) := by decide +kernel
theorem dX1_told_108 : decode cX1_told 108 = .ok (.bipush (-2), 2) := by decide +kernel
theorem dX1_told_110 : decode cX1_told 110 = .ok (.ireturn, 1) := by decide +kernel
theorem dJ9_max_7cf53_0 : decode cJ9_max_7cf53 0 = .ok (.iload_n 0, 1) := by decide +kernel
theorem dJ9_max_7cf53_1 : decode cJ9_max_7cf53 1 = .ok (.iload_n 1, 1) := by decide +kernel
theorem dJ9_max_7cf53_2 : decode cJ9_max_7cf53 2 = .ok (.if_icmp .lt 7, 3) := by decide +kernel
theorem dJ9_max_7cf53_5 : decode cJ9_max_7cf53 5 = .ok (.iload_n 0, 1) := by decide +kernel
theorem dJ9_max_7cf53_6 : decode cJ9_max_7cf53 6 = .ok (.goto 4, 3) := by decide +kernel
theorem dJ9_max_7cf53_9 : decode cJ9_max_7cf53 9 = .ok (.iload_n 1, 1) := by decide +kernel
theorem dJ9_max_7cf53_10 : decode cJ9_max_7cf53 10 = .ok (.ireturn, 1) := by decide +kernel
