theorem dX5_turnAway_11 : decode cX5_turnAway 11 = .ok (.aload_n 0, 1) := by decide +kernel
theorem dX5_turnAway_12 : decode cX5_turnAway 12 = .ok (.iload_n 1, 1) := by decide +kernel
theorem dX5_turnAway_13 : decode cX5_turnAway 13 = .ok (.putfield 19, 3) := by decide +kernel
theorem dX5_turnAway_16 : decode cX5_turnAway 16 = .ok (.return_, 1) := by decide +kernel
theorem dX5_isWaiting_0 : decode cX5_isWaiting 0 = .ok (.aload_n 0, 1) := by decide +kernel
theorem dX5_isWaiting_1 : decode cX5_isWaiting 1 = .ok (.getfield 22, 3) := by decide +kernel
theorem dX5_isWaiting_4 : decode cX5_isWaiting 4 = .ok (.iconst 1, 1) := by decide +kernel
theorem dX5_isWaiting_5 : decode cX5_isWaiting 5 = .ok (.if_icmp .eq 11, 3) := by decide +kernel
theorem dX5_isWaiting_8 : decode cX5_isWaiting 8 = .ok (.aload_n 0, 1) := by decide +kernel
theorem dX5_isWaiting_9 : decode cX5_isWaiting 9 = .ok (.getfield 22, 3) := by decide +kernel
theorem dX5_isWaiting_12 : decode cX5_isWaiting 12 = .ok (.iconst 4, 1) := by decide +kernel
theorem dX5_isWaiting_13 : decode cX5_isWaiting 13 = .ok (.if_icmp .ne 7, 3) := by decide +kernel
theorem dX5_isWaiting_16 : decode cX5_isWaiting 16 = .ok (.iconst 1, 1) := by decide +kernel
theorem dX5_isWaiting_17 : decode cX5_isWaiting 17 = .ok (.goto 4, 3) := by decide +kernel
theorem dX5_isWaiting_20 : decode cX5_isWaiting 20 = .ok (.iconst 0, 1) := by decide +kernel
theorem dX5_isWaiting_21 : decode cX5_isWaiting 21 = .ok (.ireturn, 1) := by decide +kernel
theorem dX6_init_0 : decode cX6_init 0 = .ok (.aload_n 0, 1) := by decide +kernel
theorem dX6_init_1 : decode cX6_init 1 = .ok (.invokespecial 1, 3) := by decide +kernel
theorem dX6_init_4 : decode cX6_init 4 = .ok (.return_, 1) := by decide +kernel
theorem dX6_setUp_0 : decode cX6_setUp 0 = .ok (.aload_n 0, 1) := by decide +kernel
theorem dX6_setUp_1 : decode cX6_setUp 1 = .ok (.iconst 0, 1) := by decide +kernel
theorem dX6_setUp_2 : decode cX6_setUp 2 = .ok (.putfield 7, 3) := by decide +kernel
theorem dX6_setUp_5 : decode cX6_setUp 5 = .ok (.aload_n 0, 1) := by decide +kernel
theorem dX6_setUp_6 : decode cX6_setUp 6 = .ok (.iload_n 1, 1) := by decide +kernel
theorem dX6_setUp_7 : decode cX6_setUp 7 = .ok (.putfield 13, 3) := by decide +kernel
theorem dX6_setUp_10 : decode cX6_setUp 10 = .ok (.aload_n 0, 1) := by decide +kernel
theorem dX6_setUp_11 : decode cX6_setUp 11 = .ok (.iconst 0, 1) := by decide +kernel
theorem dX6_setUp_12 : decode cX6_setUp 12 = .ok (.putfield 16, 3) := by decide +kernel
theorem dX6_setUp_15 : decode cX6_setUp 15 = .ok (.aload_n 0, 1) := by decide +kernel
theorem dX6_setUp_16 : decode cX6_setUp 16 = .ok (.iconst 0, 1) := by decide +kernel
theorem dX6_setUp_17 : decode cX6_setUp 17 = .ok (.putfield 19, 3) := by decide +kernel
theorem dX6_setUp_20 : decode cX6_setUp 20 = .ok (.aload_n 0, 1) := by decide +kernel
theorem dX6_setUp_21 : decode cX6_setUp 21 = .ok (.iconst 0, 1) := by decide +kernel
theorem dX6_setUp_22 : decode cX6_setUp 22 = .ok (.putfield 22, 3) := by decide +kernel
theorem dX6_setUp_25 : decode cX6_setUp 25 = .ok (.return_, 1) := by decide +kernel
theorem dX6_copyFrom_0 : decode cX6_copyFrom 0 = .ok (.aload_n 0, 1) := by decide +kernel
theorem dX6_copyFrom_1 : decode cX6_copyFrom 1 = .ok (.aload_n 1, 1) := by decide +kernel
theorem dX6_copyFrom_2 : decode cX6_copyFrom 2 = .ok (.getfield 7, 3) := by decide +kernel
theorem dX6_copyFrom_5 : decode cX6_copyFrom 5 = .ok (.putfield 7, 3) := by decide +kernel
theorem dX6_copyFrom_8 : decode cX6_copyFrom 8 = .ok (.aload_n 0, 1) := by decide +kernel
theorem dX6_copyFrom_9 : decode cX6_copyFrom 9 = .ok (.aload_n 1, 1) := by decide +kernel
theorem dX6_copyFrom_10 : decode cX6_copyFrom 10 = .ok (.getfield 13, 3) := by decide +kernel
theorem dX6_copyFrom_13 : decode cX6_copyFrom 13 = .ok (.putfield 13, 3) := by decide +kernel
theorem dX6_copyFrom_16 : decode cX6_copyFrom 16 = .ok (.aload_n 0, 1) := by decide +kernel
theorem dX6_copyFrom_17 : decode cX6_copyFrom 17 = .ok (.aload_n 1, 1) := by decide +kernel
theorem dX6_copyFrom_18 : decode cX6_copyFrom 18 = .ok (.getfield 16, 3) := by decide +kernel
theorem dX6_copyFrom_21 : decode cX6_copyFrom 21 = .ok (.putfield 16, 3) := by decide +kernel
theorem dX6_copyFrom_24 : decode cX6_copyFrom 24 = .ok (.aload_n 0, 1) := by decide +kernel
theorem dX6_copyFrom_25 : decode cX6_copyFrom 25 = .ok (.aload_n 1, 1) := by decide +kernel
theorem dX6_copyFrom_26 : decode cX6_copyFrom 26 = .ok (.getfield 19, 3) := by decide +kernel
theorem dX6_copyFrom_29 : decode cX6_copyFrom 29 = .ok (.putfield 19, 3) := by decide +kernel
theorem dX6_copyFrom_32 : decode cX6_copyFrom 32 = .ok (.aload_n 0, 1) := by decide +kernel
theorem dX6_copyFrom_33 : decode cX6_copyFrom 33 = .ok (.aload_n 1, 1) := by decide +kernel
theorem dX6_copyFrom_34 : decode cX6_copyFrom 34 = .ok (.getfield 22, 3) := by decide +kernel
theorem dX6_copyFrom_37 : decode cX6_copyFrom 37 = .ok (.putfield 22, 3) := by decide +kernel
theorem dX6_copyFrom_40 : decode cX6_copyFrom 40 = .ok (.return_, 1) := by decide +kernel
theorem dX7_init_0 : decode cX7_init 0 = .ok (.aload_n 0, 1) := by decide +kernel
theorem dX7_init_1 : decode cX7_init 1 = .ok (.invokespecial 3, 3) := by decide +kernel
theorem dX7_init_4 : decode cX7_init 4 = .ok (.aload_n 0, 1) := by decide +kernel
theorem dX7_init_5 : decode cX7_init 5 = .ok (.bipush 40, 2) := by decide +kernel
theorem dX7_init_7 : decode cX7_init 7 = .ok (.newarray .int, 2) := by decide +kernel
theorem dX7_init_9 : decode cX7_init 9 = .ok (.putfield 9, 3) := by decide +kernel
theorem dX7_init_12 : decode cX7_init 12 = .ok (.return_, 1) := by decide +kernel
theorem dX7_copyFrom_0 : decode cX7_copyFrom 0 = .ok (.aload_n 0, 1) := by decide +kernel
theorem dX7_copyFrom_1 : decode cX7_copyFrom 1 = .ok (.aload_n 1, 1) := by decide +kernel
theorem dX7_copyFrom_2 : decode cX7_copyFrom 2 = .ok (.getfield 15, 3) := by decide +kernel
theorem dX7_copyFrom_5 : decode cX7_copyFrom 5 = .ok (.aload_n 0, 1) := by decide +kernel
theorem dX7_copyFrom_6 : decode cX7_copyFrom 6 = .ok (.getfield 9, 3) := by decide +kernel
theorem dX7_copyFrom_9 : decode cX7_copyFrom 9 = .ok (.arraylength, 1) := by decide +kernel
theorem dX7_copyFrom_10 : decode cX7_copyFrom 10 = .ok (.invokestatic 19, 3) := by decide +kernel
theorem dX7_copyFrom_13 : decode cX7_copyFrom 13 = .ok (.putfield 15, 3) := by decide +kernel
theorem dX7_copyFrom_16 : decode cX7_copyFrom 16 = .ok (.aload_n 1, 1) := by decide +kernel
theorem dX7_copyFrom_17 : decode cX7_copyFrom 17 = .ok (.getfield 9, 3) := by decide +kernel
theorem dX7_copyFrom_20 : decode cX7_copyFrom 20 = .ok (.iconst 0, 1) := by decide +kernel
theorem dX7_copyFrom_21 : decode cX7_copyFrom 21 = .ok (.aload_n 0, 1) := by decide +kernel
theorem dX7_copyFrom_22 : decode cX7_copyFrom 22 = .ok (.getfield 9, 3) := by decide +kernel
theorem dX7_copyFrom_25 : decode cX7_copyFrom 25 = .ok (.iconst 0, 1) := by decide +kernel
theorem dX7_copyFrom_26 : decode cX7_copyFrom 26 = .ok (.aload_n 0, 1) := by decide +kernel
theorem dX7_copyFrom_27 : decode cX7_copyFrom 27 = .ok (.getfield 15, 3) := by decide +kernel
theorem dX7_copyFrom_30 : decode cX7_copyFrom 30 = .ok (.invokestatic 25, 3) := by decide +kernel
theorem dX7_copyFrom_33 : decode cX7_copyFrom 33 = .ok (.return_, 1) := by decide +kernel
theorem dX7_personAtPlace_0 : decode cX7_personAtPlace 0 = .ok (.iload_n 1, 1) := by decide +kernel
theorem dX7_personAtPlace_1 : decode cX7_personAtPlace 1 = .ok (.ifCond .lt 29, 3) := by decide +kernel
theorem dX7_personAtPlace_4 : decode cX7_personAtPlace 4 = .ok (.iload_n 1, 1) := by decide +kernel
theorem dX7_personAtPlace_5 : decode cX7_personAtPlace 5 = .ok (.aload_n 0, 1) := by decide +kernel
theorem dX7_personAtPlace_6 : decode cX7_personAtPlace 6 = .ok (.getfield 15, 3) := by decide +kernel
theorem dX7_personAtPlace_9 : decode cX7_personAtPlace 9 = .ok (.if_icmp .ge 21, 3) := by decide +kernel
theorem dX7_personAtPlace_12 : decode cX7_personAtPlace 12 = .ok (.iload_n 1, 1) := by decide +kernel
theorem dX7_personAtPlace_13 : decode cX7_personAtPlace 13 = .ok (.aload_n 0, 1) := by decide +kernel
theorem dX7_personAtPlace_14 : decode cX7_personAtPlace 14 = .ok (.getfield 9, 3) := by decide +kernel
theorem dX7_personAtPlace_17 : decode cX7_personAtPlace 17 = .ok (.arraylength, 1) := by decide +kernel
theorem dX7_personAtPlace_18 : decode cX7_personAtPlace 18 = .ok (.if_icmp .ge 12, 3) := by decide +kernel
theorem dX7_personAtPlace_21 : decode cX7_personAtPlace 21 = .ok (.aload_n 0, 1) := by decide +kernel
theorem dX7_personAtPlace_22 : decode cX7_personAtPlace 22 = .ok (.getfield 9, 3) := by decide +kernel
theorem dX7_personAtPlace_25 : decode cX7_personAtPlace 25 = .ok (.iload_n 1, 1) := by decide +kernel
theorem dX7_personAtPlace_26 : decode cX7_personAtPlace 26 = .ok (.iaload, 1) := by decide +kernel
theorem dX7_personAtPlace_27 : decode cX7_personAtPlace 27 = .ok (.goto 5, 3) := by decide +kernel
theorem dX7_personAtPlace_30 : decode cX7_personAtPlace 30 = .ok (.bipush (-5), 2) := by decide +kernel
theorem dX7_personAtPlace_32 : decode cX7_personAtPlace 32 = .ok (.ireturn, 1) := by decide +kernel
theorem dX7_append_0 : decode cX7_append 0 = .ok (.aload_n 0, 1) := by decide +kernel
theorem dX7_append_1 : decode cX7_append 1 = .ok (.getfield 15, 3) := by decide +kernel
theorem dX7_append_4 : decode cX7_append 4 = .ok (.ifCond .lt 35, 3) := by decide +kernel
theorem dX7_append_7 : decode cX7_append 7 = .ok (.aload_n 0, 1) := by decide +kernel
theorem dX7_append_8 : decode cX7_append 8 = .ok (.getfield 15, 3) := by decide +kernel
theorem dX7_append_11 : decode cX7_append 11 = .ok (.aload_n 0, 1) := by decide +kernel
theorem dX7_append_12 : decode cX7_append 12 = .ok (.getfield 9, 3) := by decide +kernel
theorem dX7_append_15 : decode cX7_append 15 = .ok (.arraylength, 1) := by decide +kernel
theorem dX7_append_16 : decode cX7_append 16 = .ok (.if_icmp .ge 23, 3) := by decide +kernel
theorem dX7_append_19 : decode cX7_append 19 = .ok (.aload_n 0, 1) := by decide +kernel
theorem dX7_append_20 : decode cX7_append 20 = .ok (.getfield 9, 3) := by decide +kernel
theorem dX7_append_23 : decode cX7_append 23 = .ok (.aload_n 0, 1) := by decide +kernel
theorem dX7_append_24 : decode cX7_append 24 = .ok (.getfield 15, 3) := by decide +kernel
theorem dX7_append_27 : decode cX7_append 27 = .ok (.iload_n 1, 1) := by decide +kernel
theorem dX7_append_28 : decode cX7_append 28 = .ok (.iastore, 1) := by decide +kernel
theorem dX7_append_29 : decode cX7_append 29 = .ok (.aload_n 0, 1) := by decide +kernel
theorem dX7_append_30 : decode cX7_append 30 = .ok (.dup, 1) := by decide +kernel
theorem dX7_append_31 : decode cX7_append 31 = .ok (.getfield 15, 3) := by decide +kernel
theorem dX7_append_34 : decode cX7_append 34 = .ok (.iconst 1, 1) := by decide +kernel
theorem dX7_append_35 : decode cX7_append 35 = .ok (.iadd, 1) := by decide +kernel
theorem dX7_append_36 : decode cX7_append 36 = .ok (.putfield 15, 3) := by decide +kernel
theorem dX7_append_39 : decode cX7_append 39 = .ok (.return_, 1) := by decide +kernel
theorem dX7_dropFirst_0 : decode cX7_dropFirst 0 = .ok (.aload_n 0, 1) := by decide +kernel
theorem dX7_dropFirst_1 : decode cX7_dropFirst 1 = .ok (.getfield 15, 3) := by decide +kernel
theorem dX7_dropFirst_4 : decode cX7_dropFirst 4 = .ok (.ifCond .le 42, 3) := by decide +kernel
theorem dX7_dropFirst_7 : decode cX7_dropFirst 7 = .ok (.aload_n 0, 1) := by decide +kernel
theorem dX7_dropFirst_8 : decode cX7_dropFirst 8 = .ok (.getfield 15, 3) := by decide +kernel
theorem dX7_dropFirst_11 : decode cX7_dropFirst 11 = .ok (.aload_n 0, 1) := by decide +kernel
theorem dX7_dropFirst_12 : decode cX7_dropFirst 12 = .ok (.getfield 9, 3) := by decide +kernel
theorem dX7_dropFirst_15 : decode cX7_dropFirst 15 = .ok (.arraylength, 1) := by decide +kernel
theorem dX7_dropFirst_16 : decode cX7_dropFirst 16 = .ok (.if_icmp .gt 30, 3) := by decide +kernel
theorem dX7_dropFirst_19 : decode cX7_dropFirst 19 = .ok (.aload_n 0, 1) := by decide +kernel
theorem dX7_dropFirst_20 : decode cX7_dropFirst 20 = .ok (.dup, 1) := by decide +kernel
theorem dX7_dropFirst_21 : decode cX7_dropFirst 21 = .ok (.getfield 15, 3) := by decide +kernel
theorem dX7_dropFirst_24 : decode cX7_dropFirst 24 = .ok (.iconst 1, 1) := by decide +kernel
theorem dX7_dropFirst_25 : decode cX7_dropFirst 25 = .ok (.isub, 1) := by decide +kernel
theorem dX7_dropFirst_26 : decode cX7_dropFirst 26 = .ok (.putfield 15, 3) := by decide +kernel
theorem dX7_dropFirst_29 : decode cX7_dropFirst 29 = .ok (.aload_n 0, 1) := by decide +kernel
theorem dX7_dropFirst_30 : decode cX7_dropFirst 30 = .ok (.getfield 9, 3) := by decide +kernel
theorem dX7_dropFirst_33 : decode cX7_dropFirst 33 = .ok (.iconst 1, 1) := by decide +kernel
theorem dX7_dropFirst_34 : decode cX7_dropFirst 34 = .ok (.aload_n 0, 1) := by decide +kernel
theorem dX7_dropFirst_35 : decode cX7_dropFirst 35 = .ok (.getfield 9, 3) := by decide +kernel
theorem dX7_dropFirst_38 : decode cX7_dropFirst 38 = .ok (.iconst 0, 1) := by decide +kernel
theorem dX7_dropFirst_39 : decode cX7_dropFirst 39 = .ok (.aload_n 0, 1) := by decide +kernel
theorem dX7_dropFirst_40 : decode cX7_dropFirst 40 = .ok (.getfield 15, 3) := by decide +kernel
theorem dX7_dropFirst_43 : decode cX7_dropFirst 43 = .ok (.invokestatic 25, 3) := by decide +kernel
theorem dX7_dropFirst_46 : decode cX7_dropFirst 46 = .ok (.return_, 1) := by decide +kernel
set_option maxRecDepth 20000 in
theorem ggX8_init_X0_init : GoodIn wsX8_init wsX0_init := goodIn_r _ [26, 27, 2, 3, 28, 29, 30, 31, 32, 67, 68, 69, 70, 71, 72] (by decide +kernel) (by decide +kernel)
set_option maxRecDepth 20000 in
theorem gX8_init_X0_init_n37 : GoodIn wsX8_init (wsX0_init) := ggX8_init_X0_init
set_option maxRecDepth 20000 in
theorem ggX8_init_X1_init : GoodIn wsX8_init wsX1_init := goodIn_r _ [34, 35, 2, 3, 36, 37, 38, 39, 40, 41, 42, 43, 44, 28, 45, 103, 104, 73, 74, 75, 76, 77, 78, 79, 80, 81, 82, 83, 84, 85, 86, 87] (by decide +kernel) (by decide +kernel)
set_option maxRecDepth 20000 in
theorem gX8_init_X1_init_n46 : GoodIn wsX8_init (wsX1_init) := ggX8_init_X1_init
set_option maxRecDepth 20000 in
theorem ggX8_init_X5_init : GoodIn wsX8_init wsX5_init := goodIn_r _ [47, 48, 2, 3] (by decide +kernel) (by decide +kernel)
set_option maxRecDepth 20000 in
theorem gX8_init_X5_init_n47 : GoodIn wsX8_init (wsX5_init) := ggX8_init_X5_init
set_option maxRecDepth 20000 in
theorem ggX8_init_X6_init : GoodIn wsX8_init wsX6_init := goodIn_r _ [50, 51, 2, 3] (by decide +kernel) (by decide +kernel)
set_option maxRecDepth 20000 in
theorem gX8_init_X6_init_n48 : GoodIn wsX8_init (wsX6_init) := ggX8_init_X6_init
set_option maxRecDepth 20000 in
theorem ggX8_init_X4_init : GoodIn wsX8_init wsX4_init := goodIn_r _ [53, 54, 2, 3, 55, 100, 101, 102] (by decide +kernel) (by decide +kernel)
set_option maxRecDepth 20000 in
theorem gX8_init_X4_init_n49 : GoodIn wsX8_init (wsX4_init) := ggX8_init_X4_init
theorem dX8_init_0 : decode cX8_init 0 = .ok (.aload_n 0, 1) := by decide +kernel
theorem dX8_init_1 : decode cX8_init 1 = .ok (.invokespecial 3, 3) := by decide +kernel
theorem dX8_init_4 : decode cX8_init 4 = .ok (.aload_n 0, 1) := by decide +kernel
theorem dX8_init_5 : decode cX8_init 5 = .ok (.bipush 8, 2) := by decide +kernel
theorem dX8_init_7 : decode cX8_init 7 = .ok (.anewarray 9, 3) := by decide +kernel
theorem dX8_init_10 : decode cX8_init 10 = .ok (.putfield 11, 3) := by decide +kernel
theorem dX8_init_13 : decode cX8_init 13 = .ok (.aload_n 0, 1) := by decide +kernel
theorem dX8_init_14 : decode cX8_init 14 = .ok (.bipush 40, 2) := by decide +kernel
theorem dX8_init_16 : decode cX8_init 16 = .ok (.anewarray 17, 3) := by decide +kernel
theorem dX8_init_19 : decode cX8_init 19 = .ok (.putfield 19, 3) := by decide +kernel
theorem dX8_init_22 : decode cX8_init 22 = .ok (.aload_n 0, 1) := by decide +kernel
theorem dX8_init_23 : decode cX8_init 23 = .ok (.iconst 4, 1) := by decide +kernel
theorem dX8_init_24 : decode cX8_init 24 = .ok (.anewarray 23, 3) := by decide +kernel
theorem dX8_init_27 : decode cX8_init 27 = .ok (.putfield 25, 3) := by decide +kernel
theorem dX8_init_30 : decode cX8_init 30 = .ok (.aload_n 0, 1) := by decide +kernel
theorem dX8_init_31 : decode cX8_init 31 = .ok (.bipush 12, 2) := by decide +kernel
theorem dX8_init_33 : decode cX8_init 33 = .ok (.anewarray 29, 3) := by decide +kernel
theorem dX8_init_36 : decode cX8_init 36 = .ok (.putfield 31, 3) := by decide +kernel
theorem dX8_init_39 : decode cX8_init 39 = .ok (.aload_n 0, 1) := by decide +kernel
theorem dX8_init_40 : decode cX8_init 40 = .ok (.new 35, 3) := by decide +kernel
theorem dX8_init_43 : decode cX8_init 43 = .ok (.dup, 1) := by decide +kernel
theorem dX8_init_44 : decode cX8_init 44 = .ok (.invokespecial 37, 3) := by decide +kernel
theorem dX8_init_47 : decode cX8_init 47 = .ok (.putfield 38, 3) := by decide +kernel
theorem dX8_init_50 : decode cX8_init 50 = .ok (.aload_n 0, 1) := by decide +kernel
theorem dX8_init_51 : decode cX8_init 51 = .ok (.bipush 10, 2) := by decide +kernel
theorem dX8_init_53 : decode cX8_init 53 = .ok (.putfield 42, 3) := by decide +kernel
theorem dX8_init_56 : decode cX8_init 56 = .ok (.iconst 0, 1) := by decide +kernel
theorem dX8_init_57 : decode cX8_init 57 = .ok (.istore_n 1, 1) := by decide +kernel
theorem dX8_init_58 : decode cX8_init 58 = .ok (.iload_n 1, 1) := by decide +kernel
theorem dX8_init_59 : decode cX8_init 59 = .ok (.aload_n 0, 1) := by decide +kernel
theorem dX8_init_60 : decode cX8_init 60 = .ok (.getfield 11, 3) := by decide +kernel
theorem dX8_init_63 : decode cX8_init 63 = .ok (.arraylength, 1) := by decide +kernel
theorem dX8_init_64 : decode cX8_init 64 = .ok (.if_icmp .ge 22, 3) := by decide +kernel
theorem dX8_init_67 : decode cX8_init 67 = .ok (.aload_n 0, 1) := by decide +kernel
theorem dX8_init_68 : decode cX8_init 68 = .ok (.getfield 11, 3) := by decide +kernel
theorem dX8_init_71 : decode cX8_init 71 = .ok (.iload_n 1, 1) := by decide +kernel
theorem dX8_init_72 : decode cX8_init 72 = .ok (.new 9, 3) := by decide +kernel
theorem dX8_init_75 : decode cX8_init 75 = .ok (.dup, 1) := by decide +kernel
theorem dX8_init_76 : decode cX8_init 76 = .ok (.invokespecial 46, 3) := by decide +kernel
theorem dX8_init_79 : decode cX8_init 79 = .ok (.aastore, 1) := by decide +kernel
theorem dX8_init_80 : decode cX8_init 80 = .ok (.iinc 1 1, 3) := by decide +kernel
theorem dX8_init_83 : decode cX8_init 83 = .ok (.goto (-25), 3) := by decide +kernel
theorem dX8_init_86 : decode cX8_init 86 = .ok (.iconst 0, 1) := by decide +kernel
theorem dX8_init_87 : decode cX8_init 87 = .ok (.istore_n 1, 1) := by decide +kernel
theorem dX8_init_88 : decode cX8_init 88 = .ok (.iload_n 1, 1) := by decide +kernel
theorem dX8_init_89 : decode cX8_init 89 = .ok (.aload_n 0, 1) := by decide +kernel
theorem dX8_init_90 : decode cX8_init 90 = .ok (.getfield 19, 3) := by decide +kernel
theorem dX8_init_93 : decode cX8_init 93 = .ok (.arraylength, 1) := by decide +kernel
theorem dX8_init_94 : decode cX8_init 94 = .ok (.if_icmp .ge 22, 3) := by decide +kernel
theorem dX8_init_97 : decode cX8_init 97 = .ok (.aload_n 0, 1) := by decide +kernel
theorem dX8_init_98 : decode cX8_init 98 = .ok (.getfield 19, 3) := by decide +kernel
theorem dX8_init_101 : decode cX8_init 101 = .ok (.iload_n 1, 1) := by decide +kernel
theorem dX8_init_102 : decode cX8_init 102 = .ok (.new 17, 3) := by decide +kernel
theorem dX8_init_105 : decode cX8_init 105 = .ok (.dup, 1) := by decide +kernel
theorem dX8_init_106 : decode cX8_init 106 = .ok (.invokespecial 47, 3) := by decide +kernel
theorem dX8_init_109 : decode cX8_init 109 = .ok (.aastore, 1) := by decide +kernel
theorem dX8_init_110 : decode cX8_init 110 = .ok (.iinc 1 1, 3) := by decide +kernel
theorem dX8_init_113 : decode cX8_init 113 = .ok (.goto (-25), 3) := by decide +kernel
theorem dX8_init_116 : decode cX8_init 116 = .ok (.iconst 0, 1) := by decide +kernel
theorem dX8_init_117 : decode cX8_init 117 = .ok (.istore_n 1, 1) := by decide +kernel
theorem dX8_init_118 : decode cX8_init 118 = .ok (.iload_n 1, 1) := by decide +kernel
theorem dX8_init_119 : decode cX8_init 119 = .ok (.aload_n 0, 1) := by decide +kernel
theorem dX8_init_120 : decode cX8_init 120 = .ok (.getfield 25, 3) := by decide +kernel
theorem dX8_init_123 : decode cX8_init 123 = .ok (.arraylength, 1) := by decide +kernel
theorem dX8_init_124 : decode cX8_init 124 = .ok (.if_icmp .ge 22, 3) := by decide +kernel
theorem dX8_init_127 : decode cX8_init 127 = .ok (.aload_n 0, 1) := by decide +kernel
theorem dX8_init_128 : decode cX8_init 128 = .ok (.getfield 25, 3) := by decide +kernel
theorem dX8_init_131 : decode cX8_init 131 = .ok (.iload_n 1, 1) := by decide +kernel
theorem dX8_init_132 : decode cX8_init 132 = .ok (.new 23, 3) := by decide +kernel
theorem dX8_init_135 : decode cX8_init 135 = .ok (.dup, 1) := by decide +kernel
theorem dX8_init_136 : decode cX8_init 136 = .ok (.invokespecial 48, 3) := by decide +kernel
theorem dX8_init_139 : decode cX8_init 139 = .ok (.aastore, 1) := by decide +kernel
theorem dX8_init_140 : decode cX8_init 140 = .ok (.iinc 1 1, 3) := by decide +kernel
theorem dX8_init_143 : decode cX8_init 143 = .ok (.goto (-25), 3) := by decide +kernel
theorem dX8_init_146 : decode cX8_init 146 = .ok (.iconst 0, 1) := by decide +kernel
theorem dX8_init_147 : decode cX8_init 147 = .ok (.istore_n 1, 1) := by decide +kernel
theorem dX8_init_148 : decode cX8_init 148 = .ok (.iload_n 1, 1) := by decide +kernel
theorem dX8_init_149 : decode cX8_init 149 = .ok (.aload_n 0, 1) := by decide +kernel
theorem dX8_init_150 : decode cX8_init 150 = .ok (.getfield 31, 3) := by decide +kernel
theorem dX8_init_153 : decode cX8_init 153 = .ok (.arraylength, 1) := by decide +kernel
theorem dX8_init_154 : decode cX8_init 154 = .ok (.if_icmp .ge 22, 3) := by decide +kernel
theorem dX8_init_157 : decode cX8_init 157 = .ok (.aload_n 0, 1) := by decide +kernel
theorem dX8_init_158 : decode cX8_init 158 = .ok (.getfield 31, 3) := by decide +kernel
theorem dX8_init_161 : decode cX8_init 161 = .ok (.iload_n 1, 1) := by decide +kernel
theorem dX8_init_162 : decode cX8_init 162 = .ok (.new 29, 3) := by decide +kernel
theorem dX8_init_165 : decode cX8_init 165 = .ok (.dup, 1) := by decide +kernel
theorem dX8_init_166 : decode cX8_init 166 = .ok (.invokespecial 49, 3) := by decide +kernel
theorem dX8_init_169 : decode cX8_init 169 = .ok (.aastore, 1) := by decide +kernel
theorem dX8_init_170 : decode cX8_init 170 = .ok (.iinc 1 1, 3) := by decide +kernel
theorem dX8_init_173 : decode cX8_init 173 = .ok (.goto (-25), 3) := by decide +kernel
theorem dX8_init_176 : decode cX8_init 176 = .ok (.return_, 1) := by decide +kernel
set_option maxRecDepth 20000 in
theorem ggX8_copyFrom_X1_copyFrom : GoodIn wsX8_copyFrom wsX1_copyFrom := goodIn_r _ [16, 17, 18, 19, 20, 21, 22, 23, 24, 25, 26, 27, 28, 29, 30, 31, 32, 33, 34, 35, 36, 37, 38, 39, 40, 41, 42, 43, 44, 45, 46, 100, 101, 102, 103, 104, 105, 106, 107, 108, 109, 110, 111, 112, 113, 114, 115, 116] (by decide +kernel) (by decide +kernel)
set_option maxRecDepth 20000 in
theorem gX8_copyFrom_X1_copyFrom : GoodIn wsX8_copyFrom (wsV RX8 53 RX1 yX1_copyFrom wsX1_copyFrom) := goodIn_app (goodIn_of _ (by decide +kernel)) ggX8_copyFrom_X1_copyFrom
set_option maxRecDepth 20000 in
theorem ggX8_copyFrom_X5_copyFrom : GoodIn wsX8_copyFrom wsX5_copyFrom := goodIn_r _ [51, 52, 53, 54, 55, 56, 57, 58, 117, 118, 119, 120, 121, 122, 123] (by decide +kernel) (by decide +kernel)
set_option maxRecDepth 20000 in
theorem gX8_copyFrom_X5_copyFrom : GoodIn wsX8_copyFrom (wsV RX8 60 RX5 yX5_copyFrom wsX5_copyFrom) := goodIn_app (goodIn_of _ (by decide +kernel)) ggX8_copyFrom_X5_copyFrom
set_option maxRecDepth 20000 in
theorem ggX8_copyFrom_X6_copyFrom : GoodIn wsX8_copyFrom wsX6_copyFrom := goodIn_r _ [63, 64, 65, 66, 67, 68, 124, 125, 126, 127, 128] (by decide +kernel) (by decide +kernel)
set_option maxRecDepth 20000 in
theorem gX8_copyFrom_X6_copyFrom : GoodIn wsX8_copyFrom (wsV RX8 66 RX6 yX6_copyFrom wsX6_copyFrom) := goodIn_app (goodIn_of _ (by decide +kernel)) ggX8_copyFrom_X6_copyFrom
set_option maxRecDepth 20000 in
theorem ggX8_copyFrom_X4_copyFrom : GoodIn wsX8_copyFrom wsX4_copyFrom := goodIn_r _ [73, 74, 75, 76, 129, 130, 131] (by decide +kernel) (by decide +kernel)
set_option maxRecDepth 20000 in
theorem gX8_copyFrom_X4_copyFrom : GoodIn wsX8_copyFrom (wsV RX8 72 RX4 yX4_copyFrom wsX4_copyFrom) := goodIn_app (goodIn_of _ (by decide +kernel)) ggX8_copyFrom_X4_copyFrom
set_option maxRecDepth 20000 in
theorem ggX8_copyFrom_X0_copyFrom : GoodIn wsX8_copyFrom wsX0_copyFrom := goodIn_r _ [81, 82, 83, 44, 45, 46, 84, 85, 86, 87, 88, 132, 133, 134, 135, 136, 137] (by decide +kernel) (by decide +kernel)
set_option maxRecDepth 20000 in
theorem gX8_copyFrom_X0_copyFrom : GoodIn wsX8_copyFrom (wsV RX8 75 RX0 yX0_copyFrom wsX0_copyFrom) := goodIn_app (goodIn_of _ (by decide +kernel)) ggX8_copyFrom_X0_copyFrom
theorem dX8_copyFrom_0 : decode cX8_copyFrom 0 = .ok (.aload_n 0, 1) := by decide +kernel
theorem dX8_copyFrom_1 : decode cX8_copyFrom 1 = .ok (.aload_n 1, 1) := by decide +kernel
theorem dX8_copyFrom_2 : decode cX8_copyFrom 2 = .ok (.getfield 50, 3) := by decide +kernel
theorem dX8_copyFrom_5 : decode cX8_copyFrom 5 = .ok (.putfield 50, 3) := by decide +kernel
theorem dX8_copyFrom_8 : decode cX8_copyFrom 8 = .ok (.iconst 0, 1) := by decide +kernel
theorem dX8_copyFrom_9 : decode cX8_copyFrom 9 = .ok (.istore_n 2, 1) := by decide +kernel
theorem dX8_copyFrom_10 : decode cX8_copyFrom 10 = .ok (.iload_n 2, 1) := by decide +kernel
theorem dX8_copyFrom_11 : decode cX8_copyFrom 11 = .ok (.aload_n 0, 1) := by decide +kernel
theorem dX8_copyFrom_12 : decode cX8_copyFrom 12 = .ok (.getfield 50, 3) := by decide +kernel
theorem dX8_copyFrom_15 : decode cX8_copyFrom 15 = .ok (.if_icmp .ge 33, 3) := by decide +kernel
theorem dX8_copyFrom_18 : decode cX8_copyFrom 18 = .ok (.iload_n 2, 1) := by decide +kernel
theorem dX8_copyFrom_19 : decode cX8_copyFrom 19 = .ok (.aload_n 0, 1) := by decide +kernel
theorem dX8_copyFrom_20 : decode cX8_copyFrom 20 = .ok (.getfield 11, 3) := by decide +kernel
theorem dX8_copyFrom_23 : decode cX8_copyFrom 23 = .ok (.arraylength, 1) := by decide +kernel
theorem dX8_copyFrom_24 : decode cX8_copyFrom 24 = .ok (.if_icmp .ge 24, 3) := by decide +kernel
theorem dX8_copyFrom_27 : decode cX8_copyFrom 27 = .ok (.aload_n 0, 1) := by decide +kernel
theorem dX8_copyFrom_28 : decode cX8_copyFrom 28 = .ok (.getfield 11, 3) := by decide +kernel
theorem dX8_copyFrom_31 : decode cX8_copyFrom 31 = .ok (.iload_n 2, 1) := by decide +kernel
theorem dX8_copyFrom_32 : decode cX8_copyFrom 32 = .ok (.aaload, 1) := by decide +kernel
theorem dX8_copyFrom_33 : decode cX8_copyFrom 33 = .ok (.aload_n 1, 1) := by decide +kernel
theorem dX8_copyFrom_34 : decode cX8_copyFrom 34 = .ok (.getfield 11, 3) := by decide +kernel
theorem dX8_copyFrom_37 : decode cX8_copyFrom 37 = .ok (.iload_n 2, 1) := by decide +kernel
theorem dX8_copyFrom_38 : decode cX8_copyFrom 38 = .ok (.aaload, 1) := by decide +kernel
theorem dX8_copyFrom_39 : decode cX8_copyFrom 39 = .ok (.invokevirtual 53, 3) := by decide +kernel
theorem dX8_copyFrom_42 : decode cX8_copyFrom 42 = .ok (.iinc 2 1, 3) := by decide +kernel
theorem dX8_copyFrom_45 : decode cX8_copyFrom 45 = .ok (.goto (-35), 3) := by decide +kernel
theorem dX8_copyFrom_48 : decode cX8_copyFrom 48 = .ok (.aload_n 0, 1) := by decide +kernel
theorem dX8_copyFrom_49 : decode cX8_copyFrom 49 = .ok (.aload_n 1, 1) := by decide +kernel
theorem dX8_copyFrom_50 : decode cX8_copyFrom 50 = .ok (.getfield 57, 3) := by decide +kernel
theorem dX8_copyFrom_53 : decode cX8_copyFrom 53 = .ok (.putfield 57, 3) := by decide +kernel
theorem dX8_copyFrom_56 : decode cX8_copyFrom 56 = .ok (.iconst 0, 1) := by decide +kernel
theorem dX8_copyFrom_57 : decode cX8_copyFrom 57 = .ok (.istore_n 2, 1) := by decide +kernel
theorem dX8_copyFrom_58 : decode cX8_copyFrom 58 = .ok (.iload_n 2, 1) := by decide +kernel
theorem dX8_copyFrom_59 : decode cX8_copyFrom 59 = .ok (.aload_n 0, 1) := by decide +kernel
theorem dX8_copyFrom_60 : decode cX8_copyFrom 60 = .ok (.getfield 57, 3) := by decide +kernel
theorem dX8_copyFrom_63 : decode cX8_copyFrom 63 = .ok (.if_icmp .ge 33, 3) := by decide +kernel
theorem dX8_copyFrom_66 : decode cX8_copyFrom 66 = .ok (.iload_n 2, 1) := by decide +kernel
theorem dX8_copyFrom_67 : decode cX8_copyFrom 67 = .ok (.aload_n 0, 1) := by decide +kernel
theorem dX8_copyFrom_68 : decode cX8_copyFrom 68 = .ok (.getfield 19, 3) := by decide +kernel
theorem dX8_copyFrom_71 : decode cX8_copyFrom 71 = .ok (.arraylength, 1) := by decide +kernel
theorem dX8_copyFrom_72 : decode cX8_copyFrom 72 = .ok (.if_icmp .ge 24, 3) := by decide +kernel
theorem dX8_copyFrom_75 : decode cX8_copyFrom 75 = .ok (.aload_n 0, 1) := by decide +kernel
theorem dX8_copyFrom_76 : decode cX8_copyFrom 76 = .ok (.getfield 19, 3) := by decide +kernel
theorem dX8_copyFrom_79 : decode cX8_copyFrom 79 = .ok (.iload_n 2, 1) := by decide +kernel
theorem dX8_copyFrom_80 : decode cX8_copyFrom 80 = .ok (.aaload, 1) := by decide +kernel
theorem dX8_copyFrom_81 : decode cX8_copyFrom 81 = .ok (.aload_n 1, 1) := by decide +kernel
theorem dX8_copyFrom_82 : decode cX8_copyFrom 82 = .ok (.getfield 19, 3) := by decide +kernel
theorem dX8_copyFrom_85 : decode cX8_copyFrom 85 = .ok (.iload_n 2, 1) := by decide +kernel
theorem dX8_copyFrom_86 : decode cX8_copyFrom 86 = .ok (.aaload, 1) := by decide +kernel
theorem dX8_copyFrom_87 : decode cX8_copyFrom 87 = .ok (.invokevirtual 60, 3) := by decide +kernel
theorem dX8_copyFrom_90 : decode cX8_copyFrom 90 = .ok (.iinc 2 1, 3) := by decide +kernel
theorem dX8_copyFrom_93 : decode cX8_copyFrom 93 = .ok (.goto (-35), 3) := by decide +kernel
theorem dX8_copyFrom_96 : decode cX8_copyFrom 96 = .ok (.aload_n 0, 1) := by decide +kernel
theorem dX8_copyFrom_97 : decode cX8_copyFrom 97 = .ok (.aload_n 1, 1) := by decide +kernel
theorem dX8_copyFrom_98 : decode cX8_copyFrom 98 = .ok (.getfield 63, 3) := by decide +kernel
theorem dX8_copyFrom_101 : decode cX8_copyFrom 101 = .ok (.putfield 63, 3) := by decide +kernel
theorem dX8_copyFrom_104 : decode cX8_copyFrom 104 = .ok (.iconst 0, 1) := by decide +kernel
theorem dX8_copyFrom_105 : decode cX8_copyFrom 105 = .ok (.istore_n 2, 1) := by decide +kernel
theorem dX8_copyFrom_106 : decode cX8_copyFrom 106 = .ok (.iload_n 2, 1) := by decide +kernel
theorem dX8_copyFrom_107 : decode cX8_copyFrom 107 = .ok (.aload_n 0, 1) := by decide +kernel
theorem dX8_copyFrom_108 : decode cX8_copyFrom 108 = .ok (.getfield 63, 3) := by decide +kernel
theorem dX8_copyFrom_111 : decode cX8_copyFrom 111 = .ok (.if_icmp .ge 33, 3) := by decide +kernel
theorem dX8_copyFrom_114 : decode cX8_copyFrom 114 = .ok (.iload_n 2, 1) := by decide +kernel
theorem dX8_copyFrom_115 : decode cX8_copyFrom 115 = .ok (.aload_n 0, 1) := by decide +kernel
theorem dX8_copyFrom_116 : decode cX8_copyFrom 116 = .ok (.getfield 25, 3) := by decide +kernel
theorem dX8_copyFrom_119 : decode cX8_copyFrom 119 = .ok (.arraylength, 1) := by decide +kernel
theorem dX8_copyFrom_120 : decode cX8_copyFrom 120 = .ok (.if_icmp .ge 24, 3) := by decide +kernel
theorem dX8_copyFrom_123 : decode cX8_copyFrom 123 = .ok (.aload_n 0, 1) := by decide +kernel
theorem dX8_copyFrom_124 : decode cX8_copyFrom 124 = .ok (.getfield 25, 3) := by decide +kernel
theorem dX8_copyFrom_127 : decode cX8_copyFrom 127 = .ok (.iload_n 2, 1) := by decide +kernel
theorem dX8_copyFrom_128 : decode cX8_copyFrom 128 = .ok (.aaload, 1) := by decide +kernel
theorem dX8_copyFrom_129 : decode cX8_copyFrom 129 = .ok (.aload_n 1, 1) := by decide +kernel
theorem dX8_copyFrom_130 : decode cX8_copyFrom 130 = .ok (.getfield 25, 3) := by decide +kernel
theorem dX8_copyFrom_133 : decode cX8_copyFrom 133 = .ok (.iload_n 2, 1) := by decide +kernel
theorem dX8_copyFrom_134 : decode cX8_copyFrom 134 = .ok (.aaload, 1) := by decide +kernel
theorem dX8_copyFrom_135 : decode cX8_copyFrom 135 = .ok (.invokevirtual 66, 3) := by decide +kernel
theorem dX8_copyFrom_138 : decode cX8_copyFrom 138 = .ok (.iinc 2 1, 3) := by decide +kernel
theorem dX8_copyFrom_141 : decode cX8_copyFrom 141 = .ok (.goto (-35), 3) := by decide +kernel
theorem dX8_copyFrom_144 : decode cX8_copyFrom 144 = .ok (.aload_n 0, 1) := by decide +kernel
theorem dX8_copyFrom_145 : decode cX8_copyFrom 145 = .ok (.aload_n 1, 1) := by decide +kernel
theorem dX8_copyFrom_146 : decode cX8_copyFrom 146 = .ok (.getfield 69, 3) := by decide +kernel
theorem dX8_copyFrom_149 : decode cX8_copyFrom 149 = .ok (.putfield 69, 3) := by decide +kernel
theorem dX8_copyFrom_152 : decode cX8_copyFrom 152 = .ok (.iconst 0, 1) := by decide +kernel
theorem dX8_copyFrom_153 : decode cX8_copyFrom 153 = .ok (.istore_n 2, 1) := by decide +kernel
theorem dX8_copyFrom_154 : decode cX8_copyFrom 154 = .ok (.iload_n 2, 1) := by decide +kernel
theorem dX8_copyFrom_155 : decode cX8_copyFrom 155 = .ok (.aload_n 0, 1) := by decide +kernel
theorem dX8_copyFrom_156 : decode cX8_copyFrom 156 = .ok (.getfield 69, 3) := by decide +kernel
theorem dX8_copyFrom_159 : decode cX8_copyFrom 159 = .ok (.if_icmp .ge 33, 3) := by decide +kernel
theorem dX8_copyFrom_162 : decode cX8_copyFrom 162 = .ok (.iload_n 2, 1) := by decide +kernel
theorem dX8_copyFrom_163 : decode cX8_copyFrom 163 = .ok (.aload_n 0, 1) := by decide +kernel
theorem dX8_copyFrom_164 : decode cX8_copyFrom 164 = .ok (.getfield 31, 3) := by decide +kernel
theorem dX8_copyFrom_167 : decode cX8_copyFrom 167 = .ok (.arraylength, 1) := by decide +kernel
theorem dX8_copyFrom_168 : decode cX8_copyFrom 168 = .ok (.if_icmp .ge 24, 3) := by decide +kernel
theorem dX8_copyFrom_171 : decode cX8_copyFrom 171 = .ok (.aload_n 0, 1) := by decide +kernel
theorem dX8_copyFrom_172 : decode cX8_copyFrom 172 = .ok (.getfield 31, 3) := by decide +kernel
theorem dX8_copyFrom_175 : decode cX8_copyFrom 175 = .ok (.iload_n 2, 1) := by decide +kernel
theorem dX8_copyFrom_176 : decode cX8_copyFrom 176 = .ok (.aaload, 1) := by decide +kernel
theorem dX8_copyFrom_177 : decode cX8_copyFrom 177 = .ok (.aload_n 1, 1) := by decide +kernel
theorem dX8_copyFrom_178 : decode cX8_copyFrom 178 = .ok (.getfield 31, 3) := by decide +kernel
theorem dX8_copyFrom_181 : decode cX8_copyFrom 181 = .ok (.iload_n 2, 1) := by decide +kernel
theorem dX8_copyFrom_182 : decode cX8_copyFrom 182 = .ok (.aaload, 1) := by decide +kernel
theorem dX8_copyFrom_183 : decode cX8_copyFrom 183 = .ok (.invokevirtual 72, 3) := by decide +kernel
theorem dX8_copyFrom_186 : decode cX8_copyFrom 186 = .ok (.iinc 2 1, 3) := by decide +kernel
theorem dX8_copyFrom_189 : decode cX8_copyFrom 189 = .ok (.goto (-35), 3) := by decide +kernel
theorem dX8_copyFrom_192 : decode cX8_copyFrom 192 = .ok (.aload_n 0, 1) := by decide +kernel
theorem dX8_copyFrom_193 : decode cX8_copyFrom 193 = .ok (.getfield 38, 3) := by decide +kernel
theorem dX8_copyFrom_196 : decode cX8_copyFrom 196 = .ok (.aload_n 1, 1) := by decide +kernel
theorem dX8_copyFrom_197 : decode cX8_copyFrom 197 = .ok (.getfield 38, 3) := by decide +kernel
theorem dX8_copyFrom_200 : decode cX8_copyFrom 200 = .ok (.invokevirtual 75, 3) := by decide +kernel
theorem dX8_copyFrom_203 : decode cX8_copyFrom 203 = .ok (.aload_n 0, 1) := by decide +kernel
theorem dX8_copyFrom_204 : decode cX8_copyFrom 204 = .ok (.aload_n 1, 1) := by decide +kernel
theorem dX8_copyFrom_205 : decode cX8_copyFrom 205 = .ok (.getfield 78, 3) := by decide +kernel
theorem dX8_copyFrom_208 : decode cX8_copyFrom 208 = .ok (.putfield 78, 3) := by decide +kernel
theorem dX8_copyFrom_211 : decode cX8_copyFrom 211 = .ok (.aload_n 0, 1) := by decide +kernel
theorem dX8_copyFrom_212 : decode cX8_copyFrom 212 = .ok (.aload_n 1, 1) := by decide +kernel
theorem dX8_copyFrom_213 : decode cX8_copyFrom 213 = .ok (.getfield 42, 3) := by decide +kernel
theorem dX8_copyFrom_216 : decode cX8_copyFrom 216 = .ok (.putfield 42, 3) := by decide +kernel
theorem dX8_copyFrom_219 : decode cX8_copyFrom 219 = .ok (.return_, 1) := by decide +kernel
theorem dX8_gateAt_0 : decode cX8_gateAt 0 = .ok (.iload_n 1, 1) := by decide +kernel
theorem dX8_gateAt_1 : decode cX8_gateAt 1 = .ok (.ifCond .lt 29, 3) := by decide +kernel
theorem dX8_gateAt_4 : decode cX8_gateAt 4 = .ok (.iload_n 1, 1) := by decide +kernel
theorem dX8_gateAt_5 : decode cX8_gateAt 5 = .ok (.aload_n 0, 1) := by decide +kernel
theorem dX8_gateAt_6 : decode cX8_gateAt 6 = .ok (.getfield 50, 3) := by decide +kernel
theorem dX8_gateAt_9 : decode cX8_gateAt 9 = .ok (.if_icmp .ge 21, 3) := by decide +kernel
theorem dX8_gateAt_12 : decode cX8_gateAt 12 = .ok (.iload_n 1, 1) := by decide +kernel
theorem dX8_gateAt_13 : decode cX8_gateAt 13 = .ok (.aload_n 0, 1) := by decide +kernel
theorem dX8_gateAt_14 : decode cX8_gateAt 14 = .ok (.getfield 11, 3) := by decide +kernel
theorem dX8_gateAt_17 : decode cX8_gateAt 17 = .ok (.arraylength, 1) := by decide +kernel
theorem dX8_gateAt_18 : decode cX8_gateAt 18 = .ok (.if_icmp .ge 12, 3) := by decide +kernel
theorem dX8_gateAt_21 : decode cX8_gateAt 21 = .ok (.aload_n 0, 1) := by decide +kernel
theorem dX8_gateAt_22 : decode cX8_gateAt 22 = .ok (.getfield 11, 3) := by decide +kernel
theorem dX8_gateAt_25 : decode cX8_gateAt 25 = .ok (.iload_n 1, 1) := by decide +kernel
theorem dX8_gateAt_26 : decode cX8_gateAt 26 = .ok (.aaload, 1) := by decide +kernel
theorem dX8_gateAt_27 : decode cX8_gateAt 27 = .ok (.goto 4, 3) := by decide +kernel
theorem dX8_gateAt_30 : decode cX8_gateAt 30 = .ok (.aconst_null, 1) := by decide +kernel
theorem dX8_gateAt_31 : decode cX8_gateAt 31 = .ok (.areturn, 1) := by decide +kernel
theorem dX8_personAt_0 : decode cX8_personAt 0 = .ok (.iload_n 1, 1) := by decide +kernel
theorem dX8_personAt_1 : decode cX8_personAt 1 = .ok (.ifCond .lt 29, 3) := by decide +kernel
theorem dX8_personAt_4 : decode cX8_personAt 4 = .ok (.iload_n 1, 1) := by decide +kernel
theorem dX8_personAt_5 : decode cX8_personAt 5 = .ok (.aload_n 0, 1) := by decide +kernel
theorem dX8_personAt_6 : decode cX8_personAt 6 = .ok (.getfield 57, 3) := by decide +kernel
theorem dX8_personAt_9 : decode cX8_personAt 9 = .ok (.if_icmp .ge 21, 3) := by decide +kernel
theorem dX8_personAt_12 : decode cX8_personAt 12 = .ok (.iload_n 1, 1) := by decide +kernel
theorem dX8_personAt_13 : decode cX8_personAt 13 = .ok (.aload_n 0, 1) := by decide +kernel
theorem dX8_personAt_14 : decode cX8_personAt 14 = .ok (.getfield 19, 3) := by decide +kernel
theorem dX8_personAt_17 : decode cX8_personAt 17 = .ok (.arraylength, 1) := by decide +kernel
theorem dX8_personAt_18 : decode cX8_personAt 18 = .ok (.if_icmp .ge 12, 3) := by decide +kernel
theorem dX8_personAt_21 : decode cX8_personAt 21 = .ok (.aload_n 0, 1) := by decide +kernel
theorem dX8_personAt_22 : decode cX8_personAt 22 = .ok (.getfield 19, 3) := by decide +kernel
theorem dX8_personAt_25 : decode cX8_personAt 25 = .ok (.iload_n 1, 1) := by decide +kernel
theorem dX8_personAt_26 : decode cX8_personAt 26 = .ok (.aaload, 1) := by decide +kernel
theorem dX8_personAt_27 : decode cX8_personAt 27 = .ok (.goto 4, 3) := by decide +kernel
theorem dX8_personAt_30 : decode cX8_personAt 30 = .ok (.aconst_null, 1) := by decide +kernel
theorem dX8_personAt_31 : decode cX8_personAt 31 = .ok (.areturn, 1) := by decide +kernel
theorem dX8_poolAt_0 : decode cX8_poolAt 0 = .ok (.iload_n 1, 1) := by decide +kernel
theorem dX8_poolAt_1 : decode cX8_poolAt 1 = .ok (.ifCond .lt 29, 3) := by decide +kernel
theorem dX8_poolAt_4 : decode cX8_poolAt 4 = .ok (.iload_n 1, 1) := by decide +kernel
theorem dX8_poolAt_5 : decode cX8_poolAt 5 = .ok (.aload_n 0, 1) := by decide +kernel
theorem dX8_poolAt_6 : decode cX8_poolAt 6 = .ok (.getfield 63, 3) := by decide +kernel
theorem dX8_poolAt_9 : decode cX8_poolAt 9 = .ok (.if_icmp .ge 21, 3) := by decide +kernel
theorem dX8_poolAt_12 : decode cX8_poolAt 12 = .ok (.iload_n 1, 1) := by decide +kernel
theorem dX8_poolAt_13 : decode cX8_poolAt 13 = .ok (.aload_n 0, 1) := by decide +kernel
theorem dX8_poolAt_14 : decode cX8_poolAt 14 = .ok (.getfield 25, 3) := by decide +kernel
theorem dX8_poolAt_17 : decode cX8_poolAt 17 = .ok (.arraylength, 1) := by decide +kernel
theorem dX8_poolAt_18 : decode cX8_poolAt 18 = .ok (.if_icmp .ge 12, 3) := by decide +kernel
theorem dX8_poolAt_21 : decode cX8_poolAt 21 = .ok (.aload_n 0, 1) := by decide +kernel
theorem dX8_poolAt_22 : decode cX8_poolAt 22 = .ok (.getfield 25, 3) := by decide +kernel
theorem dX8_poolAt_25 : decode cX8_poolAt 25 = .ok (.iload_n 1, 1) := by decide +kernel
theorem dX8_poolAt_26 : decode cX8_poolAt 26 = .ok (.aaload, 1) := by decide +kernel
theorem dX8_poolAt_27 : decode cX8_poolAt 27 = .ok (.goto 4, 3) := by decide +kernel
theorem dX8_poolAt_30 : decode cX8_poolAt 30 = .ok (.aconst_null, 1) := by decide +kernel
theorem dX8_poolAt_31 : decode cX8_poolAt 31 = .ok (.areturn, 1) := by decide +kernel
theorem dX8_passAt_0 : decode cX8_passAt 0 = .ok (.iload_n 1, 1) := by decide +kernel
theorem dX8_passAt_1 : decode cX8_passAt 1 = .ok (.ifCond .lt 29, 3) := by decide +kernel
theorem dX8_passAt_4 : decode cX8_passAt 4 = .ok (.iload_n 1, 1) := by decide +kernel
theorem dX8_passAt_5 : decode cX8_passAt 5 = .ok (.aload_n 0, 1) := by decide +kernel
theorem dX8_passAt_6 : decode cX8_passAt 6 = .ok (.getfield 69, 3) := by decide +kernel
theorem dX8_passAt_9 : decode cX8_passAt 9 = .ok (.if_icmp .ge 21, 3) := by decide +kernel
theorem dX8_passAt_12 : decode cX8_passAt 12 = .ok (.iload_n 1, 1) := by decide +kernel
theorem dX8_passAt_13 : decode cX8_passAt 13 = .ok (.aload_n 0, 1) := by decide +kernel
theorem dX8_passAt_14 : decode cX8_passAt 14 = .ok (.getfield 31, 3) := by decide +kernel
theorem dX8_passAt_17 : decode cX8_passAt 17 = .ok (.arraylength, 1) := by decide +kernel
theorem dX8_passAt_18 : decode cX8_passAt 18 = .ok (.if_icmp .ge 12, 3) := by decide +kernel
theorem dX8_passAt_21 : decode cX8_passAt 21 = .ok (.aload_n 0, 1) := by decide +kernel
theorem dX8_passAt_22 : decode cX8_passAt 22 = .ok (.getfield 31, 3) := by decide +kernel
theorem dX8_passAt_25 : decode cX8_passAt 25 = .ok (.iload_n 1, 1) := by decide +kernel
theorem dX8_passAt_26 : decode cX8_passAt 26 = .ok (.aaload, 1) := by decide +kernel
theorem dX8_passAt_27 : decode cX8_passAt 27 = .ok (.goto 4, 3) := by decide +kernel
theorem dX8_passAt_30 : decode cX8_passAt 30 = .ok (.aconst_null, 1) := by decide +kernel
theorem dX8_passAt_31 : decode cX8_passAt 31 = .ok (.areturn, 1) := by decide +kernel
set_option maxRecDepth 20000 in
theorem ggX8_newGate_X9_isBetween : GoodIn wsX8_newGate wsX9_isBetween := goodIn_r _ [5] (by decide +kernel) (by decide +kernel)
set_option maxRecDepth 20000 in
theorem gX8_newGate_X9_isBetween_n81 : GoodIn wsX8_newGate (wsX9_isBetween) := ggX8_newGate_X9_isBetween
set_option maxRecDepth 20000 in
theorem ggX8_newGate_X1_setUp : GoodIn wsX8_newGate wsX1_setUp := goodIn_r _ [10, 11, 12, 13, 14, 15, 16, 17, 18, 19, 20, 21, 22, 23, 24, 25, 26, 38, 39, 40, 41, 42, 43, 44, 45, 46, 47, 48, 49, 50, 51, 52, 53, 54] (by decide +kernel) (by decide +kernel)
set_option maxRecDepth 20000 in
theorem gX8_newGate_X1_setUp : GoodIn wsX8_newGate (wsV RX8 85 RX1 yX1_setUp wsX1_setUp) := goodIn_app (goodIn_of _ (by decide +kernel)) ggX8_newGate_X1_setUp
theorem dX8_newGate_0 : decode cX8_newGate 0 = .ok (.iconst 0, 1) := by decide +kernel
theorem dX8_newGate_1 : decode cX8_newGate 1 = .ok (.iload_n 1, 1) := by decide +kernel
theorem dX8_newGate_2 : decode cX8_newGate 2 = .ok (.iconst 2, 1) := by decide +kernel
theorem dX8_newGate_3 : decode cX8_newGate 3 = .ok (.invokestatic 81, 3) := by decide +kernel
theorem dX8_newGate_6 : decode cX8_newGate 6 = .ok (.ifCond .eq 34, 3) := by decide +kernel
theorem dX8_newGate_9 : decode cX8_newGate 9 = .ok (.iconst 1, 1) := by decide +kernel
theorem dX8_newGate_10 : decode cX8_newGate 10 = .ok (.iload_n 2, 1) := by decide +kernel
theorem dX8_newGate_11 : decode cX8_newGate 11 = .ok (.bipush 10, 2) := by decide +kernel
theorem dX8_newGate_13 : decode cX8_newGate 13 = .ok (.invokestatic 81, 3) := by decide +kernel
theorem dX8_newGate_16 : decode cX8_newGate 16 = .ok (.ifCond .eq 24, 3) := by decide +kernel
theorem dX8_newGate_19 : decode cX8_newGate 19 = .ok (.iconst 1, 1) := by decide +kernel
theorem dX8_newGate_20 : decode cX8_newGate 20 = .ok (.iload_n 3, 1) := by decide +kernel
theorem dX8_newGate_21 : decode cX8_newGate 21 = .ok (.bipush 20, 2) := by decide +kernel
theorem dX8_newGate_23 : decode cX8_newGate 23 = .ok (.invokestatic 81, 3) := by decide +kernel
theorem dX8_newGate_26 : decode cX8_newGate 26 = .ok (.ifCond .eq 14, 3) := by decide +kernel
theorem dX8_newGate_29 : decode cX8_newGate 29 = .ok (.iconst 1, 1) := by decide +kernel
theorem dX8_newGate_30 : decode cX8_newGate 30 = .ok (.iload 4, 2) := by decide +kernel
theorem dX8_newGate_32 : decode cX8_newGate 32 = .ok (.bipush 10, 2) := by decide +kernel
theorem dX8_newGate_34 : decode cX8_newGate 34 = .ok (.invokestatic 81, 3) := by decide +kernel
theorem dX8_newGate_37 : decode cX8_newGate 37 = .ok (.ifCond .ne 6, 3) := by decide +kernel
theorem dX8_newGate_40 : decode cX8_newGate 40 = .ok (.bipush (-2), 2) := by decide +kernel
theorem dX8_newGate_42 : decode cX8_newGate 42 = .ok (.ireturn, 1) := by decide +kernel
theorem dX8_newGate_43 : decode cX8_newGate 43 = .ok (.aload_n 0, 1) := by decide +kernel
theorem dX8_newGate_44 : decode cX8_newGate 44 = .ok (.getfield 50, 3) := by decide +kernel
theorem dX8_newGate_47 : decode cX8_newGate 47 = .ok (.aload_n 0, 1) := by decide +kernel
theorem dX8_newGate_48 : decode cX8_newGate 48 = .ok (.getfield 11, 3) := by decide +kernel
theorem dX8_newGate_51 : decode cX8_newGate 51 = .ok (.arraylength, 1) := by decide +kernel
theorem dX8_newGate_52 : decode cX8_newGate 52 = .ok (.if_icmp .lt 6, 3) := by decide +kernel
theorem dX8_newGate_55 : decode cX8_newGate 55 = .ok (.bipush (-3), 2) := by decide +kernel
theorem dX8_newGate_57 : decode cX8_newGate 57 = .ok (.ireturn, 1) := by decide +kernel
theorem dX8_newGate_58 : decode cX8_newGate 58 = .ok (.aload_n 0, 1) := by decide +kernel
theorem dX8_newGate_59 : decode cX8_newGate 59 = .ok (.getfield 11, 3) := by decide +kernel
theorem dX8_newGate_62 : decode cX8_newGate 62 = .ok (.aload_n 0, 1) := by decide +kernel
theorem dX8_newGate_63 : decode cX8_newGate 63 = .ok (.getfield 50, 3) := by decide +kernel
theorem dX8_newGate_66 : decode cX8_newGate 66 = .ok (.aaload, 1) := by decide +kernel
theorem dX8_newGate_67 : decode cX8_newGate 67 = .ok (.iload_n 1, 1) := by decide +kernel
theorem dX8_newGate_68 : decode cX8_newGate 68 = .ok (.iload_n 2, 1) := by decide +kernel
theorem dX8_newGate_69 : decode cX8_newGate 69 = .ok (.iload_n 3, 1) := by decide +kernel
theorem dX8_newGate_70 : decode cX8_newGate 70 = .ok (.iload 4, 2) := by decide +kernel
theorem dX8_newGate_72 : decode cX8_newGate 72 = .ok (.invokevirtual 85, 3) := by decide +kernel
theorem dX8_newGate_75 : decode cX8_newGate 75 = .ok (.aload_n 0, 1) := by decide +kernel
theorem dX8_newGate_76 : decode cX8_newGate 76 = .ok (.dup, 1) := by decide +kernel
theorem dX8_newGate_77 : decode cX8_newGate 77 = .ok (.getfield 50, 3) := by decide +kernel
theorem dX8_newGate_80 : decode cX8_newGate 80 = .ok (.iconst 1, 1) := by decide +kernel
theorem dX8_newGate_81 : decode cX8_newGate 81 = .ok (.iadd, 1) := by decide +kernel
theorem dX8_newGate_82 : decode cX8_newGate 82 = .ok (.putfield 50, 3) := by decide +kernel
theorem dX8_newGate_85 : decode cX8_newGate 85 = .ok (.aload_n 0, 1) := by decide +kernel
theorem dX8_newGate_86 : decode cX8_newGate 86 = .ok (.getfield 50, 3) := by decide +kernel
theorem dX8_newGate_89 : decode cX8_newGate 89 = .ok (.iconst 1, 1) := by decide +kernel
theorem dX8_newGate_90 : decode cX8_newGate 90 = .ok (.isub, 1) := by decide +kernel
theorem dX8_newGate_91 : decode cX8_newGate 91 = .ok (.ireturn, 1) := by decide +kernel
set_option maxRecDepth 20000 in
theorem ggX8_turnGate_X8_gateAt : GoodIn wsX8_turnGate wsX8_gateAt := goodIn_r _ [6, 7, 8, 27, 28, 29, 30, 31, 32, 33, 34, 35, 36, 37] (by decide +kernel) (by decide +kernel)
set_option maxRecDepth 20000 in
theorem gX8_turnGate_X8_gateAt : GoodIn wsX8_turnGate (wsV RX8 89 RX8 yX8_gateAt wsX8_gateAt) := goodIn_app (goodIn_of _ (by decide +kernel)) ggX8_turnGate_X8_gateAt
set_option maxRecDepth 20000 in
theorem ggX8_turnGate_X9_isBetween : GoodIn wsX8_turnGate wsX9_isBetween := goodIn_r _ [11] (by decide +kernel) (by decide +kernel)
set_option maxRecDepth 20000 in
theorem gX8_turnGate_X9_isBetween_n81 : GoodIn wsX8_turnGate (wsX9_isBetween) := ggX8_turnGate_X9_isBetween
theorem dX8_turnGate_0 : decode cX8_turnGate 0 = .ok (.aload_n 0, 1) := by decide +kernel
theorem dX8_turnGate_1 : decode cX8_turnGate 1 = .ok (.iload_n 1, 1) := by decide +kernel
theorem dX8_turnGate_2 : decode cX8_turnGate 2 = .ok (.invokevirtual 89, 3) := by decide +kernel
theorem dX8_turnGate_5 : decode cX8_turnGate 5 = .ok (.astore_n 3, 1) := by decide +kernel
theorem dX8_turnGate_6 : decode cX8_turnGate 6 = .ok (.aload_n 3, 1) := by decide +kernel
theorem dX8_turnGate_7 : decode cX8_turnGate 7 = .ok (.ifnonnull 5, 3) := by decide +kernel
theorem dX8_turnGate_10 : decode cX8_turnGate 10 = .ok (.iconst (-1), 1) := by decide +kernel
theorem dX8_turnGate_11 : decode cX8_turnGate 11 = .ok (.ireturn, 1) := by decide +kernel
theorem dX8_turnGate_12 : decode cX8_turnGate 12 = .ok (.iconst 0, 1) := by decide +kernel
theorem dX8_turnGate_13 : decode cX8_turnGate 13 = .ok (.iload_n 2, 1) := by decide +kernel
theorem dX8_turnGate_14 : decode cX8_turnGate 14 = .ok (.iconst 2, 1) := by decide +kernel
theorem dX8_turnGate_15 : decode cX8_turnGate 15 = .ok (.invokestatic 81, 3) := by decide +kernel
theorem dX8_turnGate_18 : decode cX8_turnGate 18 = .ok (.ifCond .ne 6, 3) := by decide +kernel
theorem dX8_turnGate_21 : decode cX8_turnGate 21 = .ok (.bipush (-2), 2) := by decide +kernel
theorem dX8_turnGate_23 : decode cX8_turnGate 23 = .ok (.ireturn, 1) := by decide +kernel
theorem dX8_turnGate_24 : decode cX8_turnGate 24 = .ok (.aload_n 3, 1) := by decide +kernel
theorem dX8_turnGate_25 : decode cX8_turnGate 25 = .ok (.getfield 93, 3) := by decide +kernel
theorem dX8_turnGate_28 : decode cX8_turnGate 28 = .ok (.istore 4, 2) := by decide +kernel
theorem dX8_turnGate_30 : decode cX8_turnGate 30 = .ok (.aload_n 3, 1) := by decide +kernel
theorem dX8_turnGate_31 : decode cX8_turnGate 31 = .ok (.iload_n 2, 1) := by decide +kernel
theorem dX8_turnGate_32 : decode cX8_turnGate 32 = .ok (.putfield 93, 3) := by decide +kernel
theorem dX8_turnGate_35 : decode cX8_turnGate 35 = .ok (.iload 4, 2) := by decide +kernel
theorem dX8_turnGate_37 : decode cX8_turnGate 37 = .ok (.ireturn, 1) := by decide +kernel
set_option maxRecDepth 20000 in
theorem ggX8_newPool_X9_isBetween : GoodIn wsX8_newPool wsX9_isBetween := goodIn_r _ [5] (by decide +kernel) (by decide +kernel)
set_option maxRecDepth 20000 in
theorem gX8_newPool_X9_isBetween_n81 : GoodIn wsX8_newPool (wsX9_isBetween) := ggX8_newPool_X9_isBetween
set_option maxRecDepth 20000 in
theorem ggX8_newPool_X6_setUp : GoodIn wsX8_newPool wsX6_setUp := goodIn_r _ [10, 11, 12, 13, 14, 15, 27, 28, 29, 30, 31] (by decide +kernel) (by decide +kernel)
set_option maxRecDepth 20000 in
theorem gX8_newPool_X6_setUp : GoodIn wsX8_newPool (wsV RX8 96 RX6 yX6_setUp wsX6_setUp) := goodIn_app (goodIn_of _ (by decide +kernel)) ggX8_newPool_X6_setUp
theorem dX8_newPool_0 : decode cX8_newPool 0 = .ok (.iconst 1, 1) := by decide +kernel
theorem dX8_newPool_1 : decode cX8_newPool 1 = .ok (.iload_n 1, 1) := by decide +kernel
theorem dX8_newPool_2 : decode cX8_newPool 2 = .ok (.bipush 40, 2) := by decide +kernel
theorem dX8_newPool_4 : decode cX8_newPool 4 = .ok (.invokestatic 81, 3) := by decide +kernel
theorem dX8_newPool_7 : decode cX8_newPool 7 = .ok (.ifCond .ne 6, 3) := by decide +kernel
theorem dX8_newPool_10 : decode cX8_newPool 10 = .ok (.bipush (-2), 2) := by decide +kernel
theorem dX8_newPool_12 : decode cX8_newPool 12 = .ok (.ireturn, 1) := by decide +kernel
theorem dX8_newPool_13 : decode cX8_newPool 13 = .ok (.aload_n 0, 1) := by decide +kernel
theorem dX8_newPool_14 : decode cX8_newPool 14 = .ok (.getfield 63, 3) := by decide +kernel
theorem dX8_newPool_17 : decode cX8_newPool 17 = .ok (.aload_n 0, 1) := by decide +kernel
theorem dX8_newPool_18 : decode cX8_newPool 18 = .ok (.getfield 25, 3) := by decide +kernel
theorem dX8_newPool_21 : decode cX8_newPool 21 = .ok (.arraylength, 1) := by decide +kernel
theorem dX8_newPool_22 : decode cX8_newPool 22 = .ok (.if_icmp .lt 6, 3) := by decide +kernel
theorem dX8_newPool_25 : decode cX8_newPool 25 = .ok (.bipush (-3), 2) := by decide +kernel
theorem dX8_newPool_27 : decode cX8_newPool 27 = .ok (.ireturn, 1) := by decide +kernel
theorem dX8_newPool_28 : decode cX8_newPool 28 = .ok (.aload_n 0, 1) := by decide +kernel
theorem dX8_newPool_29 : decode cX8_newPool 29 = .ok (.getfield 25, 3) := by decide +kernel
theorem dX8_newPool_32 : decode cX8_newPool 32 = .ok (.aload_n 0, 1) := by decide +kernel
theorem dX8_newPool_33 : decode cX8_newPool 33 = .ok (.getfield 63, 3) := by decide +kernel
theorem dX8_newPool_36 : decode cX8_newPool 36 = .ok (.aaload, 1) := by decide +kernel
theorem dX8_newPool_37 : decode cX8_newPool 37 = .ok (.iload_n 1, 1) := by decide +kernel
theorem dX8_newPool_38 : decode cX8_newPool 38 = .ok (.invokevirtual 96, 3) := by decide +kernel
theorem dX8_newPool_41 : decode cX8_newPool 41 = .ok (.aload_n 0, 1) := by decide +kernel
theorem dX8_newPool_42 : decode cX8_newPool 42 = .ok (.dup, 1) := by decide +kernel
theorem dX8_newPool_43 : decode cX8_newPool 43 = .ok (.getfield 63, 3) := by decide +kernel
theorem dX8_newPool_46 : decode cX8_newPool 46 = .ok (.iconst 1, 1) := by decide +kernel
theorem dX8_newPool_47 : decode cX8_newPool 47 = .ok (.iadd, 1) := by decide +kernel
theorem dX8_newPool_48 : decode cX8_newPool 48 = .ok (.putfield 63, 3) := by decide +kernel
theorem dX8_newPool_51 : decode cX8_newPool 51 = .ok (.aload_n 0, 1) := by decide +kernel
theorem dX8_newPool_52 : decode cX8_newPool 52 = .ok (.getfield 63, 3) := by decide +kernel
theorem dX8_newPool_55 : decode cX8_newPool 55 = .ok (.iconst 1, 1) := by decide +kernel
theorem dX8_newPool_56 : decode cX8_newPool 56 = .ok (.isub, 1) := by decide +kernel
theorem dX8_newPool_57 : decode cX8_newPool 57 = .ok (.ireturn, 1) := by decide +kernel
set_option maxRecDepth 20000 in
theorem ggX8_addCredit_X8_poolAt : GoodIn wsX8_addCredit wsX8_poolAt := goodIn_r _ [8, 9, 10, 19, 20, 21, 22, 23, 24, 25, 26, 27, 28, 29] (by decide +kernel) (by decide +kernel)
set_option maxRecDepth 20000 in
theorem gX8_addCredit_X8_poolAt : GoodIn wsX8_addCredit (wsV RX8 99 RX8 yX8_poolAt wsX8_poolAt) := goodIn_app (goodIn_of _ (by decide +kernel)) ggX8_addCredit_X8_poolAt
set_option maxRecDepth 20000 in
theorem ggX8_addCredit_X9_isBetween : GoodIn wsX8_addCredit wsX9_isBetween := goodIn_r _ [13] (by decide +kernel) (by decide +kernel)
set_option maxRecDepth 20000 in
theorem gX8_addCredit_X9_isBetween_n81 : GoodIn wsX8_addCredit (wsX9_isBetween) := ggX8_addCredit_X9_isBetween
theorem dX8_addCredit_0 : decode cX8_addCredit 0 = .ok (.aload_n 0, 1) := by decide +kernel
theorem dX8_addCredit_1 : decode cX8_addCredit 1 = .ok (.iload_n 1, 1) := by decide +kernel
theorem dX8_addCredit_2 : decode cX8_addCredit 2 = .ok (.invokevirtual 99, 3) := by decide +kernel
theorem dX8_addCredit_5 : decode cX8_addCredit 5 = .ok (.astore_n 3, 1) := by decide +kernel
theorem dX8_addCredit_6 : decode cX8_addCredit 6 = .ok (.aload_n 3, 1) := by decide +kernel
theorem dX8_addCredit_7 : decode cX8_addCredit 7 = .ok (.ifnonnull 5, 3) := by decide +kernel
theorem dX8_addCredit_10 : decode cX8_addCredit 10 = .ok (.iconst (-1), 1) := by decide +kernel
theorem dX8_addCredit_11 : decode cX8_addCredit 11 = .ok (.ireturn, 1) := by decide +kernel
theorem dX8_addCredit_12 : decode cX8_addCredit 12 = .ok (.iconst 1, 1) := by decide +kernel
theorem dX8_addCredit_13 : decode cX8_addCredit 13 = .ok (.iload_n 2, 1) := by decide +kernel
theorem dX8_addCredit_14 : decode cX8_addCredit 14 = .ok (.ldc 103, 2) := by decide +kernel
theorem dX8_addCredit_16 : decode cX8_addCredit 16 = .ok (.invokestatic 81, 3) := by decide +kernel
theorem dX8_addCredit_19 : decode cX8_addCredit 19 = .ok (.ifCond .ne 6, 3) := by decide +kernel
theorem dX8_addCredit_22 : decode cX8_addCredit 22 = .ok (.bipush (-2), 2) := by decide +kernel
theorem dX8_addCredit_24 : decode cX8_addCredit 24 = .ok (.ireturn, 1) := by decide +kernel
theorem dX8_addCredit_25 : decode cX8_addCredit 25 = .ok (.aload_n 3, 1) := by decide +kernel
theorem dX8_addCredit_26 : decode cX8_addCredit 26 = .ok (.getfield 104, 3) := by decide +kernel
theorem dX8_addCredit_29 : decode cX8_addCredit 29 = .ok (.iload_n 2, 1) := by decide +kernel
theorem dX8_addCredit_30 : decode cX8_addCredit 30 = .ok (.iadd, 1) := by decide +kernel
theorem dX8_addCredit_31 : decode cX8_addCredit 31 = .ok (.ldc 107, 2) := by decide +kernel
theorem dX8_addCredit_33 : decode cX8_addCredit 33 = .ok (.if_icmp .le 6, 3) := by decide +kernel
theorem dX8_addCredit_36 : decode cX8_addCredit 36 = .ok (.bipush (-4), 2) := by decide +kernel
theorem dX8_addCredit_38 : decode cX8_addCredit 38 = .ok (.ireturn, 1) := by decide +kernel
theorem dX8_addCredit_39 : decode cX8_addCredit 39 = .ok (.aload_n 3, 1) := by decide +kernel
theorem dX8_addCredit_40 : decode cX8_addCredit 40 = .ok (.dup, 1) := by decide +kernel
theorem dX8_addCredit_41 : decode cX8_addCredit 41 = .ok (.getfield 104, 3) := by decide +kernel
theorem dX8_addCredit_44 : decode cX8_addCredit 44 = .ok (.iload_n 2, 1) := by decide +kernel
theorem dX8_addCredit_45 : decode cX8_addCredit 45 = .ok (.iadd, 1) := by decide +kernel
theorem dX8_addCredit_46 : decode cX8_addCredit 46 = .ok (.putfield 104, 3) := by decide +kernel
theorem dX8_addCredit_49 : decode cX8_addCredit 49 = .ok (.aload_n 3, 1) := by decide +kernel
theorem dX8_addCredit_50 : decode cX8_addCredit 50 = .ok (.getfield 104, 3) := by decide +kernel
theorem dX8_addCredit_53 : decode cX8_addCredit 53 = .ok (.ireturn, 1) := by decide +kernel
set_option maxRecDepth 20000 in
theorem ggX8_newPass_X8_poolAt : GoodIn wsX8_newPass wsX8_poolAt := goodIn_r _ [8, 9, 10, 19, 20, 21, 22, 23, 24, 25, 26, 27, 28, 29] (by decide +kernel) (by decide +kernel)
set_option maxRecDepth 20000 in
theorem gX8_newPass_X8_poolAt : GoodIn wsX8_newPass (wsV RX8 99 RX8 yX8_poolAt wsX8_poolAt) := goodIn_app (goodIn_of _ (by decide +kernel)) ggX8_newPass_X8_poolAt
set_option maxRecDepth 20000 in
theorem ggX8_newPass_X4_setUp : GoodIn wsX8_newPass wsX4_setUp := goodIn_r _ [15, 16, 17, 18, 35, 36, 37] (by decide +kernel) (by decide +kernel)
set_option maxRecDepth 20000 in
theorem gX8_newPass_X4_setUp : GoodIn wsX8_newPass (wsV RX8 108 RX4 yX4_setUp wsX4_setUp) := goodIn_app (goodIn_of _ (by decide +kernel)) ggX8_newPass_X4_setUp
theorem dX8_newPass_0 : decode cX8_newPass 0 = .ok (.aload_n 0, 1) := by decide +kernel
theorem dX8_newPass_1 : decode cX8_newPass 1 = .ok (.iload_n 1, 1) := by decide +kernel
theorem dX8_newPass_2 : decode cX8_newPass 2 = .ok (.invokevirtual 99, 3) := by decide +kernel
theorem dX8_newPass_5 : decode cX8_newPass 5 = .ok (.astore_n 2, 1) := by decide +kernel
theorem dX8_newPass_6 : decode cX8_newPass 6 = .ok (.aload_n 2, 1) := by decide +kernel
theorem dX8_newPass_7 : decode cX8_newPass 7 = .ok (.ifnonnull 5, 3) := by decide +kernel
theorem dX8_newPass_10 : decode cX8_newPass 10 = .ok (.iconst (-1), 1) := by decide +kernel
theorem dX8_newPass_11 : decode cX8_newPass 11 = .ok (.ireturn, 1) := by decide +kernel
theorem dX8_newPass_12 : decode cX8_newPass 12 = .ok (.aload_n 0, 1) := by decide +kernel
theorem dX8_newPass_13 : decode cX8_newPass 13 = .ok (.getfield 69, 3) := by decide +kernel
theorem dX8_newPass_16 : decode cX8_newPass 16 = .ok (.aload_n 0, 1) := by decide +kernel
theorem dX8_newPass_17 : decode cX8_newPass 17 = .ok (.getfield 31, 3) := by decide +kernel
theorem dX8_newPass_20 : decode cX8_newPass 20 = .ok (.arraylength, 1) := by decide +kernel
theorem dX8_newPass_21 : decode cX8_newPass 21 = .ok (.if_icmp .lt 6, 3) := by decide +kernel
theorem dX8_newPass_24 : decode cX8_newPass 24 = .ok (.bipush (-3), 2) := by decide +kernel
theorem dX8_newPass_26 : decode cX8_newPass 26 = .ok (.ireturn, 1) := by decide +kernel
theorem dX8_newPass_27 : decode cX8_newPass 27 = .ok (.aload_n 0, 1) := by decide +kernel
theorem dX8_newPass_28 : decode cX8_newPass 28 = .ok (.getfield 31, 3) := by decide +kernel
theorem dX8_newPass_31 : decode cX8_newPass 31 = .ok (.aload_n 0, 1) := by decide +kernel
theorem dX8_newPass_32 : decode cX8_newPass 32 = .ok (.getfield 69, 3) := by decide +kernel
theorem dX8_newPass_35 : decode cX8_newPass 35 = .ok (.aaload, 1) := by decide +kernel
theorem dX8_newPass_36 : decode cX8_newPass 36 = .ok (.iload_n 1, 1) := by decide +kernel
theorem dX8_newPass_37 : decode cX8_newPass 37 = .ok (.invokevirtual 108, 3) := by decide +kernel
theorem dX8_newPass_40 : decode cX8_newPass 40 = .ok (.aload_n 2, 1) := by decide +kernel
theorem dX8_newPass_41 : decode cX8_newPass 41 = .ok (.dup, 1) := by decide +kernel
theorem dX8_newPass_42 : decode cX8_newPass 42 = .ok (.getfield 109, 3) := by decide +kernel
theorem dX8_newPass_45 : decode cX8_newPass 45 = .ok (.iconst 1, 1) := by decide +kernel
theorem dX8_newPass_46 : decode cX8_newPass 46 = .ok (.iadd, 1) := by decide +kernel
theorem dX8_newPass_47 : decode cX8_newPass 47 = .ok (.putfield 109, 3) := by decide +kernel
theorem dX8_newPass_50 : decode cX8_newPass 50 = .ok (.aload_n 0, 1) := by decide +kernel
theorem dX8_newPass_51 : decode cX8_newPass 51 = .ok (.dup, 1) := by decide +kernel
theorem dX8_newPass_52 : decode cX8_newPass 52 = .ok (.getfield 69, 3) := by decide +kernel
theorem dX8_newPass_55 : decode cX8_newPass 55 = .ok (.iconst 1, 1) := by decide +kernel
theorem dX8_newPass_56 : decode cX8_newPass 56 = .ok (.iadd, 1) := by decide +kernel
theorem dX8_newPass_57 : decode cX8_newPass 57 = .ok (.putfield 69, 3) := by decide +kernel
theorem dX8_newPass_60 : decode cX8_newPass 60 = .ok (.aload_n 0, 1) := by decide +kernel
theorem dX8_newPass_61 : decode cX8_newPass 61 = .ok (.getfield 69, 3) := by decide +kernel
theorem dX8_newPass_64 : decode cX8_newPass 64 = .ok (.iconst 1, 1) := by decide +kernel
theorem dX8_newPass_65 : decode cX8_newPass 65 = .ok (.isub, 1) := by decide +kernel
theorem dX8_newPass_66 : decode cX8_newPass 66 = .ok (.ireturn, 1) := by decide +kernel
set_option maxRecDepth 20000 in
theorem ggX8_markPass_X8_passAt : GoodIn wsX8_markPass wsX8_passAt := goodIn_r _ [8, 2, 3, 12, 13, 14, 15, 16, 17, 18, 19, 20, 21, 22] (by decide +kernel) (by decide +kernel)
set_option maxRecDepth 20000 in
theorem gX8_markPass_X8_passAt : GoodIn wsX8_markPass (wsV RX8 111 RX8 yX8_passAt wsX8_passAt) := goodIn_app (goodIn_of _ (by decide +kernel)) ggX8_markPass_X8_passAt
theorem dX8_markPass_0 : decode cX8_markPass 0 = .ok (.aload_n 0, 1) := by decide +kernel
theorem dX8_markPass_1 : decode cX8_markPass 1 = .ok (.iload_n 1, 1) := by decide +kernel
theorem dX8_markPass_2 : decode cX8_markPass 2 = .ok (.invokevirtual 111, 3) := by decide +kernel
theorem dX8_markPass_5 : decode cX8_markPass 5 = .ok (.astore_n 3, 1) := by decide +kernel
theorem dX8_markPass_6 : decode cX8_markPass 6 = .ok (.aload_n 3, 1) := by decide +kernel
theorem dX8_markPass_7 : decode cX8_markPass 7 = .ok (.ifnonnull 5, 3) := by decide +kernel
theorem dX8_markPass_10 : decode cX8_markPass 10 = .ok (.iconst (-1), 1) := by decide +kernel
theorem dX8_markPass_11 : decode cX8_markPass 11 = .ok (.ireturn, 1) := by decide +kernel
theorem dX8_markPass_12 : decode cX8_markPass 12 = .ok (.aload_n 3, 1) := by decide +kernel
theorem dX8_markPass_13 : decode cX8_markPass 13 = .ok (.getfield 115, 3) := by decide +kernel
theorem dX8_markPass_16 : decode cX8_markPass 16 = .ok (.iload_n 2, 1) := by decide +kernel
theorem dX8_markPass_17 : decode cX8_markPass 17 = .ok (.if_icmp .ne 6, 3) := by decide +kernel
theorem dX8_markPass_20 : decode cX8_markPass 20 = .ok (.bipush (-5), 2) := by decide +kernel
theorem dX8_markPass_22 : decode cX8_markPass 22 = .ok (.ireturn, 1) := by decide +kernel
theorem dX8_markPass_23 : decode cX8_markPass 23 = .ok (.aload_n 3, 1) := by decide +kernel
theorem dX8_markPass_24 : decode cX8_markPass 24 = .ok (.iload_n 2, 1) := by decide +kernel
theorem dX8_markPass_25 : decode cX8_markPass 25 = .ok (.putfield 115, 3) := by decide +kernel
theorem dX8_markPass_28 : decode cX8_markPass 28 = .ok (.iconst 0, 1) := by decide +kernel
theorem dX8_markPass_29 : decode cX8_markPass 29 = .ok (.istore 4, 2) := by decide +kernel
theorem dX8_markPass_31 : decode cX8_markPass 31 = .ok (.iconst 0, 1) := by decide +kernel
theorem dX8_markPass_32 : decode cX8_markPass 32 = .ok (.istore 5, 2) := by decide +kernel
theorem dX8_markPass_34 : decode cX8_markPass 34 = .ok (.iload 5, 2) := by decide +kernel
theorem dX8_markPass_36 : decode cX8_markPass 36 = .ok (.aload_n 0, 1) := by decide +kernel
theorem dX8_markPass_37 : decode cX8_markPass 37 = .ok (.getfield 69, 3) := by decide +kernel
theorem dX8_markPass_40 : decode cX8_markPass 40 = .ok (.if_icmp .ge 35, 3) := by decide +kernel
theorem dX8_markPass_43 : decode cX8_markPass 43 = .ok (.iload 5, 2) := by decide +kernel
theorem dX8_markPass_45 : decode cX8_markPass 45 = .ok (.aload_n 0, 1) := by decide +kernel
theorem dX8_markPass_46 : decode cX8_markPass 46 = .ok (.getfield 31, 3) := by decide +kernel
theorem dX8_markPass_49 : decode cX8_markPass 49 = .ok (.arraylength, 1) := by decide +kernel
theorem dX8_markPass_50 : decode cX8_markPass 50 = .ok (.if_icmp .ge 25, 3) := by decide +kernel
theorem dX8_markPass_53 : decode cX8_markPass 53 = .ok (.aload_n 0, 1) := by decide +kernel
theorem dX8_markPass_54 : decode cX8_markPass 54 = .ok (.getfield 31, 3) := by decide +kernel
theorem dX8_markPass_57 : decode cX8_markPass 57 = .ok (.iload 5, 2) := by decide +kernel
theorem dX8_markPass_59 : decode cX8_markPass 59 = .ok (.aaload, 1) := by decide +kernel
theorem dX8_markPass_60 : decode cX8_markPass 60 = .ok (.getfield 115, 3) := by decide +kernel
theorem dX8_markPass_63 : decode cX8_markPass 63 = .ok (.ifCond .eq 6, 3) := by decide +kernel
theorem dX8_markPass_66 : decode cX8_markPass 66 = .ok (.iinc 4 1, 3) := by decide +kernel
theorem dX8_markPass_69 : decode cX8_markPass 69 = .ok (.iinc 5 1, 3) := by decide +kernel
theorem dX8_markPass_72 : decode cX8_markPass 72 = .ok (.goto (-38), 3) := by decide +kernel
theorem dX8_markPass_75 : decode cX8_markPass 75 = .ok (.iload 4, 2) := by decide +kernel
theorem dX8_markPass_77 : decode cX8_markPass 77 = .ok (.ireturn, 1) := by decide +kernel
set_option maxRecDepth 20000 in
theorem ggX8_changeFare_X9_isBetween : GoodIn wsX8_changeFare wsX9_isBetween := goodIn_r _ [4] (by decide +kernel) (by decide +kernel)
set_option maxRecDepth 20000 in
theorem gX8_changeFare_X9_isBetween_n81 : GoodIn wsX8_changeFare (wsX9_isBetween) := ggX8_changeFare_X9_isBetween
theorem dX8_changeFare_0 : decode cX8_changeFare 0 = .ok (.iconst 0, 1) := by decide +kernel
theorem dX8_changeFare_1 : decode cX8_changeFare 1 = .ok (.iload_n 1, 1) := by decide +kernel
theorem dX8_changeFare_2 : decode cX8_changeFare 2 = .ok (.sipush 1000, 3) := by decide +kernel
theorem dX8_changeFare_5 : decode cX8_changeFare 5 = .ok (.invokestatic 81, 3) := by decide +kernel
theorem dX8_changeFare_8 : decode cX8_changeFare 8 = .ok (.ifCond .ne 6, 3) := by decide +kernel
theorem dX8_changeFare_11 : decode cX8_changeFare 11 = .ok (.bipush (-2), 2) := by decide +kernel
theorem dX8_changeFare_13 : decode cX8_changeFare 13 = .ok (.ireturn, 1) := by decide +kernel
theorem dX8_changeFare_14 : decode cX8_changeFare 14 = .ok (.aload_n 0, 1) := by decide +kernel
theorem dX8_changeFare_15 : decode cX8_changeFare 15 = .ok (.getfield 42, 3) := by decide +kernel
theorem dX8_changeFare_18 : decode cX8_changeFare 18 = .ok (.istore_n 2, 1) := by decide +kernel
theorem dX8_changeFare_19 : decode cX8_changeFare 19 = .ok (.aload_n 0, 1) := by decide +kernel
theorem dX8_changeFare_20 : decode cX8_changeFare 20 = .ok (.iload_n 1, 1) := by decide +kernel
theorem dX8_changeFare_21 : decode cX8_changeFare 21 = .ok (.putfield 42, 3) := by decide +kernel
theorem dX8_changeFare_24 : decode cX8_changeFare 24 = .ok (.iload_n 2, 1) := by decide +kernel
theorem dX8_changeFare_25 : decode cX8_changeFare 25 = .ok (.ireturn, 1) := by decide +kernel
set_option maxRecDepth 20000 in
theorem ggX8_comeIn_X8_gateAt : GoodIn wsX8_comeIn wsX8_gateAt := goodIn_r _ [9, 10, 11, 41, 42, 43, 44, 45, 46, 47, 48, 49, 50, 51] (by decide +kernel) (by decide +kernel)
set_option maxRecDepth 20000 in
theorem gX8_comeIn_X8_gateAt : GoodIn wsX8_comeIn (wsV RX8 89 RX8 yX8_gateAt wsX8_gateAt) := goodIn_app (goodIn_of _ (by decide +kernel)) ggX8_comeIn_X8_gateAt
set_option maxRecDepth 20000 in
theorem ggX8_comeIn_X8_passAt : GoodIn wsX8_comeIn wsX8_passAt := goodIn_r _ [15, 16, 17, 41, 42, 43, 44, 45, 46, 47, 48, 49, 50, 51] (by decide +kernel) (by decide +kernel)
set_option maxRecDepth 20000 in
theorem gX8_comeIn_X8_passAt : GoodIn wsX8_comeIn (wsV RX8 111 RX8 yX8_passAt wsX8_passAt) := goodIn_app (goodIn_of _ (by decide +kernel)) ggX8_comeIn_X8_passAt
set_option maxRecDepth 20000 in
theorem ggX8_comeIn_X5_setUp : GoodIn wsX8_comeIn wsX5_setUp := goodIn_r _ [22, 23, 24, 25, 67, 68, 69, 70, 71, 72, 73] (by decide +kernel) (by decide +kernel)
set_option maxRecDepth 20000 in
theorem gX8_comeIn_X5_setUp : GoodIn wsX8_comeIn (wsV RX8 119 RX5 yX5_setUp wsX5_setUp) := goodIn_app (goodIn_of _ (by decide +kernel)) ggX8_comeIn_X5_setUp
set_option maxRecDepth 20000 in
theorem ggX8_comeIn_X5_waitAt : GoodIn wsX8_comeIn wsX5_waitAt := goodIn_r _ [29, 30, 31, 32, 33, 67, 68, 69, 70, 71, 72, 73] (by decide +kernel) (by decide +kernel)
set_option maxRecDepth 20000 in
theorem gX8_comeIn_X5_waitAt : GoodIn wsX8_comeIn (wsV RX8 122 RX5 yX5_waitAt wsX5_waitAt) := goodIn_app (goodIn_of _ (by decide +kernel)) ggX8_comeIn_X5_waitAt
set_option maxRecDepth 20000 in
theorem ggX8_comeIn_X7_append : GoodIn wsX8_comeIn wsX7_append := goodIn_r _ [38, 39, 40, 74, 75] (by decide +kernel) (by decide +kernel)
set_option maxRecDepth 20000 in
theorem gX8_comeIn_X7_append : GoodIn wsX8_comeIn (wsV RX8 130 RX7 yX7_append wsX7_append) := goodIn_app (goodIn_of _ (by decide +kernel)) ggX8_comeIn_X7_append
theorem dX8_comeIn_0 : decode cX8_comeIn 0 = .ok (.aload_n 0, 1) := by decide +kernel
theorem dX8_comeIn_1 : decode cX8_comeIn 1 = .ok (.iload_n 1, 1) := by decide +kernel
theorem dX8_comeIn_2 : decode cX8_comeIn 2 = .ok (.invokevirtual 89, 3) := by decide +kernel
theorem dX8_comeIn_5 : decode cX8_comeIn 5 = .ok (.astore 4, 2) := by decide +kernel
theorem dX8_comeIn_7 : decode cX8_comeIn 7 = .ok (.aload 4, 2) := by decide +kernel
theorem dX8_comeIn_9 : decode cX8_comeIn 9 = .ok (.ifnull 16, 3) := by decide +kernel
theorem dX8_comeIn_12 : decode cX8_comeIn 12 = .ok (.iload_n 2, 1) := by decide +kernel
theorem dX8_comeIn_13 : decode cX8_comeIn 13 = .ok (.iconst (-1), 1) := by decide +kernel
theorem dX8_comeIn_14 : decode cX8_comeIn 14 = .ok (.if_icmp .eq 13, 3) := by decide +kernel
theorem dX8_comeIn_17 : decode cX8_comeIn 17 = .ok (.aload_n 0, 1) := by decide +kernel
theorem dX8_comeIn_18 : decode cX8_comeIn 18 = .ok (.iload_n 2, 1) := by decide +kernel
theorem dX8_comeIn_19 : decode cX8_comeIn 19 = .ok (.invokevirtual 111, 3) := by decide +kernel
theorem dX8_comeIn_22 : decode cX8_comeIn 22 = .ok (.ifnonnull 5, 3) := by decide +kernel
theorem dX8_comeIn_25 : decode cX8_comeIn 25 = .ok (.iconst (-1), 1) := by decide +kernel
theorem dX8_comeIn_26 : decode cX8_comeIn 26 = .ok (.ireturn, 1) := by decide +kernel
theorem dX8_comeIn_27 : decode cX8_comeIn 27 = .ok (.aload_n 0, 1) := by decide +kernel
theorem dX8_comeIn_28 : decode cX8_comeIn 28 = .ok (.getfield 57, 3) := by decide +kernel
theorem dX8_comeIn_31 : decode cX8_comeIn 31 = .ok (.aload_n 0, 1) := by decide +kernel
theorem dX8_comeIn_32 : decode cX8_comeIn 32 = .ok (.getfield 19, 3) := by decide +kernel
theorem dX8_comeIn_35 : decode cX8_comeIn 35 = .ok (.arraylength, 1) := by decide +kernel
theorem dX8_comeIn_36 : decode cX8_comeIn 36 = .ok (.if_icmp .lt 6, 3) := by decide +kernel
theorem dX8_comeIn_39 : decode cX8_comeIn 39 = .ok (.bipush (-3), 2) := by decide +kernel
theorem dX8_comeIn_41 : decode cX8_comeIn 41 = .ok (.ireturn, 1) := by decide +kernel
theorem dX8_comeIn_42 : decode cX8_comeIn 42 = .ok (.aload_n 0, 1) := by decide +kernel
theorem dX8_comeIn_43 : decode cX8_comeIn 43 = .ok (.getfield 19, 3) := by decide +kernel
theorem dX8_comeIn_46 : decode cX8_comeIn 46 = .ok (.aload_n 0, 1) := by decide +kernel
theorem dX8_comeIn_47 : decode cX8_comeIn 47 = .ok (.getfield 57, 3) := by decide +kernel
theorem dX8_comeIn_50 : decode cX8_comeIn 50 = .ok (.aaload, 1) := by decide +kernel
theorem dX8_comeIn_51 : decode cX8_comeIn 51 = .ok (.iload_n 2, 1) := by decide +kernel
theorem dX8_comeIn_52 : decode cX8_comeIn 52 = .ok (.iconst (-1), 1) := by decide +kernel
theorem dX8_comeIn_53 : decode cX8_comeIn 53 = .ok (.if_icmp .ne 8, 3) := by decide +kernel
theorem dX8_comeIn_56 : decode cX8_comeIn 56 = .ok (.bipush (-5), 2) := by decide +kernel
theorem dX8_comeIn_58 : decode cX8_comeIn 58 = .ok (.goto 4, 3) := by decide +kernel
theorem dX8_comeIn_61 : decode cX8_comeIn 61 = .ok (.iload_n 2, 1) := by decide +kernel
theorem dX8_comeIn_62 : decode cX8_comeIn 62 = .ok (.iload_n 3, 1) := by decide +kernel
theorem dX8_comeIn_63 : decode cX8_comeIn 63 = .ok (.invokevirtual 119, 3) := by decide +kernel
theorem dX8_comeIn_66 : decode cX8_comeIn 66 = .ok (.aload_n 0, 1) := by decide +kernel
theorem dX8_comeIn_67 : decode cX8_comeIn 67 = .ok (.getfield 19, 3) := by decide +kernel
theorem dX8_comeIn_70 : decode cX8_comeIn 70 = .ok (.aload_n 0, 1) := by decide +kernel
theorem dX8_comeIn_71 : decode cX8_comeIn 71 = .ok (.getfield 57, 3) := by decide +kernel
theorem dX8_comeIn_74 : decode cX8_comeIn 74 = .ok (.aaload, 1) := by decide +kernel
theorem dX8_comeIn_75 : decode cX8_comeIn 75 = .ok (.iload_n 1, 1) := by decide +kernel
theorem dX8_comeIn_76 : decode cX8_comeIn 76 = .ok (.iconst 1, 1) := by decide +kernel
theorem dX8_comeIn_77 : decode cX8_comeIn 77 = .ok (.aload_n 0, 1) := by decide +kernel
theorem dX8_comeIn_78 : decode cX8_comeIn 78 = .ok (.getfield 78, 3) := by decide +kernel
theorem dX8_comeIn_81 : decode cX8_comeIn 81 = .ok (.invokevirtual 122, 3) := by decide +kernel
theorem dX8_comeIn_84 : decode cX8_comeIn 84 = .ok (.aload 4, 2) := by decide +kernel
theorem dX8_comeIn_86 : decode cX8_comeIn 86 = .ok (.getfield 126, 3) := by decide +kernel
theorem dX8_comeIn_89 : decode cX8_comeIn 89 = .ok (.aload_n 0, 1) := by decide +kernel
theorem dX8_comeIn_90 : decode cX8_comeIn 90 = .ok (.getfield 57, 3) := by decide +kernel
theorem dX8_comeIn_93 : decode cX8_comeIn 93 = .ok (.invokevirtual 130, 3) := by decide +kernel
theorem dX8_comeIn_96 : decode cX8_comeIn 96 = .ok (.aload_n 0, 1) := by decide +kernel
theorem dX8_comeIn_97 : decode cX8_comeIn 97 = .ok (.dup, 1) := by decide +kernel
theorem dX8_comeIn_98 : decode cX8_comeIn 98 = .ok (.getfield 57, 3) := by decide +kernel
theorem dX8_comeIn_101 : decode cX8_comeIn 101 = .ok (.iconst 1, 1) := by decide +kernel
theorem dX8_comeIn_102 : decode cX8_comeIn 102 = .ok (.iadd, 1) := by decide +kernel
theorem dX8_comeIn_103 : decode cX8_comeIn 103 = .ok (.putfield 57, 3) := by decide +kernel
theorem dX8_comeIn_106 : decode cX8_comeIn 106 = .ok (.aload_n 0, 1) := by decide +kernel
theorem dX8_comeIn_107 : decode cX8_comeIn 107 = .ok (.getfield 57, 3) := by decide +kernel
theorem dX8_comeIn_110 : decode cX8_comeIn 110 = .ok (.iconst 1, 1) := by decide +kernel
theorem dX8_comeIn_111 : decode cX8_comeIn 111 = .ok (.isub, 1) := by decide +kernel
theorem dX8_comeIn_112 : decode cX8_comeIn 112 = .ok (.ireturn, 1) := by decide +kernel
set_option maxRecDepth 20000 in
theorem ggX8_goOut_X8_gateAt : GoodIn wsX8_goOut wsX8_gateAt := goodIn_r _ [9, 10, 11, 41, 42, 43, 44, 45, 46, 47, 48, 49, 50, 51] (by decide +kernel) (by decide +kernel)
set_option maxRecDepth 20000 in
theorem gX8_goOut_X8_gateAt : GoodIn wsX8_goOut (wsV RX8 89 RX8 yX8_gateAt wsX8_gateAt) := goodIn_app (goodIn_of _ (by decide +kernel)) ggX8_goOut_X8_gateAt
set_option maxRecDepth 20000 in
theorem ggX8_goOut_X8_personAt : GoodIn wsX8_goOut wsX8_personAt := goodIn_r _ [15, 16, 17, 41, 42, 43, 44, 45, 46, 47, 48, 49, 50, 51] (by decide +kernel) (by decide +kernel)
set_option maxRecDepth 20000 in
theorem gX8_goOut_X8_personAt : GoodIn wsX8_goOut (wsV RX8 135 RX8 yX8_personAt wsX8_personAt) := goodIn_app (goodIn_of _ (by decide +kernel)) ggX8_goOut_X8_personAt
set_option maxRecDepth 20000 in
theorem ggX8_goOut_X5_waitAt : GoodIn wsX8_goOut wsX5_waitAt := goodIn_r _ [22, 23, 24, 25, 26, 34, 35, 36, 37, 38, 39, 40] (by decide +kernel) (by decide +kernel)
set_option maxRecDepth 20000 in
theorem gX8_goOut_X5_waitAt : GoodIn wsX8_goOut (wsV RX8 122 RX5 yX5_waitAt wsX5_waitAt) := goodIn_app (goodIn_of _ (by decide +kernel)) ggX8_goOut_X5_waitAt
set_option maxRecDepth 20000 in
theorem ggX8_goOut_X7_append : GoodIn wsX8_goOut wsX7_append := goodIn_r _ [31, 32, 33, 67, 68] (by decide +kernel) (by decide +kernel)
set_option maxRecDepth 20000 in
theorem gX8_goOut_X7_append : GoodIn wsX8_goOut (wsV RX8 130 RX7 yX7_append wsX7_append) := goodIn_app (goodIn_of _ (by decide +kernel)) ggX8_goOut_X7_append
theorem dX8_goOut_0 : decode cX8_goOut 0 = .ok (.aload_n 0, 1) := by decide +kernel
theorem dX8_goOut_1 : decode cX8_goOut 1 = .ok (.iload_n 1, 1) := by decide +kernel
theorem dX8_goOut_2 : decode cX8_goOut 2 = .ok (.invokevirtual 89, 3) := by decide +kernel
theorem dX8_goOut_5 : decode cX8_goOut 5 = .ok (.astore_n 3, 1) := by decide +kernel
theorem dX8_goOut_6 : decode cX8_goOut 6 = .ok (.aload_n 0, 1) := by decide +kernel
theorem dX8_goOut_7 : decode cX8_goOut 7 = .ok (.iload_n 2, 1) := by decide +kernel
theorem dX8_goOut_8 : decode cX8_goOut 8 = .ok (.invokevirtual 135, 3) := by decide +kernel
theorem dX8_goOut_11 : decode cX8_goOut 11 = .ok (.astore 4, 2) := by decide +kernel
theorem dX8_goOut_13 : decode cX8_goOut 13 = .ok (.aload_n 3, 1) := by decide +kernel
theorem dX8_goOut_14 : decode cX8_goOut 14 = .ok (.ifnull 8, 3) := by decide +kernel
theorem dX8_goOut_17 : decode cX8_goOut 17 = .ok (.aload 4, 2) := by decide +kernel
theorem dX8_goOut_19 : decode cX8_goOut 19 = .ok (.ifnonnull 5, 3) := by decide +kernel
theorem dX8_goOut_22 : decode cX8_goOut 22 = .ok (.iconst (-1), 1) := by decide +kernel
theorem dX8_goOut_23 : decode cX8_goOut 23 = .ok (.ireturn, 1) := by decide +kernel
theorem dX8_goOut_24 : decode cX8_goOut 24 = .ok (.aload 4, 2) := by decide +kernel
theorem dX8_goOut_26 : decode cX8_goOut 26 = .ok (.getfield 139, 3) := by decide +kernel
theorem dX8_goOut_29 : decode cX8_goOut 29 = .ok (.iconst 3, 1) := by decide +kernel
theorem dX8_goOut_30 : decode cX8_goOut 30 = .ok (.if_icmp .eq 6, 3) := by decide +kernel
theorem dX8_goOut_33 : decode cX8_goOut 33 = .ok (.bipush (-4), 2) := by decide +kernel
theorem dX8_goOut_35 : decode cX8_goOut 35 = .ok (.ireturn, 1) := by decide +kernel
theorem dX8_goOut_36 : decode cX8_goOut 36 = .ok (.aload 4, 2) := by decide +kernel
theorem dX8_goOut_38 : decode cX8_goOut 38 = .ok (.iload_n 1, 1) := by decide +kernel
theorem dX8_goOut_39 : decode cX8_goOut 39 = .ok (.iconst 4, 1) := by decide +kernel
theorem dX8_goOut_40 : decode cX8_goOut 40 = .ok (.aload_n 0, 1) := by decide +kernel
theorem dX8_goOut_41 : decode cX8_goOut 41 = .ok (.getfield 78, 3) := by decide +kernel
theorem dX8_goOut_44 : decode cX8_goOut 44 = .ok (.invokevirtual 122, 3) := by decide +kernel
