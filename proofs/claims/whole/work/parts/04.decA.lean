set_option maxRecDepth 20000 in
theorem ggX0_init_X3_init : GoodIn wsX0_init wsX3_init := goodIn_r _ [18, 19, 2, 3, 20, 21, 22, 23, 24, 25, 26, 27, 39, 40, 41] (by decide +kernel) (by decide +kernel)
set_option maxRecDepth 20000 in
theorem gX0_init_X3_init : GoodIn wsX0_init (wsX3_init) := ggX0_init_X3_init
set_option maxRecDepth 20000 in
theorem ggX0_init_X1_init : GoodIn wsX0_init wsX1_init := goodIn_r _ [30, 31, 2, 3, 20, 32, 33, 34, 25, 26, 27, 49, 50, 51, 52] (by decide +kernel) (by decide +kernel)
set_option maxRecDepth 20000 in
theorem gX0_init_X1_init : GoodIn wsX0_init (wsX1_init) := ggX0_init_X1_init
set_option maxRecDepth 20000 in
theorem ggX0_init_X4_init : GoodIn wsX0_init wsX4_init := goodIn_r _ [36, 37, 2, 3, 20, 38, 53, 54, 55, 56, 57, 58, 59, 60] (by decide +kernel) (by decide +kernel)
set_option maxRecDepth 20000 in
theorem gX0_init_X4_init_n31 : GoodIn wsX0_init (wsX4_init) := ggX0_init_X4_init
theorem dX0_init_0 : decode cX0_init 0 = .ok (.aload_n 0, 1) := by decide +kernel
theorem dX0_init_1 : decode cX0_init 1 = .ok (.invokespecial 3, 3) := by decide +kernel
theorem dX0_init_4 : decode cX0_init 4 = .ok (.aload_n 0, 1) := by decide +kernel
theorem dX0_init_5 : decode cX0_init 5 = .ok (.new 9, 3) := by decide +kernel
theorem dX0_init_8 : decode cX0_init 8 = .ok (.dup, 1) := by decide +kernel
theorem dX0_init_9 : decode cX0_init 9 = .ok (.invokespecial 11, 3) := by decide +kernel
theorem dX0_init_12 : decode cX0_init 12 = .ok (.putfield 12, 3) := by decide +kernel
theorem dX0_init_15 : decode cX0_init 15 = .ok (.aload_n 0, 1) := by decide +kernel
theorem dX0_init_16 : decode cX0_init 16 = .ok (.new 18, 3) := by decide +kernel
theorem dX0_init_19 : decode cX0_init 19 = .ok (.dup, 1) := by decide +kernel
theorem dX0_init_20 : decode cX0_init 20 = .ok (.invokespecial 20, 3) := by decide +kernel
theorem dX0_init_23 : decode cX0_init 23 = .ok (.putfield 21, 3) := by decide +kernel
theorem dX0_init_26 : decode cX0_init 26 = .ok (.aload_n 0, 1) := by decide +kernel
theorem dX0_init_27 : decode cX0_init 27 = .ok (.bipush 8, 2) := by decide +kernel
theorem dX0_init_29 : decode cX0_init 29 = .ok (.anewarray 25, 3) := by decide +kernel
theorem dX0_init_32 : decode cX0_init 32 = .ok (.putfield 27, 3) := by decide +kernel
theorem dX0_init_35 : decode cX0_init 35 = .ok (.iconst 0, 1) := by decide +kernel
theorem dX0_init_36 : decode cX0_init 36 = .ok (.istore_n 1, 1) := by decide +kernel
theorem dX0_init_37 : decode cX0_init 37 = .ok (.iload_n 1, 1) := by decide +kernel
theorem dX0_init_38 : decode cX0_init 38 = .ok (.bipush 8, 2) := by decide +kernel
theorem dX0_init_40 : decode cX0_init 40 = .ok (.if_icmp .ge 22, 3) := by decide +kernel
theorem dX0_init_43 : decode cX0_init 43 = .ok (.aload_n 0, 1) := by decide +kernel
theorem dX0_init_44 : decode cX0_init 44 = .ok (.getfield 27, 3) := by decide +kernel
theorem dX0_init_47 : decode cX0_init 47 = .ok (.iload_n 1, 1) := by decide +kernel
theorem dX0_init_48 : decode cX0_init 48 = .ok (.new 25, 3) := by decide +kernel
theorem dX0_init_51 : decode cX0_init 51 = .ok (.dup, 1) := by decide +kernel
theorem dX0_init_52 : decode cX0_init 52 = .ok (.invokespecial 31, 3) := by decide +kernel
theorem dX0_init_55 : decode cX0_init 55 = .ok (.aastore, 1) := by decide +kernel
theorem dX0_init_56 : decode cX0_init 56 = .ok (.iinc 1 1, 3) := by decide +kernel
theorem dX0_init_59 : decode cX0_init 59 = .ok (.goto (-22), 3) := by decide +kernel
theorem dX0_init_62 : decode cX0_init 62 = .ok (.return_, 1) := by decide +kernel
set_option maxRecDepth 20000 in
theorem ggX0_becomeLike_X3_becomeLike : GoodIn wsX0_becomeLike wsX3_becomeLike := goodIn_r _ [11, 12, 13, 14, 15, 16, 17, 18, 40, 41, 42] (by decide +kernel) (by decide +kernel)
set_option maxRecDepth 20000 in
theorem gX0_becomeLike_X3_becomeLike : GoodIn wsX0_becomeLike (wsV RX0 32 RX3 yX3_becomeLike wsX3_becomeLike) := goodIn_app (goodIn_of _ (by decide +kernel)) ggX0_becomeLike_X3_becomeLike
set_option maxRecDepth 20000 in
theorem ggX0_becomeLike_X4_becomeLike : GoodIn wsX0_becomeLike wsX4_becomeLike := goodIn_r _ [23, 24, 25, 26, 27, 28, 29, 30, 31, 14, 15, 16, 32, 43, 44, 45, 46, 47, 48, 49, 50] (by decide +kernel) (by decide +kernel)
set_option maxRecDepth 20000 in
theorem gX0_becomeLike_X4_becomeLike : GoodIn wsX0_becomeLike (wsV RX0 36 RX4 yX4_becomeLike wsX4_becomeLike) := goodIn_app (goodIn_of _ (by decide +kernel)) ggX0_becomeLike_X4_becomeLike
theorem dX0_becomeLike_0 : decode cX0_becomeLike 0 = .ok (.aload_n 0, 1) := by decide +kernel
theorem dX0_becomeLike_1 : decode cX0_becomeLike 1 = .ok (.getfield 12, 3) := by decide +kernel
theorem dX0_becomeLike_4 : decode cX0_becomeLike 4 = .ok (.aload_n 1, 1) := by decide +kernel
theorem dX0_becomeLike_5 : decode cX0_becomeLike 5 = .ok (.getfield 12, 3) := by decide +kernel
theorem dX0_becomeLike_8 : decode cX0_becomeLike 8 = .ok (.invokevirtual 32, 3) := by decide +kernel
theorem dX0_becomeLike_11 : decode cX0_becomeLike 11 = .ok (.iconst 0, 1) := by decide +kernel
theorem dX0_becomeLike_12 : decode cX0_becomeLike 12 = .ok (.istore_n 2, 1) := by decide +kernel
theorem dX0_becomeLike_13 : decode cX0_becomeLike 13 = .ok (.iload_n 2, 1) := by decide +kernel
theorem dX0_becomeLike_14 : decode cX0_becomeLike 14 = .ok (.bipush 8, 2) := by decide +kernel
theorem dX0_becomeLike_16 : decode cX0_becomeLike 16 = .ok (.if_icmp .ge 24, 3) := by decide +kernel
theorem dX0_becomeLike_19 : decode cX0_becomeLike 19 = .ok (.aload_n 0, 1) := by decide +kernel
theorem dX0_becomeLike_20 : decode cX0_becomeLike 20 = .ok (.getfield 27, 3) := by decide +kernel
theorem dX0_becomeLike_23 : decode cX0_becomeLike 23 = .ok (.iload_n 2, 1) := by decide +kernel
theorem dX0_becomeLike_24 : decode cX0_becomeLike 24 = .ok (.aaload, 1) := by decide +kernel
theorem dX0_becomeLike_25 : decode cX0_becomeLike 25 = .ok (.aload_n 1, 1) := by decide +kernel
theorem dX0_becomeLike_26 : decode cX0_becomeLike 26 = .ok (.getfield 27, 3) := by decide +kernel
theorem dX0_becomeLike_29 : decode cX0_becomeLike 29 = .ok (.iload_n 2, 1) := by decide +kernel
theorem dX0_becomeLike_30 : decode cX0_becomeLike 30 = .ok (.aaload, 1) := by decide +kernel
theorem dX0_becomeLike_31 : decode cX0_becomeLike 31 = .ok (.invokevirtual 36, 3) := by decide +kernel
theorem dX0_becomeLike_34 : decode cX0_becomeLike 34 = .ok (.iinc 2 1, 3) := by decide +kernel
theorem dX0_becomeLike_37 : decode cX0_becomeLike 37 = .ok (.goto (-24), 3) := by decide +kernel
theorem dX0_becomeLike_40 : decode cX0_becomeLike 40 = .ok (.aload_n 0, 1) := by decide +kernel
theorem dX0_becomeLike_41 : decode cX0_becomeLike 41 = .ok (.aload_n 1, 1) := by decide +kernel
theorem dX0_becomeLike_42 : decode cX0_becomeLike 42 = .ok (.getfield 39, 3) := by decide +kernel
theorem dX0_becomeLike_45 : decode cX0_becomeLike 45 = .ok (.putfield 39, 3) := by decide +kernel
theorem dX0_becomeLike_48 : decode cX0_becomeLike 48 = .ok (.aload_n 0, 1) := by decide +kernel
theorem dX0_becomeLike_49 : decode cX0_becomeLike 49 = .ok (.aload_n 1, 1) := by decide +kernel
theorem dX0_becomeLike_50 : decode cX0_becomeLike 50 = .ok (.getfield 43, 3) := by decide +kernel
theorem dX0_becomeLike_53 : decode cX0_becomeLike 53 = .ok (.putfield 43, 3) := by decide +kernel
theorem dX0_becomeLike_56 : decode cX0_becomeLike 56 = .ok (.aload_n 0, 1) := by decide +kernel
theorem dX0_becomeLike_57 : decode cX0_becomeLike 57 = .ok (.aload_n 1, 1) := by decide +kernel
theorem dX0_becomeLike_58 : decode cX0_becomeLike 58 = .ok (.getfield 46, 3) := by decide +kernel
theorem dX0_becomeLike_61 : decode cX0_becomeLike 61 = .ok (.putfield 46, 3) := by decide +kernel
theorem dX0_becomeLike_64 : decode cX0_becomeLike 64 = .ok (.aload_n 0, 1) := by decide +kernel
theorem dX0_becomeLike_65 : decode cX0_becomeLike 65 = .ok (.aload_n 1, 1) := by decide +kernel
theorem dX0_becomeLike_66 : decode cX0_becomeLike 66 = .ok (.getfield 49, 3) := by decide +kernel
theorem dX0_becomeLike_69 : decode cX0_becomeLike 69 = .ok (.putfield 49, 3) := by decide +kernel
theorem dX0_becomeLike_72 : decode cX0_becomeLike 72 = .ok (.return_, 1) := by decide +kernel
theorem dX0_member_0 : decode cX0_member 0 = .ok (.iload_n 1, 1) := by decide +kernel
theorem dX0_member_1 : decode cX0_member 1 = .ok (.ifCond .lt 26, 3) := by decide +kernel
theorem dX0_member_4 : decode cX0_member 4 = .ok (.iload_n 1, 1) := by decide +kernel
theorem dX0_member_5 : decode cX0_member 5 = .ok (.aload_n 0, 1) := by decide +kernel
theorem dX0_member_6 : decode cX0_member 6 = .ok (.getfield 39, 3) := by decide +kernel
theorem dX0_member_9 : decode cX0_member 9 = .ok (.if_icmp .ge 18, 3) := by decide +kernel
theorem dX0_member_12 : decode cX0_member 12 = .ok (.iload_n 1, 1) := by decide +kernel
theorem dX0_member_13 : decode cX0_member 13 = .ok (.bipush 8, 2) := by decide +kernel
theorem dX0_member_15 : decode cX0_member 15 = .ok (.if_icmp .ge 12, 3) := by decide +kernel
theorem dX0_member_18 : decode cX0_member 18 = .ok (.aload_n 0, 1) := by decide +kernel
theorem dX0_member_19 : decode cX0_member 19 = .ok (.getfield 27, 3) := by decide +kernel
theorem dX0_member_22 : decode cX0_member 22 = .ok (.iload_n 1, 1) := by decide +kernel
theorem dX0_member_23 : decode cX0_member 23 = .ok (.aaload, 1) := by decide +kernel
theorem dX0_member_24 : decode cX0_member 24 = .ok (.goto 4, 3) := by decide +kernel
theorem dX0_member_27 : decode cX0_member 27 = .ok (.aconst_null, 1) := by decide +kernel
theorem dX0_member_28 : decode cX0_member 28 = .ok (.areturn, 1) := by decide +kernel
set_option maxRecDepth 20000 in
theorem ggX0_welcome_X3_isOpen : GoodIn wsX0_welcome wsX3_isOpen := goodIn_r _ [8, 9, 31, 32, 33] (by decide +kernel) (by decide +kernel)
set_option maxRecDepth 20000 in
theorem gX0_welcome_X3_isOpen : GoodIn wsX0_welcome (wsV RX0 52 RX3 yX3_isOpen wsX3_isOpen) := goodIn_app (goodIn_of _ (by decide +kernel)) ggX0_welcome_X3_isOpen
set_option maxRecDepth 20000 in
theorem ggX0_welcome_X3_put : GoodIn wsX0_welcome wsX3_put := goodIn_r _ [13, 9, 14, 15, 31, 32, 33] (by decide +kernel) (by decide +kernel)
set_option maxRecDepth 20000 in
theorem gX0_welcome_X3_put : GoodIn wsX0_welcome (wsV RX0 56 RX3 yX3_put wsX3_put) := goodIn_app (goodIn_of _ (by decide +kernel)) ggX0_welcome_X3_put
theorem dX0_welcome_0 : decode cX0_welcome 0 = .ok (.aload_n 0, 1) := by decide +kernel
theorem dX0_welcome_1 : decode cX0_welcome 1 = .ok (.getfield 39, 3) := by decide +kernel
theorem dX0_welcome_4 : decode cX0_welcome 4 = .ok (.bipush 8, 2) := by decide +kernel
theorem dX0_welcome_6 : decode cX0_welcome 6 = .ok (.if_icmp .lt 5, 3) := by decide +kernel
theorem dX0_welcome_9 : decode cX0_welcome 9 = .ok (.iconst (-1), 1) := by decide +kernel
theorem dX0_welcome_10 : decode cX0_welcome 10 = .ok (.ireturn, 1) := by decide +kernel
theorem dX0_welcome_11 : decode cX0_welcome 11 = .ok (.aload_n 0, 1) := by decide +kernel
theorem dX0_welcome_12 : decode cX0_welcome 12 = .ok (.getfield 12, 3) := by decide +kernel
theorem dX0_welcome_15 : decode cX0_welcome 15 = .ok (.iload_n 1, 1) := by decide +kernel
theorem dX0_welcome_16 : decode cX0_welcome 16 = .ok (.invokevirtual 52, 3) := by decide +kernel
theorem dX0_welcome_19 : decode cX0_welcome 19 = .ok (.ifCond .ne 12, 3) := by decide +kernel
theorem dX0_welcome_22 : decode cX0_welcome 22 = .ok (.aload_n 0, 1) := by decide +kernel
theorem dX0_welcome_23 : decode cX0_welcome 23 = .ok (.getfield 12, 3) := by decide +kernel
theorem dX0_welcome_26 : decode cX0_welcome 26 = .ok (.iload_n 1, 1) := by decide +kernel
theorem dX0_welcome_27 : decode cX0_welcome 27 = .ok (.iconst 0, 1) := by decide +kernel
theorem dX0_welcome_28 : decode cX0_welcome 28 = .ok (.invokevirtual 56, 3) := by decide +kernel
theorem dX0_welcome_31 : decode cX0_welcome 31 = .ok (.aload_n 0, 1) := by decide +kernel
theorem dX0_welcome_32 : decode cX0_welcome 32 = .ok (.getfield 27, 3) := by decide +kernel
theorem dX0_welcome_35 : decode cX0_welcome 35 = .ok (.aload_n 0, 1) := by decide +kernel
theorem dX0_welcome_36 : decode cX0_welcome 36 = .ok (.getfield 39, 3) := by decide +kernel
theorem dX0_welcome_39 : decode cX0_welcome 39 = .ok (.aaload, 1) := by decide +kernel
theorem dX0_welcome_40 : decode cX0_welcome 40 = .ok (.astore 4, 2) := by decide +kernel
theorem dX0_welcome_42 : decode cX0_welcome 42 = .ok (.aload 4, 2) := by decide +kernel
theorem dX0_welcome_44 : decode cX0_welcome 44 = .ok (.iload_n 1, 1) := by decide +kernel
theorem dX0_welcome_45 : decode cX0_welcome 45 = .ok (.putfield 60, 3) := by decide +kernel
theorem dX0_welcome_48 : decode cX0_welcome 48 = .ok (.aload 4, 2) := by decide +kernel
theorem dX0_welcome_50 : decode cX0_welcome 50 = .ok (.iload_n 2, 1) := by decide +kernel
theorem dX0_welcome_51 : decode cX0_welcome 51 = .ok (.putfield 63, 3) := by decide +kernel
theorem dX0_welcome_54 : decode cX0_welcome 54 = .ok (.aload 4, 2) := by decide +kernel
theorem dX0_welcome_56 : decode cX0_welcome 56 = .ok (.iload_n 3, 1) := by decide +kernel
theorem dX0_welcome_57 : decode cX0_welcome 57 = .ok (.putfield 66, 3) := by decide +kernel
theorem dX0_welcome_60 : decode cX0_welcome 60 = .ok (.aload_n 0, 1) := by decide +kernel
theorem dX0_welcome_61 : decode cX0_welcome 61 = .ok (.dup, 1) := by decide +kernel
theorem dX0_welcome_62 : decode cX0_welcome 62 = .ok (.getfield 39, 3) := by decide +kernel
theorem dX0_welcome_65 : decode cX0_welcome 65 = .ok (.iconst 1, 1) := by decide +kernel
theorem dX0_welcome_66 : decode cX0_welcome 66 = .ok (.iadd, 1) := by decide +kernel
theorem dX0_welcome_67 : decode cX0_welcome 67 = .ok (.putfield 39, 3) := by decide +kernel
theorem dX0_welcome_70 : decode cX0_welcome 70 = .ok (.aload_n 0, 1) := by decide +kernel
theorem dX0_welcome_71 : decode cX0_welcome 71 = .ok (.getfield 39, 3) := by decide +kernel
theorem dX0_welcome_74 : decode cX0_welcome 74 = .ok (.iconst 1, 1) := by decide +kernel
theorem dX0_welcome_75 : decode cX0_welcome 75 = .ok (.isub, 1) := by decide +kernel
theorem dX0_welcome_76 : decode cX0_welcome 76 = .ok (.ireturn, 1) := by decide +kernel
set_option maxRecDepth 20000 in
theorem ggX0_tick_X4_burnOil : GoodIn wsX0_tick wsX4_burnOil := goodIn_r _ [8, 9, 10, 138, 139, 140, 141, 142, 143, 144, 145] (by decide +kernel) (by decide +kernel)
set_option maxRecDepth 20000 in
theorem gX0_tick_X4_burnOil : GoodIn wsX0_tick (wsV RX0 73 RX4 yX4_burnOil wsX4_burnOil) := goodIn_app (goodIn_of _ (by decide +kernel)) ggX0_tick_X4_burnOil
set_option maxRecDepth 20000 in
theorem ggX0_tick_X0_act : GoodIn wsX0_tick wsX0_act := goodIn_r _ [15, 16, 17, 18, 7, 19, 20, 21, 22, 23, 24, 14, 25, 26, 27, 28, 29, 30, 31, 32, 33, 34, 35, 36, 37, 38, 39, 40, 1, 2, 41, 42, 43, 44, 45, 46, 47, 48, 49, 50, 51, 52, 53, 54, 55, 56, 57, 58, 59, 60, 61, 62, 63, 64, 65, 66, 67, 68, 69, 70, 71, 72, 73, 74, 75, 76, 77, 78, 79, 80, 81, 82, 83, 84, 85, 86, 87, 88, 89, 90, 91, 92, 93, 94, 95, 96, 97, 98, 99, 100, 101, 102, 103, 104, 105, 106, 107, 108, 109, 110, 111, 112, 113, 138, 139, 140, 141, 142, 143, 144, 145, 131, 132, 133, 134, 135, 136, 137, 146, 147, 148, 149, 150, 151, 152] (by decide +kernel) (by decide +kernel)
set_option maxRecDepth 20000 in
theorem gX0_tick_X0_act : GoodIn wsX0_tick (wsV RX0 76 RX0 yX0_act wsX0_act) := goodIn_app (goodIn_of _ (by decide +kernel)) ggX0_tick_X0_act
set_option maxRecDepth 20000 in
theorem ggX0_tick_X0_lowerRoofs : GoodIn wsX0_tick wsX0_lowerRoofs := goodIn_r _ [117, 26, 27, 118, 119, 120, 121, 34, 122, 36, 75, 123, 124, 125, 14, 126, 41, 42, 43, 44, 45, 46, 47, 48, 49, 85, 86, 87, 88, 76, 50, 51, 52, 53, 54, 55, 56, 57, 58, 59, 60, 61, 28, 29, 30, 62, 63, 64, 65, 66, 127, 128, 129, 130, 67, 68, 69, 70, 71, 72, 73, 74, 77, 78, 79, 80, 1, 2, 131, 132, 133, 134, 135, 136, 137, 146, 147, 148, 149, 150, 151, 152, 138, 139, 140, 141, 142, 143, 144, 145] (by decide +kernel) (by decide +kernel)
set_option maxRecDepth 20000 in
theorem gX0_tick_X0_lowerRoofs : GoodIn wsX0_tick (wsV RX0 79 RX0 yX0_lowerRoofs wsX0_lowerRoofs) := goodIn_app (goodIn_of _ (by decide +kernel)) ggX0_tick_X0_lowerRoofs
theorem dX0_tick_0 : decode cX0_tick 0 = .ok (.iconst 0, 1) := by decide +kernel
theorem dX0_tick_1 : decode cX0_tick 1 = .ok (.istore_n 1, 1) := by decide +kernel
theorem dX0_tick_2 : decode cX0_tick 2 = .ok (.iload_n 1, 1) := by decide +kernel
theorem dX0_tick_3 : decode cX0_tick 3 = .ok (.aload_n 0, 1) := by decide +kernel
theorem dX0_tick_4 : decode cX0_tick 4 = .ok (.getfield 39, 3) := by decide +kernel
theorem dX0_tick_7 : decode cX0_tick 7 = .ok (.if_icmp .ge 36, 3) := by decide +kernel
theorem dX0_tick_10 : decode cX0_tick 10 = .ok (.iload_n 1, 1) := by decide +kernel
theorem dX0_tick_11 : decode cX0_tick 11 = .ok (.bipush 8, 2) := by decide +kernel
theorem dX0_tick_13 : decode cX0_tick 13 = .ok (.if_icmp .ge 30, 3) := by decide +kernel
theorem dX0_tick_16 : decode cX0_tick 16 = .ok (.aload_n 0, 1) := by decide +kernel
theorem dX0_tick_17 : decode cX0_tick 17 = .ok (.getfield 27, 3) := by decide +kernel
theorem dX0_tick_20 : decode cX0_tick 20 = .ok (.iload_n 1, 1) := by decide +kernel
theorem dX0_tick_21 : decode cX0_tick 21 = .ok (.aaload, 1) := by decide +kernel
theorem dX0_tick_22 : decode cX0_tick 22 = .ok (.getfield 69, 3) := by decide +kernel
theorem dX0_tick_25 : decode cX0_tick 25 = .ok (.ifCond .ne 12, 3) := by decide +kernel
theorem dX0_tick_28 : decode cX0_tick 28 = .ok (.aload_n 0, 1) := by decide +kernel
theorem dX0_tick_29 : decode cX0_tick 29 = .ok (.getfield 27, 3) := by decide +kernel
theorem dX0_tick_32 : decode cX0_tick 32 = .ok (.iload_n 1, 1) := by decide +kernel
theorem dX0_tick_33 : decode cX0_tick 33 = .ok (.aaload, 1) := by decide +kernel
theorem dX0_tick_34 : decode cX0_tick 34 = .ok (.invokevirtual 73, 3) := by decide +kernel
theorem dX0_tick_37 : decode cX0_tick 37 = .ok (.iinc 1 1, 3) := by decide +kernel
theorem dX0_tick_40 : decode cX0_tick 40 = .ok (.goto (-38), 3) := by decide +kernel
theorem dX0_tick_43 : decode cX0_tick 43 = .ok (.iconst 0, 1) := by decide +kernel
theorem dX0_tick_44 : decode cX0_tick 44 = .ok (.istore_n 1, 1) := by decide +kernel
theorem dX0_tick_45 : decode cX0_tick 45 = .ok (.iload_n 1, 1) := by decide +kernel
theorem dX0_tick_46 : decode cX0_tick 46 = .ok (.aload_n 0, 1) := by decide +kernel
theorem dX0_tick_47 : decode cX0_tick 47 = .ok (.getfield 39, 3) := by decide +kernel
theorem dX0_tick_50 : decode cX0_tick 50 = .ok (.if_icmp .ge 37, 3) := by decide +kernel
theorem dX0_tick_53 : decode cX0_tick 53 = .ok (.iload_n 1, 1) := by decide +kernel
theorem dX0_tick_54 : decode cX0_tick 54 = .ok (.bipush 8, 2) := by decide +kernel
theorem dX0_tick_56 : decode cX0_tick 56 = .ok (.if_icmp .ge 31, 3) := by decide +kernel
theorem dX0_tick_59 : decode cX0_tick 59 = .ok (.aload_n 0, 1) := by decide +kernel
theorem dX0_tick_60 : decode cX0_tick 60 = .ok (.getfield 27, 3) := by decide +kernel
theorem dX0_tick_63 : decode cX0_tick 63 = .ok (.iload_n 1, 1) := by decide +kernel
theorem dX0_tick_64 : decode cX0_tick 64 = .ok (.aaload, 1) := by decide +kernel
theorem dX0_tick_65 : decode cX0_tick 65 = .ok (.getfield 69, 3) := by decide +kernel
theorem dX0_tick_68 : decode cX0_tick 68 = .ok (.ifCond .ne 13, 3) := by decide +kernel
theorem dX0_tick_71 : decode cX0_tick 71 = .ok (.aload_n 0, 1) := by decide +kernel
theorem dX0_tick_72 : decode cX0_tick 72 = .ok (.aload_n 0, 1) := by decide +kernel
theorem dX0_tick_73 : decode cX0_tick 73 = .ok (.getfield 27, 3) := by decide +kernel
theorem dX0_tick_76 : decode cX0_tick 76 = .ok (.iload_n 1, 1) := by decide +kernel
theorem dX0_tick_77 : decode cX0_tick 77 = .ok (.aaload, 1) := by decide +kernel
theorem dX0_tick_78 : decode cX0_tick 78 = .ok (.invokevirtual 76, 3) := by decide +kernel
theorem dX0_tick_81 : decode cX0_tick 81 = .ok (.iinc 1 1, 3) := by decide +kernel
theorem dX0_tick_84 : decode cX0_tick 84 = .ok (.goto (-39), 3) := by decide +kernel
theorem dX0_tick_87 : decode cX0_tick 87 = .ok (.aload_n 0, 1) := by decide +kernel
theorem dX0_tick_88 : decode cX0_tick 88 = .ok (.invokevirtual 79, 3) := by decide +kernel
theorem dX0_tick_91 : decode cX0_tick 91 = .ok (.aload_n 0, 1) := by decide +kernel
theorem dX0_tick_92 : decode cX0_tick 92 = .ok (.dup, 1) := by decide +kernel
theorem dX0_tick_93 : decode cX0_tick 93 = .ok (.getfield 43, 3) := by decide +kernel
theorem dX0_tick_96 : decode cX0_tick 96 = .ok (.iconst 1, 1) := by decide +kernel
theorem dX0_tick_97 : decode cX0_tick 97 = .ok (.iadd, 1) := by decide +kernel
theorem dX0_tick_98 : decode cX0_tick 98 = .ok (.putfield 43, 3) := by decide +kernel
theorem dX0_tick_101 : decode cX0_tick 101 = .ok (.return_, 1) := by decide +kernel
set_option maxRecDepth 20000 in
theorem ggX0_act_X4_firstOrder : GoodIn wsX0_act wsX4_firstOrder := goodIn_r _ [5, 6, 7, 103, 104, 105, 106, 107, 108, 109, 110] (by decide +kernel) (by decide +kernel)
set_option maxRecDepth 20000 in
theorem gX0_act_X4_firstOrder : GoodIn wsX0_act (wsV RX0 82 RX4 yX4_firstOrder wsX4_firstOrder) := goodIn_app (goodIn_of _ (by decide +kernel)) ggX0_act_X4_firstOrder
set_option maxRecDepth 20000 in
theorem ggX0_act_X0_step : GoodIn wsX0_act wsX0_step := goodIn_r _ [12, 13, 14, 15, 16, 17, 18, 19, 20, 21, 22, 23, 24, 25, 26, 11, 27, 28, 29, 30, 31, 32, 33, 34, 35, 36, 37, 38, 39, 40, 41, 42, 43, 44, 45, 46, 47, 48, 49, 50, 51, 52, 53, 54, 55, 56, 57, 58, 59, 60, 61, 62, 63, 64, 65, 66, 67, 68, 69, 103, 104, 105, 106, 107, 108, 109, 110, 111, 112, 113, 114, 115, 116, 117, 118, 119, 120, 121, 122, 123, 124] (by decide +kernel) (by decide +kernel)
set_option maxRecDepth 20000 in
theorem gX0_act_X0_step : GoodIn wsX0_act (wsV RX0 86 RX0 yX0_step wsX0_step) := goodIn_app (goodIn_of _ (by decide +kernel)) ggX0_act_X0_step
set_option maxRecDepth 20000 in
theorem ggX0_act_X0_shore : GoodIn wsX0_act wsX0_shore := goodIn_r _ [73, 13, 74, 75, 76, 21, 77, 65, 78, 79, 80, 81, 82, 52, 53, 54, 23, 103, 104, 105, 106, 107, 108, 109, 110, 111, 112, 113, 114, 115, 116, 117, 118, 119, 120] (by decide +kernel) (by decide +kernel)
set_option maxRecDepth 20000 in
theorem gX0_act_X0_shore : GoodIn wsX0_act (wsV RX0 90 RX0 yX0_shore wsX0_shore) := goodIn_app (goodIn_of _ (by decide +kernel)) ggX0_act_X0_shore
set_option maxRecDepth 20000 in
theorem ggX0_act_X0_trade : GoodIn wsX0_act wsX0_trade := goodIn_r _ [86, 87, 88, 89, 11, 90, 28, 29, 91, 16, 92, 93, 15, 17, 94, 95, 96, 97, 98, 103, 104, 105, 106, 107, 108, 109, 110, 111, 112, 113, 114, 115, 116, 117] (by decide +kernel) (by decide +kernel)
set_option maxRecDepth 20000 in
theorem gX0_act_X0_trade : GoodIn wsX0_act (wsV RX0 93 RX0 yX0_trade wsX0_trade) := goodIn_app (goodIn_of _ (by decide +kernel)) ggX0_act_X0_trade
set_option maxRecDepth 20000 in
theorem ggX0_act_X4_dropFirstOrder : GoodIn wsX0_act wsX4_dropFirstOrder := goodIn_r _ [102, 6, 7, 103, 104, 105, 106, 107, 108, 109, 110] (by decide +kernel) (by decide +kernel)
set_option maxRecDepth 20000 in
theorem gX0_act_X4_dropFirstOrder : GoodIn wsX0_act (wsV RX0 97 RX4 yX4_dropFirstOrder wsX4_dropFirstOrder) := goodIn_app (goodIn_of _ (by decide +kernel)) ggX0_act_X4_dropFirstOrder
theorem dX0_act_0 : decode cX0_act 0 = .ok (.aload_n 1, 1) := by decide +kernel
theorem dX0_act_1 : decode cX0_act 1 = .ok (.invokevirtual 82, 3) := by decide +kernel
theorem dX0_act_4 : decode cX0_act 4 = .ok (.istore_n 2, 1) := by decide +kernel
theorem dX0_act_5 : decode cX0_act 5 = .ok (.iconst 1, 1) := by decide +kernel
theorem dX0_act_6 : decode cX0_act 6 = .ok (.istore_n 3, 1) := by decide +kernel
theorem dX0_act_7 : decode cX0_act 7 = .ok (.iload_n 2, 1) := by decide +kernel
theorem dX0_act_8 : decode cX0_act 8 = .ok (.ifCond .lt 18, 3) := by decide +kernel
theorem dX0_act_11 : decode cX0_act 11 = .ok (.iload_n 2, 1) := by decide +kernel
theorem dX0_act_12 : decode cX0_act 12 = .ok (.iconst 4, 1) := by decide +kernel
theorem dX0_act_13 : decode cX0_act 13 = .ok (.if_icmp .ge 13, 3) := by decide +kernel
theorem dX0_act_16 : decode cX0_act 16 = .ok (.aload_n 0, 1) := by decide +kernel
theorem dX0_act_17 : decode cX0_act 17 = .ok (.aload_n 1, 1) := by decide +kernel
theorem dX0_act_18 : decode cX0_act 18 = .ok (.iload_n 2, 1) := by decide +kernel
theorem dX0_act_19 : decode cX0_act 19 = .ok (.invokevirtual 86, 3) := by decide +kernel
theorem dX0_act_22 : decode cX0_act 22 = .ok (.istore_n 3, 1) := by decide +kernel
theorem dX0_act_23 : decode cX0_act 23 = .ok (.goto 28, 3) := by decide +kernel
theorem dX0_act_26 : decode cX0_act 26 = .ok (.iload_n 2, 1) := by decide +kernel
theorem dX0_act_27 : decode cX0_act 27 = .ok (.iconst 4, 1) := by decide +kernel
theorem dX0_act_28 : decode cX0_act 28 = .ok (.if_icmp .ne 11, 3) := by decide +kernel
theorem dX0_act_31 : decode cX0_act 31 = .ok (.aload_n 0, 1) := by decide +kernel
theorem dX0_act_32 : decode cX0_act 32 = .ok (.aload_n 1, 1) := by decide +kernel
theorem dX0_act_33 : decode cX0_act 33 = .ok (.invokevirtual 90, 3) := by decide +kernel
theorem dX0_act_36 : decode cX0_act 36 = .ok (.goto 15, 3) := by decide +kernel
theorem dX0_act_39 : decode cX0_act 39 = .ok (.iload_n 2, 1) := by decide +kernel
theorem dX0_act_40 : decode cX0_act 40 = .ok (.bipush 6, 2) := by decide +kernel
theorem dX0_act_42 : decode cX0_act 42 = .ok (.if_icmp .ne 9, 3) := by decide +kernel
theorem dX0_act_45 : decode cX0_act 45 = .ok (.aload_n 0, 1) := by decide +kernel
theorem dX0_act_46 : decode cX0_act 46 = .ok (.aload_n 1, 1) := by decide +kernel
theorem dX0_act_47 : decode cX0_act 47 = .ok (.invokevirtual 93, 3) := by decide +kernel
theorem dX0_act_50 : decode cX0_act 50 = .ok (.istore_n 3, 1) := by decide +kernel
theorem dX0_act_51 : decode cX0_act 51 = .ok (.iload_n 3, 1) := by decide +kernel
theorem dX0_act_52 : decode cX0_act 52 = .ok (.ifCond .eq 7, 3) := by decide +kernel
theorem dX0_act_55 : decode cX0_act 55 = .ok (.aload_n 1, 1) := by decide +kernel
theorem dX0_act_56 : decode cX0_act 56 = .ok (.invokevirtual 97, 3) := by decide +kernel
theorem dX0_act_59 : decode cX0_act 59 = .ok (.return_, 1) := by decide +kernel
set_option maxRecDepth 20000 in
theorem ggX0_step_X5_beside : GoodIn wsX0_step wsX5_beside := goodIn_r _ [5] (by decide +kernel) (by decide +kernel)
set_option maxRecDepth 20000 in
theorem gX0_step_X5_beside_n100 : GoodIn wsX0_step (wsX5_beside) := ggX0_step_X5_beside
set_option maxRecDepth 20000 in
theorem ggX0_step_X3_sortAt : GoodIn wsX0_step wsX3_sortAt := goodIn_r _ [10, 11, 74, 75, 76] (by decide +kernel) (by decide +kernel)
set_option maxRecDepth 20000 in
theorem gX0_step_X3_sortAt : GoodIn wsX0_step (wsV RX0 104 RX3 yX3_sortAt wsX3_sortAt) := goodIn_app (goodIn_of _ (by decide +kernel)) ggX0_step_X3_sortAt
set_option maxRecDepth 20000 in
theorem ggX0_step_X0_findLight : GoodIn wsX0_step wsX0_findLight := goodIn_r _ [16, 2, 17, 18, 1, 19, 20, 21, 22, 23, 24, 25, 26, 27, 28, 29, 30, 31, 32, 33, 34, 35, 36, 37, 38, 39, 3, 4, 5, 40, 41, 42, 9, 43, 11, 44, 67, 68, 69, 70, 71, 72, 73, 59, 60, 61, 62, 63, 64, 65, 66, 77, 78, 79, 80, 74, 75, 76] (by decide +kernel) (by decide +kernel)
set_option maxRecDepth 20000 in
theorem gX0_step_X0_findLight : GoodIn wsX0_step (wsV RX0 108 RX0 yX0_findLight wsX0_findLight) := goodIn_app (goodIn_of _ (by decide +kernel)) ggX0_step_X0_findLight
set_option maxRecDepth 20000 in
theorem ggX0_step_X1_holds : GoodIn wsX0_step wsX1_holds := goodIn_r _ [48, 36, 37, 38, 22, 39, 26, 77, 78, 79, 80] (by decide +kernel) (by decide +kernel)
set_option maxRecDepth 20000 in
theorem gX0_step_X1_holds : GoodIn wsX0_step (wsV RX0 111 RX1 yX1_holds wsX1_holds) := goodIn_app (goodIn_of _ (by decide +kernel)) ggX0_step_X1_holds
set_option maxRecDepth 20000 in
theorem ggX0_step_X3_put : GoodIn wsX0_step wsX3_put := goodIn_r _ [52, 11, 53, 54, 74, 75, 76] (by decide +kernel) (by decide +kernel)
set_option maxRecDepth 20000 in
theorem gX0_step_X3_put : GoodIn wsX0_step (wsV RX0 56 RX3 yX3_put wsX3_put) := goodIn_app (goodIn_of _ (by decide +kernel)) ggX0_step_X3_put
set_option maxRecDepth 20000 in
theorem ggX0_step_X0_setBuriedAt : GoodIn wsX0_step wsX0_setBuriedAt := goodIn_r _ [58, 17, 18, 67, 68, 69, 70, 71, 72, 73, 59, 60, 61, 62, 63, 64, 65, 66] (by decide +kernel) (by decide +kernel)
set_option maxRecDepth 20000 in
theorem gX0_step_X0_setBuriedAt : GoodIn wsX0_step (wsV RX0 117 RX0 yX0_setBuriedAt wsX0_setBuriedAt) := goodIn_app (goodIn_of _ (by decide +kernel)) ggX0_step_X0_setBuriedAt
theorem dX0_step_0 : decode cX0_step 0 = .ok (.aload_n 1, 1) := by decide +kernel
theorem dX0_step_1 : decode cX0_step 1 = .ok (.getfield 60, 3) := by decide +kernel
theorem dX0_step_4 : decode cX0_step 4 = .ok (.iload_n 2, 1) := by decide +kernel
theorem dX0_step_5 : decode cX0_step 5 = .ok (.invokestatic 100, 3) := by decide +kernel
theorem dX0_step_8 : decode cX0_step 8 = .ok (.istore_n 3, 1) := by decide +kernel
theorem dX0_step_9 : decode cX0_step 9 = .ok (.aload_n 0, 1) := by decide +kernel
theorem dX0_step_10 : decode cX0_step 10 = .ok (.getfield 12, 3) := by decide +kernel
theorem dX0_step_13 : decode cX0_step 13 = .ok (.iload_n 3, 1) := by decide +kernel
theorem dX0_step_14 : decode cX0_step 14 = .ok (.invokevirtual 104, 3) := by decide +kernel
theorem dX0_step_17 : decode cX0_step 17 = .ok (.istore 4, 2) := by decide +kernel
theorem dX0_step_19 : decode cX0_step 19 = .ok (.iload 4, 2) := by decide +kernel
theorem dX0_step_21 : decode cX0_step 21 = .ok (.bipush 10, 2) := by decide +kernel
theorem dX0_step_23 : decode cX0_step 23 = .ok (.if_icmp .ne 5, 3) := by decide +kernel
theorem dX0_step_26 : decode cX0_step 26 = .ok (.iconst 1, 1) := by decide +kernel
theorem dX0_step_27 : decode cX0_step 27 = .ok (.ireturn, 1) := by decide +kernel
theorem dX0_step_28 : decode cX0_step 28 = .ok (.iload 4, 2) := by decide +kernel
theorem dX0_step_30 : decode cX0_step 30 = .ok (.ifCond .le 59, 3) := by decide +kernel
theorem dX0_step_33 : decode cX0_step 33 = .ok (.aload_n 0, 1) := by decide +kernel
theorem dX0_step_34 : decode cX0_step 34 = .ok (.invokevirtual 108, 3) := by decide +kernel
theorem dX0_step_37 : decode cX0_step 37 = .ok (.aload_n 0, 1) := by decide +kernel
theorem dX0_step_38 : decode cX0_step 38 = .ok (.getfield 21, 3) := by decide +kernel
theorem dX0_step_41 : decode cX0_step 41 = .ok (.aload_n 1, 1) := by decide +kernel
theorem dX0_step_42 : decode cX0_step 42 = .ok (.getfield 60, 3) := by decide +kernel
theorem dX0_step_45 : decode cX0_step 45 = .ok (.invokevirtual 111, 3) := by decide +kernel
theorem dX0_step_48 : decode cX0_step 48 = .ok (.ifCond .ne 5, 3) := by decide +kernel
theorem dX0_step_51 : decode cX0_step 51 = .ok (.iconst 0, 1) := by decide +kernel
theorem dX0_step_52 : decode cX0_step 52 = .ok (.ireturn, 1) := by decide +kernel
theorem dX0_step_53 : decode cX0_step 53 = .ok (.aload_n 0, 1) := by decide +kernel
theorem dX0_step_54 : decode cX0_step 54 = .ok (.getfield 12, 3) := by decide +kernel
theorem dX0_step_57 : decode cX0_step 57 = .ok (.iload_n 3, 1) := by decide +kernel
theorem dX0_step_58 : decode cX0_step 58 = .ok (.iload 4, 2) := by decide +kernel
theorem dX0_step_60 : decode cX0_step 60 = .ok (.iconst 1, 1) := by decide +kernel
theorem dX0_step_61 : decode cX0_step 61 = .ok (.isub, 1) := by decide +kernel
theorem dX0_step_62 : decode cX0_step 62 = .ok (.invokevirtual 56, 3) := by decide +kernel
theorem dX0_step_65 : decode cX0_step 65 = .ok (.iload 4, 2) := by decide +kernel
theorem dX0_step_67 : decode cX0_step 67 = .ok (.iconst 1, 1) := by decide +kernel
theorem dX0_step_68 : decode cX0_step 68 = .ok (.if_icmp .le 5, 3) := by decide +kernel
theorem dX0_step_71 : decode cX0_step 71 = .ok (.iconst 0, 1) := by decide +kernel
theorem dX0_step_72 : decode cX0_step 72 = .ok (.ireturn, 1) := by decide +kernel
theorem dX0_step_73 : decode cX0_step 73 = .ok (.aload_n 1, 1) := by decide +kernel
theorem dX0_step_74 : decode cX0_step 74 = .ok (.dup, 1) := by decide +kernel
theorem dX0_step_75 : decode cX0_step 75 = .ok (.getfield 114, 3) := by decide +kernel
theorem dX0_step_78 : decode cX0_step 78 = .ok (.iconst 1, 1) := by decide +kernel
theorem dX0_step_79 : decode cX0_step 79 = .ok (.iadd, 1) := by decide +kernel
theorem dX0_step_80 : decode cX0_step 80 = .ok (.putfield 114, 3) := by decide +kernel
theorem dX0_step_83 : decode cX0_step 83 = .ok (.aload_n 0, 1) := by decide +kernel
theorem dX0_step_84 : decode cX0_step 84 = .ok (.iload_n 3, 1) := by decide +kernel
theorem dX0_step_85 : decode cX0_step 85 = .ok (.iconst 0, 1) := by decide +kernel
theorem dX0_step_86 : decode cX0_step 86 = .ok (.invokevirtual 117, 3) := by decide +kernel
theorem dX0_step_89 : decode cX0_step 89 = .ok (.aload_n 1, 1) := by decide +kernel
theorem dX0_step_90 : decode cX0_step 90 = .ok (.iload_n 3, 1) := by decide +kernel
theorem dX0_step_91 : decode cX0_step 91 = .ok (.putfield 60, 3) := by decide +kernel
theorem dX0_step_94 : decode cX0_step 94 = .ok (.iconst 1, 1) := by decide +kernel
theorem dX0_step_95 : decode cX0_step 95 = .ok (.ireturn, 1) := by decide +kernel
set_option maxRecDepth 20000 in
theorem ggX0_shore_X3_postsAt : GoodIn wsX0_shore wsX3_postsAt := goodIn_r _ [6, 7, 32, 33, 34] (by decide +kernel) (by decide +kernel)
set_option maxRecDepth 20000 in
theorem gX0_shore_X3_postsAt : GoodIn wsX0_shore (wsV RX0 121 RX3 yX3_postsAt wsX3_postsAt) := goodIn_app (goodIn_of _ (by decide +kernel)) ggX0_shore_X3_postsAt
set_option maxRecDepth 20000 in
theorem ggX0_shore_X3_setPost : GoodIn wsX0_shore wsX3_setPost := goodIn_r _ [11, 7, 12, 13, 14, 5, 15, 16, 32, 33, 34] (by decide +kernel) (by decide +kernel)
set_option maxRecDepth 20000 in
theorem gX0_shore_X3_setPost : GoodIn wsX0_shore (wsV RX0 124 RX3 yX3_setPost wsX3_setPost) := goodIn_app (goodIn_of _ (by decide +kernel)) ggX0_shore_X3_setPost
theorem dX0_shore_0 : decode cX0_shore 0 = .ok (.aload_n 1, 1) := by decide +kernel
theorem dX0_shore_1 : decode cX0_shore 1 = .ok (.getfield 63, 3) := by decide +kernel
theorem dX0_shore_4 : decode cX0_shore 4 = .ok (.ifCond .le 38, 3) := by decide +kernel
theorem dX0_shore_7 : decode cX0_shore 7 = .ok (.aload_n 0, 1) := by decide +kernel
theorem dX0_shore_8 : decode cX0_shore 8 = .ok (.getfield 12, 3) := by decide +kernel
theorem dX0_shore_11 : decode cX0_shore 11 = .ok (.aload_n 1, 1) := by decide +kernel
theorem dX0_shore_12 : decode cX0_shore 12 = .ok (.getfield 60, 3) := by decide +kernel
theorem dX0_shore_15 : decode cX0_shore 15 = .ok (.invokevirtual 121, 3) := by decide +kernel
theorem dX0_shore_18 : decode cX0_shore 18 = .ok (.ifCond .ne 24, 3) := by decide +kernel
theorem dX0_shore_21 : decode cX0_shore 21 = .ok (.aload_n 1, 1) := by decide +kernel
theorem dX0_shore_22 : decode cX0_shore 22 = .ok (.dup, 1) := by decide +kernel
theorem dX0_shore_23 : decode cX0_shore 23 = .ok (.getfield 63, 3) := by decide +kernel
theorem dX0_shore_26 : decode cX0_shore 26 = .ok (.iconst 1, 1) := by decide +kernel
theorem dX0_shore_27 : decode cX0_shore 27 = .ok (.isub, 1) := by decide +kernel
theorem dX0_shore_28 : decode cX0_shore 28 = .ok (.putfield 63, 3) := by decide +kernel
theorem dX0_shore_31 : decode cX0_shore 31 = .ok (.aload_n 0, 1) := by decide +kernel
theorem dX0_shore_32 : decode cX0_shore 32 = .ok (.getfield 12, 3) := by decide +kernel
theorem dX0_shore_35 : decode cX0_shore 35 = .ok (.aload_n 1, 1) := by decide +kernel
theorem dX0_shore_36 : decode cX0_shore 36 = .ok (.getfield 60, 3) := by decide +kernel
theorem dX0_shore_39 : decode cX0_shore 39 = .ok (.invokevirtual 124, 3) := by decide +kernel
theorem dX0_shore_42 : decode cX0_shore 42 = .ok (.return_, 1) := by decide +kernel
set_option maxRecDepth 20000 in
theorem ggX0_trade_X0_partnerOf : GoodIn wsX0_trade wsX0_partnerOf := goodIn_r _ [5, 6, 7, 8, 9, 10, 11, 12, 13, 27, 28, 29, 30, 31, 32, 33, 19, 20, 21, 22, 23, 24, 25, 26] (by decide +kernel) (by decide +kernel)
set_option maxRecDepth 20000 in
theorem gX0_trade_X0_partnerOf : GoodIn wsX0_trade (wsV RX0 128 RX0 yX0_partnerOf wsX0_partnerOf) := goodIn_app (goodIn_of _ (by decide +kernel)) ggX0_trade_X0_partnerOf
set_option maxRecDepth 20000 in
theorem ggX0_trade_X0_handLamp : GoodIn wsX0_trade wsX0_handLamp := goodIn_r _ [17, 18, 19, 20, 21, 22, 23, 24, 25, 26, 27, 28, 29, 30, 31, 32, 33] (by decide +kernel) (by decide +kernel)
set_option maxRecDepth 20000 in
theorem gX0_trade_X0_handLamp : GoodIn wsX0_trade (wsV RX0 132 RX0 yX0_handLamp wsX0_handLamp) := goodIn_app (goodIn_of _ (by decide +kernel)) ggX0_trade_X0_handLamp
theorem dX0_trade_0 : decode cX0_trade 0 = .ok (.aload_n 0, 1) := by decide +kernel
theorem dX0_trade_1 : decode cX0_trade 1 = .ok (.aload_n 1, 1) := by decide +kernel
theorem dX0_trade_2 : decode cX0_trade 2 = .ok (.invokevirtual 128, 3) := by decide +kernel
theorem dX0_trade_5 : decode cX0_trade 5 = .ok (.astore_n 2, 1) := by decide +kernel
theorem dX0_trade_6 : decode cX0_trade 6 = .ok (.aload_n 2, 1) := by decide +kernel
theorem dX0_trade_7 : decode cX0_trade 7 = .ok (.ifnonnull 5, 3) := by decide +kernel
theorem dX0_trade_10 : decode cX0_trade 10 = .ok (.iconst 0, 1) := by decide +kernel
theorem dX0_trade_11 : decode cX0_trade 11 = .ok (.ireturn, 1) := by decide +kernel
theorem dX0_trade_12 : decode cX0_trade 12 = .ok (.aload_n 1, 1) := by decide +kernel
theorem dX0_trade_13 : decode cX0_trade 13 = .ok (.getfield 66, 3) := by decide +kernel
theorem dX0_trade_16 : decode cX0_trade 16 = .ok (.aload_n 2, 1) := by decide +kernel
theorem dX0_trade_17 : decode cX0_trade 17 = .ok (.getfield 66, 3) := by decide +kernel
theorem dX0_trade_20 : decode cX0_trade 20 = .ok (.iconst 2, 1) := by decide +kernel
theorem dX0_trade_21 : decode cX0_trade 21 = .ok (.iadd, 1) := by decide +kernel
theorem dX0_trade_22 : decode cX0_trade 22 = .ok (.if_icmp .lt 12, 3) := by decide +kernel
theorem dX0_trade_25 : decode cX0_trade 25 = .ok (.aload_n 0, 1) := by decide +kernel
theorem dX0_trade_26 : decode cX0_trade 26 = .ok (.aload_n 1, 1) := by decide +kernel
theorem dX0_trade_27 : decode cX0_trade 27 = .ok (.aload_n 2, 1) := by decide +kernel
theorem dX0_trade_28 : decode cX0_trade 28 = .ok (.invokevirtual 132, 3) := by decide +kernel
theorem dX0_trade_31 : decode cX0_trade 31 = .ok (.goto 22, 3) := by decide +kernel
theorem dX0_trade_34 : decode cX0_trade 34 = .ok (.aload_n 2, 1) := by decide +kernel
theorem dX0_trade_35 : decode cX0_trade 35 = .ok (.getfield 66, 3) := by decide +kernel
theorem dX0_trade_38 : decode cX0_trade 38 = .ok (.aload_n 1, 1) := by decide +kernel
theorem dX0_trade_39 : decode cX0_trade 39 = .ok (.getfield 66, 3) := by decide +kernel
theorem dX0_trade_42 : decode cX0_trade 42 = .ok (.iconst 2, 1) := by decide +kernel
theorem dX0_trade_43 : decode cX0_trade 43 = .ok (.iadd, 1) := by decide +kernel
theorem dX0_trade_44 : decode cX0_trade 44 = .ok (.if_icmp .lt 9, 3) := by decide +kernel
theorem dX0_trade_47 : decode cX0_trade 47 = .ok (.aload_n 0, 1) := by decide +kernel
theorem dX0_trade_48 : decode cX0_trade 48 = .ok (.aload_n 2, 1) := by decide +kernel
theorem dX0_trade_49 : decode cX0_trade 49 = .ok (.aload_n 1, 1) := by decide +kernel
theorem dX0_trade_50 : decode cX0_trade 50 = .ok (.invokevirtual 132, 3) := by decide +kernel
theorem dX0_trade_53 : decode cX0_trade 53 = .ok (.iconst 1, 1) := by decide +kernel
theorem dX0_trade_54 : decode cX0_trade 54 = .ok (.ireturn, 1) := by decide +kernel
set_option maxRecDepth 20000 in
theorem ggX0_partnerOf_X5_isNear : GoodIn wsX0_partnerOf wsX5_isNear := goodIn_r _ [5, 6, 7, 4, 8] (by decide +kernel) (by decide +kernel)
set_option maxRecDepth 20000 in
theorem gX0_partnerOf_X5_isNear_n136 : GoodIn wsX0_partnerOf (wsX5_isNear) := ggX0_partnerOf_X5_isNear
theorem dX0_partnerOf_0 : decode cX0_partnerOf 0 = .ok (.iconst 0, 1) := by decide +kernel
theorem dX0_partnerOf_1 : decode cX0_partnerOf 1 = .ok (.istore_n 2, 1) := by decide +kernel
theorem dX0_partnerOf_2 : decode cX0_partnerOf 2 = .ok (.iload_n 2, 1) := by decide +kernel
theorem dX0_partnerOf_3 : decode cX0_partnerOf 3 = .ok (.aload_n 0, 1) := by decide +kernel
theorem dX0_partnerOf_4 : decode cX0_partnerOf 4 = .ok (.getfield 39, 3) := by decide +kernel
theorem dX0_partnerOf_7 : decode cX0_partnerOf 7 = .ok (.if_icmp .ge 50, 3) := by decide +kernel
theorem dX0_partnerOf_10 : decode cX0_partnerOf 10 = .ok (.iload_n 2, 1) := by decide +kernel
theorem dX0_partnerOf_11 : decode cX0_partnerOf 11 = .ok (.bipush 8, 2) := by decide +kernel
theorem dX0_partnerOf_13 : decode cX0_partnerOf 13 = .ok (.if_icmp .ge 44, 3) := by decide +kernel
theorem dX0_partnerOf_16 : decode cX0_partnerOf 16 = .ok (.aload_n 0, 1) := by decide +kernel
theorem dX0_partnerOf_17 : decode cX0_partnerOf 17 = .ok (.getfield 27, 3) := by decide +kernel
theorem dX0_partnerOf_20 : decode cX0_partnerOf 20 = .ok (.iload_n 2, 1) := by decide +kernel
theorem dX0_partnerOf_21 : decode cX0_partnerOf 21 = .ok (.aaload, 1) := by decide +kernel
theorem dX0_partnerOf_22 : decode cX0_partnerOf 22 = .ok (.astore_n 3, 1) := by decide +kernel
theorem dX0_partnerOf_23 : decode cX0_partnerOf 23 = .ok (.aload_n 3, 1) := by decide +kernel
theorem dX0_partnerOf_24 : decode cX0_partnerOf 24 = .ok (.aload_n 1, 1) := by decide +kernel
theorem dX0_partnerOf_25 : decode cX0_partnerOf 25 = .ok (.if_acmp .eq 26, 3) := by decide +kernel
theorem dX0_partnerOf_28 : decode cX0_partnerOf 28 = .ok (.aload_n 3, 1) := by decide +kernel
theorem dX0_partnerOf_29 : decode cX0_partnerOf 29 = .ok (.getfield 69, 3) := by decide +kernel
theorem dX0_partnerOf_32 : decode cX0_partnerOf 32 = .ok (.ifCond .ne 19, 3) := by decide +kernel
theorem dX0_partnerOf_35 : decode cX0_partnerOf 35 = .ok (.aload_n 3, 1) := by decide +kernel
theorem dX0_partnerOf_36 : decode cX0_partnerOf 36 = .ok (.getfield 60, 3) := by decide +kernel
theorem dX0_partnerOf_39 : decode cX0_partnerOf 39 = .ok (.aload_n 1, 1) := by decide +kernel
theorem dX0_partnerOf_40 : decode cX0_partnerOf 40 = .ok (.getfield 60, 3) := by decide +kernel
theorem dX0_partnerOf_43 : decode cX0_partnerOf 43 = .ok (.invokestatic 136, 3) := by decide +kernel
theorem dX0_partnerOf_46 : decode cX0_partnerOf 46 = .ok (.ifCond .eq 5, 3) := by decide +kernel
theorem dX0_partnerOf_49 : decode cX0_partnerOf 49 = .ok (.aload_n 3, 1) := by decide +kernel
theorem dX0_partnerOf_50 : decode cX0_partnerOf 50 = .ok (.areturn, 1) := by decide +kernel
theorem dX0_partnerOf_51 : decode cX0_partnerOf 51 = .ok (.iinc 2 1, 3) := by decide +kernel
theorem dX0_partnerOf_54 : decode cX0_partnerOf 54 = .ok (.goto (-52), 3) := by decide +kernel
theorem dX0_partnerOf_57 : decode cX0_partnerOf 57 = .ok (.aconst_null, 1) := by decide +kernel
theorem dX0_partnerOf_58 : decode cX0_partnerOf 58 = .ok (.areturn, 1) := by decide +kernel
theorem dX0_handLamp_0 : decode cX0_handLamp 0 = .ok (.aload_n 1, 1) := by decide +kernel
theorem dX0_handLamp_1 : decode cX0_handLamp 1 = .ok (.dup, 1) := by decide +kernel
theorem dX0_handLamp_2 : decode cX0_handLamp 2 = .ok (.getfield 66, 3) := by decide +kernel
theorem dX0_handLamp_5 : decode cX0_handLamp 5 = .ok (.iconst 1, 1) := by decide +kernel
theorem dX0_handLamp_6 : decode cX0_handLamp 6 = .ok (.isub, 1) := by decide +kernel
theorem dX0_handLamp_7 : decode cX0_handLamp 7 = .ok (.putfield 66, 3) := by decide +kernel
theorem dX0_handLamp_10 : decode cX0_handLamp 10 = .ok (.aload_n 2, 1) := by decide +kernel
theorem dX0_handLamp_11 : decode cX0_handLamp 11 = .ok (.dup, 1) := by decide +kernel
theorem dX0_handLamp_12 : decode cX0_handLamp 12 = .ok (.getfield 66, 3) := by decide +kernel
theorem dX0_handLamp_15 : decode cX0_handLamp 15 = .ok (.iconst 1, 1) := by decide +kernel
theorem dX0_handLamp_16 : decode cX0_handLamp 16 = .ok (.iadd, 1) := by decide +kernel
theorem dX0_handLamp_17 : decode cX0_handLamp 17 = .ok (.putfield 66, 3) := by decide +kernel
theorem dX0_handLamp_20 : decode cX0_handLamp 20 = .ok (.aload_n 0, 1) := by decide +kernel
theorem dX0_handLamp_21 : decode cX0_handLamp 21 = .ok (.dup, 1) := by decide +kernel
theorem dX0_handLamp_22 : decode cX0_handLamp 22 = .ok (.getfield 49, 3) := by decide +kernel
theorem dX0_handLamp_25 : decode cX0_handLamp 25 = .ok (.iconst 1, 1) := by decide +kernel
theorem dX0_handLamp_26 : decode cX0_handLamp 26 = .ok (.iadd, 1) := by decide +kernel
theorem dX0_handLamp_27 : decode cX0_handLamp 27 = .ok (.putfield 49, 3) := by decide +kernel
theorem dX0_handLamp_30 : decode cX0_handLamp 30 = .ok (.return_, 1) := by decide +kernel
set_option maxRecDepth 20000 in
theorem ggX0_lowerRoofs_X3_growOlder : GoodIn wsX0_lowerRoofs wsX3_growOlder := goodIn_r _ [8, 9, 10, 75, 76, 77] (by decide +kernel) (by decide +kernel)
set_option maxRecDepth 20000 in
theorem gX0_lowerRoofs_X3_growOlder : GoodIn wsX0_lowerRoofs (wsV RX0 140 RX3 yX3_growOlder wsX3_growOlder) := goodIn_app (goodIn_of _ (by decide +kernel)) ggX0_lowerRoofs_X3_growOlder
set_option maxRecDepth 20000 in
theorem ggX0_lowerRoofs_X0_findHeld : GoodIn wsX0_lowerRoofs wsX0_findHeld := goodIn_r _ [15, 2, 1, 16, 17, 18, 19, 20, 21, 22, 23, 24, 25, 26, 27, 7, 28, 29, 30, 31, 32, 33, 34, 35, 36, 37, 38, 39, 40, 41, 42, 43, 44, 45, 46, 47, 48, 9, 49, 68, 69, 70, 71, 72, 73, 74, 78, 79, 80, 81, 75, 76, 77] (by decide +kernel) (by decide +kernel)
set_option maxRecDepth 20000 in
theorem gX0_lowerRoofs_X0_findHeld : GoodIn wsX0_lowerRoofs (wsV RX0 143 RX0 yX0_findHeld wsX0_findHeld) := goodIn_app (goodIn_of _ (by decide +kernel)) ggX0_lowerRoofs_X0_findHeld
set_option maxRecDepth 20000 in
theorem ggX0_lowerRoofs_X3_ageAt : GoodIn wsX0_lowerRoofs wsX3_ageAt := goodIn_r _ [53, 10, 75, 76, 77] (by decide +kernel) (by decide +kernel)
set_option maxRecDepth 20000 in
theorem gX0_lowerRoofs_X3_ageAt : GoodIn wsX0_lowerRoofs (wsV RX0 146 RX3 yX3_ageAt wsX3_ageAt) := goodIn_app (goodIn_of _ (by decide +kernel)) ggX0_lowerRoofs_X3_ageAt
set_option maxRecDepth 20000 in
theorem ggX0_lowerRoofs_X1_holds : GoodIn wsX0_lowerRoofs wsX1_holds := goodIn_r _ [57, 38, 39, 40, 19, 41, 23, 78, 79, 80, 81] (by decide +kernel) (by decide +kernel)
set_option maxRecDepth 20000 in
theorem gX0_lowerRoofs_X1_holds : GoodIn wsX0_lowerRoofs (wsV RX0 111 RX1 yX1_holds wsX1_holds) := goodIn_app (goodIn_of _ (by decide +kernel)) ggX0_lowerRoofs_X1_holds
set_option maxRecDepth 20000 in
theorem ggX0_lowerRoofs_X3_put : GoodIn wsX0_lowerRoofs wsX3_put := goodIn_r _ [61, 9, 10, 29, 75, 76, 77] (by decide +kernel) (by decide +kernel)
set_option maxRecDepth 20000 in
theorem gX0_lowerRoofs_X3_put : GoodIn wsX0_lowerRoofs (wsV RX0 56 RX3 yX3_put wsX3_put) := goodIn_app (goodIn_of _ (by decide +kernel)) ggX0_lowerRoofs_X3_put
set_option maxRecDepth 20000 in
theorem ggX0_lowerRoofs_X0_setBuriedAt : GoodIn wsX0_lowerRoofs wsX0_setBuriedAt := goodIn_r _ [65, 66, 67, 68, 69, 70, 71, 72, 73, 74, 82, 83, 84, 85, 86, 87, 88, 89] (by decide +kernel) (by decide +kernel)
set_option maxRecDepth 20000 in
theorem gX0_lowerRoofs_X0_setBuriedAt : GoodIn wsX0_lowerRoofs (wsV RX0 117 RX0 yX0_setBuriedAt wsX0_setBuriedAt) := goodIn_app (goodIn_of _ (by decide +kernel)) ggX0_lowerRoofs_X0_setBuriedAt
theorem dX0_lowerRoofs_0 : decode cX0_lowerRoofs 0 = .ok (.aload_n 0, 1) := by decide +kernel
theorem dX0_lowerRoofs_1 : decode cX0_lowerRoofs 1 = .ok (.getfield 12, 3) := by decide +kernel
theorem dX0_lowerRoofs_4 : decode cX0_lowerRoofs 4 = .ok (.invokevirtual 140, 3) := by decide +kernel
theorem dX0_lowerRoofs_7 : decode cX0_lowerRoofs 7 = .ok (.aload_n 0, 1) := by decide +kernel
theorem dX0_lowerRoofs_8 : decode cX0_lowerRoofs 8 = .ok (.invokevirtual 143, 3) := by decide +kernel
theorem dX0_lowerRoofs_11 : decode cX0_lowerRoofs 11 = .ok (.iconst 0, 1) := by decide +kernel
theorem dX0_lowerRoofs_12 : decode cX0_lowerRoofs 12 = .ok (.istore_n 1, 1) := by decide +kernel
theorem dX0_lowerRoofs_13 : decode cX0_lowerRoofs 13 = .ok (.iload_n 1, 1) := by decide +kernel
theorem dX0_lowerRoofs_14 : decode cX0_lowerRoofs 14 = .ok (.sipush 256, 3) := by decide +kernel
theorem dX0_lowerRoofs_17 : decode cX0_lowerRoofs 17 = .ok (.if_icmp .ge 58, 3) := by decide +kernel
theorem dX0_lowerRoofs_20 : decode cX0_lowerRoofs 20 = .ok (.aload_n 0, 1) := by decide +kernel
theorem dX0_lowerRoofs_21 : decode cX0_lowerRoofs 21 = .ok (.getfield 12, 3) := by decide +kernel
theorem dX0_lowerRoofs_24 : decode cX0_lowerRoofs 24 = .ok (.iload_n 1, 1) := by decide +kernel
theorem dX0_lowerRoofs_25 : decode cX0_lowerRoofs 25 = .ok (.invokevirtual 146, 3) := by decide +kernel
theorem dX0_lowerRoofs_28 : decode cX0_lowerRoofs 28 = .ok (.bipush 12, 2) := by decide +kernel
theorem dX0_lowerRoofs_30 : decode cX0_lowerRoofs 30 = .ok (.if_icmp .lt 39, 3) := by decide +kernel
theorem dX0_lowerRoofs_33 : decode cX0_lowerRoofs 33 = .ok (.aload_n 0, 1) := by decide +kernel
theorem dX0_lowerRoofs_34 : decode cX0_lowerRoofs 34 = .ok (.getfield 21, 3) := by decide +kernel
theorem dX0_lowerRoofs_37 : decode cX0_lowerRoofs 37 = .ok (.iload_n 1, 1) := by decide +kernel
theorem dX0_lowerRoofs_38 : decode cX0_lowerRoofs 38 = .ok (.invokevirtual 111, 3) := by decide +kernel
theorem dX0_lowerRoofs_41 : decode cX0_lowerRoofs 41 = .ok (.ifCond .ne 28, 3) := by decide +kernel
theorem dX0_lowerRoofs_44 : decode cX0_lowerRoofs 44 = .ok (.aload_n 0, 1) := by decide +kernel
theorem dX0_lowerRoofs_45 : decode cX0_lowerRoofs 45 = .ok (.getfield 12, 3) := by decide +kernel
theorem dX0_lowerRoofs_48 : decode cX0_lowerRoofs 48 = .ok (.iload_n 1, 1) := by decide +kernel
theorem dX0_lowerRoofs_49 : decode cX0_lowerRoofs 49 = .ok (.iconst 2, 1) := by decide +kernel
theorem dX0_lowerRoofs_50 : decode cX0_lowerRoofs 50 = .ok (.invokevirtual 56, 3) := by decide +kernel
theorem dX0_lowerRoofs_53 : decode cX0_lowerRoofs 53 = .ok (.aload_n 0, 1) := by decide +kernel
theorem dX0_lowerRoofs_54 : decode cX0_lowerRoofs 54 = .ok (.iload_n 1, 1) := by decide +kernel
theorem dX0_lowerRoofs_55 : decode cX0_lowerRoofs 55 = .ok (.iconst 1, 1) := by decide +kernel
theorem dX0_lowerRoofs_56 : decode cX0_lowerRoofs 56 = .ok (.invokevirtual 117, 3) := by decide +kernel
theorem dX0_lowerRoofs_59 : decode cX0_lowerRoofs 59 = .ok (.aload_n 0, 1) := by decide +kernel
theorem dX0_lowerRoofs_60 : decode cX0_lowerRoofs 60 = .ok (.dup, 1) := by decide +kernel
theorem dX0_lowerRoofs_61 : decode cX0_lowerRoofs 61 = .ok (.getfield 46, 3) := by decide +kernel
theorem dX0_lowerRoofs_64 : decode cX0_lowerRoofs 64 = .ok (.iconst 1, 1) := by decide +kernel
theorem dX0_lowerRoofs_65 : decode cX0_lowerRoofs 65 = .ok (.iadd, 1) := by decide +kernel
theorem dX0_lowerRoofs_66 : decode cX0_lowerRoofs 66 = .ok (.putfield 46, 3) := by decide +kernel
theorem dX0_lowerRoofs_69 : decode cX0_lowerRoofs 69 = .ok (.iinc 1 1, 3) := by decide +kernel
theorem dX0_lowerRoofs_72 : decode cX0_lowerRoofs 72 = .ok (.goto (-59), 3) := by decide +kernel
theorem dX0_lowerRoofs_75 : decode cX0_lowerRoofs 75 = .ok (.return_, 1) := by decide +kernel
theorem dX0_setBuriedAt_0 : decode cX0_setBuriedAt 0 = .ok (.iconst 0, 1) := by decide +kernel
theorem dX0_setBuriedAt_1 : decode cX0_setBuriedAt 1 = .ok (.istore_n 3, 1) := by decide +kernel
theorem dX0_setBuriedAt_2 : decode cX0_setBuriedAt 2 = .ok (.iload_n 3, 1) := by decide +kernel
theorem dX0_setBuriedAt_3 : decode cX0_setBuriedAt 3 = .ok (.aload_n 0, 1) := by decide +kernel
theorem dX0_setBuriedAt_4 : decode cX0_setBuriedAt 4 = .ok (.getfield 39, 3) := by decide +kernel
theorem dX0_setBuriedAt_7 : decode cX0_setBuriedAt 7 = .ok (.if_icmp .ge 38, 3) := by decide +kernel
theorem dX0_setBuriedAt_10 : decode cX0_setBuriedAt 10 = .ok (.iload_n 3, 1) := by decide +kernel
theorem dX0_setBuriedAt_11 : decode cX0_setBuriedAt 11 = .ok (.bipush 8, 2) := by decide +kernel
theorem dX0_setBuriedAt_13 : decode cX0_setBuriedAt 13 = .ok (.if_icmp .ge 32, 3) := by decide +kernel
theorem dX0_setBuriedAt_16 : decode cX0_setBuriedAt 16 = .ok (.aload_n 0, 1) := by decide +kernel
theorem dX0_setBuriedAt_17 : decode cX0_setBuriedAt 17 = .ok (.getfield 27, 3) := by decide +kernel
theorem dX0_setBuriedAt_20 : decode cX0_setBuriedAt 20 = .ok (.iload_n 3, 1) := by decide +kernel
theorem dX0_setBuriedAt_21 : decode cX0_setBuriedAt 21 = .ok (.aaload, 1) := by decide +kernel
theorem dX0_setBuriedAt_22 : decode cX0_setBuriedAt 22 = .ok (.getfield 60, 3) := by decide +kernel
theorem dX0_setBuriedAt_25 : decode cX0_setBuriedAt 25 = .ok (.iload_n 1, 1) := by decide +kernel
theorem dX0_setBuriedAt_26 : decode cX0_setBuriedAt 26 = .ok (.if_icmp .ne 13, 3) := by decide +kernel
theorem dX0_setBuriedAt_29 : decode cX0_setBuriedAt 29 = .ok (.aload_n 0, 1) := by decide +kernel
theorem dX0_setBuriedAt_30 : decode cX0_setBuriedAt 30 = .ok (.getfield 27, 3) := by decide +kernel
theorem dX0_setBuriedAt_33 : decode cX0_setBuriedAt 33 = .ok (.iload_n 3, 1) := by decide +kernel
theorem dX0_setBuriedAt_34 : decode cX0_setBuriedAt 34 = .ok (.aaload, 1) := by decide +kernel
theorem dX0_setBuriedAt_35 : decode cX0_setBuriedAt 35 = .ok (.iload_n 2, 1) := by decide +kernel
theorem dX0_setBuriedAt_36 : decode cX0_setBuriedAt 36 = .ok (.putfield 69, 3) := by decide +kernel
theorem dX0_setBuriedAt_39 : decode cX0_setBuriedAt 39 = .ok (.iinc 3 1, 3) := by decide +kernel
theorem dX0_setBuriedAt_42 : decode cX0_setBuriedAt 42 = .ok (.goto (-40), 3) := by decide +kernel
theorem dX0_setBuriedAt_45 : decode cX0_setBuriedAt 45 = .ok (.return_, 1) := by decide +kernel
set_option maxRecDepth 20000 in
theorem ggX0_findHeld_X1_clear : GoodIn wsX0_findHeld wsX1_clear := goodIn_r _ [7, 8, 9, 10, 11, 46, 47, 48, 49] (by decide +kernel) (by decide +kernel)
set_option maxRecDepth 20000 in
theorem gX0_findHeld_X1_clear : GoodIn wsX0_findHeld (wsV RX0 149 RX1 yX1_clear wsX1_clear) := goodIn_app (goodIn_of _ (by decide +kernel)) ggX0_findHeld_X1_clear
set_option maxRecDepth 20000 in
theorem ggX0_findHeld_X3_postsAt : GoodIn wsX0_findHeld wsX3_postsAt := goodIn_r _ [16, 17, 50, 51, 52] (by decide +kernel) (by decide +kernel)
set_option maxRecDepth 20000 in
theorem gX0_findHeld_X3_postsAt : GoodIn wsX0_findHeld (wsV RX0 121 RX3 yX3_postsAt wsX3_postsAt) := goodIn_app (goodIn_of _ (by decide +kernel)) ggX0_findHeld_X3_postsAt
set_option maxRecDepth 20000 in
theorem ggX0_findHeld_X1_add : GoodIn wsX0_findHeld wsX1_add := goodIn_r _ [21, 10, 8, 9, 46, 47, 48, 49] (by decide +kernel) (by decide +kernel)
set_option maxRecDepth 20000 in
theorem gX0_findHeld_X1_add : GoodIn wsX0_findHeld (wsV RX0 152 RX1 yX1_add wsX1_add) := goodIn_app (goodIn_of _ (by decide +kernel)) ggX0_findHeld_X1_add
set_option maxRecDepth 20000 in
theorem ggX0_findHeld_X1_spread : GoodIn wsX0_findHeld wsX1_spread := goodIn_r _ [25, 11, 8, 9, 26, 27, 28, 6, 29, 10, 30, 31, 32, 33, 34, 35, 15, 36, 37, 38, 19, 20, 21, 46, 47, 48, 49, 50, 51, 52] (by decide +kernel) (by decide +kernel)
set_option maxRecDepth 20000 in
theorem gX0_findHeld_X1_spread : GoodIn wsX0_findHeld (wsV RX0 155 RX1 yX1_spread wsX1_spread) := goodIn_app (goodIn_of _ (by decide +kernel)) ggX0_findHeld_X1_spread
theorem dX0_findHeld_0 : decode cX0_findHeld 0 = .ok (.aload_n 0, 1) := by decide +kernel
theorem dX0_findHeld_1 : decode cX0_findHeld 1 = .ok (.getfield 21, 3) := by decide +kernel
theorem dX0_findHeld_4 : decode cX0_findHeld 4 = .ok (.invokevirtual 149, 3) := by decide +kernel
theorem dX0_findHeld_7 : decode cX0_findHeld 7 = .ok (.iconst 0, 1) := by decide +kernel
theorem dX0_findHeld_8 : decode cX0_findHeld 8 = .ok (.istore_n 1, 1) := by decide +kernel
theorem dX0_findHeld_9 : decode cX0_findHeld 9 = .ok (.iload_n 1, 1) := by decide +kernel
theorem dX0_findHeld_10 : decode cX0_findHeld 10 = .ok (.sipush 256, 3) := by decide +kernel
theorem dX0_findHeld_13 : decode cX0_findHeld 13 = .ok (.if_icmp .ge 29, 3) := by decide +kernel
theorem dX0_findHeld_16 : decode cX0_findHeld 16 = .ok (.aload_n 0, 1) := by decide +kernel
theorem dX0_findHeld_17 : decode cX0_findHeld 17 = .ok (.getfield 12, 3) := by decide +kernel
theorem dX0_findHeld_20 : decode cX0_findHeld 20 = .ok (.iload_n 1, 1) := by decide +kernel
theorem dX0_findHeld_21 : decode cX0_findHeld 21 = .ok (.invokevirtual 121, 3) := by decide +kernel
theorem dX0_findHeld_24 : decode cX0_findHeld 24 = .ok (.ifCond .le 12, 3) := by decide +kernel
theorem dX0_findHeld_27 : decode cX0_findHeld 27 = .ok (.aload_n 0, 1) := by decide +kernel
theorem dX0_findHeld_28 : decode cX0_findHeld 28 = .ok (.getfield 21, 3) := by decide +kernel
theorem dX0_findHeld_31 : decode cX0_findHeld 31 = .ok (.iload_n 1, 1) := by decide +kernel
theorem dX0_findHeld_32 : decode cX0_findHeld 32 = .ok (.iconst 0, 1) := by decide +kernel
theorem dX0_findHeld_33 : decode cX0_findHeld 33 = .ok (.invokevirtual 152, 3) := by decide +kernel
theorem dX0_findHeld_36 : decode cX0_findHeld 36 = .ok (.iinc 1 1, 3) := by decide +kernel
theorem dX0_findHeld_39 : decode cX0_findHeld 39 = .ok (.goto (-30), 3) := by decide +kernel
theorem dX0_findHeld_42 : decode cX0_findHeld 42 = .ok (.aload_n 0, 1) := by decide +kernel
theorem dX0_findHeld_43 : decode cX0_findHeld 43 = .ok (.getfield 21, 3) := by decide +kernel
theorem dX0_findHeld_46 : decode cX0_findHeld 46 = .ok (.aload_n 0, 1) := by decide +kernel
theorem dX0_findHeld_47 : decode cX0_findHeld 47 = .ok (.getfield 12, 3) := by decide +kernel
theorem dX0_findHeld_50 : decode cX0_findHeld 50 = .ok (.iconst 2, 1) := by decide +kernel
theorem dX0_findHeld_51 : decode cX0_findHeld 51 = .ok (.invokevirtual 155, 3) := by decide +kernel
theorem dX0_findHeld_54 : decode cX0_findHeld 54 = .ok (.return_, 1) := by decide +kernel
set_option maxRecDepth 20000 in
theorem ggX0_isHeld_X0_findHeld : GoodIn wsX0_isHeld wsX0_findHeld := goodIn_r _ [6, 1, 7, 8, 9, 10, 11, 12, 13, 14, 15, 16, 17, 18, 19, 20, 21, 22, 23, 24, 25, 26, 27, 28, 29, 30, 31, 32, 33, 34, 35, 36, 37, 38, 39, 40, 41, 42, 43, 48, 49, 50, 51, 52, 53, 54, 55, 56, 57, 58, 59, 60, 61] (by decide +kernel) (by decide +kernel)
set_option maxRecDepth 20000 in
theorem gX0_isHeld_X0_findHeld : GoodIn wsX0_isHeld (wsV RX0 143 RX0 yX0_findHeld wsX0_findHeld) := goodIn_app (goodIn_of _ (by decide +kernel)) ggX0_isHeld_X0_findHeld
set_option maxRecDepth 20000 in
theorem ggX0_isHeld_X1_holds : GoodIn wsX0_isHeld wsX1_holds := goodIn_r _ [47, 31, 32, 33, 11, 34, 15, 55, 56, 57, 58] (by decide +kernel) (by decide +kernel)
set_option maxRecDepth 20000 in
theorem gX0_isHeld_X1_holds : GoodIn wsX0_isHeld (wsV RX0 111 RX1 yX1_holds wsX1_holds) := goodIn_app (goodIn_of _ (by decide +kernel)) ggX0_isHeld_X1_holds
theorem dX0_isHeld_0 : decode cX0_isHeld 0 = .ok (.aload_n 0, 1) := by decide +kernel
theorem dX0_isHeld_1 : decode cX0_isHeld 1 = .ok (.invokevirtual 143, 3) := by decide +kernel
theorem dX0_isHeld_4 : decode cX0_isHeld 4 = .ok (.aload_n 0, 1) := by decide +kernel
theorem dX0_isHeld_5 : decode cX0_isHeld 5 = .ok (.getfield 21, 3) := by decide +kernel
theorem dX0_isHeld_8 : decode cX0_isHeld 8 = .ok (.iload_n 1, 1) := by decide +kernel
theorem dX0_isHeld_9 : decode cX0_isHeld 9 = .ok (.invokevirtual 111, 3) := by decide +kernel
theorem dX0_isHeld_12 : decode cX0_isHeld 12 = .ok (.ireturn, 1) := by decide +kernel
set_option maxRecDepth 20000 in
theorem ggX0_looseCells_X0_findHeld : GoodIn wsX0_looseCells wsX0_findHeld := goodIn_r _ [7, 2, 1, 8, 9, 10, 11, 12, 13, 14, 15, 16, 17, 18, 19, 20, 21, 22, 23, 24, 25, 26, 27, 28, 29, 30, 31, 32, 33, 34, 35, 36, 37, 38, 39, 40, 41, 42, 43, 48, 49, 50, 51, 52, 53, 54, 55, 56, 57, 58, 59, 60, 61] (by decide +kernel) (by decide +kernel)
set_option maxRecDepth 20000 in
theorem gX0_looseCells_X0_findHeld : GoodIn wsX0_looseCells (wsV RX0 143 RX0 yX0_findHeld wsX0_findHeld) := goodIn_app (goodIn_of _ (by decide +kernel)) ggX0_looseCells_X0_findHeld
set_option maxRecDepth 20000 in
theorem ggX0_looseCells_X3_openCells : GoodIn wsX0_looseCells wsX3_openCells := goodIn_r _ [47, 42, 59, 60, 61] (by decide +kernel) (by decide +kernel)
set_option maxRecDepth 20000 in
theorem gX0_looseCells_X3_openCells : GoodIn wsX0_looseCells (wsV RX0 159 RX3 yX3_openCells wsX3_openCells) := goodIn_app (goodIn_of _ (by decide +kernel)) ggX0_looseCells_X3_openCells
theorem dX0_looseCells_0 : decode cX0_looseCells 0 = .ok (.aload_n 0, 1) := by decide +kernel
theorem dX0_looseCells_1 : decode cX0_looseCells 1 = .ok (.invokevirtual 143, 3) := by decide +kernel
theorem dX0_looseCells_4 : decode cX0_looseCells 4 = .ok (.aload_n 0, 1) := by decide +kernel
theorem dX0_looseCells_5 : decode cX0_looseCells 5 = .ok (.getfield 12, 3) := by decide +kernel
theorem dX0_looseCells_8 : decode cX0_looseCells 8 = .ok (.invokevirtual 159, 3) := by decide +kernel
theorem dX0_looseCells_11 : decode cX0_looseCells 11 = .ok (.aload_n 0, 1) := by decide +kernel
theorem dX0_looseCells_12 : decode cX0_looseCells 12 = .ok (.getfield 21, 3) := by decide +kernel
theorem dX0_looseCells_15 : decode cX0_looseCells 15 = .ok (.getfield 162, 3) := by decide +kernel
theorem dX0_looseCells_18 : decode cX0_looseCells 18 = .ok (.isub, 1) := by decide +kernel
theorem dX0_looseCells_19 : decode cX0_looseCells 19 = .ok (.ireturn, 1) := by decide +kernel
set_option maxRecDepth 20000 in
theorem ggX0_findLight_X1_clear : GoodIn wsX0_findLight wsX1_clear := goodIn_r _ [9, 10, 11, 12, 13, 51, 52, 53, 54] (by decide +kernel) (by decide +kernel)
set_option maxRecDepth 20000 in
theorem gX0_findLight_X1_clear : GoodIn wsX0_findLight (wsV RX0 149 RX1 yX1_clear wsX1_clear) := goodIn_app (goodIn_of _ (by decide +kernel)) ggX0_findLight_X1_clear
set_option maxRecDepth 20000 in
theorem ggX0_findLight_X1_add : GoodIn wsX0_findLight wsX1_add := goodIn_r _ [17, 12, 10, 11, 51, 52, 53, 54] (by decide +kernel) (by decide +kernel)
set_option maxRecDepth 20000 in
theorem gX0_findLight_X1_add : GoodIn wsX0_findLight (wsV RX0 152 RX1 yX1_add wsX1_add) := goodIn_app (goodIn_of _ (by decide +kernel)) ggX0_findLight_X1_add
set_option maxRecDepth 20000 in
theorem ggX0_findLight_X1_spread : GoodIn wsX0_findLight wsX1_spread := goodIn_r _ [21, 13, 10, 11, 22, 23, 24, 8, 25, 12, 26, 27, 28, 29, 30, 31, 32, 33, 34, 35, 15, 16, 17, 51, 52, 53, 54, 55, 56, 57] (by decide +kernel) (by decide +kernel)
set_option maxRecDepth 20000 in
theorem gX0_findLight_X1_spread : GoodIn wsX0_findLight (wsV RX0 155 RX1 yX1_spread wsX1_spread) := goodIn_app (goodIn_of _ (by decide +kernel)) ggX0_findLight_X1_spread
theorem dX0_findLight_0 : decode cX0_findLight 0 = .ok (.aload_n 0, 1) := by decide +kernel
theorem dX0_findLight_1 : decode cX0_findLight 1 = .ok (.getfield 21, 3) := by decide +kernel
theorem dX0_findLight_4 : decode cX0_findLight 4 = .ok (.invokevirtual 149, 3) := by decide +kernel
theorem dX0_findLight_7 : decode cX0_findLight 7 = .ok (.iconst 0, 1) := by decide +kernel
theorem dX0_findLight_8 : decode cX0_findLight 8 = .ok (.istore_n 1, 1) := by decide +kernel
theorem dX0_findLight_9 : decode cX0_findLight 9 = .ok (.iload_n 1, 1) := by decide +kernel
theorem dX0_findLight_10 : decode cX0_findLight 10 = .ok (.aload_n 0, 1) := by decide +kernel
theorem dX0_findLight_11 : decode cX0_findLight 11 = .ok (.getfield 39, 3) := by decide +kernel
theorem dX0_findLight_14 : decode cX0_findLight 14 = .ok (.if_icmp .ge 56, 3) := by decide +kernel
theorem dX0_findLight_17 : decode cX0_findLight 17 = .ok (.iload_n 1, 1) := by decide +kernel
theorem dX0_findLight_18 : decode cX0_findLight 18 = .ok (.bipush 8, 2) := by decide +kernel
theorem dX0_findLight_20 : decode cX0_findLight 20 = .ok (.if_icmp .ge 50, 3) := by decide +kernel
theorem dX0_findLight_23 : decode cX0_findLight 23 = .ok (.aload_n 0, 1) := by decide +kernel
theorem dX0_findLight_24 : decode cX0_findLight 24 = .ok (.getfield 27, 3) := by decide +kernel
theorem dX0_findLight_27 : decode cX0_findLight 27 = .ok (.iload_n 1, 1) := by decide +kernel
theorem dX0_findLight_28 : decode cX0_findLight 28 = .ok (.aaload, 1) := by decide +kernel
theorem dX0_findLight_29 : decode cX0_findLight 29 = .ok (.getfield 69, 3) := by decide +kernel
theorem dX0_findLight_32 : decode cX0_findLight 32 = .ok (.ifCond .ne 32, 3) := by decide +kernel
theorem dX0_findLight_35 : decode cX0_findLight 35 = .ok (.aload_n 0, 1) := by decide +kernel
theorem dX0_findLight_36 : decode cX0_findLight 36 = .ok (.getfield 27, 3) := by decide +kernel
theorem dX0_findLight_39 : decode cX0_findLight 39 = .ok (.iload_n 1, 1) := by decide +kernel
theorem dX0_findLight_40 : decode cX0_findLight 40 = .ok (.aaload, 1) := by decide +kernel
theorem dX0_findLight_41 : decode cX0_findLight 41 = .ok (.getfield 165, 3) := by decide +kernel
theorem dX0_findLight_44 : decode cX0_findLight 44 = .ok (.ifCond .le 20, 3) := by decide +kernel
theorem dX0_findLight_47 : decode cX0_findLight 47 = .ok (.aload_n 0, 1) := by decide +kernel
theorem dX0_findLight_48 : decode cX0_findLight 48 = .ok (.getfield 21, 3) := by decide +kernel
theorem dX0_findLight_51 : decode cX0_findLight 51 = .ok (.aload_n 0, 1) := by decide +kernel
theorem dX0_findLight_52 : decode cX0_findLight 52 = .ok (.getfield 27, 3) := by decide +kernel
theorem dX0_findLight_55 : decode cX0_findLight 55 = .ok (.iload_n 1, 1) := by decide +kernel
theorem dX0_findLight_56 : decode cX0_findLight 56 = .ok (.aaload, 1) := by decide +kernel
theorem dX0_findLight_57 : decode cX0_findLight 57 = .ok (.getfield 60, 3) := by decide +kernel
theorem dX0_findLight_60 : decode cX0_findLight 60 = .ok (.iconst 0, 1) := by decide +kernel
theorem dX0_findLight_61 : decode cX0_findLight 61 = .ok (.invokevirtual 152, 3) := by decide +kernel
theorem dX0_findLight_64 : decode cX0_findLight 64 = .ok (.iinc 1 1, 3) := by decide +kernel
theorem dX0_findLight_67 : decode cX0_findLight 67 = .ok (.goto (-58), 3) := by decide +kernel
theorem dX0_findLight_70 : decode cX0_findLight 70 = .ok (.aload_n 0, 1) := by decide +kernel
theorem dX0_findLight_71 : decode cX0_findLight 71 = .ok (.getfield 21, 3) := by decide +kernel
theorem dX0_findLight_74 : decode cX0_findLight 74 = .ok (.aload_n 0, 1) := by decide +kernel
theorem dX0_findLight_75 : decode cX0_findLight 75 = .ok (.getfield 12, 3) := by decide +kernel
theorem dX0_findLight_78 : decode cX0_findLight 78 = .ok (.iconst 3, 1) := by decide +kernel
theorem dX0_findLight_79 : decode cX0_findLight 79 = .ok (.invokevirtual 155, 3) := by decide +kernel
theorem dX0_findLight_82 : decode cX0_findLight 82 = .ok (.return_, 1) := by decide +kernel
set_option maxRecDepth 20000 in
theorem ggX0_isLit_X0_findLight : GoodIn wsX0_isLit wsX0_findLight := goodIn_r _ [5, 6, 7, 8, 9, 10, 11, 12, 13, 14, 15, 16, 17, 18, 19, 20, 21, 22, 23, 24, 25, 26, 27, 28, 29, 30, 31, 32, 33, 34, 35, 36, 37, 38, 39, 40, 54, 55, 56, 57, 58, 59, 60, 61, 62, 63, 64, 65, 66, 67, 68, 69, 70, 71, 72, 73, 74, 75] (by decide +kernel) (by decide +kernel)
set_option maxRecDepth 20000 in
theorem gX0_isLit_X0_findLight : GoodIn wsX0_isLit (wsV RX0 108 RX0 yX0_findLight wsX0_findLight) := goodIn_app (goodIn_of _ (by decide +kernel)) ggX0_isLit_X0_findLight
set_option maxRecDepth 20000 in
theorem ggX0_isLit_X0_shinesOn : GoodIn wsX0_isLit wsX0_shinesOn := goodIn_r _ [44, 9, 6, 45, 46, 47, 37, 48, 39, 49, 50, 51, 13, 52, 27, 28, 29, 30, 17, 53, 35, 36, 38, 31, 32, 33, 54, 55, 56, 57, 58, 59, 60, 73, 74, 75, 69, 70, 71, 72] (by decide +kernel) (by decide +kernel)
set_option maxRecDepth 20000 in
theorem gX0_isLit_X0_shinesOn : GoodIn wsX0_isLit (wsV RX0 168 RX0 yX0_shinesOn wsX0_shinesOn) := goodIn_app (goodIn_of _ (by decide +kernel)) ggX0_isLit_X0_shinesOn
theorem dX0_isLit_0 : decode cX0_isLit 0 = .ok (.aload_n 0, 1) := by decide +kernel
theorem dX0_isLit_1 : decode cX0_isLit 1 = .ok (.invokevirtual 108, 3) := by decide +kernel
theorem dX0_isLit_4 : decode cX0_isLit 4 = .ok (.aload_n 0, 1) := by decide +kernel
theorem dX0_isLit_5 : decode cX0_isLit 5 = .ok (.iload_n 1, 1) := by decide +kernel
theorem dX0_isLit_6 : decode cX0_isLit 6 = .ok (.invokevirtual 168, 3) := by decide +kernel
theorem dX0_isLit_9 : decode cX0_isLit 9 = .ok (.ireturn, 1) := by decide +kernel
set_option maxRecDepth 20000 in
theorem ggX0_litCells_X0_findLight : GoodIn wsX0_litCells wsX0_findLight := goodIn_r _ [5, 6, 7, 8, 9, 10, 11, 12, 13, 14, 15, 16, 17, 18, 19, 20, 21, 22, 23, 24, 25, 26, 27, 28, 29, 30, 31, 32, 33, 34, 35, 36, 37, 38, 39, 40, 54, 55, 56, 57, 58, 59, 60, 61, 62, 63, 64, 65, 66, 67, 68, 69, 70, 71, 72, 73, 74, 75] (by decide +kernel) (by decide +kernel)
set_option maxRecDepth 20000 in
theorem gX0_litCells_X0_findLight : GoodIn wsX0_litCells (wsV RX0 108 RX0 yX0_findLight wsX0_findLight) := goodIn_app (goodIn_of _ (by decide +kernel)) ggX0_litCells_X0_findLight
set_option maxRecDepth 20000 in
theorem ggX0_litCells_X0_shinesOn : GoodIn wsX0_litCells wsX0_shinesOn := goodIn_r _ [44, 9, 6, 45, 46, 47, 37, 48, 39, 49, 50, 51, 13, 52, 27, 28, 29, 30, 17, 53, 35, 36, 38, 31, 32, 33, 54, 55, 56, 57, 58, 59, 60, 73, 74, 75, 69, 70, 71, 72] (by decide +kernel) (by decide +kernel)
set_option maxRecDepth 20000 in
theorem gX0_litCells_X0_shinesOn : GoodIn wsX0_litCells (wsV RX0 168 RX0 yX0_shinesOn wsX0_shinesOn) := goodIn_app (goodIn_of _ (by decide +kernel)) ggX0_litCells_X0_shinesOn
theorem dX0_litCells_0 : decode cX0_litCells 0 = .ok (.aload_n 0, 1) := by decide +kernel
theorem dX0_litCells_1 : decode cX0_litCells 1 = .ok (.invokevirtual 108, 3) := by decide +kernel
theorem dX0_litCells_4 : decode cX0_litCells 4 = .ok (.iconst 0, 1) := by decide +kernel
theorem dX0_litCells_5 : decode cX0_litCells 5 = .ok (.istore_n 1, 1) := by decide +kernel
theorem dX0_litCells_6 : decode cX0_litCells 6 = .ok (.iconst 0, 1) := by decide +kernel
theorem dX0_litCells_7 : decode cX0_litCells 7 = .ok (.istore_n 2, 1) := by decide +kernel
theorem dX0_litCells_8 : decode cX0_litCells 8 = .ok (.iload_n 2, 1) := by decide +kernel
theorem dX0_litCells_9 : decode cX0_litCells 9 = .ok (.sipush 256, 3) := by decide +kernel
theorem dX0_litCells_12 : decode cX0_litCells 12 = .ok (.if_icmp .ge 20, 3) := by decide +kernel
theorem dX0_litCells_15 : decode cX0_litCells 15 = .ok (.aload_n 0, 1) := by decide +kernel
theorem dX0_litCells_16 : decode cX0_litCells 16 = .ok (.iload_n 2, 1) := by decide +kernel
theorem dX0_litCells_17 : decode cX0_litCells 17 = .ok (.invokevirtual 168, 3) := by decide +kernel
theorem dX0_litCells_20 : decode cX0_litCells 20 = .ok (.ifCond .eq 6, 3) := by decide +kernel
theorem dX0_litCells_23 : decode cX0_litCells 23 = .ok (.iinc 1 1, 3) := by decide +kernel
theorem dX0_litCells_26 : decode cX0_litCells 26 = .ok (.iinc 2 1, 3) := by decide +kernel
theorem dX0_litCells_29 : decode cX0_litCells 29 = .ok (.goto (-21), 3) := by decide +kernel
theorem dX0_litCells_32 : decode cX0_litCells 32 = .ok (.iload_n 1, 1) := by decide +kernel
theorem dX0_litCells_33 : decode cX0_litCells 33 = .ok (.ireturn, 1) := by decide +kernel
set_option maxRecDepth 20000 in
theorem ggX0_litOpenCells_X0_findLight : GoodIn wsX0_litOpenCells wsX0_findLight := goodIn_r _ [6, 1, 7, 8, 9, 10, 11, 12, 13, 14, 15, 16, 17, 18, 19, 20, 21, 22, 23, 24, 25, 26, 27, 28, 29, 30, 31, 32, 33, 34, 35, 36, 37, 38, 39, 40, 41, 42, 43, 44, 45, 46, 47, 52, 53, 54, 55, 56, 57, 58, 59, 48, 49, 50, 51, 60, 61, 62] (by decide +kernel) (by decide +kernel)
set_option maxRecDepth 20000 in
theorem gX0_litOpenCells_X0_findLight : GoodIn wsX0_litOpenCells (wsV RX0 108 RX0 yX0_findLight wsX0_findLight) := goodIn_app (goodIn_of _ (by decide +kernel)) ggX0_litOpenCells_X0_findLight
theorem dX0_litOpenCells_0 : decode cX0_litOpenCells 0 = .ok (.aload_n 0, 1) := by decide +kernel
theorem dX0_litOpenCells_1 : decode cX0_litOpenCells 1 = .ok (.invokevirtual 108, 3) := by decide +kernel
theorem dX0_litOpenCells_4 : decode cX0_litOpenCells 4 = .ok (.aload_n 0, 1) := by decide +kernel
theorem dX0_litOpenCells_5 : decode cX0_litOpenCells 5 = .ok (.getfield 21, 3) := by decide +kernel
theorem dX0_litOpenCells_8 : decode cX0_litOpenCells 8 = .ok (.getfield 162, 3) := by decide +kernel
theorem dX0_litOpenCells_11 : decode cX0_litOpenCells 11 = .ok (.ireturn, 1) := by decide +kernel
set_option maxRecDepth 20000 in
theorem ggX0_shinesOn_X3_sortAt : GoodIn wsX0_shinesOn wsX3_sortAt := goodIn_r _ [7, 8, 33, 34, 35] (by decide +kernel) (by decide +kernel)
set_option maxRecDepth 20000 in
theorem gX0_shinesOn_X3_sortAt : GoodIn wsX0_shinesOn (wsV RX0 104 RX3 yX3_sortAt wsX3_sortAt) := goodIn_app (goodIn_of _ (by decide +kernel)) ggX0_shinesOn_X3_sortAt
set_option maxRecDepth 20000 in
theorem ggX0_shinesOn_X1_holds : GoodIn wsX0_shinesOn wsX1_holds := goodIn_r _ [13, 14, 15, 16, 12, 17, 18, 36, 37, 38, 39] (by decide +kernel) (by decide +kernel)
set_option maxRecDepth 20000 in
theorem gX0_shinesOn_X1_holds : GoodIn wsX0_shinesOn (wsV RX0 111 RX1 yX1_holds wsX1_holds) := goodIn_app (goodIn_of _ (by decide +kernel)) ggX0_shinesOn_X1_holds
set_option maxRecDepth 20000 in
theorem ggX0_shinesOn_X3_isOpen : GoodIn wsX0_shinesOn wsX3_isOpen := goodIn_r _ [22, 8, 33, 34, 35] (by decide +kernel) (by decide +kernel)
set_option maxRecDepth 20000 in
theorem gX0_shinesOn_X3_isOpen : GoodIn wsX0_shinesOn (wsV RX0 52 RX3 yX3_isOpen wsX3_isOpen) := goodIn_app (goodIn_of _ (by decide +kernel)) ggX0_shinesOn_X3_isOpen
set_option maxRecDepth 20000 in
theorem ggX0_shinesOn_X5_beside : GoodIn wsX0_shinesOn wsX5_beside := goodIn_r _ [25] (by decide +kernel) (by decide +kernel)
set_option maxRecDepth 20000 in
theorem gX0_shinesOn_X5_beside_n100 : GoodIn wsX0_shinesOn (wsX5_beside) := ggX0_shinesOn_X5_beside
theorem dX0_shinesOn_0 : decode cX0_shinesOn 0 = .ok (.aload_n 0, 1) := by decide +kernel
theorem dX0_shinesOn_1 : decode cX0_shinesOn 1 = .ok (.getfield 12, 3) := by decide +kernel
theorem dX0_shinesOn_4 : decode cX0_shinesOn 4 = .ok (.iload_n 1, 1) := by decide +kernel
theorem dX0_shinesOn_5 : decode cX0_shinesOn 5 = .ok (.invokevirtual 104, 3) := by decide +kernel
theorem dX0_shinesOn_8 : decode cX0_shinesOn 8 = .ok (.bipush 10, 2) := by decide +kernel
theorem dX0_shinesOn_10 : decode cX0_shinesOn 10 = .ok (.if_icmp .ne 5, 3) := by decide +kernel
theorem dX0_shinesOn_13 : decode cX0_shinesOn 13 = .ok (.iconst 0, 1) := by decide +kernel
theorem dX0_shinesOn_14 : decode cX0_shinesOn 14 = .ok (.ireturn, 1) := by decide +kernel
theorem dX0_shinesOn_15 : decode cX0_shinesOn 15 = .ok (.aload_n 0, 1) := by decide +kernel
theorem dX0_shinesOn_16 : decode cX0_shinesOn 16 = .ok (.getfield 21, 3) := by decide +kernel
theorem dX0_shinesOn_19 : decode cX0_shinesOn 19 = .ok (.iload_n 1, 1) := by decide +kernel
theorem dX0_shinesOn_20 : decode cX0_shinesOn 20 = .ok (.invokevirtual 111, 3) := by decide +kernel
theorem dX0_shinesOn_23 : decode cX0_shinesOn 23 = .ok (.istore_n 2, 1) := by decide +kernel
theorem dX0_shinesOn_24 : decode cX0_shinesOn 24 = .ok (.aload_n 0, 1) := by decide +kernel
theorem dX0_shinesOn_25 : decode cX0_shinesOn 25 = .ok (.getfield 12, 3) := by decide +kernel
theorem dX0_shinesOn_28 : decode cX0_shinesOn 28 = .ok (.iload_n 1, 1) := by decide +kernel
theorem dX0_shinesOn_29 : decode cX0_shinesOn 29 = .ok (.invokevirtual 52, 3) := by decide +kernel
theorem dX0_shinesOn_32 : decode cX0_shinesOn 32 = .ok (.ifCond .ne 41, 3) := by decide +kernel
theorem dX0_shinesOn_35 : decode cX0_shinesOn 35 = .ok (.iconst 0, 1) := by decide +kernel
theorem dX0_shinesOn_36 : decode cX0_shinesOn 36 = .ok (.istore_n 3, 1) := by decide +kernel
theorem dX0_shinesOn_37 : decode cX0_shinesOn 37 = .ok (.iload_n 3, 1) := by decide +kernel
theorem dX0_shinesOn_38 : decode cX0_shinesOn 38 = .ok (.iconst 4, 1) := by decide +kernel
theorem dX0_shinesOn_39 : decode cX0_shinesOn 39 = .ok (.if_icmp .ge 34, 3) := by decide +kernel
theorem dX0_shinesOn_42 : decode cX0_shinesOn 42 = .ok (.iload_n 2, 1) := by decide +kernel
theorem dX0_shinesOn_43 : decode cX0_shinesOn 43 = .ok (.ifCond .ne 18, 3) := by decide +kernel
theorem dX0_shinesOn_46 : decode cX0_shinesOn 46 = .ok (.aload_n 0, 1) := by decide +kernel
theorem dX0_shinesOn_47 : decode cX0_shinesOn 47 = .ok (.getfield 21, 3) := by decide +kernel
theorem dX0_shinesOn_50 : decode cX0_shinesOn 50 = .ok (.iload_n 1, 1) := by decide +kernel
theorem dX0_shinesOn_51 : decode cX0_shinesOn 51 = .ok (.iload_n 3, 1) := by decide +kernel
theorem dX0_shinesOn_52 : decode cX0_shinesOn 52 = .ok (.invokestatic 100, 3) := by decide +kernel
theorem dX0_shinesOn_55 : decode cX0_shinesOn 55 = .ok (.invokevirtual 111, 3) := by decide +kernel
theorem dX0_shinesOn_58 : decode cX0_shinesOn 58 = .ok (.ifCond .eq 7, 3) := by decide +kernel
theorem dX0_shinesOn_61 : decode cX0_shinesOn 61 = .ok (.iconst 1, 1) := by decide +kernel
theorem dX0_shinesOn_62 : decode cX0_shinesOn 62 = .ok (.goto 4, 3) := by decide +kernel
theorem dX0_shinesOn_65 : decode cX0_shinesOn 65 = .ok (.iconst 0, 1) := by decide +kernel
theorem dX0_shinesOn_66 : decode cX0_shinesOn 66 = .ok (.istore_n 2, 1) := by decide +kernel
theorem dX0_shinesOn_67 : decode cX0_shinesOn 67 = .ok (.iinc 3 1, 3) := by decide +kernel
theorem dX0_shinesOn_70 : decode cX0_shinesOn 70 = .ok (.goto (-33), 3) := by decide +kernel
theorem dX0_shinesOn_73 : decode cX0_shinesOn 73 = .ok (.iload_n 2, 1) := by decide +kernel
theorem dX0_shinesOn_74 : decode cX0_shinesOn 74 = .ok (.ireturn, 1) := by decide +kernel
set_option maxRecDepth 20000 in
theorem ggX0_stepsBetween_X1_clear : GoodIn wsX0_stepsBetween wsX1_clear := goodIn_r _ [7, 8, 9, 10, 11, 43, 44, 45, 46] (by decide +kernel) (by decide +kernel)
set_option maxRecDepth 20000 in
theorem gX0_stepsBetween_X1_clear : GoodIn wsX0_stepsBetween (wsV RX0 149 RX1 yX1_clear wsX1_clear) := goodIn_app (goodIn_of _ (by decide +kernel)) ggX0_stepsBetween_X1_clear
set_option maxRecDepth 20000 in
theorem ggX0_stepsBetween_X3_isOpen : GoodIn wsX0_stepsBetween wsX3_isOpen := goodIn_r _ [16, 17, 47, 48, 49] (by decide +kernel) (by decide +kernel)
set_option maxRecDepth 20000 in
theorem gX0_stepsBetween_X3_isOpen : GoodIn wsX0_stepsBetween (wsV RX0 52 RX3 yX3_isOpen wsX3_isOpen) := goodIn_app (goodIn_of _ (by decide +kernel)) ggX0_stepsBetween_X3_isOpen
set_option maxRecDepth 20000 in
theorem ggX0_stepsBetween_X1_add : GoodIn wsX0_stepsBetween wsX1_add := goodIn_r _ [21, 10, 8, 9, 43, 44, 45, 46] (by decide +kernel) (by decide +kernel)
set_option maxRecDepth 20000 in
theorem gX0_stepsBetween_X1_add : GoodIn wsX0_stepsBetween (wsV RX0 152 RX1 yX1_add wsX1_add) := goodIn_app (goodIn_of _ (by decide +kernel)) ggX0_stepsBetween_X1_add
set_option maxRecDepth 20000 in
theorem ggX0_stepsBetween_X1_spread : GoodIn wsX0_stepsBetween wsX1_spread := goodIn_r _ [25, 11, 8, 9, 26, 27, 28, 6, 29, 10, 30, 31, 32, 33, 13, 14, 15, 16, 17, 34, 19, 20, 21, 43, 44, 45, 46, 47, 48, 49] (by decide +kernel) (by decide +kernel)
set_option maxRecDepth 20000 in
theorem gX0_stepsBetween_X1_spread : GoodIn wsX0_stepsBetween (wsV RX0 155 RX1 yX1_spread wsX1_spread) := goodIn_app (goodIn_of _ (by decide +kernel)) ggX0_stepsBetween_X1_spread
set_option maxRecDepth 20000 in
theorem ggX0_stepsBetween_X1_stepsTo : GoodIn wsX0_stepsBetween wsX1_stepsTo := goodIn_r _ [29, 10, 43, 44, 45, 46] (by decide +kernel) (by decide +kernel)
set_option maxRecDepth 20000 in
theorem gX0_stepsBetween_X1_stepsTo : GoodIn wsX0_stepsBetween (wsV RX0 171 RX1 yX1_stepsTo wsX1_stepsTo) := goodIn_app (goodIn_of _ (by decide +kernel)) ggX0_stepsBetween_X1_stepsTo
theorem dX0_stepsBetween_0 : decode cX0_stepsBetween 0 = .ok (.aload_n 0, 1) := by decide +kernel
theorem dX0_stepsBetween_1 : decode cX0_stepsBetween 1 = .ok (.getfield 21, 3) := by decide +kernel
theorem dX0_stepsBetween_4 : decode cX0_stepsBetween 4 = .ok (.invokevirtual 149, 3) := by decide +kernel
theorem dX0_stepsBetween_7 : decode cX0_stepsBetween 7 = .ok (.aload_n 0, 1) := by decide +kernel
theorem dX0_stepsBetween_8 : decode cX0_stepsBetween 8 = .ok (.getfield 12, 3) := by decide +kernel
theorem dX0_stepsBetween_11 : decode cX0_stepsBetween 11 = .ok (.iload_n 1, 1) := by decide +kernel
theorem dX0_stepsBetween_12 : decode cX0_stepsBetween 12 = .ok (.invokevirtual 52, 3) := by decide +kernel
theorem dX0_stepsBetween_15 : decode cX0_stepsBetween 15 = .ok (.ifCond .eq 26, 3) := by decide +kernel
theorem dX0_stepsBetween_18 : decode cX0_stepsBetween 18 = .ok (.aload_n 0, 1) := by decide +kernel
theorem dX0_stepsBetween_19 : decode cX0_stepsBetween 19 = .ok (.getfield 21, 3) := by decide +kernel
theorem dX0_stepsBetween_22 : decode cX0_stepsBetween 22 = .ok (.iload_n 1, 1) := by decide +kernel
theorem dX0_stepsBetween_23 : decode cX0_stepsBetween 23 = .ok (.iconst 0, 1) := by decide +kernel
theorem dX0_stepsBetween_24 : decode cX0_stepsBetween 24 = .ok (.invokevirtual 152, 3) := by decide +kernel
theorem dX0_stepsBetween_27 : decode cX0_stepsBetween 27 = .ok (.aload_n 0, 1) := by decide +kernel
theorem dX0_stepsBetween_28 : decode cX0_stepsBetween 28 = .ok (.getfield 21, 3) := by decide +kernel
theorem dX0_stepsBetween_31 : decode cX0_stepsBetween 31 = .ok (.aload_n 0, 1) := by decide +kernel
theorem dX0_stepsBetween_32 : decode cX0_stepsBetween 32 = .ok (.getfield 12, 3) := by decide +kernel
theorem dX0_stepsBetween_35 : decode cX0_stepsBetween 35 = .ok (.sipush 256, 3) := by decide +kernel
theorem dX0_stepsBetween_38 : decode cX0_stepsBetween 38 = .ok (.invokevirtual 155, 3) := by decide +kernel
theorem dX0_stepsBetween_41 : decode cX0_stepsBetween 41 = .ok (.aload_n 0, 1) := by decide +kernel
theorem dX0_stepsBetween_42 : decode cX0_stepsBetween 42 = .ok (.getfield 21, 3) := by decide +kernel
theorem dX0_stepsBetween_45 : decode cX0_stepsBetween 45 = .ok (.iload_n 2, 1) := by decide +kernel
theorem dX0_stepsBetween_46 : decode cX0_stepsBetween 46 = .ok (.invokevirtual 171, 3) := by decide +kernel
theorem dX0_stepsBetween_49 : decode cX0_stepsBetween 49 = .ok (.ireturn, 1) := by decide +kernel
set_option maxRecDepth 20000 in
theorem ggX0_cavesWithout_X1_clear : GoodIn wsX0_cavesWithout wsX1_clear := goodIn_r _ [7, 8, 9, 10, 11, 50, 51, 52, 53] (by decide +kernel) (by decide +kernel)
set_option maxRecDepth 20000 in
theorem gX0_cavesWithout_X1_clear : GoodIn wsX0_cavesWithout (wsV RX0 149 RX1 yX1_clear wsX1_clear) := goodIn_app (goodIn_of _ (by decide +kernel)) ggX0_cavesWithout_X1_clear
set_option maxRecDepth 20000 in
theorem ggX0_cavesWithout_X1_shut : GoodIn wsX0_cavesWithout wsX1_shut := goodIn_r _ [15, 8, 11, 16, 17, 18, 6, 19, 10, 9, 50, 51, 52, 53] (by decide +kernel) (by decide +kernel)
set_option maxRecDepth 20000 in
theorem gX0_cavesWithout_X1_shut : GoodIn wsX0_cavesWithout (wsV RX0 174 RX1 yX1_shut wsX1_shut) := goodIn_app (goodIn_of _ (by decide +kernel)) ggX0_cavesWithout_X1_shut
set_option maxRecDepth 20000 in
theorem ggX0_cavesWithout_X3_isOpen : GoodIn wsX0_cavesWithout wsX3_isOpen := goodIn_r _ [24, 25, 54, 55, 56] (by decide +kernel) (by decide +kernel)
set_option maxRecDepth 20000 in
theorem gX0_cavesWithout_X3_isOpen : GoodIn wsX0_cavesWithout (wsV RX0 52 RX3 yX3_isOpen wsX3_isOpen) := goodIn_app (goodIn_of _ (by decide +kernel)) ggX0_cavesWithout_X3_isOpen
set_option maxRecDepth 20000 in
theorem ggX0_cavesWithout_X1_holds : GoodIn wsX0_cavesWithout wsX1_holds := goodIn_r _ [29, 30, 31, 32, 6, 33, 10, 50, 51, 52, 53] (by decide +kernel) (by decide +kernel)
set_option maxRecDepth 20000 in
theorem gX0_cavesWithout_X1_holds : GoodIn wsX0_cavesWithout (wsV RX0 111 RX1 yX1_holds wsX1_holds) := goodIn_app (goodIn_of _ (by decide +kernel)) ggX0_cavesWithout_X1_holds
set_option maxRecDepth 20000 in
theorem ggX0_cavesWithout_X1_add : GoodIn wsX0_cavesWithout wsX1_add := goodIn_r _ [19, 10, 8, 9, 50, 51, 52, 53] (by decide +kernel) (by decide +kernel)
set_option maxRecDepth 20000 in
theorem gX0_cavesWithout_X1_add : GoodIn wsX0_cavesWithout (wsV RX0 152 RX1 yX1_add wsX1_add) := goodIn_app (goodIn_of _ (by decide +kernel)) ggX0_cavesWithout_X1_add
set_option maxRecDepth 20000 in
theorem ggX0_cavesWithout_X1_spread : GoodIn wsX0_cavesWithout wsX1_spread := goodIn_r _ [38, 11, 8, 9, 30, 31, 32, 6, 33, 10, 39, 40, 41, 42, 21, 22, 23, 24, 25, 16, 17, 18, 19, 50, 51, 52, 53, 54, 55, 56] (by decide +kernel) (by decide +kernel)
set_option maxRecDepth 20000 in
theorem gX0_cavesWithout_X1_spread : GoodIn wsX0_cavesWithout (wsV RX0 155 RX1 yX1_spread wsX1_spread) := goodIn_app (goodIn_of _ (by decide +kernel)) ggX0_cavesWithout_X1_spread
theorem dX0_cavesWithout_0 : decode cX0_cavesWithout 0 = .ok (.aload_n 0, 1) := by decide +kernel
theorem dX0_cavesWithout_1 : decode cX0_cavesWithout 1 = .ok (.getfield 21, 3) := by decide +kernel
theorem dX0_cavesWithout_4 : decode cX0_cavesWithout 4 = .ok (.invokevirtual 149, 3) := by decide +kernel
theorem dX0_cavesWithout_7 : decode cX0_cavesWithout 7 = .ok (.aload_n 0, 1) := by decide +kernel
theorem dX0_cavesWithout_8 : decode cX0_cavesWithout 8 = .ok (.getfield 21, 3) := by decide +kernel
theorem dX0_cavesWithout_11 : decode cX0_cavesWithout 11 = .ok (.iload_n 1, 1) := by decide +kernel
theorem dX0_cavesWithout_12 : decode cX0_cavesWithout 12 = .ok (.invokevirtual 174, 3) := by decide +kernel
theorem dX0_cavesWithout_15 : decode cX0_cavesWithout 15 = .ok (.iconst 0, 1) := by decide +kernel
theorem dX0_cavesWithout_16 : decode cX0_cavesWithout 16 = .ok (.istore_n 2, 1) := by decide +kernel
theorem dX0_cavesWithout_17 : decode cX0_cavesWithout 17 = .ok (.iconst 0, 1) := by decide +kernel
theorem dX0_cavesWithout_18 : decode cX0_cavesWithout 18 = .ok (.istore_n 3, 1) := by decide +kernel
theorem dX0_cavesWithout_19 : decode cX0_cavesWithout 19 = .ok (.iload_n 3, 1) := by decide +kernel
theorem dX0_cavesWithout_20 : decode cX0_cavesWithout 20 = .ok (.sipush 256, 3) := by decide +kernel
theorem dX0_cavesWithout_23 : decode cX0_cavesWithout 23 = .ok (.if_icmp .ge 57, 3) := by decide +kernel
theorem dX0_cavesWithout_26 : decode cX0_cavesWithout 26 = .ok (.aload_n 0, 1) := by decide +kernel
theorem dX0_cavesWithout_27 : decode cX0_cavesWithout 27 = .ok (.getfield 12, 3) := by decide +kernel
theorem dX0_cavesWithout_30 : decode cX0_cavesWithout 30 = .ok (.iload_n 3, 1) := by decide +kernel
theorem dX0_cavesWithout_31 : decode cX0_cavesWithout 31 = .ok (.invokevirtual 52, 3) := by decide +kernel
theorem dX0_cavesWithout_34 : decode cX0_cavesWithout 34 = .ok (.ifCond .eq 40, 3) := by decide +kernel
theorem dX0_cavesWithout_37 : decode cX0_cavesWithout 37 = .ok (.aload_n 0, 1) := by decide +kernel
theorem dX0_cavesWithout_38 : decode cX0_cavesWithout 38 = .ok (.getfield 21, 3) := by decide +kernel
theorem dX0_cavesWithout_41 : decode cX0_cavesWithout 41 = .ok (.iload_n 3, 1) := by decide +kernel
theorem dX0_cavesWithout_42 : decode cX0_cavesWithout 42 = .ok (.invokevirtual 111, 3) := by decide +kernel
theorem dX0_cavesWithout_45 : decode cX0_cavesWithout 45 = .ok (.ifCond .ne 29, 3) := by decide +kernel
theorem dX0_cavesWithout_48 : decode cX0_cavesWithout 48 = .ok (.aload_n 0, 1) := by decide +kernel
theorem dX0_cavesWithout_49 : decode cX0_cavesWithout 49 = .ok (.getfield 21, 3) := by decide +kernel
theorem dX0_cavesWithout_52 : decode cX0_cavesWithout 52 = .ok (.iload_n 3, 1) := by decide +kernel
theorem dX0_cavesWithout_53 : decode cX0_cavesWithout 53 = .ok (.iconst 0, 1) := by decide +kernel
theorem dX0_cavesWithout_54 : decode cX0_cavesWithout 54 = .ok (.invokevirtual 152, 3) := by decide +kernel
theorem dX0_cavesWithout_57 : decode cX0_cavesWithout 57 = .ok (.aload_n 0, 1) := by decide +kernel
theorem dX0_cavesWithout_58 : decode cX0_cavesWithout 58 = .ok (.getfield 21, 3) := by decide +kernel
theorem dX0_cavesWithout_61 : decode cX0_cavesWithout 61 = .ok (.aload_n 0, 1) := by decide +kernel
theorem dX0_cavesWithout_62 : decode cX0_cavesWithout 62 = .ok (.getfield 12, 3) := by decide +kernel
theorem dX0_cavesWithout_65 : decode cX0_cavesWithout 65 = .ok (.sipush 256, 3) := by decide +kernel
theorem dX0_cavesWithout_68 : decode cX0_cavesWithout 68 = .ok (.invokevirtual 155, 3) := by decide +kernel
theorem dX0_cavesWithout_71 : decode cX0_cavesWithout 71 = .ok (.iinc 2 1, 3) := by decide +kernel
theorem dX0_cavesWithout_74 : decode cX0_cavesWithout 74 = .ok (.iinc 3 1, 3) := by decide +kernel
theorem dX0_cavesWithout_77 : decode cX0_cavesWithout 77 = .ok (.goto (-58), 3) := by decide +kernel
theorem dX0_cavesWithout_80 : decode cX0_cavesWithout 80 = .ok (.iload_n 2, 1) := by decide +kernel
theorem dX0_cavesWithout_81 : decode cX0_cavesWithout 81 = .ok (.ireturn, 1) := by decide +kernel
set_option maxRecDepth 20000 in
theorem ggX0_largestCave_X1_clear : GoodIn wsX0_largestCave wsX1_clear := goodIn_r _ [11, 12, 13, 14, 15, 46, 47, 48, 49] (by decide +kernel) (by decide +kernel)
set_option maxRecDepth 20000 in
theorem gX0_largestCave_X1_clear : GoodIn wsX0_largestCave (wsV RX0 149 RX1 yX1_clear wsX1_clear) := goodIn_app (goodIn_of _ (by decide +kernel)) ggX0_largestCave_X1_clear
set_option maxRecDepth 20000 in
theorem ggX0_largestCave_X3_isOpen : GoodIn wsX0_largestCave wsX3_isOpen := goodIn_r _ [20, 21, 50, 51, 52] (by decide +kernel) (by decide +kernel)
set_option maxRecDepth 20000 in
theorem gX0_largestCave_X3_isOpen : GoodIn wsX0_largestCave (wsV RX0 52 RX3 yX3_isOpen wsX3_isOpen) := goodIn_app (goodIn_of _ (by decide +kernel)) ggX0_largestCave_X3_isOpen
set_option maxRecDepth 20000 in
theorem ggX0_largestCave_X1_add : GoodIn wsX0_largestCave wsX1_add := goodIn_r _ [25, 14, 12, 13, 46, 47, 48, 49] (by decide +kernel) (by decide +kernel)
set_option maxRecDepth 20000 in
theorem gX0_largestCave_X1_add : GoodIn wsX0_largestCave (wsV RX0 152 RX1 yX1_add wsX1_add) := goodIn_app (goodIn_of _ (by decide +kernel)) ggX0_largestCave_X1_add
set_option maxRecDepth 20000 in
theorem ggX0_largestCave_X1_spread : GoodIn wsX0_largestCave wsX1_spread := goodIn_r _ [29, 15, 12, 13, 30, 31, 32, 10, 33, 14, 34, 35, 36, 37, 17, 18, 19, 20, 21, 38, 23, 24, 25, 46, 47, 48, 49, 50, 51, 52] (by decide +kernel) (by decide +kernel)
set_option maxRecDepth 20000 in
theorem gX0_largestCave_X1_spread : GoodIn wsX0_largestCave (wsV RX0 155 RX1 yX1_spread wsX1_spread) := goodIn_app (goodIn_of _ (by decide +kernel)) ggX0_largestCave_X1_spread
theorem dX0_largestCave_0 : decode cX0_largestCave 0 = .ok (.aload_n 0, 1) := by decide +kernel
theorem dX0_largestCave_1 : decode cX0_largestCave 1 = .ok (.getfield 21, 3) := by decide +kernel
theorem dX0_largestCave_4 : decode cX0_largestCave 4 = .ok (.invokevirtual 149, 3) := by decide +kernel
theorem dX0_largestCave_7 : decode cX0_largestCave 7 = .ok (.iconst 0, 1) := by decide +kernel
theorem dX0_largestCave_8 : decode cX0_largestCave 8 = .ok (.istore_n 1, 1) := by decide +kernel
theorem dX0_largestCave_9 : decode cX0_largestCave 9 = .ok (.iconst 0, 1) := by decide +kernel
theorem dX0_largestCave_10 : decode cX0_largestCave 10 = .ok (.istore_n 2, 1) := by decide +kernel
theorem dX0_largestCave_11 : decode cX0_largestCave 11 = .ok (.iload_n 2, 1) := by decide +kernel
theorem dX0_largestCave_12 : decode cX0_largestCave 12 = .ok (.sipush 256, 3) := by decide +kernel
theorem dX0_largestCave_15 : decode cX0_largestCave 15 = .ok (.if_icmp .ge 65, 3) := by decide +kernel
theorem dX0_largestCave_18 : decode cX0_largestCave 18 = .ok (.aload_n 0, 1) := by decide +kernel
theorem dX0_largestCave_19 : decode cX0_largestCave 19 = .ok (.getfield 12, 3) := by decide +kernel
theorem dX0_largestCave_22 : decode cX0_largestCave 22 = .ok (.iload_n 2, 1) := by decide +kernel
theorem dX0_largestCave_23 : decode cX0_largestCave 23 = .ok (.invokevirtual 52, 3) := by decide +kernel
theorem dX0_largestCave_26 : decode cX0_largestCave 26 = .ok (.ifCond .eq 48, 3) := by decide +kernel
theorem dX0_largestCave_29 : decode cX0_largestCave 29 = .ok (.aload_n 0, 1) := by decide +kernel
theorem dX0_largestCave_30 : decode cX0_largestCave 30 = .ok (.getfield 21, 3) := by decide +kernel
theorem dX0_largestCave_33 : decode cX0_largestCave 33 = .ok (.getfield 162, 3) := by decide +kernel
theorem dX0_largestCave_36 : decode cX0_largestCave 36 = .ok (.istore_n 3, 1) := by decide +kernel
theorem dX0_largestCave_37 : decode cX0_largestCave 37 = .ok (.aload_n 0, 1) := by decide +kernel
theorem dX0_largestCave_38 : decode cX0_largestCave 38 = .ok (.getfield 21, 3) := by decide +kernel
theorem dX0_largestCave_41 : decode cX0_largestCave 41 = .ok (.iload_n 2, 1) := by decide +kernel
theorem dX0_largestCave_42 : decode cX0_largestCave 42 = .ok (.iconst 0, 1) := by decide +kernel
theorem dX0_largestCave_43 : decode cX0_largestCave 43 = .ok (.invokevirtual 152, 3) := by decide +kernel
theorem dX0_largestCave_46 : decode cX0_largestCave 46 = .ok (.aload_n 0, 1) := by decide +kernel
theorem dX0_largestCave_47 : decode cX0_largestCave 47 = .ok (.getfield 21, 3) := by decide +kernel
theorem dX0_largestCave_50 : decode cX0_largestCave 50 = .ok (.aload_n 0, 1) := by decide +kernel
theorem dX0_largestCave_51 : decode cX0_largestCave 51 = .ok (.getfield 12, 3) := by decide +kernel
theorem dX0_largestCave_54 : decode cX0_largestCave 54 = .ok (.sipush 256, 3) := by decide +kernel
theorem dX0_largestCave_57 : decode cX0_largestCave 57 = .ok (.invokevirtual 155, 3) := by decide +kernel
theorem dX0_largestCave_60 : decode cX0_largestCave 60 = .ok (.iload_n 1, 1) := by decide +kernel
theorem dX0_largestCave_61 : decode cX0_largestCave 61 = .ok (.aload_n 0, 1) := by decide +kernel
theorem dX0_largestCave_62 : decode cX0_largestCave 62 = .ok (.getfield 21, 3) := by decide +kernel
theorem dX0_largestCave_65 : decode cX0_largestCave 65 = .ok (.getfield 162, 3) := by decide +kernel
theorem dX0_largestCave_68 : decode cX0_largestCave 68 = .ok (.iload_n 3, 1) := by decide +kernel
theorem dX0_largestCave_69 : decode cX0_largestCave 69 = .ok (.isub, 1) := by decide +kernel
theorem dX0_largestCave_70 : decode cX0_largestCave 70 = .ok (.invokestatic 177, 3) := by decide +kernel
theorem dX0_largestCave_73 : decode cX0_largestCave 73 = .ok (.istore_n 1, 1) := by decide +kernel
theorem dX0_largestCave_74 : decode cX0_largestCave 74 = .ok (.iinc 2 1, 3) := by decide +kernel
theorem dX0_largestCave_77 : decode cX0_largestCave 77 = .ok (.goto (-66), 3) := by decide +kernel
theorem dX0_largestCave_80 : decode cX0_largestCave 80 = .ok (.iload_n 1, 1) := by decide +kernel
theorem dX0_largestCave_81 : decode cX0_largestCave 81 = .ok (.ireturn, 1) := by decide +kernel
set_option maxRecDepth 20000 in
theorem ggX0_cavesWithCrew_X1_clear : GoodIn wsX0_cavesWithCrew wsX1_clear := goodIn_r _ [9, 10, 11, 12, 13, 55, 56, 57, 58] (by decide +kernel) (by decide +kernel)
set_option maxRecDepth 20000 in
theorem gX0_cavesWithCrew_X1_clear : GoodIn wsX0_cavesWithCrew (wsV RX0 149 RX1 yX1_clear wsX1_clear) := goodIn_app (goodIn_of _ (by decide +kernel)) ggX0_cavesWithCrew_X1_clear
set_option maxRecDepth 20000 in
theorem ggX0_cavesWithCrew_X1_holds : GoodIn wsX0_cavesWithCrew wsX1_holds := goodIn_r _ [17, 18, 19, 20, 8, 21, 12, 55, 56, 57, 58] (by decide +kernel) (by decide +kernel)
set_option maxRecDepth 20000 in
theorem gX0_cavesWithCrew_X1_holds : GoodIn wsX0_cavesWithCrew (wsV RX0 111 RX1 yX1_holds wsX1_holds) := goodIn_app (goodIn_of _ (by decide +kernel)) ggX0_cavesWithCrew_X1_holds
set_option maxRecDepth 20000 in
theorem ggX0_cavesWithCrew_X1_add : GoodIn wsX0_cavesWithCrew wsX1_add := goodIn_r _ [25, 12, 10, 11, 55, 56, 57, 58] (by decide +kernel) (by decide +kernel)
set_option maxRecDepth 20000 in
theorem gX0_cavesWithCrew_X1_add : GoodIn wsX0_cavesWithCrew (wsV RX0 152 RX1 yX1_add wsX1_add) := goodIn_app (goodIn_of _ (by decide +kernel)) ggX0_cavesWithCrew_X1_add
set_option maxRecDepth 20000 in
theorem ggX0_cavesWithCrew_X1_spread : GoodIn wsX0_cavesWithCrew wsX1_spread := goodIn_r _ [29, 13, 10, 11, 18, 19, 20, 8, 21, 12, 30, 31, 32, 33, 34, 35, 36, 37, 38, 39, 23, 24, 25, 55, 56, 57, 58, 59, 60, 61] (by decide +kernel) (by decide +kernel)
set_option maxRecDepth 20000 in
theorem gX0_cavesWithCrew_X1_spread : GoodIn wsX0_cavesWithCrew (wsV RX0 155 RX1 yX1_spread wsX1_spread) := goodIn_app (goodIn_of _ (by decide +kernel)) ggX0_cavesWithCrew_X1_spread
theorem dX0_cavesWithCrew_0 : decode cX0_cavesWithCrew 0 = .ok (.aload_n 0, 1) := by decide +kernel
theorem dX0_cavesWithCrew_1 : decode cX0_cavesWithCrew 1 = .ok (.getfield 21, 3) := by decide +kernel
theorem dX0_cavesWithCrew_4 : decode cX0_cavesWithCrew 4 = .ok (.invokevirtual 149, 3) := by decide +kernel
theorem dX0_cavesWithCrew_7 : decode cX0_cavesWithCrew 7 = .ok (.iconst 0, 1) := by decide +kernel
theorem dX0_cavesWithCrew_8 : decode cX0_cavesWithCrew 8 = .ok (.istore_n 1, 1) := by decide +kernel
theorem dX0_cavesWithCrew_9 : decode cX0_cavesWithCrew 9 = .ok (.iconst 0, 1) := by decide +kernel
theorem dX0_cavesWithCrew_10 : decode cX0_cavesWithCrew 10 = .ok (.istore_n 2, 1) := by decide +kernel
theorem dX0_cavesWithCrew_11 : decode cX0_cavesWithCrew 11 = .ok (.iload_n 2, 1) := by decide +kernel
theorem dX0_cavesWithCrew_12 : decode cX0_cavesWithCrew 12 = .ok (.aload_n 0, 1) := by decide +kernel
theorem dX0_cavesWithCrew_13 : decode cX0_cavesWithCrew 13 = .ok (.getfield 39, 3) := by decide +kernel
theorem dX0_cavesWithCrew_16 : decode cX0_cavesWithCrew 16 = .ok (.if_icmp .ge 80, 3) := by decide +kernel
theorem dX0_cavesWithCrew_19 : decode cX0_cavesWithCrew 19 = .ok (.iload_n 2, 1) := by decide +kernel
theorem dX0_cavesWithCrew_20 : decode cX0_cavesWithCrew 20 = .ok (.bipush 8, 2) := by decide +kernel
theorem dX0_cavesWithCrew_22 : decode cX0_cavesWithCrew 22 = .ok (.if_icmp .ge 74, 3) := by decide +kernel
theorem dX0_cavesWithCrew_25 : decode cX0_cavesWithCrew 25 = .ok (.aload_n 0, 1) := by decide +kernel
theorem dX0_cavesWithCrew_26 : decode cX0_cavesWithCrew 26 = .ok (.getfield 27, 3) := by decide +kernel
theorem dX0_cavesWithCrew_29 : decode cX0_cavesWithCrew 29 = .ok (.iload_n 2, 1) := by decide +kernel
theorem dX0_cavesWithCrew_30 : decode cX0_cavesWithCrew 30 = .ok (.aaload, 1) := by decide +kernel
theorem dX0_cavesWithCrew_31 : decode cX0_cavesWithCrew 31 = .ok (.getfield 69, 3) := by decide +kernel
theorem dX0_cavesWithCrew_34 : decode cX0_cavesWithCrew 34 = .ok (.ifCond .ne 56, 3) := by decide +kernel
theorem dX0_cavesWithCrew_37 : decode cX0_cavesWithCrew 37 = .ok (.aload_n 0, 1) := by decide +kernel
theorem dX0_cavesWithCrew_38 : decode cX0_cavesWithCrew 38 = .ok (.getfield 21, 3) := by decide +kernel
theorem dX0_cavesWithCrew_41 : decode cX0_cavesWithCrew 41 = .ok (.aload_n 0, 1) := by decide +kernel
theorem dX0_cavesWithCrew_42 : decode cX0_cavesWithCrew 42 = .ok (.getfield 27, 3) := by decide +kernel
theorem dX0_cavesWithCrew_45 : decode cX0_cavesWithCrew 45 = .ok (.iload_n 2, 1) := by decide +kernel
theorem dX0_cavesWithCrew_46 : decode cX0_cavesWithCrew 46 = .ok (.aaload, 1) := by decide +kernel
theorem dX0_cavesWithCrew_47 : decode cX0_cavesWithCrew 47 = .ok (.getfield 60, 3) := by decide +kernel
theorem dX0_cavesWithCrew_50 : decode cX0_cavesWithCrew 50 = .ok (.invokevirtual 111, 3) := by decide +kernel
theorem dX0_cavesWithCrew_53 : decode cX0_cavesWithCrew 53 = .ok (.ifCond .ne 37, 3) := by decide +kernel
theorem dX0_cavesWithCrew_56 : decode cX0_cavesWithCrew 56 = .ok (.aload_n 0, 1) := by decide +kernel
theorem dX0_cavesWithCrew_57 : decode cX0_cavesWithCrew 57 = .ok (.getfield 21, 3) := by decide +kernel
theorem dX0_cavesWithCrew_60 : decode cX0_cavesWithCrew 60 = .ok (.aload_n 0, 1) := by decide +kernel
theorem dX0_cavesWithCrew_61 : decode cX0_cavesWithCrew 61 = .ok (.getfield 27, 3) := by decide +kernel
theorem dX0_cavesWithCrew_64 : decode cX0_cavesWithCrew 64 = .ok (.iload_n 2, 1) := by decide +kernel
theorem dX0_cavesWithCrew_65 : decode cX0_cavesWithCrew 65 = .ok (.aaload, 1) := by decide +kernel
theorem dX0_cavesWithCrew_66 : decode cX0_cavesWithCrew 66 = .ok (.getfield 60, 3) := by decide +kernel
theorem dX0_cavesWithCrew_69 : decode cX0_cavesWithCrew 69 = .ok (.iconst 0, 1) := by decide +kernel
theorem dX0_cavesWithCrew_70 : decode cX0_cavesWithCrew 70 = .ok (.invokevirtual 152, 3) := by decide +kernel
theorem dX0_cavesWithCrew_73 : decode cX0_cavesWithCrew 73 = .ok (.aload_n 0, 1) := by decide +kernel
theorem dX0_cavesWithCrew_74 : decode cX0_cavesWithCrew 74 = .ok (.getfield 21, 3) := by decide +kernel
theorem dX0_cavesWithCrew_77 : decode cX0_cavesWithCrew 77 = .ok (.aload_n 0, 1) := by decide +kernel
theorem dX0_cavesWithCrew_78 : decode cX0_cavesWithCrew 78 = .ok (.getfield 12, 3) := by decide +kernel
theorem dX0_cavesWithCrew_81 : decode cX0_cavesWithCrew 81 = .ok (.sipush 256, 3) := by decide +kernel
theorem dX0_cavesWithCrew_84 : decode cX0_cavesWithCrew 84 = .ok (.invokevirtual 155, 3) := by decide +kernel
theorem dX0_cavesWithCrew_87 : decode cX0_cavesWithCrew 87 = .ok (.iinc 1 1, 3) := by decide +kernel
theorem dX0_cavesWithCrew_90 : decode cX0_cavesWithCrew 90 = .ok (.iinc 2 1, 3) := by decide +kernel
theorem dX0_cavesWithCrew_93 : decode cX0_cavesWithCrew 93 = .ok (.goto (-82), 3) := by decide +kernel
theorem dX0_cavesWithCrew_96 : decode cX0_cavesWithCrew 96 = .ok (.iload_n 1, 1) := by decide +kernel
theorem dX0_cavesWithCrew_97 : decode cX0_cavesWithCrew 97 = .ok (.ireturn, 1) := by decide +kernel
set_option maxRecDepth 20000 in
theorem ggX0_areTogether_X0_member : GoodIn wsX0_areTogether wsX0_member := goodIn_r _ [5, 6, 7, 22, 23, 24, 25, 26, 27, 28] (by decide +kernel) (by decide +kernel)
set_option maxRecDepth 20000 in
theorem gX0_areTogether_X0_member : GoodIn wsX0_areTogether (wsV RX0 182 RX0 yX0_member wsX0_member) := goodIn_app (goodIn_of _ (by decide +kernel)) ggX0_areTogether_X0_member
set_option maxRecDepth 20000 in
theorem ggX0_areTogether_X5_isNear : GoodIn wsX0_areTogether wsX5_isNear := goodIn_r _ [10, 11, 12, 9, 13] (by decide +kernel) (by decide +kernel)
set_option maxRecDepth 20000 in
theorem gX0_areTogether_X5_isNear_n136 : GoodIn wsX0_areTogether (wsX5_isNear) := ggX0_areTogether_X5_isNear
theorem dX0_areTogether_0 : decode cX0_areTogether 0 = .ok (.aload_n 0, 1) := by decide +kernel
theorem dX0_areTogether_1 : decode cX0_areTogether 1 = .ok (.iload_n 1, 1) := by decide +kernel
theorem dX0_areTogether_2 : decode cX0_areTogether 2 = .ok (.invokevirtual 182, 3) := by decide +kernel
theorem dX0_areTogether_5 : decode cX0_areTogether 5 = .ok (.astore_n 3, 1) := by decide +kernel
theorem dX0_areTogether_6 : decode cX0_areTogether 6 = .ok (.aload_n 0, 1) := by decide +kernel
theorem dX0_areTogether_7 : decode cX0_areTogether 7 = .ok (.iload_n 2, 1) := by decide +kernel
theorem dX0_areTogether_8 : decode cX0_areTogether 8 = .ok (.invokevirtual 182, 3) := by decide +kernel
theorem dX0_areTogether_11 : decode cX0_areTogether 11 = .ok (.astore 4, 2) := by decide +kernel
theorem dX0_areTogether_13 : decode cX0_areTogether 13 = .ok (.aload_n 3, 1) := by decide +kernel
theorem dX0_areTogether_14 : decode cX0_areTogether 14 = .ok (.ifnull 23, 3) := by decide +kernel
theorem dX0_areTogether_17 : decode cX0_areTogether 17 = .ok (.aload 4, 2) := by decide +kernel
theorem dX0_areTogether_19 : decode cX0_areTogether 19 = .ok (.ifnull 18, 3) := by decide +kernel
theorem dX0_areTogether_22 : decode cX0_areTogether 22 = .ok (.aload_n 3, 1) := by decide +kernel
theorem dX0_areTogether_23 : decode cX0_areTogether 23 = .ok (.getfield 69, 3) := by decide +kernel
theorem dX0_areTogether_26 : decode cX0_areTogether 26 = .ok (.ifCond .ne 11, 3) := by decide +kernel
theorem dX0_areTogether_29 : decode cX0_areTogether 29 = .ok (.aload 4, 2) := by decide +kernel
theorem dX0_areTogether_31 : decode cX0_areTogether 31 = .ok (.getfield 69, 3) := by decide +kernel
theorem dX0_areTogether_34 : decode cX0_areTogether 34 = .ok (.ifCond .eq 5, 3) := by decide +kernel
theorem dX0_areTogether_37 : decode cX0_areTogether 37 = .ok (.iconst 0, 1) := by decide +kernel
theorem dX0_areTogether_38 : decode cX0_areTogether 38 = .ok (.ireturn, 1) := by decide +kernel
theorem dX0_areTogether_39 : decode cX0_areTogether 39 = .ok (.aload_n 3, 1) := by decide +kernel
theorem dX0_areTogether_40 : decode cX0_areTogether 40 = .ok (.getfield 60, 3) := by decide +kernel
theorem dX0_areTogether_43 : decode cX0_areTogether 43 = .ok (.aload 4, 2) := by decide +kernel
theorem dX0_areTogether_45 : decode cX0_areTogether 45 = .ok (.getfield 60, 3) := by decide +kernel
theorem dX0_areTogether_48 : decode cX0_areTogether 48 = .ok (.invokestatic 136, 3) := by decide +kernel
theorem dX0_areTogether_51 : decode cX0_areTogether 51 = .ok (.ireturn, 1) := by decide +kernel
theorem dX0_crewAt_0 : decode cX0_crewAt 0 = .ok (.iconst 0, 1) := by decide +kernel
theorem dX0_crewAt_1 : decode cX0_crewAt 1 = .ok (.istore_n 2, 1) := by decide +kernel
theorem dX0_crewAt_2 : decode cX0_crewAt 2 = .ok (.iconst 0, 1) := by decide +kernel
theorem dX0_crewAt_3 : decode cX0_crewAt 3 = .ok (.istore_n 3, 1) := by decide +kernel
theorem dX0_crewAt_4 : decode cX0_crewAt 4 = .ok (.iload_n 3, 1) := by decide +kernel
theorem dX0_crewAt_5 : decode cX0_crewAt 5 = .ok (.aload_n 0, 1) := by decide +kernel
theorem dX0_crewAt_6 : decode cX0_crewAt 6 = .ok (.getfield 39, 3) := by decide +kernel
theorem dX0_crewAt_9 : decode cX0_crewAt 9 = .ok (.if_icmp .ge 31, 3) := by decide +kernel
theorem dX0_crewAt_12 : decode cX0_crewAt 12 = .ok (.iload_n 3, 1) := by decide +kernel
theorem dX0_crewAt_13 : decode cX0_crewAt 13 = .ok (.bipush 8, 2) := by decide +kernel
theorem dX0_crewAt_15 : decode cX0_crewAt 15 = .ok (.if_icmp .ge 25, 3) := by decide +kernel
theorem dX0_crewAt_18 : decode cX0_crewAt 18 = .ok (.aload_n 0, 1) := by decide +kernel
theorem dX0_crewAt_19 : decode cX0_crewAt 19 = .ok (.getfield 27, 3) := by decide +kernel
theorem dX0_crewAt_22 : decode cX0_crewAt 22 = .ok (.iload_n 3, 1) := by decide +kernel
theorem dX0_crewAt_23 : decode cX0_crewAt 23 = .ok (.aaload, 1) := by decide +kernel
theorem dX0_crewAt_24 : decode cX0_crewAt 24 = .ok (.getfield 60, 3) := by decide +kernel
theorem dX0_crewAt_27 : decode cX0_crewAt 27 = .ok (.iload_n 1, 1) := by decide +kernel
theorem dX0_crewAt_28 : decode cX0_crewAt 28 = .ok (.if_icmp .ne 6, 3) := by decide +kernel
theorem dX0_crewAt_31 : decode cX0_crewAt 31 = .ok (.iinc 2 1, 3) := by decide +kernel
theorem dX0_crewAt_34 : decode cX0_crewAt 34 = .ok (.iinc 3 1, 3) := by decide +kernel
theorem dX0_crewAt_37 : decode cX0_crewAt 37 = .ok (.goto (-33), 3) := by decide +kernel
theorem dX0_crewAt_40 : decode cX0_crewAt 40 = .ok (.iload_n 2, 1) := by decide +kernel
theorem dX0_crewAt_41 : decode cX0_crewAt 41 = .ok (.ireturn, 1) := by decide +kernel
theorem dX0_buriedAt_0 : decode cX0_buriedAt 0 = .ok (.iconst 0, 1) := by decide +kernel
theorem dX0_buriedAt_1 : decode cX0_buriedAt 1 = .ok (.istore_n 2, 1) := by decide +kernel
theorem dX0_buriedAt_2 : decode cX0_buriedAt 2 = .ok (.iconst 0, 1) := by decide +kernel
theorem dX0_buriedAt_3 : decode cX0_buriedAt 3 = .ok (.istore_n 3, 1) := by decide +kernel
theorem dX0_buriedAt_4 : decode cX0_buriedAt 4 = .ok (.iload_n 3, 1) := by decide +kernel
theorem dX0_buriedAt_5 : decode cX0_buriedAt 5 = .ok (.aload_n 0, 1) := by decide +kernel
theorem dX0_buriedAt_6 : decode cX0_buriedAt 6 = .ok (.getfield 39, 3) := by decide +kernel
theorem dX0_buriedAt_9 : decode cX0_buriedAt 9 = .ok (.if_icmp .ge 43, 3) := by decide +kernel
theorem dX0_buriedAt_12 : decode cX0_buriedAt 12 = .ok (.iload_n 3, 1) := by decide +kernel
theorem dX0_buriedAt_13 : decode cX0_buriedAt 13 = .ok (.bipush 8, 2) := by decide +kernel
theorem dX0_buriedAt_15 : decode cX0_buriedAt 15 = .ok (.if_icmp .ge 37, 3) := by decide +kernel
theorem dX0_buriedAt_18 : decode cX0_buriedAt 18 = .ok (.aload_n 0, 1) := by decide +kernel
theorem dX0_buriedAt_19 : decode cX0_buriedAt 19 = .ok (.getfield 27, 3) := by decide +kernel
theorem dX0_buriedAt_22 : decode cX0_buriedAt 22 = .ok (.iload_n 3, 1) := by decide +kernel
theorem dX0_buriedAt_23 : decode cX0_buriedAt 23 = .ok (.aaload, 1) := by decide +kernel
theorem dX0_buriedAt_24 : decode cX0_buriedAt 24 = .ok (.getfield 60, 3) := by decide +kernel
theorem dX0_buriedAt_27 : decode cX0_buriedAt 27 = .ok (.iload_n 1, 1) := by decide +kernel
theorem dX0_buriedAt_28 : decode cX0_buriedAt 28 = .ok (.if_icmp .ne 18, 3) := by decide +kernel
theorem dX0_buriedAt_31 : decode cX0_buriedAt 31 = .ok (.aload_n 0, 1) := by decide +kernel
theorem dX0_buriedAt_32 : decode cX0_buriedAt 32 = .ok (.getfield 27, 3) := by decide +kernel
theorem dX0_buriedAt_35 : decode cX0_buriedAt 35 = .ok (.iload_n 3, 1) := by decide +kernel
theorem dX0_buriedAt_36 : decode cX0_buriedAt 36 = .ok (.aaload, 1) := by decide +kernel
theorem dX0_buriedAt_37 : decode cX0_buriedAt 37 = .ok (.getfield 69, 3) := by decide +kernel
theorem dX0_buriedAt_40 : decode cX0_buriedAt 40 = .ok (.ifCond .eq 6, 3) := by decide +kernel
theorem dX0_buriedAt_43 : decode cX0_buriedAt 43 = .ok (.iinc 2 1, 3) := by decide +kernel
theorem dX0_buriedAt_46 : decode cX0_buriedAt 46 = .ok (.iinc 3 1, 3) := by decide +kernel
theorem dX0_buriedAt_49 : decode cX0_buriedAt 49 = .ok (.goto (-45), 3) := by decide +kernel
theorem dX0_buriedAt_52 : decode cX0_buriedAt 52 = .ok (.iload_n 2, 1) := by decide +kernel
theorem dX0_buriedAt_53 : decode cX0_buriedAt 53 = .ok (.ireturn, 1) := by decide +kernel
theorem dX0_buriedCrew_0 : decode cX0_buriedCrew 0 = .ok (.iconst 0, 1) := by decide +kernel
theorem dX0_buriedCrew_1 : decode cX0_buriedCrew 1 = .ok (.istore_n 1, 1) := by decide +kernel
theorem dX0_buriedCrew_2 : decode cX0_buriedCrew 2 = .ok (.iconst 0, 1) := by decide +kernel
theorem dX0_buriedCrew_3 : decode cX0_buriedCrew 3 = .ok (.istore_n 2, 1) := by decide +kernel
theorem dX0_buriedCrew_4 : decode cX0_buriedCrew 4 = .ok (.iload_n 2, 1) := by decide +kernel
theorem dX0_buriedCrew_5 : decode cX0_buriedCrew 5 = .ok (.aload_n 0, 1) := by decide +kernel
theorem dX0_buriedCrew_6 : decode cX0_buriedCrew 6 = .ok (.getfield 39, 3) := by decide +kernel
theorem dX0_buriedCrew_9 : decode cX0_buriedCrew 9 = .ok (.if_icmp .ge 30, 3) := by decide +kernel
theorem dX0_buriedCrew_12 : decode cX0_buriedCrew 12 = .ok (.iload_n 2, 1) := by decide +kernel
theorem dX0_buriedCrew_13 : decode cX0_buriedCrew 13 = .ok (.bipush 8, 2) := by decide +kernel
theorem dX0_buriedCrew_15 : decode cX0_buriedCrew 15 = .ok (.if_icmp .ge 24, 3) := by decide +kernel
theorem dX0_buriedCrew_18 : decode cX0_buriedCrew 18 = .ok (.aload_n 0, 1) := by decide +kernel
theorem dX0_buriedCrew_19 : decode cX0_buriedCrew 19 = .ok (.getfield 27, 3) := by decide +kernel
theorem dX0_buriedCrew_22 : decode cX0_buriedCrew 22 = .ok (.iload_n 2, 1) := by decide +kernel
theorem dX0_buriedCrew_23 : decode cX0_buriedCrew 23 = .ok (.aaload, 1) := by decide +kernel
theorem dX0_buriedCrew_24 : decode cX0_buriedCrew 24 = .ok (.getfield 69, 3) := by decide +kernel
theorem dX0_buriedCrew_27 : decode cX0_buriedCrew 27 = .ok (.ifCond .eq 6, 3) := by decide +kernel
theorem dX0_buriedCrew_30 : decode cX0_buriedCrew 30 = .ok (.iinc 1 1, 3) := by decide +kernel
theorem dX0_buriedCrew_33 : decode cX0_buriedCrew 33 = .ok (.iinc 2 1, 3) := by decide +kernel
theorem dX0_buriedCrew_36 : decode cX0_buriedCrew 36 = .ok (.goto (-32), 3) := by decide +kernel
theorem dX0_buriedCrew_39 : decode cX0_buriedCrew 39 = .ok (.iload_n 1, 1) := by decide +kernel
theorem dX0_buriedCrew_40 : decode cX0_buriedCrew 40 = .ok (.ireturn, 1) := by decide +kernel
theorem dX0_openedByCrew_0 : decode cX0_openedByCrew 0 = .ok (.iconst 0, 1) := by decide +kernel
theorem dX0_openedByCrew_1 : decode cX0_openedByCrew 1 = .ok (.istore_n 1, 1) := by decide +kernel
theorem dX0_openedByCrew_2 : decode cX0_openedByCrew 2 = .ok (.iconst 0, 1) := by decide +kernel
theorem dX0_openedByCrew_3 : decode cX0_openedByCrew 3 = .ok (.istore_n 2, 1) := by decide +kernel
theorem dX0_openedByCrew_4 : decode cX0_openedByCrew 4 = .ok (.iload_n 2, 1) := by decide +kernel
theorem dX0_openedByCrew_5 : decode cX0_openedByCrew 5 = .ok (.aload_n 0, 1) := by decide +kernel
theorem dX0_openedByCrew_6 : decode cX0_openedByCrew 6 = .ok (.getfield 39, 3) := by decide +kernel
theorem dX0_openedByCrew_9 : decode cX0_openedByCrew 9 = .ok (.if_icmp .ge 27, 3) := by decide +kernel
theorem dX0_openedByCrew_12 : decode cX0_openedByCrew 12 = .ok (.iload_n 2, 1) := by decide +kernel
theorem dX0_openedByCrew_13 : decode cX0_openedByCrew 13 = .ok (.bipush 8, 2) := by decide +kernel
theorem dX0_openedByCrew_15 : decode cX0_openedByCrew 15 = .ok (.if_icmp .ge 21, 3) := by decide +kernel
theorem dX0_openedByCrew_18 : decode cX0_openedByCrew 18 = .ok (.iload_n 1, 1) := by decide +kernel
theorem dX0_openedByCrew_19 : decode cX0_openedByCrew 19 = .ok (.aload_n 0, 1) := by decide +kernel
theorem dX0_openedByCrew_20 : decode cX0_openedByCrew 20 = .ok (.getfield 27, 3) := by decide +kernel
theorem dX0_openedByCrew_23 : decode cX0_openedByCrew 23 = .ok (.iload_n 2, 1) := by decide +kernel
theorem dX0_openedByCrew_24 : decode cX0_openedByCrew 24 = .ok (.aaload, 1) := by decide +kernel
theorem dX0_openedByCrew_25 : decode cX0_openedByCrew 25 = .ok (.getfield 114, 3) := by decide +kernel
theorem dX0_openedByCrew_28 : decode cX0_openedByCrew 28 = .ok (.iadd, 1) := by decide +kernel
theorem dX0_openedByCrew_29 : decode cX0_openedByCrew 29 = .ok (.istore_n 1, 1) := by decide +kernel
theorem dX0_openedByCrew_30 : decode cX0_openedByCrew 30 = .ok (.iinc 2 1, 3) := by decide +kernel
theorem dX0_openedByCrew_33 : decode cX0_openedByCrew 33 = .ok (.goto (-29), 3) := by decide +kernel
theorem dX0_openedByCrew_36 : decode cX0_openedByCrew 36 = .ok (.iload_n 1, 1) := by decide +kernel
theorem dX0_openedByCrew_37 : decode cX0_openedByCrew 37 = .ok (.ireturn, 1) := by decide +kernel
theorem dX0_oilOfCrew_0 : decode cX0_oilOfCrew 0 = .ok (.iconst 0, 1) := by decide +kernel
theorem dX0_oilOfCrew_1 : decode cX0_oilOfCrew 1 = .ok (.istore_n 1, 1) := by decide +kernel
theorem dX0_oilOfCrew_2 : decode cX0_oilOfCrew 2 = .ok (.iconst 0, 1) := by decide +kernel
theorem dX0_oilOfCrew_3 : decode cX0_oilOfCrew 3 = .ok (.istore_n 2, 1) := by decide +kernel
theorem dX0_oilOfCrew_4 : decode cX0_oilOfCrew 4 = .ok (.iload_n 2, 1) := by decide +kernel
theorem dX0_oilOfCrew_5 : decode cX0_oilOfCrew 5 = .ok (.aload_n 0, 1) := by decide +kernel
theorem dX0_oilOfCrew_6 : decode cX0_oilOfCrew 6 = .ok (.getfield 39, 3) := by decide +kernel
theorem dX0_oilOfCrew_9 : decode cX0_oilOfCrew 9 = .ok (.if_icmp .ge 27, 3) := by decide +kernel
theorem dX0_oilOfCrew_12 : decode cX0_oilOfCrew 12 = .ok (.iload_n 2, 1) := by decide +kernel
theorem dX0_oilOfCrew_13 : decode cX0_oilOfCrew 13 = .ok (.bipush 8, 2) := by decide +kernel
theorem dX0_oilOfCrew_15 : decode cX0_oilOfCrew 15 = .ok (.if_icmp .ge 21, 3) := by decide +kernel
theorem dX0_oilOfCrew_18 : decode cX0_oilOfCrew 18 = .ok (.iload_n 1, 1) := by decide +kernel
theorem dX0_oilOfCrew_19 : decode cX0_oilOfCrew 19 = .ok (.aload_n 0, 1) := by decide +kernel
theorem dX0_oilOfCrew_20 : decode cX0_oilOfCrew 20 = .ok (.getfield 27, 3) := by decide +kernel
theorem dX0_oilOfCrew_23 : decode cX0_oilOfCrew 23 = .ok (.iload_n 2, 1) := by decide +kernel
theorem dX0_oilOfCrew_24 : decode cX0_oilOfCrew 24 = .ok (.aaload, 1) := by decide +kernel
theorem dX0_oilOfCrew_25 : decode cX0_oilOfCrew 25 = .ok (.getfield 165, 3) := by decide +kernel
theorem dX0_oilOfCrew_28 : decode cX0_oilOfCrew 28 = .ok (.iadd, 1) := by decide +kernel
theorem dX0_oilOfCrew_29 : decode cX0_oilOfCrew 29 = .ok (.istore_n 1, 1) := by decide +kernel
theorem dX0_oilOfCrew_30 : decode cX0_oilOfCrew 30 = .ok (.iinc 2 1, 3) := by decide +kernel
theorem dX0_oilOfCrew_33 : decode cX0_oilOfCrew 33 = .ok (.goto (-29), 3) := by decide +kernel
theorem dX0_oilOfCrew_36 : decode cX0_oilOfCrew 36 = .ok (.iload_n 1, 1) := by decide +kernel
theorem dX0_oilOfCrew_37 : decode cX0_oilOfCrew 37 = .ok (.ireturn, 1) := by decide +kernel
theorem dX0_ordersOfCrew_0 : decode cX0_ordersOfCrew 0 = .ok (.iconst 0, 1) := by decide +kernel
theorem dX0_ordersOfCrew_1 : decode cX0_ordersOfCrew 1 = .ok (.istore_n 1, 1) := by decide +kernel
theorem dX0_ordersOfCrew_2 : decode cX0_ordersOfCrew 2 = .ok (.iconst 0, 1) := by decide +kernel
theorem dX0_ordersOfCrew_3 : decode cX0_ordersOfCrew 3 = .ok (.istore_n 2, 1) := by decide +kernel
theorem dX0_ordersOfCrew_4 : decode cX0_ordersOfCrew 4 = .ok (.iload_n 2, 1) := by decide +kernel
theorem dX0_ordersOfCrew_5 : decode cX0_ordersOfCrew 5 = .ok (.aload_n 0, 1) := by decide +kernel
theorem dX0_ordersOfCrew_6 : decode cX0_ordersOfCrew 6 = .ok (.getfield 39, 3) := by decide +kernel
theorem dX0_ordersOfCrew_9 : decode cX0_ordersOfCrew 9 = .ok (.if_icmp .ge 27, 3) := by decide +kernel
theorem dX0_ordersOfCrew_12 : decode cX0_ordersOfCrew 12 = .ok (.iload_n 2, 1) := by decide +kernel
theorem dX0_ordersOfCrew_13 : decode cX0_ordersOfCrew 13 = .ok (.bipush 8, 2) := by decide +kernel
theorem dX0_ordersOfCrew_15 : decode cX0_ordersOfCrew 15 = .ok (.if_icmp .ge 21, 3) := by decide +kernel
theorem dX0_ordersOfCrew_18 : decode cX0_ordersOfCrew 18 = .ok (.iload_n 1, 1) := by decide +kernel
theorem dX0_ordersOfCrew_19 : decode cX0_ordersOfCrew 19 = .ok (.aload_n 0, 1) := by decide +kernel
theorem dX0_ordersOfCrew_20 : decode cX0_ordersOfCrew 20 = .ok (.getfield 27, 3) := by decide +kernel
theorem dX0_ordersOfCrew_23 : decode cX0_ordersOfCrew 23 = .ok (.iload_n 2, 1) := by decide +kernel
theorem dX0_ordersOfCrew_24 : decode cX0_ordersOfCrew 24 = .ok (.aaload, 1) := by decide +kernel
theorem dX0_ordersOfCrew_25 : decode cX0_ordersOfCrew 25 = .ok (.getfield 186, 3) := by decide +kernel
theorem dX0_ordersOfCrew_28 : decode cX0_ordersOfCrew 28 = .ok (.iadd, 1) := by decide +kernel
theorem dX0_ordersOfCrew_29 : decode cX0_ordersOfCrew 29 = .ok (.istore_n 1, 1) := by decide +kernel
theorem dX0_ordersOfCrew_30 : decode cX0_ordersOfCrew 30 = .ok (.iinc 2 1, 3) := by decide +kernel
theorem dX0_ordersOfCrew_33 : decode cX0_ordersOfCrew 33 = .ok (.goto (-29), 3) := by decide +kernel
theorem dX0_ordersOfCrew_36 : decode cX0_ordersOfCrew 36 = .ok (.iload_n 1, 1) := by decide +kernel
theorem dX0_ordersOfCrew_37 : decode cX0_ordersOfCrew 37 = .ok (.ireturn, 1) := by decide +kernel
set_option maxRecDepth 20000 in
theorem ggX1_init_J7_fill_53178 : GoodIn wsX1_init wsJ7_fill_53178 := goodIn_r _ [10] (by decide +kernel) (by decide +kernel)
set_option maxRecDepth 20000 in
theorem gX1_init_J7_fill_53178 : GoodIn wsX1_init (va_wsS RX1 18 yJ7_fill_53178 wsJ7_fill_53178) := goodIn_app (goodIn_of _ (by decide +kernel)) ggX1_init_J7_fill_53178
theorem dX1_init_0 : decode cX1_init 0 = .ok (.aload_n 0, 1) := by decide +kernel
theorem dX1_init_1 : decode cX1_init 1 = .ok (.invokespecial 3, 3) := by decide +kernel
theorem dX1_init_4 : decode cX1_init 4 = .ok (.aload_n 0, 1) := by decide +kernel
theorem dX1_init_5 : decode cX1_init 5 = .ok (.sipush 256, 3) := by decide +kernel
theorem dX1_init_8 : decode cX1_init 8 = .ok (.newarray .int, 2) := by decide +kernel
theorem dX1_init_10 : decode cX1_init 10 = .ok (.putfield 9, 3) := by decide +kernel
theorem dX1_init_13 : decode cX1_init 13 = .ok (.aload_n 0, 1) := by decide +kernel
theorem dX1_init_14 : decode cX1_init 14 = .ok (.sipush 256, 3) := by decide +kernel
theorem dX1_init_17 : decode cX1_init 17 = .ok (.newarray .int, 2) := by decide +kernel
theorem dX1_init_19 : decode cX1_init 19 = .ok (.putfield 15, 3) := by decide +kernel
theorem dX1_init_22 : decode cX1_init 22 = .ok (.aload_n 0, 1) := by decide +kernel
theorem dX1_init_23 : decode cX1_init 23 = .ok (.getfield 9, 3) := by decide +kernel
theorem dX1_init_26 : decode cX1_init 26 = .ok (.iconst (-1), 1) := by decide +kernel
theorem dX1_init_27 : decode cX1_init 27 = .ok (.invokestatic 18, 3) := by decide +kernel
theorem dX1_init_30 : decode cX1_init 30 = .ok (.return_, 1) := by decide +kernel
theorem dX1_clear_0 : decode cX1_clear 0 = .ok (.iconst 0, 1) := by decide +kernel
theorem dX1_clear_1 : decode cX1_clear 1 = .ok (.istore_n 1, 1) := by decide +kernel
theorem dX1_clear_2 : decode cX1_clear 2 = .ok (.iload_n 1, 1) := by decide +kernel
theorem dX1_clear_3 : decode cX1_clear 3 = .ok (.aload_n 0, 1) := by decide +kernel
theorem dX1_clear_4 : decode cX1_clear 4 = .ok (.getfield 24, 3) := by decide +kernel
theorem dX1_clear_7 : decode cX1_clear 7 = .ok (.if_icmp .ge 41, 3) := by decide +kernel
theorem dX1_clear_10 : decode cX1_clear 10 = .ok (.iload_n 1, 1) := by decide +kernel
theorem dX1_clear_11 : decode cX1_clear 11 = .ok (.sipush 256, 3) := by decide +kernel
theorem dX1_clear_14 : decode cX1_clear 14 = .ok (.if_icmp .ge 34, 3) := by decide +kernel
theorem dX1_clear_17 : decode cX1_clear 17 = .ok (.aload_n 0, 1) := by decide +kernel
theorem dX1_clear_18 : decode cX1_clear 18 = .ok (.getfield 15, 3) := by decide +kernel
theorem dX1_clear_21 : decode cX1_clear 21 = .ok (.iload_n 1, 1) := by decide +kernel
theorem dX1_clear_22 : decode cX1_clear 22 = .ok (.iaload, 1) := by decide +kernel
theorem dX1_clear_23 : decode cX1_clear 23 = .ok (.istore_n 2, 1) := by decide +kernel
theorem dX1_clear_24 : decode cX1_clear 24 = .ok (.iload_n 2, 1) := by decide +kernel
theorem dX1_clear_25 : decode cX1_clear 25 = .ok (.ifCond .lt 17, 3) := by decide +kernel
theorem dX1_clear_28 : decode cX1_clear 28 = .ok (.iload_n 2, 1) := by decide +kernel
theorem dX1_clear_29 : decode cX1_clear 29 = .ok (.sipush 256, 3) := by decide +kernel
theorem dX1_clear_32 : decode cX1_clear 32 = .ok (.if_icmp .ge 10, 3) := by decide +kernel
theorem dX1_clear_35 : decode cX1_clear 35 = .ok (.aload_n 0, 1) := by decide +kernel
theorem dX1_clear_36 : decode cX1_clear 36 = .ok (.getfield 9, 3) := by decide +kernel
theorem dX1_clear_39 : decode cX1_clear 39 = .ok (.iload_n 2, 1) := by decide +kernel
theorem dX1_clear_40 : decode cX1_clear 40 = .ok (.iconst (-1), 1) := by decide +kernel
theorem dX1_clear_41 : decode cX1_clear 41 = .ok (.iastore, 1) := by decide +kernel
theorem dX1_clear_42 : decode cX1_clear 42 = .ok (.iinc 1 1, 3) := by decide +kernel
theorem dX1_clear_45 : decode cX1_clear 45 = .ok (.goto (-43), 3) := by decide +kernel
theorem dX1_clear_48 : decode cX1_clear 48 = .ok (.aload_n 0, 1) := by decide +kernel
theorem dX1_clear_49 : decode cX1_clear 49 = .ok (.iconst 0, 1) := by decide +kernel
theorem dX1_clear_50 : decode cX1_clear 50 = .ok (.putfield 24, 3) := by decide +kernel
theorem dX1_clear_53 : decode cX1_clear 53 = .ok (.aload_n 0, 1) := by decide +kernel
theorem dX1_clear_54 : decode cX1_clear 54 = .ok (.iconst 0, 1) := by decide +kernel
theorem dX1_clear_55 : decode cX1_clear 55 = .ok (.putfield 28, 3) := by decide +kernel
theorem dX1_clear_58 : decode cX1_clear 58 = .ok (.return_, 1) := by decide +kernel
theorem dX1_add_0 : decode cX1_add 0 = .ok (.iload_n 1, 1) := by decide +kernel
theorem dX1_add_1 : decode cX1_add 1 = .ok (.ifCond .lt 57, 3) := by decide +kernel
theorem dX1_add_4 : decode cX1_add 4 = .ok (.iload_n 1, 1) := by decide +kernel
theorem dX1_add_5 : decode cX1_add 5 = .ok (.sipush 256, 3) := by decide +kernel
theorem dX1_add_8 : decode cX1_add 8 = .ok (.if_icmp .ge 50, 3) := by decide +kernel
theorem dX1_add_11 : decode cX1_add 11 = .ok (.aload_n 0, 1) := by decide +kernel
theorem dX1_add_12 : decode cX1_add 12 = .ok (.getfield 9, 3) := by decide +kernel
theorem dX1_add_15 : decode cX1_add 15 = .ok (.iload_n 1, 1) := by decide +kernel
theorem dX1_add_16 : decode cX1_add 16 = .ok (.iaload, 1) := by decide +kernel
theorem dX1_add_17 : decode cX1_add 17 = .ok (.iconst (-1), 1) := by decide +kernel
theorem dX1_add_18 : decode cX1_add 18 = .ok (.if_icmp .ne 40, 3) := by decide +kernel
theorem dX1_add_21 : decode cX1_add 21 = .ok (.aload_n 0, 1) := by decide +kernel
theorem dX1_add_22 : decode cX1_add 22 = .ok (.getfield 24, 3) := by decide +kernel
theorem dX1_add_25 : decode cX1_add 25 = .ok (.sipush 256, 3) := by decide +kernel
theorem dX1_add_28 : decode cX1_add 28 = .ok (.if_icmp .ge 30, 3) := by decide +kernel
theorem dX1_add_31 : decode cX1_add 31 = .ok (.aload_n 0, 1) := by decide +kernel
theorem dX1_add_32 : decode cX1_add 32 = .ok (.getfield 9, 3) := by decide +kernel
theorem dX1_add_35 : decode cX1_add 35 = .ok (.iload_n 1, 1) := by decide +kernel
theorem dX1_add_36 : decode cX1_add 36 = .ok (.iload_n 2, 1) := by decide +kernel
theorem dX1_add_37 : decode cX1_add 37 = .ok (.iastore, 1) := by decide +kernel
theorem dX1_add_38 : decode cX1_add 38 = .ok (.aload_n 0, 1) := by decide +kernel
theorem dX1_add_39 : decode cX1_add 39 = .ok (.getfield 15, 3) := by decide +kernel
theorem dX1_add_42 : decode cX1_add 42 = .ok (.aload_n 0, 1) := by decide +kernel
theorem dX1_add_43 : decode cX1_add 43 = .ok (.getfield 24, 3) := by decide +kernel
theorem dX1_add_46 : decode cX1_add 46 = .ok (.iload_n 1, 1) := by decide +kernel
theorem dX1_add_47 : decode cX1_add 47 = .ok (.iastore, 1) := by decide +kernel
theorem dX1_add_48 : decode cX1_add 48 = .ok (.aload_n 0, 1) := by decide +kernel
theorem dX1_add_49 : decode cX1_add 49 = .ok (.dup, 1) := by decide +kernel
theorem dX1_add_50 : decode cX1_add 50 = .ok (.getfield 24, 3) := by decide +kernel
theorem dX1_add_53 : decode cX1_add 53 = .ok (.iconst 1, 1) := by decide +kernel
theorem dX1_add_54 : decode cX1_add 54 = .ok (.iadd, 1) := by decide +kernel
theorem dX1_add_55 : decode cX1_add 55 = .ok (.putfield 24, 3) := by decide +kernel
theorem dX1_add_58 : decode cX1_add 58 = .ok (.return_, 1) := by decide +kernel
set_option maxRecDepth 20000 in
theorem ggX1_shut_X1_add : GoodIn wsX1_shut wsX1_add := goodIn_r _ [7, 8, 1, 9, 10, 11, 12, 13] (by decide +kernel) (by decide +kernel)
set_option maxRecDepth 20000 in
theorem gX1_shut_X1_add : GoodIn wsX1_shut (wsV RX1 31 RX1 yX1_add wsX1_add) := goodIn_app (goodIn_of _ (by decide +kernel)) ggX1_shut_X1_add
theorem dX1_shut_0 : decode cX1_shut 0 = .ok (.aload_n 0, 1) := by decide +kernel
theorem dX1_shut_1 : decode cX1_shut 1 = .ok (.iload_n 1, 1) := by decide +kernel
theorem dX1_shut_2 : decode cX1_shut 2 = .ok (.iconst 0, 1) := by decide +kernel
theorem dX1_shut_3 : decode cX1_shut 3 = .ok (.invokevirtual 31, 3) := by decide +kernel
theorem dX1_shut_6 : decode cX1_shut 6 = .ok (.aload_n 0, 1) := by decide +kernel
theorem dX1_shut_7 : decode cX1_shut 7 = .ok (.aload_n 0, 1) := by decide +kernel
theorem dX1_shut_8 : decode cX1_shut 8 = .ok (.getfield 24, 3) := by decide +kernel
theorem dX1_shut_11 : decode cX1_shut 11 = .ok (.putfield 28, 3) := by decide +kernel
theorem dX1_shut_14 : decode cX1_shut 14 = .ok (.return_, 1) := by decide +kernel
set_option maxRecDepth 20000 in
theorem ggX1_spread_X1_stepsTo : GoodIn wsX1_spread wsX1_stepsTo := goodIn_r _ [8, 9, 23, 24, 25, 26] (by decide +kernel) (by decide +kernel)
set_option maxRecDepth 20000 in
theorem gX1_spread_X1_stepsTo : GoodIn wsX1_spread (wsV RX1 35 RX1 yX1_stepsTo wsX1_stepsTo) := goodIn_app (goodIn_of _ (by decide +kernel)) ggX1_spread_X1_stepsTo
set_option maxRecDepth 20000 in
theorem ggX1_spread_X5_beside : GoodIn wsX1_spread wsX5_beside := goodIn_r _ [12] (by decide +kernel) (by decide +kernel)
set_option maxRecDepth 20000 in
theorem gX1_spread_X5_beside_n39 : GoodIn wsX1_spread (wsX5_beside) := ggX1_spread_X5_beside
set_option maxRecDepth 20000 in
theorem ggX1_spread_X3_isOpen : GoodIn wsX1_spread wsX3_isOpen := goodIn_r _ [17, 18, 27, 28, 29] (by decide +kernel) (by decide +kernel)
set_option maxRecDepth 20000 in
theorem gX1_spread_X3_isOpen : GoodIn wsX1_spread (wsV RX1 43 RX3 yX3_isOpen wsX3_isOpen) := goodIn_app (goodIn_of _ (by decide +kernel)) ggX1_spread_X3_isOpen
set_option maxRecDepth 20000 in
theorem ggX1_spread_X1_add : GoodIn wsX1_spread wsX1_add := goodIn_r _ [22, 9, 2, 3, 23, 24, 25, 26] (by decide +kernel) (by decide +kernel)
set_option maxRecDepth 20000 in
theorem gX1_spread_X1_add : GoodIn wsX1_spread (wsV RX1 31 RX1 yX1_add wsX1_add) := goodIn_app (goodIn_of _ (by decide +kernel)) ggX1_spread_X1_add
theorem dX1_spread_0 : decode cX1_spread 0 = .ok (.aload_n 0, 1) := by decide +kernel
theorem dX1_spread_1 : decode cX1_spread 1 = .ok (.getfield 28, 3) := by decide +kernel
theorem dX1_spread_4 : decode cX1_spread 4 = .ok (.aload_n 0, 1) := by decide +kernel
theorem dX1_spread_5 : decode cX1_spread 5 = .ok (.getfield 24, 3) := by decide +kernel
theorem dX1_spread_8 : decode cX1_spread 8 = .ok (.if_icmp .ge 91, 3) := by decide +kernel
theorem dX1_spread_11 : decode cX1_spread 11 = .ok (.aload_n 0, 1) := by decide +kernel
theorem dX1_spread_12 : decode cX1_spread 12 = .ok (.getfield 28, 3) := by decide +kernel
theorem dX1_spread_15 : decode cX1_spread 15 = .ok (.sipush 256, 3) := by decide +kernel
theorem dX1_spread_18 : decode cX1_spread 18 = .ok (.if_icmp .ge 81, 3) := by decide +kernel
theorem dX1_spread_21 : decode cX1_spread 21 = .ok (.aload_n 0, 1) := by decide +kernel
theorem dX1_spread_22 : decode cX1_spread 22 = .ok (.getfield 15, 3) := by decide +kernel
theorem dX1_spread_25 : decode cX1_spread 25 = .ok (.aload_n 0, 1) := by decide +kernel
theorem dX1_spread_26 : decode cX1_spread 26 = .ok (.getfield 28, 3) := by decide +kernel
theorem dX1_spread_29 : decode cX1_spread 29 = .ok (.iaload, 1) := by decide +kernel
theorem dX1_spread_30 : decode cX1_spread 30 = .ok (.istore_n 3, 1) := by decide +kernel
theorem dX1_spread_31 : decode cX1_spread 31 = .ok (.aload_n 0, 1) := by decide +kernel
theorem dX1_spread_32 : decode cX1_spread 32 = .ok (.iload_n 3, 1) := by decide +kernel
theorem dX1_spread_33 : decode cX1_spread 33 = .ok (.invokevirtual 35, 3) := by decide +kernel
theorem dX1_spread_36 : decode cX1_spread 36 = .ok (.istore 4, 2) := by decide +kernel
theorem dX1_spread_38 : decode cX1_spread 38 = .ok (.iconst 0, 1) := by decide +kernel
theorem dX1_spread_39 : decode cX1_spread 39 = .ok (.istore 5, 2) := by decide +kernel
theorem dX1_spread_41 : decode cX1_spread 41 = .ok (.iload 5, 2) := by decide +kernel
theorem dX1_spread_43 : decode cX1_spread 43 = .ok (.iconst 4, 1) := by decide +kernel
theorem dX1_spread_44 : decode cX1_spread 44 = .ok (.if_icmp .ge 42, 3) := by decide +kernel
theorem dX1_spread_47 : decode cX1_spread 47 = .ok (.iload 4, 2) := by decide +kernel
theorem dX1_spread_49 : decode cX1_spread 49 = .ok (.iload_n 2, 1) := by decide +kernel
theorem dX1_spread_50 : decode cX1_spread 50 = .ok (.if_icmp .ge 36, 3) := by decide +kernel
theorem dX1_spread_53 : decode cX1_spread 53 = .ok (.iload_n 3, 1) := by decide +kernel
theorem dX1_spread_54 : decode cX1_spread 54 = .ok (.iload 5, 2) := by decide +kernel
theorem dX1_spread_56 : decode cX1_spread 56 = .ok (.invokestatic 39, 3) := by decide +kernel
theorem dX1_spread_59 : decode cX1_spread 59 = .ok (.istore 6, 2) := by decide +kernel
theorem dX1_spread_61 : decode cX1_spread 61 = .ok (.aload_n 1, 1) := by decide +kernel
theorem dX1_spread_62 : decode cX1_spread 62 = .ok (.iload 6, 2) := by decide +kernel
theorem dX1_spread_64 : decode cX1_spread 64 = .ok (.invokevirtual 43, 3) := by decide +kernel
theorem dX1_spread_67 : decode cX1_spread 67 = .ok (.ifCond .eq 13, 3) := by decide +kernel
theorem dX1_spread_70 : decode cX1_spread 70 = .ok (.aload_n 0, 1) := by decide +kernel
theorem dX1_spread_71 : decode cX1_spread 71 = .ok (.iload 6, 2) := by decide +kernel
theorem dX1_spread_73 : decode cX1_spread 73 = .ok (.iload 4, 2) := by decide +kernel
theorem dX1_spread_75 : decode cX1_spread 75 = .ok (.iconst 1, 1) := by decide +kernel
theorem dX1_spread_76 : decode cX1_spread 76 = .ok (.iadd, 1) := by decide +kernel
theorem dX1_spread_77 : decode cX1_spread 77 = .ok (.invokevirtual 31, 3) := by decide +kernel
theorem dX1_spread_80 : decode cX1_spread 80 = .ok (.iinc 5 1, 3) := by decide +kernel
theorem dX1_spread_83 : decode cX1_spread 83 = .ok (.goto (-42), 3) := by decide +kernel
theorem dX1_spread_86 : decode cX1_spread 86 = .ok (.aload_n 0, 1) := by decide +kernel
theorem dX1_spread_87 : decode cX1_spread 87 = .ok (.dup, 1) := by decide +kernel
theorem dX1_spread_88 : decode cX1_spread 88 = .ok (.getfield 28, 3) := by decide +kernel
theorem dX1_spread_91 : decode cX1_spread 91 = .ok (.iconst 1, 1) := by decide +kernel
theorem dX1_spread_92 : decode cX1_spread 92 = .ok (.iadd, 1) := by decide +kernel
theorem dX1_spread_93 : decode cX1_spread 93 = .ok (.putfield 28, 3) := by decide +kernel
theorem dX1_spread_96 : decode cX1_spread 96 = .ok (.goto (-96), 3) := by decide +kernel
theorem dX1_spread_99 : decode cX1_spread 99 = .ok (.return_, 1) := by decide +kernel
theorem dX1_stepsTo_0 : decode cX1_stepsTo 0 = .ok (.iload_n 1, 1) := by decide +kernel
theorem dX1_stepsTo_1 : decode cX1_stepsTo 1 = .ok (.ifCond .lt 19, 3) := by decide +kernel
theorem dX1_stepsTo_4 : decode cX1_stepsTo 4 = .ok (.iload_n 1, 1) := by decide +kernel
theorem dX1_stepsTo_5 : decode cX1_stepsTo 5 = .ok (.sipush 256, 3) := by decide +kernel
theorem dX1_stepsTo_8 : decode cX1_stepsTo 8 = .ok (.if_icmp .ge 12, 3) := by decide +kernel
theorem dX1_stepsTo_11 : decode cX1_stepsTo 11 = .ok (.aload_n 0, 1) := by decide +kernel
theorem dX1_stepsTo_12 : decode cX1_stepsTo 12 = .ok (.getfield 9, 3) := by decide +kernel
theorem dX1_stepsTo_15 : decode cX1_stepsTo 15 = .ok (.iload_n 1, 1) := by decide +kernel
theorem dX1_stepsTo_16 : decode cX1_stepsTo 16 = .ok (.iaload, 1) := by decide +kernel
theorem dX1_stepsTo_17 : decode cX1_stepsTo 17 = .ok (.goto 4, 3) := by decide +kernel
theorem dX1_stepsTo_20 : decode cX1_stepsTo 20 = .ok (.iconst (-1), 1) := by decide +kernel
theorem dX1_stepsTo_21 : decode cX1_stepsTo 21 = .ok (.ireturn, 1) := by decide +kernel
set_option maxRecDepth 20000 in
theorem ggX1_holds_X1_stepsTo : GoodIn wsX1_holds wsX1_stepsTo := goodIn_r _ [5, 6, 7, 8, 9, 10] (by decide +kernel) (by decide +kernel)
set_option maxRecDepth 20000 in
theorem gX1_holds_X1_stepsTo : GoodIn wsX1_holds (wsV RX1 35 RX1 yX1_stepsTo wsX1_stepsTo) := goodIn_app (goodIn_of _ (by decide +kernel)) ggX1_holds_X1_stepsTo
theorem dX1_holds_0 : decode cX1_holds 0 = .ok (.aload_n 0, 1) := by decide +kernel
theorem dX1_holds_1 : decode cX1_holds 1 = .ok (.iload_n 1, 1) := by decide +kernel
theorem dX1_holds_2 : decode cX1_holds 2 = .ok (.invokevirtual 35, 3) := by decide +kernel
theorem dX1_holds_5 : decode cX1_holds 5 = .ok (.iconst (-1), 1) := by decide +kernel
theorem dX1_holds_6 : decode cX1_holds 6 = .ok (.if_icmp .eq 7, 3) := by decide +kernel
theorem dX1_holds_9 : decode cX1_holds 9 = .ok (.iconst 1, 1) := by decide +kernel
theorem dX1_holds_10 : decode cX1_holds 10 = .ok (.goto 4, 3) := by decide +kernel
theorem dX1_holds_13 : decode cX1_holds 13 = .ok (.iconst 0, 1) := by decide +kernel
theorem dX1_holds_14 : decode cX1_holds 14 = .ok (.ireturn, 1) := by decide +kernel
theorem dX2_init_0 : decode cX2_init 0 = .ok (.aload_n 0, 1) := by decide +kernel
theorem dX2_init_1 : decode cX2_init 1 = .ok (.invokespecial 3, 3) := by decide +kernel
theorem dX2_init_4 : decode cX2_init 4 = .ok (.aload_n 0, 1) := by decide +kernel
theorem dX2_init_5 : decode cX2_init 5 = .ok (.sipush 256, 3) := by decide +kernel
theorem dX2_init_8 : decode cX2_init 8 = .ok (.newarray .int, 2) := by decide +kernel
theorem dX2_init_10 : decode cX2_init 10 = .ok (.putfield 9, 3) := by decide +kernel
theorem dX2_init_13 : decode cX2_init 13 = .ok (.aload_n 0, 1) := by decide +kernel
theorem dX2_init_14 : decode cX2_init 14 = .ok (.sipush 256, 3) := by decide +kernel
theorem dX2_init_17 : decode cX2_init 17 = .ok (.newarray .int, 2) := by decide +kernel
theorem dX2_init_19 : decode cX2_init 19 = .ok (.putfield 15, 3) := by decide +kernel
theorem dX2_init_22 : decode cX2_init 22 = .ok (.return_, 1) := by decide +kernel
set_option maxRecDepth 20000 in
theorem ggX2_leastSum_J7_fill_53178 : GoodIn wsX2_leastSum wsJ7_fill_53178 := goodIn_r _ [7] (by decide +kernel) (by decide +kernel)
set_option maxRecDepth 20000 in
theorem gX2_leastSum_J7_fill_53178 : GoodIn wsX2_leastSum (va_wsS RX2 18 yJ7_fill_53178 wsJ7_fill_53178) := goodIn_app (goodIn_of _ (by decide +kernel)) ggX2_leastSum_J7_fill_53178
set_option maxRecDepth 20000 in
theorem ggX2_leastSum_X2_enter : GoodIn wsX2_leastSum wsX2_enter := goodIn_r _ [12, 1, 2, 3, 13, 14, 15, 16, 17, 18, 19, 20, 21, 11, 22, 26, 27, 28, 29, 30, 31] (by decide +kernel) (by decide +kernel)
set_option maxRecDepth 20000 in
theorem gX2_leastSum_X2_enter : GoodIn wsX2_leastSum (wsV RX2 28 RX2 yX2_enter wsX2_enter) := goodIn_app (goodIn_of _ (by decide +kernel)) ggX2_leastSum_X2_enter
set_option maxRecDepth 20000 in
theorem ggX2_leastSum_X5_beside : GoodIn wsX2_leastSum wsX5_beside := goodIn_r _ [25] (by decide +kernel) (by decide +kernel)
set_option maxRecDepth 20000 in
theorem gX2_leastSum_X5_beside_n32 : GoodIn wsX2_leastSum (wsX5_beside) := ggX2_leastSum_X5_beside
set_option maxRecDepth 20000 in
theorem ggX2_leastSum_X2_sumTo : GoodIn wsX2_leastSum wsX2_sumTo := goodIn_r _ [22, 1, 26, 27, 28] (by decide +kernel) (by decide +kernel)
set_option maxRecDepth 20000 in
theorem gX2_leastSum_X2_sumTo : GoodIn wsX2_leastSum (wsV RX2 36 RX2 yX2_sumTo wsX2_sumTo) := goodIn_app (goodIn_of _ (by decide +kernel)) ggX2_leastSum_X2_sumTo
theorem dX2_leastSum_0 : decode cX2_leastSum 0 = .ok (.aload_n 0, 1) := by decide +kernel
theorem dX2_leastSum_1 : decode cX2_leastSum 1 = .ok (.getfield 9, 3) := by decide +kernel
theorem dX2_leastSum_4 : decode cX2_leastSum 4 = .ok (.iconst (-1), 1) := by decide +kernel
theorem dX2_leastSum_5 : decode cX2_leastSum 5 = .ok (.invokestatic 18, 3) := by decide +kernel
theorem dX2_leastSum_8 : decode cX2_leastSum 8 = .ok (.aload_n 0, 1) := by decide +kernel
theorem dX2_leastSum_9 : decode cX2_leastSum 9 = .ok (.iconst 0, 1) := by decide +kernel
theorem dX2_leastSum_10 : decode cX2_leastSum 10 = .ok (.putfield 24, 3) := by decide +kernel
theorem dX2_leastSum_13 : decode cX2_leastSum 13 = .ok (.aload_n 0, 1) := by decide +kernel
theorem dX2_leastSum_14 : decode cX2_leastSum 14 = .ok (.aload_n 1, 1) := by decide +kernel
theorem dX2_leastSum_15 : decode cX2_leastSum 15 = .ok (.iload_n 2, 1) := by decide +kernel
theorem dX2_leastSum_16 : decode cX2_leastSum 16 = .ok (.iconst 0, 1) := by decide +kernel
theorem dX2_leastSum_17 : decode cX2_leastSum 17 = .ok (.invokevirtual 28, 3) := by decide +kernel
theorem dX2_leastSum_20 : decode cX2_leastSum 20 = .ok (.iconst 0, 1) := by decide +kernel
theorem dX2_leastSum_21 : decode cX2_leastSum 21 = .ok (.istore 4, 2) := by decide +kernel
theorem dX2_leastSum_23 : decode cX2_leastSum 23 = .ok (.iload 4, 2) := by decide +kernel
theorem dX2_leastSum_25 : decode cX2_leastSum 25 = .ok (.aload_n 0, 1) := by decide +kernel
theorem dX2_leastSum_26 : decode cX2_leastSum 26 = .ok (.getfield 24, 3) := by decide +kernel
theorem dX2_leastSum_29 : decode cX2_leastSum 29 = .ok (.if_icmp .ge 59, 3) := by decide +kernel
theorem dX2_leastSum_32 : decode cX2_leastSum 32 = .ok (.iload 4, 2) := by decide +kernel
theorem dX2_leastSum_34 : decode cX2_leastSum 34 = .ok (.sipush 256, 3) := by decide +kernel
theorem dX2_leastSum_37 : decode cX2_leastSum 37 = .ok (.if_icmp .ge 51, 3) := by decide +kernel
theorem dX2_leastSum_40 : decode cX2_leastSum 40 = .ok (.aload_n 0, 1) := by decide +kernel
theorem dX2_leastSum_41 : decode cX2_leastSum 41 = .ok (.getfield 15, 3) := by decide +kernel
theorem dX2_leastSum_44 : decode cX2_leastSum 44 = .ok (.iload 4, 2) := by decide +kernel
theorem dX2_leastSum_46 : decode cX2_leastSum 46 = .ok (.iaload, 1) := by decide +kernel
theorem dX2_leastSum_47 : decode cX2_leastSum 47 = .ok (.istore 5, 2) := by decide +kernel
theorem dX2_leastSum_49 : decode cX2_leastSum 49 = .ok (.iconst 0, 1) := by decide +kernel
theorem dX2_leastSum_50 : decode cX2_leastSum 50 = .ok (.istore 6, 2) := by decide +kernel
theorem dX2_leastSum_52 : decode cX2_leastSum 52 = .ok (.iload 6, 2) := by decide +kernel
theorem dX2_leastSum_54 : decode cX2_leastSum 54 = .ok (.iconst 4, 1) := by decide +kernel
theorem dX2_leastSum_55 : decode cX2_leastSum 55 = .ok (.if_icmp .ge 27, 3) := by decide +kernel
theorem dX2_leastSum_58 : decode cX2_leastSum 58 = .ok (.aload_n 0, 1) := by decide +kernel
theorem dX2_leastSum_59 : decode cX2_leastSum 59 = .ok (.aload_n 1, 1) := by decide +kernel
theorem dX2_leastSum_60 : decode cX2_leastSum 60 = .ok (.iload 5, 2) := by decide +kernel
theorem dX2_leastSum_62 : decode cX2_leastSum 62 = .ok (.iload 6, 2) := by decide +kernel
theorem dX2_leastSum_64 : decode cX2_leastSum 64 = .ok (.invokestatic 32, 3) := by decide +kernel
theorem dX2_leastSum_67 : decode cX2_leastSum 67 = .ok (.aload_n 0, 1) := by decide +kernel
theorem dX2_leastSum_68 : decode cX2_leastSum 68 = .ok (.iload 5, 2) := by decide +kernel
theorem dX2_leastSum_70 : decode cX2_leastSum 70 = .ok (.invokevirtual 36, 3) := by decide +kernel
theorem dX2_leastSum_73 : decode cX2_leastSum 73 = .ok (.invokevirtual 28, 3) := by decide +kernel
theorem dX2_leastSum_76 : decode cX2_leastSum 76 = .ok (.iinc 6 1, 3) := by decide +kernel
theorem dX2_leastSum_79 : decode cX2_leastSum 79 = .ok (.goto (-27), 3) := by decide +kernel
theorem dX2_leastSum_82 : decode cX2_leastSum 82 = .ok (.iinc 4 1, 3) := by decide +kernel
theorem dX2_leastSum_85 : decode cX2_leastSum 85 = .ok (.goto (-62), 3) := by decide +kernel
theorem dX2_leastSum_88 : decode cX2_leastSum 88 = .ok (.aload_n 0, 1) := by decide +kernel
theorem dX2_leastSum_89 : decode cX2_leastSum 89 = .ok (.iload_n 3, 1) := by decide +kernel
theorem dX2_leastSum_90 : decode cX2_leastSum 90 = .ok (.invokevirtual 36, 3) := by decide +kernel
theorem dX2_leastSum_93 : decode cX2_leastSum 93 = .ok (.ireturn, 1) := by decide +kernel
theorem dX2_sumTo_0 : decode cX2_sumTo 0 = .ok (.iload_n 1, 1) := by decide +kernel
theorem dX2_sumTo_1 : decode cX2_sumTo 1 = .ok (.ifCond .lt 19, 3) := by decide +kernel
theorem dX2_sumTo_4 : decode cX2_sumTo 4 = .ok (.iload_n 1, 1) := by decide +kernel
theorem dX2_sumTo_5 : decode cX2_sumTo 5 = .ok (.sipush 256, 3) := by decide +kernel
theorem dX2_sumTo_8 : decode cX2_sumTo 8 = .ok (.if_icmp .ge 12, 3) := by decide +kernel
theorem dX2_sumTo_11 : decode cX2_sumTo 11 = .ok (.aload_n 0, 1) := by decide +kernel
theorem dX2_sumTo_12 : decode cX2_sumTo 12 = .ok (.getfield 9, 3) := by decide +kernel
theorem dX2_sumTo_15 : decode cX2_sumTo 15 = .ok (.iload_n 1, 1) := by decide +kernel
theorem dX2_sumTo_16 : decode cX2_sumTo 16 = .ok (.iaload, 1) := by decide +kernel
theorem dX2_sumTo_17 : decode cX2_sumTo 17 = .ok (.goto 4, 3) := by decide +kernel
theorem dX2_sumTo_20 : decode cX2_sumTo 20 = .ok (.iconst (-1), 1) := by decide +kernel
theorem dX2_sumTo_21 : decode cX2_sumTo 21 = .ok (.ireturn, 1) := by decide +kernel
set_option maxRecDepth 20000 in
theorem ggX2_enter_X3_sortAt : GoodIn wsX2_enter wsX3_sortAt := goodIn_r _ [8, 9, 18, 19, 20] (by decide +kernel) (by decide +kernel)
set_option maxRecDepth 20000 in
theorem gX2_enter_X3_sortAt : GoodIn wsX2_enter (wsV RX2 40 RX3 yX3_sortAt wsX3_sortAt) := goodIn_app (goodIn_of _ (by decide +kernel)) ggX2_enter_X3_sortAt
set_option maxRecDepth 20000 in
theorem ggX2_enter_X2_sumTo : GoodIn wsX2_enter wsX2_sumTo := goodIn_r _ [14, 1, 15, 16, 17] (by decide +kernel) (by decide +kernel)
set_option maxRecDepth 20000 in
theorem gX2_enter_X2_sumTo : GoodIn wsX2_enter (wsV RX2 36 RX2 yX2_sumTo wsX2_sumTo) := goodIn_app (goodIn_of _ (by decide +kernel)) ggX2_enter_X2_sumTo
theorem dX2_enter_0 : decode cX2_enter 0 = .ok (.aload_n 1, 1) := by decide +kernel
theorem dX2_enter_1 : decode cX2_enter 1 = .ok (.iload_n 2, 1) := by decide +kernel
theorem dX2_enter_2 : decode cX2_enter 2 = .ok (.invokevirtual 40, 3) := by decide +kernel
theorem dX2_enter_5 : decode cX2_enter 5 = .ok (.istore 4, 2) := by decide +kernel
theorem dX2_enter_7 : decode cX2_enter 7 = .ok (.iload 4, 2) := by decide +kernel
theorem dX2_enter_9 : decode cX2_enter 9 = .ok (.bipush 10, 2) := by decide +kernel
theorem dX2_enter_11 : decode cX2_enter 11 = .ok (.if_icmp .eq 34, 3) := by decide +kernel
theorem dX2_enter_14 : decode cX2_enter 14 = .ok (.iload_n 2, 1) := by decide +kernel
theorem dX2_enter_15 : decode cX2_enter 15 = .ok (.ifCond .lt 30, 3) := by decide +kernel
theorem dX2_enter_18 : decode cX2_enter 18 = .ok (.iload_n 2, 1) := by decide +kernel
theorem dX2_enter_19 : decode cX2_enter 19 = .ok (.sipush 256, 3) := by decide +kernel
theorem dX2_enter_22 : decode cX2_enter 22 = .ok (.if_icmp .ge 23, 3) := by decide +kernel
theorem dX2_enter_25 : decode cX2_enter 25 = .ok (.aload_n 0, 1) := by decide +kernel
theorem dX2_enter_26 : decode cX2_enter 26 = .ok (.getfield 9, 3) := by decide +kernel
theorem dX2_enter_29 : decode cX2_enter 29 = .ok (.iload_n 2, 1) := by decide +kernel
theorem dX2_enter_30 : decode cX2_enter 30 = .ok (.iaload, 1) := by decide +kernel
theorem dX2_enter_31 : decode cX2_enter 31 = .ok (.iconst (-1), 1) := by decide +kernel
theorem dX2_enter_32 : decode cX2_enter 32 = .ok (.if_icmp .ne 13, 3) := by decide +kernel
theorem dX2_enter_35 : decode cX2_enter 35 = .ok (.aload_n 0, 1) := by decide +kernel
theorem dX2_enter_36 : decode cX2_enter 36 = .ok (.getfield 24, 3) := by decide +kernel
theorem dX2_enter_39 : decode cX2_enter 39 = .ok (.sipush 256, 3) := by decide +kernel
theorem dX2_enter_42 : decode cX2_enter 42 = .ok (.if_icmp .lt 4, 3) := by decide +kernel
theorem dX2_enter_45 : decode cX2_enter 45 = .ok (.return_, 1) := by decide +kernel
theorem dX2_enter_46 : decode cX2_enter 46 = .ok (.iload_n 3, 1) := by decide +kernel
theorem dX2_enter_47 : decode cX2_enter 47 = .ok (.iload 4, 2) := by decide +kernel
theorem dX2_enter_49 : decode cX2_enter 49 = .ok (.iadd, 1) := by decide +kernel
theorem dX2_enter_50 : decode cX2_enter 50 = .ok (.istore 5, 2) := by decide +kernel
theorem dX2_enter_52 : decode cX2_enter 52 = .ok (.aload_n 0, 1) := by decide +kernel
theorem dX2_enter_53 : decode cX2_enter 53 = .ok (.getfield 24, 3) := by decide +kernel
theorem dX2_enter_56 : decode cX2_enter 56 = .ok (.istore 6, 2) := by decide +kernel
theorem dX2_enter_58 : decode cX2_enter 58 = .ok (.iload 6, 2) := by decide +kernel
theorem dX2_enter_60 : decode cX2_enter 60 = .ok (.ifCond .le 43, 3) := by decide +kernel
theorem dX2_enter_63 : decode cX2_enter 63 = .ok (.aload_n 0, 1) := by decide +kernel
theorem dX2_enter_64 : decode cX2_enter 64 = .ok (.aload_n 0, 1) := by decide +kernel
theorem dX2_enter_65 : decode cX2_enter 65 = .ok (.getfield 15, 3) := by decide +kernel
theorem dX2_enter_68 : decode cX2_enter 68 = .ok (.iload 6, 2) := by decide +kernel
theorem dX2_enter_70 : decode cX2_enter 70 = .ok (.iconst 1, 1) := by decide +kernel
theorem dX2_enter_71 : decode cX2_enter 71 = .ok (.isub, 1) := by decide +kernel
theorem dX2_enter_72 : decode cX2_enter 72 = .ok (.iaload, 1) := by decide +kernel
theorem dX2_enter_73 : decode cX2_enter 73 = .ok (.invokevirtual 36, 3) := by decide +kernel
theorem dX2_enter_76 : decode cX2_enter 76 = .ok (.iload 5, 2) := by decide +kernel
theorem dX2_enter_78 : decode cX2_enter 78 = .ok (.if_icmp .le 25, 3) := by decide +kernel
theorem dX2_enter_81 : decode cX2_enter 81 = .ok (.aload_n 0, 1) := by decide +kernel
theorem dX2_enter_82 : decode cX2_enter 82 = .ok (.getfield 15, 3) := by decide +kernel
theorem dX2_enter_85 : decode cX2_enter 85 = .ok (.iload 6, 2) := by decide +kernel
theorem dX2_enter_87 : decode cX2_enter 87 = .ok (.aload_n 0, 1) := by decide +kernel
theorem dX2_enter_88 : decode cX2_enter 88 = .ok (.getfield 15, 3) := by decide +kernel
theorem dX2_enter_91 : decode cX2_enter 91 = .ok (.iload 6, 2) := by decide +kernel
theorem dX2_enter_93 : decode cX2_enter 93 = .ok (.iconst 1, 1) := by decide +kernel
theorem dX2_enter_94 : decode cX2_enter 94 = .ok (.isub, 1) := by decide +kernel
theorem dX2_enter_95 : decode cX2_enter 95 = .ok (.iaload, 1) := by decide +kernel
theorem dX2_enter_96 : decode cX2_enter 96 = .ok (.iastore, 1) := by decide +kernel
theorem dX2_enter_97 : decode cX2_enter 97 = .ok (.iinc 6 (-1), 3) := by decide +kernel
theorem dX2_enter_100 : decode cX2_enter 100 = .ok (.goto (-42), 3) := by decide +kernel
theorem dX2_enter_103 : decode cX2_enter 103 = .ok (.aload_n 0, 1) := by decide +kernel
theorem dX2_enter_104 : decode cX2_enter 104 = .ok (.getfield 15, 3) := by decide +kernel
theorem dX2_enter_107 : decode cX2_enter 107 = .ok (.iload 6, 2) := by decide +kernel
theorem dX2_enter_109 : decode cX2_enter 109 = .ok (.iload_n 2, 1) := by decide +kernel
theorem dX2_enter_110 : decode cX2_enter 110 = .ok (.iastore, 1) := by decide +kernel
theorem dX2_enter_111 : decode cX2_enter 111 = .ok (.aload_n 0, 1) := by decide +kernel
theorem dX2_enter_112 : decode cX2_enter 112 = .ok (.getfield 9, 3) := by decide +kernel
theorem dX2_enter_115 : decode cX2_enter 115 = .ok (.iload_n 2, 1) := by decide +kernel
theorem dX2_enter_116 : decode cX2_enter 116 = .ok (.iload 5, 2) := by decide +kernel
theorem dX2_enter_118 : decode cX2_enter 118 = .ok (.iastore, 1) := by decide +kernel
theorem dX2_enter_119 : decode cX2_enter 119 = .ok (.aload_n 0, 1) := by decide +kernel
theorem dX2_enter_120 : decode cX2_enter 120 = .ok (.dup, 1) := by decide +kernel
theorem dX2_enter_121 : decode cX2_enter 121 = .ok (.getfield 24, 3) := by decide +kernel
theorem dX2_enter_124 : decode cX2_enter 124 = .ok (.iconst 1, 1) := by decide +kernel
theorem dX2_enter_125 : decode cX2_enter 125 = .ok (.iadd, 1) := by decide +kernel
theorem dX2_enter_126 : decode cX2_enter 126 = .ok (.putfield 24, 3) := by decide +kernel
theorem dX2_enter_129 : decode cX2_enter 129 = .ok (.return_, 1) := by decide +kernel
set_option maxRecDepth 20000 in
theorem ggX3_init_J7_fill_53178 : GoodIn wsX3_init wsJ7_fill_53178 := goodIn_r _ [11] (by decide +kernel) (by decide +kernel)
set_option maxRecDepth 20000 in
theorem gX3_init_J7_fill_53178 : GoodIn wsX3_init (va_wsS RX3 21 yJ7_fill_53178 wsJ7_fill_53178) := goodIn_app (goodIn_of _ (by decide +kernel)) ggX3_init_J7_fill_53178
theorem dX3_init_0 : decode cX3_init 0 = .ok (.aload_n 0, 1) := by decide +kernel
theorem dX3_init_1 : decode cX3_init 1 = .ok (.invokespecial 3, 3) := by decide +kernel
theorem dX3_init_4 : decode cX3_init 4 = .ok (.aload_n 0, 1) := by decide +kernel
theorem dX3_init_5 : decode cX3_init 5 = .ok (.sipush 256, 3) := by decide +kernel
theorem dX3_init_8 : decode cX3_init 8 = .ok (.newarray .int, 2) := by decide +kernel
theorem dX3_init_10 : decode cX3_init 10 = .ok (.putfield 9, 3) := by decide +kernel
theorem dX3_init_13 : decode cX3_init 13 = .ok (.aload_n 0, 1) := by decide +kernel
theorem dX3_init_14 : decode cX3_init 14 = .ok (.sipush 256, 3) := by decide +kernel
theorem dX3_init_17 : decode cX3_init 17 = .ok (.newarray .int, 2) := by decide +kernel
theorem dX3_init_19 : decode cX3_init 19 = .ok (.putfield 15, 3) := by decide +kernel
theorem dX3_init_22 : decode cX3_init 22 = .ok (.aload_n 0, 1) := by decide +kernel
theorem dX3_init_23 : decode cX3_init 23 = .ok (.sipush 256, 3) := by decide +kernel
theorem dX3_init_26 : decode cX3_init 26 = .ok (.newarray .int, 2) := by decide +kernel
theorem dX3_init_28 : decode cX3_init 28 = .ok (.putfield 18, 3) := by decide +kernel
theorem dX3_init_31 : decode cX3_init 31 = .ok (.aload_n 0, 1) := by decide +kernel
theorem dX3_init_32 : decode cX3_init 32 = .ok (.getfield 9, 3) := by decide +kernel
theorem dX3_init_35 : decode cX3_init 35 = .ok (.iconst 3, 1) := by decide +kernel
theorem dX3_init_36 : decode cX3_init 36 = .ok (.invokestatic 21, 3) := by decide +kernel
theorem dX3_init_39 : decode cX3_init 39 = .ok (.return_, 1) := by decide +kernel
theorem dX3_becomeLike_0 : decode cX3_becomeLike 0 = .ok (.aload_n 1, 1) := by decide +kernel
theorem dX3_becomeLike_1 : decode cX3_becomeLike 1 = .ok (.getfield 9, 3) := by decide +kernel
theorem dX3_becomeLike_4 : decode cX3_becomeLike 4 = .ok (.iconst 0, 1) := by decide +kernel
theorem dX3_becomeLike_5 : decode cX3_becomeLike 5 = .ok (.aload_n 0, 1) := by decide +kernel
theorem dX3_becomeLike_6 : decode cX3_becomeLike 6 = .ok (.getfield 9, 3) := by decide +kernel
theorem dX3_becomeLike_9 : decode cX3_becomeLike 9 = .ok (.iconst 0, 1) := by decide +kernel
theorem dX3_becomeLike_10 : decode cX3_becomeLike 10 = .ok (.sipush 256, 3) := by decide +kernel
theorem dX3_becomeLike_13 : decode cX3_becomeLike 13 = .ok (.invokestatic 27, 3) := by decide +kernel
theorem dX3_becomeLike_16 : decode cX3_becomeLike 16 = .ok (.aload_n 1, 1) := by decide +kernel
theorem dX3_becomeLike_17 : decode cX3_becomeLike 17 = .ok (.getfield 15, 3) := by decide +kernel
theorem dX3_becomeLike_20 : decode cX3_becomeLike 20 = .ok (.iconst 0, 1) := by decide +kernel
theorem dX3_becomeLike_21 : decode cX3_becomeLike 21 = .ok (.aload_n 0, 1) := by decide +kernel
theorem dX3_becomeLike_22 : decode cX3_becomeLike 22 = .ok (.getfield 15, 3) := by decide +kernel
theorem dX3_becomeLike_25 : decode cX3_becomeLike 25 = .ok (.iconst 0, 1) := by decide +kernel
theorem dX3_becomeLike_26 : decode cX3_becomeLike 26 = .ok (.sipush 256, 3) := by decide +kernel
theorem dX3_becomeLike_29 : decode cX3_becomeLike 29 = .ok (.invokestatic 27, 3) := by decide +kernel
theorem dX3_becomeLike_32 : decode cX3_becomeLike 32 = .ok (.aload_n 1, 1) := by decide +kernel
theorem dX3_becomeLike_33 : decode cX3_becomeLike 33 = .ok (.getfield 18, 3) := by decide +kernel
theorem dX3_becomeLike_36 : decode cX3_becomeLike 36 = .ok (.iconst 0, 1) := by decide +kernel
theorem dX3_becomeLike_37 : decode cX3_becomeLike 37 = .ok (.aload_n 0, 1) := by decide +kernel
theorem dX3_becomeLike_38 : decode cX3_becomeLike 38 = .ok (.getfield 18, 3) := by decide +kernel
theorem dX3_becomeLike_41 : decode cX3_becomeLike 41 = .ok (.iconst 0, 1) := by decide +kernel
theorem dX3_becomeLike_42 : decode cX3_becomeLike 42 = .ok (.sipush 256, 3) := by decide +kernel
theorem dX3_becomeLike_45 : decode cX3_becomeLike 45 = .ok (.invokestatic 27, 3) := by decide +kernel
theorem dX3_becomeLike_48 : decode cX3_becomeLike 48 = .ok (.return_, 1) := by decide +kernel
theorem dX3_sortAt_0 : decode cX3_sortAt 0 = .ok (.iload_n 1, 1) := by decide +kernel
theorem dX3_sortAt_1 : decode cX3_sortAt 1 = .ok (.ifCond .lt 19, 3) := by decide +kernel
theorem dX3_sortAt_4 : decode cX3_sortAt 4 = .ok (.iload_n 1, 1) := by decide +kernel
theorem dX3_sortAt_5 : decode cX3_sortAt 5 = .ok (.sipush 256, 3) := by decide +kernel
theorem dX3_sortAt_8 : decode cX3_sortAt 8 = .ok (.if_icmp .ge 12, 3) := by decide +kernel
theorem dX3_sortAt_11 : decode cX3_sortAt 11 = .ok (.aload_n 0, 1) := by decide +kernel
theorem dX3_sortAt_12 : decode cX3_sortAt 12 = .ok (.getfield 9, 3) := by decide +kernel
theorem dX3_sortAt_15 : decode cX3_sortAt 15 = .ok (.iload_n 1, 1) := by decide +kernel
theorem dX3_sortAt_16 : decode cX3_sortAt 16 = .ok (.iaload, 1) := by decide +kernel
theorem dX3_sortAt_17 : decode cX3_sortAt 17 = .ok (.goto 5, 3) := by decide +kernel
theorem dX3_sortAt_20 : decode cX3_sortAt 20 = .ok (.bipush 10, 2) := by decide +kernel
theorem dX3_sortAt_22 : decode cX3_sortAt 22 = .ok (.ireturn, 1) := by decide +kernel
theorem dX3_isOpen_0 : decode cX3_isOpen 0 = .ok (.iload_n 1, 1) := by decide +kernel
theorem dX3_isOpen_1 : decode cX3_isOpen 1 = .ok (.ifCond .lt 23, 3) := by decide +kernel
theorem dX3_isOpen_4 : decode cX3_isOpen 4 = .ok (.iload_n 1, 1) := by decide +kernel
theorem dX3_isOpen_5 : decode cX3_isOpen 5 = .ok (.sipush 256, 3) := by decide +kernel
theorem dX3_isOpen_8 : decode cX3_isOpen 8 = .ok (.if_icmp .ge 16, 3) := by decide +kernel
theorem dX3_isOpen_11 : decode cX3_isOpen 11 = .ok (.aload_n 0, 1) := by decide +kernel
theorem dX3_isOpen_12 : decode cX3_isOpen 12 = .ok (.getfield 9, 3) := by decide +kernel
theorem dX3_isOpen_15 : decode cX3_isOpen 15 = .ok (.iload_n 1, 1) := by decide +kernel
theorem dX3_isOpen_16 : decode cX3_isOpen 16 = .ok (.iaload, 1) := by decide +kernel
theorem dX3_isOpen_17 : decode cX3_isOpen 17 = .ok (.ifCond .ne 7, 3) := by decide +kernel
theorem dX3_isOpen_20 : decode cX3_isOpen 20 = .ok (.iconst 1, 1) := by decide +kernel
theorem dX3_isOpen_21 : decode cX3_isOpen 21 = .ok (.goto 4, 3) := by decide +kernel
theorem dX3_isOpen_24 : decode cX3_isOpen 24 = .ok (.iconst 0, 1) := by decide +kernel
theorem dX3_isOpen_25 : decode cX3_isOpen 25 = .ok (.ireturn, 1) := by decide +kernel
theorem dX3_ageAt_0 : decode cX3_ageAt 0 = .ok (.iload_n 1, 1) := by decide +kernel
theorem dX3_ageAt_1 : decode cX3_ageAt 1 = .ok (.ifCond .lt 19, 3) := by decide +kernel
theorem dX3_ageAt_4 : decode cX3_ageAt 4 = .ok (.iload_n 1, 1) := by decide +kernel
theorem dX3_ageAt_5 : decode cX3_ageAt 5 = .ok (.sipush 256, 3) := by decide +kernel
theorem dX3_ageAt_8 : decode cX3_ageAt 8 = .ok (.if_icmp .ge 12, 3) := by decide +kernel
theorem dX3_ageAt_11 : decode cX3_ageAt 11 = .ok (.aload_n 0, 1) := by decide +kernel
theorem dX3_ageAt_12 : decode cX3_ageAt 12 = .ok (.getfield 15, 3) := by decide +kernel
theorem dX3_ageAt_15 : decode cX3_ageAt 15 = .ok (.iload_n 1, 1) := by decide +kernel
theorem dX3_ageAt_16 : decode cX3_ageAt 16 = .ok (.iaload, 1) := by decide +kernel
theorem dX3_ageAt_17 : decode cX3_ageAt 17 = .ok (.goto 4, 3) := by decide +kernel
theorem dX3_ageAt_20 : decode cX3_ageAt 20 = .ok (.iconst 0, 1) := by decide +kernel
theorem dX3_ageAt_21 : decode cX3_ageAt 21 = .ok (.ireturn, 1) := by decide +kernel
theorem dX3_postsAt_0 : decode cX3_postsAt 0 = .ok (.iload_n 1, 1) := by decide +kernel
theorem dX3_postsAt_1 : decode cX3_postsAt 1 = .ok (.ifCond .lt 19, 3) := by decide +kernel
theorem dX3_postsAt_4 : decode cX3_postsAt 4 = .ok (.iload_n 1, 1) := by decide +kernel
theorem dX3_postsAt_5 : decode cX3_postsAt 5 = .ok (.sipush 256, 3) := by decide +kernel
theorem dX3_postsAt_8 : decode cX3_postsAt 8 = .ok (.if_icmp .ge 12, 3) := by decide +kernel
theorem dX3_postsAt_11 : decode cX3_postsAt 11 = .ok (.aload_n 0, 1) := by decide +kernel
theorem dX3_postsAt_12 : decode cX3_postsAt 12 = .ok (.getfield 18, 3) := by decide +kernel
theorem dX3_postsAt_15 : decode cX3_postsAt 15 = .ok (.iload_n 1, 1) := by decide +kernel
theorem dX3_postsAt_16 : decode cX3_postsAt 16 = .ok (.iaload, 1) := by decide +kernel
theorem dX3_postsAt_17 : decode cX3_postsAt 17 = .ok (.goto 4, 3) := by decide +kernel
theorem dX3_postsAt_20 : decode cX3_postsAt 20 = .ok (.iconst 0, 1) := by decide +kernel
theorem dX3_postsAt_21 : decode cX3_postsAt 21 = .ok (.ireturn, 1) := by decide +kernel
theorem dX3_put_0 : decode cX3_put 0 = .ok (.iload_n 1, 1) := by decide +kernel
theorem dX3_put_1 : decode cX3_put 1 = .ok (.ifCond .lt 31, 3) := by decide +kernel
theorem dX3_put_4 : decode cX3_put 4 = .ok (.iload_n 1, 1) := by decide +kernel
theorem dX3_put_5 : decode cX3_put 5 = .ok (.sipush 256, 3) := by decide +kernel
theorem dX3_put_8 : decode cX3_put 8 = .ok (.if_icmp .ge 24, 3) := by decide +kernel
theorem dX3_put_11 : decode cX3_put 11 = .ok (.aload_n 0, 1) := by decide +kernel
theorem dX3_put_12 : decode cX3_put 12 = .ok (.getfield 9, 3) := by decide +kernel
theorem dX3_put_15 : decode cX3_put 15 = .ok (.iload_n 1, 1) := by decide +kernel
theorem dX3_put_16 : decode cX3_put 16 = .ok (.iload_n 2, 1) := by decide +kernel
theorem dX3_put_17 : decode cX3_put 17 = .ok (.iastore, 1) := by decide +kernel
theorem dX3_put_18 : decode cX3_put 18 = .ok (.aload_n 0, 1) := by decide +kernel
theorem dX3_put_19 : decode cX3_put 19 = .ok (.getfield 15, 3) := by decide +kernel
theorem dX3_put_22 : decode cX3_put 22 = .ok (.iload_n 1, 1) := by decide +kernel
theorem dX3_put_23 : decode cX3_put 23 = .ok (.iconst 0, 1) := by decide +kernel
theorem dX3_put_24 : decode cX3_put 24 = .ok (.iastore, 1) := by decide +kernel
theorem dX3_put_25 : decode cX3_put 25 = .ok (.aload_n 0, 1) := by decide +kernel
theorem dX3_put_26 : decode cX3_put 26 = .ok (.getfield 18, 3) := by decide +kernel
theorem dX3_put_29 : decode cX3_put 29 = .ok (.iload_n 1, 1) := by decide +kernel
theorem dX3_put_30 : decode cX3_put 30 = .ok (.iconst 0, 1) := by decide +kernel
theorem dX3_put_31 : decode cX3_put 31 = .ok (.iastore, 1) := by decide +kernel
theorem dX3_put_32 : decode cX3_put 32 = .ok (.return_, 1) := by decide +kernel
set_option maxRecDepth 20000 in
theorem ggX3_setPost_X3_isOpen : GoodIn wsX3_setPost wsX3_isOpen := goodIn_r _ [6, 7, 8, 9, 10] (by decide +kernel) (by decide +kernel)
set_option maxRecDepth 20000 in
theorem gX3_setPost_X3_isOpen : GoodIn wsX3_setPost (wsV RX3 33 RX3 yX3_isOpen wsX3_isOpen) := goodIn_app (goodIn_of _ (by decide +kernel)) ggX3_setPost_X3_isOpen
theorem dX3_setPost_0 : decode cX3_setPost 0 = .ok (.aload_n 0, 1) := by decide +kernel
theorem dX3_setPost_1 : decode cX3_setPost 1 = .ok (.iload_n 1, 1) := by decide +kernel
theorem dX3_setPost_2 : decode cX3_setPost 2 = .ok (.invokevirtual 33, 3) := by decide +kernel
theorem dX3_setPost_5 : decode cX3_setPost 5 = .ok (.ifCond .eq 10, 3) := by decide +kernel
theorem dX3_setPost_8 : decode cX3_setPost 8 = .ok (.aload_n 0, 1) := by decide +kernel
theorem dX3_setPost_9 : decode cX3_setPost 9 = .ok (.getfield 18, 3) := by decide +kernel
theorem dX3_setPost_12 : decode cX3_setPost 12 = .ok (.iload_n 1, 1) := by decide +kernel
theorem dX3_setPost_13 : decode cX3_setPost 13 = .ok (.iconst 1, 1) := by decide +kernel
theorem dX3_setPost_14 : decode cX3_setPost 14 = .ok (.iastore, 1) := by decide +kernel
theorem dX3_setPost_15 : decode cX3_setPost 15 = .ok (.return_, 1) := by decide +kernel
theorem dX3_growOlder_0 : decode cX3_growOlder 0 = .ok (.iconst 0, 1) := by decide +kernel
theorem dX3_growOlder_1 : decode cX3_growOlder 1 = .ok (.istore_n 1, 1) := by decide +kernel
theorem dX3_growOlder_2 : decode cX3_growOlder 2 = .ok (.iload_n 1, 1) := by decide +kernel
theorem dX3_growOlder_3 : decode cX3_growOlder 3 = .ok (.sipush 256, 3) := by decide +kernel
theorem dX3_growOlder_6 : decode cX3_growOlder 6 = .ok (.if_icmp .ge 28, 3) := by decide +kernel
theorem dX3_growOlder_9 : decode cX3_growOlder 9 = .ok (.aload_n 0, 1) := by decide +kernel
theorem dX3_growOlder_10 : decode cX3_growOlder 10 = .ok (.getfield 9, 3) := by decide +kernel
theorem dX3_growOlder_13 : decode cX3_growOlder 13 = .ok (.iload_n 1, 1) := by decide +kernel
theorem dX3_growOlder_14 : decode cX3_growOlder 14 = .ok (.iaload, 1) := by decide +kernel
theorem dX3_growOlder_15 : decode cX3_growOlder 15 = .ok (.ifCond .ne 13, 3) := by decide +kernel
theorem dX3_growOlder_18 : decode cX3_growOlder 18 = .ok (.aload_n 0, 1) := by decide +kernel
theorem dX3_growOlder_19 : decode cX3_growOlder 19 = .ok (.getfield 15, 3) := by decide +kernel
theorem dX3_growOlder_22 : decode cX3_growOlder 22 = .ok (.iload_n 1, 1) := by decide +kernel
theorem dX3_growOlder_23 : decode cX3_growOlder 23 = .ok (.dup2, 1) := by decide +kernel
theorem dX3_growOlder_24 : decode cX3_growOlder 24 = .ok (.iaload, 1) := by decide +kernel
theorem dX3_growOlder_25 : decode cX3_growOlder 25 = .ok (.iconst 1, 1) := by decide +kernel
theorem dX3_growOlder_26 : decode cX3_growOlder 26 = .ok (.iadd, 1) := by decide +kernel
theorem dX3_growOlder_27 : decode cX3_growOlder 27 = .ok (.iastore, 1) := by decide +kernel
theorem dX3_growOlder_28 : decode cX3_growOlder 28 = .ok (.iinc 1 1, 3) := by decide +kernel
theorem dX3_growOlder_31 : decode cX3_growOlder 31 = .ok (.goto (-29), 3) := by decide +kernel
theorem dX3_growOlder_34 : decode cX3_growOlder 34 = .ok (.return_, 1) := by decide +kernel
theorem dX3_openCells_0 : decode cX3_openCells 0 = .ok (.iconst 0, 1) := by decide +kernel
theorem dX3_openCells_1 : decode cX3_openCells 1 = .ok (.istore_n 1, 1) := by decide +kernel
theorem dX3_openCells_2 : decode cX3_openCells 2 = .ok (.iconst 0, 1) := by decide +kernel
theorem dX3_openCells_3 : decode cX3_openCells 3 = .ok (.istore_n 2, 1) := by decide +kernel
theorem dX3_openCells_4 : decode cX3_openCells 4 = .ok (.iload_n 2, 1) := by decide +kernel
theorem dX3_openCells_5 : decode cX3_openCells 5 = .ok (.sipush 256, 3) := by decide +kernel
theorem dX3_openCells_8 : decode cX3_openCells 8 = .ok (.if_icmp .ge 21, 3) := by decide +kernel
theorem dX3_openCells_11 : decode cX3_openCells 11 = .ok (.aload_n 0, 1) := by decide +kernel
theorem dX3_openCells_12 : decode cX3_openCells 12 = .ok (.getfield 9, 3) := by decide +kernel
theorem dX3_openCells_15 : decode cX3_openCells 15 = .ok (.iload_n 2, 1) := by decide +kernel
theorem dX3_openCells_16 : decode cX3_openCells 16 = .ok (.iaload, 1) := by decide +kernel
theorem dX3_openCells_17 : decode cX3_openCells 17 = .ok (.ifCond .ne 6, 3) := by decide +kernel
theorem dX3_openCells_20 : decode cX3_openCells 20 = .ok (.iinc 1 1, 3) := by decide +kernel
theorem dX3_openCells_23 : decode cX3_openCells 23 = .ok (.iinc 2 1, 3) := by decide +kernel
theorem dX3_openCells_26 : decode cX3_openCells 26 = .ok (.goto (-22), 3) := by decide +kernel
theorem dX3_openCells_29 : decode cX3_openCells 29 = .ok (.iload_n 1, 1) := by decide +kernel
theorem dX3_openCells_30 : decode cX3_openCells 30 = .ok (.ireturn, 1) := by decide +kernel
theorem dX3_postsSet_0 : decode cX3_postsSet 0 = .ok (.iconst 0, 1) := by decide +kernel
theorem dX3_postsSet_1 : decode cX3_postsSet 1 = .ok (.istore_n 1, 1) := by decide +kernel
theorem dX3_postsSet_2 : decode cX3_postsSet 2 = .ok (.iconst 0, 1) := by decide +kernel
theorem dX3_postsSet_3 : decode cX3_postsSet 3 = .ok (.istore_n 2, 1) := by decide +kernel
theorem dX3_postsSet_4 : decode cX3_postsSet 4 = .ok (.iload_n 2, 1) := by decide +kernel
theorem dX3_postsSet_5 : decode cX3_postsSet 5 = .ok (.sipush 256, 3) := by decide +kernel
theorem dX3_postsSet_8 : decode cX3_postsSet 8 = .ok (.if_icmp .ge 18, 3) := by decide +kernel
theorem dX3_postsSet_11 : decode cX3_postsSet 11 = .ok (.iload_n 1, 1) := by decide +kernel
theorem dX3_postsSet_12 : decode cX3_postsSet 12 = .ok (.aload_n 0, 1) := by decide +kernel
theorem dX3_postsSet_13 : decode cX3_postsSet 13 = .ok (.getfield 18, 3) := by decide +kernel
theorem dX3_postsSet_16 : decode cX3_postsSet 16 = .ok (.iload_n 2, 1) := by decide +kernel
theorem dX3_postsSet_17 : decode cX3_postsSet 17 = .ok (.iaload, 1) := by decide +kernel
theorem dX3_postsSet_18 : decode cX3_postsSet 18 = .ok (.iadd, 1) := by decide +kernel
theorem dX3_postsSet_19 : decode cX3_postsSet 19 = .ok (.istore_n 1, 1) := by decide +kernel
theorem dX3_postsSet_20 : decode cX3_postsSet 20 = .ok (.iinc 2 1, 3) := by decide +kernel
theorem dX3_postsSet_23 : decode cX3_postsSet 23 = .ok (.goto (-19), 3) := by decide +kernel
theorem dX3_postsSet_26 : decode cX3_postsSet 26 = .ok (.iload_n 1, 1) := by decide +kernel
theorem dX3_postsSet_27 : decode cX3_postsSet 27 = .ok (.ireturn, 1) := by decide +kernel
theorem dX4_init_0 : decode cX4_init 0 = .ok (.aload_n 0, 1) := by decide +kernel
theorem dX4_init_1 : decode cX4_init 1 = .ok (.invokespecial 3, 3) := by decide +kernel
theorem dX4_init_4 : decode cX4_init 4 = .ok (.aload_n 0, 1) := by decide +kernel
theorem dX4_init_5 : decode cX4_init 5 = .ok (.bipush 24, 2) := by decide +kernel
theorem dX4_init_7 : decode cX4_init 7 = .ok (.newarray .int, 2) := by decide +kernel
theorem dX4_init_9 : decode cX4_init 9 = .ok (.putfield 9, 3) := by decide +kernel
theorem dX4_init_12 : decode cX4_init 12 = .ok (.return_, 1) := by decide +kernel
theorem dX4_becomeLike_0 : decode cX4_becomeLike 0 = .ok (.aload_n 0, 1) := by decide +kernel
theorem dX4_becomeLike_1 : decode cX4_becomeLike 1 = .ok (.aload_n 1, 1) := by decide +kernel
theorem dX4_becomeLike_2 : decode cX4_becomeLike 2 = .ok (.getfield 15, 3) := by decide +kernel
theorem dX4_becomeLike_5 : decode cX4_becomeLike 5 = .ok (.putfield 15, 3) := by decide +kernel
theorem dX4_becomeLike_8 : decode cX4_becomeLike 8 = .ok (.aload_n 0, 1) := by decide +kernel
theorem dX4_becomeLike_9 : decode cX4_becomeLike 9 = .ok (.aload_n 1, 1) := by decide +kernel
theorem dX4_becomeLike_10 : decode cX4_becomeLike 10 = .ok (.getfield 19, 3) := by decide +kernel
theorem dX4_becomeLike_13 : decode cX4_becomeLike 13 = .ok (.putfield 19, 3) := by decide +kernel
theorem dX4_becomeLike_16 : decode cX4_becomeLike 16 = .ok (.aload_n 0, 1) := by decide +kernel
theorem dX4_becomeLike_17 : decode cX4_becomeLike 17 = .ok (.aload_n 1, 1) := by decide +kernel
theorem dX4_becomeLike_18 : decode cX4_becomeLike 18 = .ok (.getfield 22, 3) := by decide +kernel
theorem dX4_becomeLike_21 : decode cX4_becomeLike 21 = .ok (.putfield 22, 3) := by decide +kernel
theorem dX4_becomeLike_24 : decode cX4_becomeLike 24 = .ok (.aload_n 0, 1) := by decide +kernel
theorem dX4_becomeLike_25 : decode cX4_becomeLike 25 = .ok (.aload_n 1, 1) := by decide +kernel
theorem dX4_becomeLike_26 : decode cX4_becomeLike 26 = .ok (.getfield 25, 3) := by decide +kernel
theorem dX4_becomeLike_29 : decode cX4_becomeLike 29 = .ok (.putfield 25, 3) := by decide +kernel
theorem dX4_becomeLike_32 : decode cX4_becomeLike 32 = .ok (.aload_n 0, 1) := by decide +kernel
theorem dX4_becomeLike_33 : decode cX4_becomeLike 33 = .ok (.aload_n 1, 1) := by decide +kernel
theorem dX4_becomeLike_34 : decode cX4_becomeLike 34 = .ok (.getfield 28, 3) := by decide +kernel
theorem dX4_becomeLike_37 : decode cX4_becomeLike 37 = .ok (.putfield 28, 3) := by decide +kernel
theorem dX4_becomeLike_40 : decode cX4_becomeLike 40 = .ok (.aload_n 0, 1) := by decide +kernel
theorem dX4_becomeLike_41 : decode cX4_becomeLike 41 = .ok (.aload_n 1, 1) := by decide +kernel
theorem dX4_becomeLike_42 : decode cX4_becomeLike 42 = .ok (.getfield 32, 3) := by decide +kernel
theorem dX4_becomeLike_45 : decode cX4_becomeLike 45 = .ok (.putfield 32, 3) := by decide +kernel
theorem dX4_becomeLike_48 : decode cX4_becomeLike 48 = .ok (.aload_n 1, 1) := by decide +kernel
theorem dX4_becomeLike_49 : decode cX4_becomeLike 49 = .ok (.getfield 9, 3) := by decide +kernel
theorem dX4_becomeLike_52 : decode cX4_becomeLike 52 = .ok (.iconst 0, 1) := by decide +kernel
theorem dX4_becomeLike_53 : decode cX4_becomeLike 53 = .ok (.aload_n 0, 1) := by decide +kernel
theorem dX4_becomeLike_54 : decode cX4_becomeLike 54 = .ok (.getfield 9, 3) := by decide +kernel
theorem dX4_becomeLike_57 : decode cX4_becomeLike 57 = .ok (.iconst 0, 1) := by decide +kernel
theorem dX4_becomeLike_58 : decode cX4_becomeLike 58 = .ok (.bipush 24, 2) := by decide +kernel
theorem dX4_becomeLike_60 : decode cX4_becomeLike 60 = .ok (.invokestatic 35, 3) := by decide +kernel
theorem dX4_becomeLike_63 : decode cX4_becomeLike 63 = .ok (.aload_n 0, 1) := by decide +kernel
theorem dX4_becomeLike_64 : decode cX4_becomeLike 64 = .ok (.aload_n 1, 1) := by decide +kernel
theorem dX4_becomeLike_65 : decode cX4_becomeLike 65 = .ok (.getfield 41, 3) := by decide +kernel
theorem dX4_becomeLike_68 : decode cX4_becomeLike 68 = .ok (.putfield 41, 3) := by decide +kernel
theorem dX4_becomeLike_71 : decode cX4_becomeLike 71 = .ok (.return_, 1) := by decide +kernel
theorem dX4_addOrders_0 : decode cX4_addOrders 0 = .ok (.iconst 0, 1) := by decide +kernel
theorem dX4_addOrders_1 : decode cX4_addOrders 1 = .ok (.istore_n 3, 1) := by decide +kernel
theorem dX4_addOrders_2 : decode cX4_addOrders 2 = .ok (.iload_n 3, 1) := by decide +kernel
theorem dX4_addOrders_3 : decode cX4_addOrders 3 = .ok (.iload_n 2, 1) := by decide +kernel
theorem dX4_addOrders_4 : decode cX4_addOrders 4 = .ok (.if_icmp .ge 38, 3) := by decide +kernel
theorem dX4_addOrders_7 : decode cX4_addOrders 7 = .ok (.aload_n 0, 1) := by decide +kernel
theorem dX4_addOrders_8 : decode cX4_addOrders 8 = .ok (.getfield 41, 3) := by decide +kernel
theorem dX4_addOrders_11 : decode cX4_addOrders 11 = .ok (.bipush 24, 2) := by decide +kernel
theorem dX4_addOrders_13 : decode cX4_addOrders 13 = .ok (.if_icmp .ge 29, 3) := by decide +kernel
theorem dX4_addOrders_16 : decode cX4_addOrders 16 = .ok (.aload_n 0, 1) := by decide +kernel
theorem dX4_addOrders_17 : decode cX4_addOrders 17 = .ok (.getfield 9, 3) := by decide +kernel
theorem dX4_addOrders_20 : decode cX4_addOrders 20 = .ok (.aload_n 0, 1) := by decide +kernel
theorem dX4_addOrders_21 : decode cX4_addOrders 21 = .ok (.getfield 41, 3) := by decide +kernel
theorem dX4_addOrders_24 : decode cX4_addOrders 24 = .ok (.iload_n 1, 1) := by decide +kernel
theorem dX4_addOrders_25 : decode cX4_addOrders 25 = .ok (.iastore, 1) := by decide +kernel
theorem dX4_addOrders_26 : decode cX4_addOrders 26 = .ok (.aload_n 0, 1) := by decide +kernel
theorem dX4_addOrders_27 : decode cX4_addOrders 27 = .ok (.dup, 1) := by decide +kernel
theorem dX4_addOrders_28 : decode cX4_addOrders 28 = .ok (.getfield 41, 3) := by decide +kernel
theorem dX4_addOrders_31 : decode cX4_addOrders 31 = .ok (.iconst 1, 1) := by decide +kernel
theorem dX4_addOrders_32 : decode cX4_addOrders 32 = .ok (.iadd, 1) := by decide +kernel
theorem dX4_addOrders_33 : decode cX4_addOrders 33 = .ok (.putfield 41, 3) := by decide +kernel
theorem dX4_addOrders_36 : decode cX4_addOrders 36 = .ok (.iinc 3 1, 3) := by decide +kernel
theorem dX4_addOrders_39 : decode cX4_addOrders 39 = .ok (.goto (-37), 3) := by decide +kernel
theorem dX4_addOrders_42 : decode cX4_addOrders 42 = .ok (.return_, 1) := by decide +kernel
theorem dX4_firstOrder_0 : decode cX4_firstOrder 0 = .ok (.aload_n 0, 1) := by decide +kernel
theorem dX4_firstOrder_1 : decode cX4_firstOrder 1 = .ok (.getfield 41, 3) := by decide +kernel
theorem dX4_firstOrder_4 : decode cX4_firstOrder 4 = .ok (.ifCond .le 12, 3) := by decide +kernel
theorem dX4_firstOrder_7 : decode cX4_firstOrder 7 = .ok (.aload_n 0, 1) := by decide +kernel
theorem dX4_firstOrder_8 : decode cX4_firstOrder 8 = .ok (.getfield 9, 3) := by decide +kernel
theorem dX4_firstOrder_11 : decode cX4_firstOrder 11 = .ok (.iconst 0, 1) := by decide +kernel
theorem dX4_firstOrder_12 : decode cX4_firstOrder 12 = .ok (.iaload, 1) := by decide +kernel
theorem dX4_firstOrder_13 : decode cX4_firstOrder 13 = .ok (.goto 4, 3) := by decide +kernel
theorem dX4_firstOrder_16 : decode cX4_firstOrder 16 = .ok (.iconst (-1), 1) := by decide +kernel
theorem dX4_firstOrder_17 : decode cX4_firstOrder 17 = .ok (.ireturn, 1) := by decide +kernel
theorem dX4_dropFirstOrder_0 : decode cX4_dropFirstOrder 0 = .ok (.iconst 1, 1) := by decide +kernel
theorem dX4_dropFirstOrder_1 : decode cX4_dropFirstOrder 1 = .ok (.istore_n 1, 1) := by decide +kernel
theorem dX4_dropFirstOrder_2 : decode cX4_dropFirstOrder 2 = .ok (.iload_n 1, 1) := by decide +kernel
theorem dX4_dropFirstOrder_3 : decode cX4_dropFirstOrder 3 = .ok (.aload_n 0, 1) := by decide +kernel
theorem dX4_dropFirstOrder_4 : decode cX4_dropFirstOrder 4 = .ok (.getfield 41, 3) := by decide +kernel
theorem dX4_dropFirstOrder_7 : decode cX4_dropFirstOrder 7 = .ok (.if_icmp .ge 29, 3) := by decide +kernel
theorem dX4_dropFirstOrder_10 : decode cX4_dropFirstOrder 10 = .ok (.iload_n 1, 1) := by decide +kernel
theorem dX4_dropFirstOrder_11 : decode cX4_dropFirstOrder 11 = .ok (.bipush 24, 2) := by decide +kernel
theorem dX4_dropFirstOrder_13 : decode cX4_dropFirstOrder 13 = .ok (.if_icmp .ge 23, 3) := by decide +kernel
theorem dX4_dropFirstOrder_16 : decode cX4_dropFirstOrder 16 = .ok (.aload_n 0, 1) := by decide +kernel
theorem dX4_dropFirstOrder_17 : decode cX4_dropFirstOrder 17 = .ok (.getfield 9, 3) := by decide +kernel
theorem dX4_dropFirstOrder_20 : decode cX4_dropFirstOrder 20 = .ok (.iload_n 1, 1) := by decide +kernel
theorem dX4_dropFirstOrder_21 : decode cX4_dropFirstOrder 21 = .ok (.iconst 1, 1) := by decide +kernel
theorem dX4_dropFirstOrder_22 : decode cX4_dropFirstOrder 22 = .ok (.isub, 1) := by decide +kernel
theorem dX4_dropFirstOrder_23 : decode cX4_dropFirstOrder 23 = .ok (.aload_n 0, 1) := by decide +kernel
theorem dX4_dropFirstOrder_24 : decode cX4_dropFirstOrder 24 = .ok (.getfield 9, 3) := by decide +kernel
theorem dX4_dropFirstOrder_27 : decode cX4_dropFirstOrder 27 = .ok (.iload_n 1, 1) := by decide +kernel
theorem dX4_dropFirstOrder_28 : decode cX4_dropFirstOrder 28 = .ok (.iaload, 1) := by decide +kernel
theorem dX4_dropFirstOrder_29 : decode cX4_dropFirstOrder 29 = .ok (.iastore, 1) := by decide +kernel
theorem dX4_dropFirstOrder_30 : decode cX4_dropFirstOrder 30 = .ok (.iinc 1 1, 3) := by decide +kernel
theorem dX4_dropFirstOrder_33 : decode cX4_dropFirstOrder 33 = .ok (.goto (-31), 3) := by decide +kernel
theorem dX4_dropFirstOrder_36 : decode cX4_dropFirstOrder 36 = .ok (.aload_n 0, 1) := by decide +kernel
theorem dX4_dropFirstOrder_37 : decode cX4_dropFirstOrder 37 = .ok (.getfield 41, 3) := by decide +kernel
theorem dX4_dropFirstOrder_40 : decode cX4_dropFirstOrder 40 = .ok (.ifCond .le 13, 3) := by decide +kernel
theorem dX4_dropFirstOrder_43 : decode cX4_dropFirstOrder 43 = .ok (.aload_n 0, 1) := by decide +kernel
theorem dX4_dropFirstOrder_44 : decode cX4_dropFirstOrder 44 = .ok (.dup, 1) := by decide +kernel
theorem dX4_dropFirstOrder_45 : decode cX4_dropFirstOrder 45 = .ok (.getfield 41, 3) := by decide +kernel
theorem dX4_dropFirstOrder_48 : decode cX4_dropFirstOrder 48 = .ok (.iconst 1, 1) := by decide +kernel
theorem dX4_dropFirstOrder_49 : decode cX4_dropFirstOrder 49 = .ok (.isub, 1) := by decide +kernel
theorem dX4_dropFirstOrder_50 : decode cX4_dropFirstOrder 50 = .ok (.putfield 41, 3) := by decide +kernel
theorem dX4_dropFirstOrder_53 : decode cX4_dropFirstOrder 53 = .ok (.return_, 1) := by decide +kernel
theorem dX4_burnOil_0 : decode cX4_burnOil 0 = .ok (.aload_n 0, 1) := by decide +kernel
theorem dX4_burnOil_1 : decode cX4_burnOil 1 = .ok (.getfield 25, 3) := by decide +kernel
theorem dX4_burnOil_4 : decode cX4_burnOil 4 = .ok (.ifCond .le 13, 3) := by decide +kernel
theorem dX4_burnOil_7 : decode cX4_burnOil 7 = .ok (.aload_n 0, 1) := by decide +kernel
theorem dX4_burnOil_8 : decode cX4_burnOil 8 = .ok (.dup, 1) := by decide +kernel
theorem dX4_burnOil_9 : decode cX4_burnOil 9 = .ok (.getfield 25, 3) := by decide +kernel
theorem dX4_burnOil_12 : decode cX4_burnOil 12 = .ok (.iconst 1, 1) := by decide +kernel
theorem dX4_burnOil_13 : decode cX4_burnOil 13 = .ok (.isub, 1) := by decide +kernel
theorem dX4_burnOil_14 : decode cX4_burnOil 14 = .ok (.putfield 25, 3) := by decide +kernel
theorem dX4_burnOil_17 : decode cX4_burnOil 17 = .ok (.aload_n 0, 1) := by decide +kernel
theorem dX4_burnOil_18 : decode cX4_burnOil 18 = .ok (.getfield 25, 3) := by decide +kernel
theorem dX4_burnOil_21 : decode cX4_burnOil 21 = .ok (.ifCond .ne 26, 3) := by decide +kernel
theorem dX4_burnOil_24 : decode cX4_burnOil 24 = .ok (.aload_n 0, 1) := by decide +kernel
theorem dX4_burnOil_25 : decode cX4_burnOil 25 = .ok (.getfield 22, 3) := by decide +kernel
theorem dX4_burnOil_28 : decode cX4_burnOil 28 = .ok (.ifCond .le 19, 3) := by decide +kernel
theorem dX4_burnOil_31 : decode cX4_burnOil 31 = .ok (.aload_n 0, 1) := by decide +kernel
theorem dX4_burnOil_32 : decode cX4_burnOil 32 = .ok (.dup, 1) := by decide +kernel
theorem dX4_burnOil_33 : decode cX4_burnOil 33 = .ok (.getfield 22, 3) := by decide +kernel
theorem dX4_burnOil_36 : decode cX4_burnOil 36 = .ok (.iconst 1, 1) := by decide +kernel
theorem dX4_burnOil_37 : decode cX4_burnOil 37 = .ok (.isub, 1) := by decide +kernel
theorem dX4_burnOil_38 : decode cX4_burnOil 38 = .ok (.putfield 22, 3) := by decide +kernel
theorem dX4_burnOil_41 : decode cX4_burnOil 41 = .ok (.aload_n 0, 1) := by decide +kernel
theorem dX4_burnOil_42 : decode cX4_burnOil 42 = .ok (.bipush 60, 2) := by decide +kernel
theorem dX4_burnOil_44 : decode cX4_burnOil 44 = .ok (.putfield 25, 3) := by decide +kernel
theorem dX4_burnOil_47 : decode cX4_burnOil 47 = .ok (.return_, 1) := by decide +kernel
