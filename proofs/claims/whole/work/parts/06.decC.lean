theorem dX6_init_0 : decode cX6_init 0 = .ok (.aload_n 0, 1) := by decide +kernel
theorem dX6_init_1 : decode cX6_init 1 = .ok (.invokespecial 3, 3) := by decide +kernel
theorem dX6_init_4 : decode cX6_init 4 = .ok (.aload_n 0, 1) := by decide +kernel
theorem dX6_init_5 : decode cX6_init 5 = .ok (.sipush 256, 3) := by decide +kernel
theorem dX6_init_8 : decode cX6_init 8 = .ok (.newarray .int, 2) := by decide +kernel
theorem dX6_init_10 : decode cX6_init 10 = .ok (.putfield 9, 3) := by decide +kernel
theorem dX6_init_13 : decode cX6_init 13 = .ok (.aload_n 0, 1) := by decide +kernel
theorem dX6_init_14 : decode cX6_init 14 = .ok (.sipush 256, 3) := by decide +kernel
theorem dX6_init_17 : decode cX6_init 17 = .ok (.newarray .int, 2) := by decide +kernel
theorem dX6_init_19 : decode cX6_init 19 = .ok (.putfield 13, 3) := by decide +kernel
theorem dX6_init_22 : decode cX6_init 22 = .ok (.aload_n 0, 1) := by decide +kernel
theorem dX6_init_23 : decode cX6_init 23 = .ok (.sipush 256, 3) := by decide +kernel
theorem dX6_init_26 : decode cX6_init 26 = .ok (.newarray .int, 2) := by decide +kernel
theorem dX6_init_28 : decode cX6_init 28 = .ok (.putfield 16, 3) := by decide +kernel
theorem dX6_init_31 : decode cX6_init 31 = .ok (.aload_n 0, 1) := by decide +kernel
theorem dX6_init_32 : decode cX6_init 32 = .ok (.sipush 248, 3) := by decide +kernel
theorem dX6_init_35 : decode cX6_init 35 = .ok (.newarray .int, 2) := by decide +kernel
theorem dX6_init_37 : decode cX6_init 37 = .ok (.putfield 19, 3) := by decide +kernel
theorem dX6_init_40 : decode cX6_init 40 = .ok (.aload_n 0, 1) := by decide +kernel
theorem dX6_init_41 : decode cX6_init 41 = .ok (.iconst 4, 1) := by decide +kernel
theorem dX6_init_42 : decode cX6_init 42 = .ok (.newarray .int, 2) := by decide +kernel
theorem dX6_init_44 : decode cX6_init 44 = .ok (.putfield 22, 3) := by decide +kernel
theorem dX6_init_47 : decode cX6_init 47 = .ok (.aload_n 0, 1) := by decide +kernel
theorem dX6_init_48 : decode cX6_init 48 = .ok (.sipush 256, 3) := by decide +kernel
theorem dX6_init_51 : decode cX6_init 51 = .ok (.newarray .int, 2) := by decide +kernel
theorem dX6_init_53 : decode cX6_init 53 = .ok (.putfield 25, 3) := by decide +kernel
theorem dX6_init_56 : decode cX6_init 56 = .ok (.iconst 0, 1) := by decide +kernel
theorem dX6_init_57 : decode cX6_init 57 = .ok (.istore_n 1, 1) := by decide +kernel
theorem dX6_init_58 : decode cX6_init 58 = .ok (.iload_n 1, 1) := by decide +kernel
theorem dX6_init_59 : decode cX6_init 59 = .ok (.sipush 256, 3) := by decide +kernel
theorem dX6_init_62 : decode cX6_init 62 = .ok (.if_icmp .ge 16, 3) := by decide +kernel
theorem dX6_init_65 : decode cX6_init 65 = .ok (.aload_n 0, 1) := by decide +kernel
theorem dX6_init_66 : decode cX6_init 66 = .ok (.getfield 9, 3) := by decide +kernel
theorem dX6_init_69 : decode cX6_init 69 = .ok (.iload_n 1, 1) := by decide +kernel
theorem dX6_init_70 : decode cX6_init 70 = .ok (.iconst 3, 1) := by decide +kernel
theorem dX6_init_71 : decode cX6_init 71 = .ok (.iastore, 1) := by decide +kernel
theorem dX6_init_72 : decode cX6_init 72 = .ok (.iinc 1 1, 3) := by decide +kernel
theorem dX6_init_75 : decode cX6_init 75 = .ok (.goto (-17), 3) := by decide +kernel
theorem dX6_init_78 : decode cX6_init 78 = .ok (.return_, 1) := by decide +kernel
theorem dX6_thrown_0 : decode cX6_thrown 0 = .ok (.aload_n 0, 1) := by decide +kernel
theorem dX6_thrown_1 : decode cX6_thrown 1 = .ok (.getfield 28, 3) := by decide +kernel
theorem dX6_thrown_4 : decode cX6_thrown 4 = .ok (.ireturn, 1) := by decide +kernel
theorem dX6_fail_0 : decode cX6_fail 0 = .ok (.aload_n 0, 1) := by decide +kernel
theorem dX6_fail_1 : decode cX6_fail 1 = .ok (.iload_n 1, 1) := by decide +kernel
theorem dX6_fail_2 : decode cX6_fail 2 = .ok (.putfield 28, 3) := by decide +kernel
theorem dX6_fail_5 : decode cX6_fail 5 = .ok (.iconst 0, 1) := by decide +kernel
theorem dX6_fail_6 : decode cX6_fail 6 = .ok (.ireturn, 1) := by decide +kernel
theorem dX6_isIn_0 : decode cX6_isIn 0 = .ok (.iload_n 0, 1) := by decide +kernel
theorem dX6_isIn_1 : decode cX6_isIn 1 = .ok (.iload_n 1, 1) := by decide +kernel
theorem dX6_isIn_2 : decode cX6_isIn 2 = .ok (.if_icmp .lt 12, 3) := by decide +kernel
theorem dX6_isIn_5 : decode cX6_isIn 5 = .ok (.iload_n 0, 1) := by decide +kernel
theorem dX6_isIn_6 : decode cX6_isIn 6 = .ok (.iload_n 2, 1) := by decide +kernel
theorem dX6_isIn_7 : decode cX6_isIn 7 = .ok (.if_icmp .gt 7, 3) := by decide +kernel
theorem dX6_isIn_10 : decode cX6_isIn 10 = .ok (.iconst 1, 1) := by decide +kernel
theorem dX6_isIn_11 : decode cX6_isIn 11 = .ok (.goto 4, 3) := by decide +kernel
theorem dX6_isIn_14 : decode cX6_isIn 14 = .ok (.iconst 0, 1) := by decide +kernel
theorem dX6_isIn_15 : decode cX6_isIn 15 = .ok (.ireturn, 1) := by decide +kernel
set_option maxRecDepth 20000 in
theorem ggX6_isCell_X6_isIn : GoodIn wsX6_isCell wsX6_isIn := goodIn_r _ [4] (by decide +kernel) (by decide +kernel)
set_option maxRecDepth 20000 in
theorem gX6_isCell_X6_isIn : GoodIn wsX6_isCell (va_wsS RX6 32 yX6_isIn wsX6_isIn) := goodIn_app (goodIn_of _ (by decide +kernel)) ggX6_isCell_X6_isIn
theorem dX6_isCell_0 : decode cX6_isCell 0 = .ok (.iload_n 0, 1) := by decide +kernel
theorem dX6_isCell_1 : decode cX6_isCell 1 = .ok (.iconst 0, 1) := by decide +kernel
theorem dX6_isCell_2 : decode cX6_isCell 2 = .ok (.bipush 15, 2) := by decide +kernel
theorem dX6_isCell_4 : decode cX6_isCell 4 = .ok (.invokestatic 32, 3) := by decide +kernel
theorem dX6_isCell_7 : decode cX6_isCell 7 = .ok (.ifCond .eq 17, 3) := by decide +kernel
theorem dX6_isCell_10 : decode cX6_isCell 10 = .ok (.iload_n 1, 1) := by decide +kernel
theorem dX6_isCell_11 : decode cX6_isCell 11 = .ok (.iconst 0, 1) := by decide +kernel
theorem dX6_isCell_12 : decode cX6_isCell 12 = .ok (.bipush 15, 2) := by decide +kernel
theorem dX6_isCell_14 : decode cX6_isCell 14 = .ok (.invokestatic 32, 3) := by decide +kernel
theorem dX6_isCell_17 : decode cX6_isCell 17 = .ok (.ifCond .eq 7, 3) := by decide +kernel
theorem dX6_isCell_20 : decode cX6_isCell 20 = .ok (.iconst 1, 1) := by decide +kernel
theorem dX6_isCell_21 : decode cX6_isCell 21 = .ok (.goto 4, 3) := by decide +kernel
theorem dX6_isCell_24 : decode cX6_isCell 24 = .ok (.iconst 0, 1) := by decide +kernel
theorem dX6_isCell_25 : decode cX6_isCell 25 = .ok (.ireturn, 1) := by decide +kernel
set_option maxRecDepth 20000 in
theorem ggX6_isMan_X6_isIn : GoodIn wsX6_isMan wsX6_isIn := goodIn_r _ [5] (by decide +kernel) (by decide +kernel)
set_option maxRecDepth 20000 in
theorem gX6_isMan_X6_isIn : GoodIn wsX6_isMan (va_wsS RX6 32 yX6_isIn wsX6_isIn) := goodIn_app (goodIn_of _ (by decide +kernel)) ggX6_isMan_X6_isIn
theorem dX6_isMan_0 : decode cX6_isMan 0 = .ok (.iload_n 1, 1) := by decide +kernel
theorem dX6_isMan_1 : decode cX6_isMan 1 = .ok (.iconst 0, 1) := by decide +kernel
theorem dX6_isMan_2 : decode cX6_isMan 2 = .ok (.aload_n 0, 1) := by decide +kernel
theorem dX6_isMan_3 : decode cX6_isMan 3 = .ok (.getfield 36, 3) := by decide +kernel
theorem dX6_isMan_6 : decode cX6_isMan 6 = .ok (.iconst 1, 1) := by decide +kernel
theorem dX6_isMan_7 : decode cX6_isMan 7 = .ok (.isub, 1) := by decide +kernel
theorem dX6_isMan_8 : decode cX6_isMan 8 = .ok (.invokestatic 32, 3) := by decide +kernel
theorem dX6_isMan_11 : decode cX6_isMan 11 = .ok (.ireturn, 1) := by decide +kernel
theorem dX6_get_0 : decode cX6_get 0 = .ok (.aload_n 0, 1) := by decide +kernel
theorem dX6_get_1 : decode cX6_get 1 = .ok (.getfield 19, 3) := by decide +kernel
theorem dX6_get_4 : decode cX6_get 4 = .ok (.bipush 31, 2) := by decide +kernel
theorem dX6_get_6 : decode cX6_get 6 = .ok (.iload_n 1, 1) := by decide +kernel
theorem dX6_get_7 : decode cX6_get 7 = .ok (.imul, 1) := by decide +kernel
theorem dX6_get_8 : decode cX6_get 8 = .ok (.iload_n 2, 1) := by decide +kernel
theorem dX6_get_9 : decode cX6_get 9 = .ok (.iadd, 1) := by decide +kernel
theorem dX6_get_10 : decode cX6_get 10 = .ok (.iaload, 1) := by decide +kernel
theorem dX6_get_11 : decode cX6_get 11 = .ok (.ireturn, 1) := by decide +kernel
theorem dX6_set_0 : decode cX6_set 0 = .ok (.aload_n 0, 1) := by decide +kernel
theorem dX6_set_1 : decode cX6_set 1 = .ok (.getfield 19, 3) := by decide +kernel
theorem dX6_set_4 : decode cX6_set 4 = .ok (.bipush 31, 2) := by decide +kernel
theorem dX6_set_6 : decode cX6_set 6 = .ok (.iload_n 1, 1) := by decide +kernel
theorem dX6_set_7 : decode cX6_set 7 = .ok (.imul, 1) := by decide +kernel
theorem dX6_set_8 : decode cX6_set 8 = .ok (.iload_n 2, 1) := by decide +kernel
theorem dX6_set_9 : decode cX6_set 9 = .ok (.iadd, 1) := by decide +kernel
theorem dX6_set_10 : decode cX6_set 10 = .ok (.iload_n 3, 1) := by decide +kernel
theorem dX6_set_11 : decode cX6_set 11 = .ok (.iastore, 1) := by decide +kernel
theorem dX6_set_12 : decode cX6_set 12 = .ok (.return_, 1) := by decide +kernel
theorem dX6_add_0 : decode cX6_add 0 = .ok (.aload_n 0, 1) := by decide +kernel
theorem dX6_add_1 : decode cX6_add 1 = .ok (.getfield 19, 3) := by decide +kernel
theorem dX6_add_4 : decode cX6_add 4 = .ok (.bipush 31, 2) := by decide +kernel
theorem dX6_add_6 : decode cX6_add 6 = .ok (.iload_n 1, 1) := by decide +kernel
theorem dX6_add_7 : decode cX6_add 7 = .ok (.imul, 1) := by decide +kernel
theorem dX6_add_8 : decode cX6_add 8 = .ok (.iload_n 2, 1) := by decide +kernel
theorem dX6_add_9 : decode cX6_add 9 = .ok (.iadd, 1) := by decide +kernel
theorem dX6_add_10 : decode cX6_add 10 = .ok (.dup2, 1) := by decide +kernel
theorem dX6_add_11 : decode cX6_add 11 = .ok (.iaload, 1) := by decide +kernel
theorem dX6_add_12 : decode cX6_add 12 = .ok (.iload_n 3, 1) := by decide +kernel
theorem dX6_add_13 : decode cX6_add 13 = .ok (.iadd, 1) := by decide +kernel
theorem dX6_add_14 : decode cX6_add 14 = .ok (.iastore, 1) := by decide +kernel
theorem dX6_add_15 : decode cX6_add 15 = .ok (.return_, 1) := by decide +kernel
set_option maxRecDepth 20000 in
theorem ggX6_isFree_X6_get : GoodIn wsX6_isFree wsX6_get := goodIn_r _ [5, 6, 7, 8, 9, 10, 11, 12, 13, 14] (by decide +kernel) (by decide +kernel)
set_option maxRecDepth 20000 in
theorem gX6_isFree_X6_get : GoodIn wsX6_isFree (wsV RX6 39 RX6 yX6_get wsX6_get) := goodIn_app (goodIn_of _ (by decide +kernel)) ggX6_isFree_X6_get
theorem dX6_isFree_0 : decode cX6_isFree 0 = .ok (.aload_n 0, 1) := by decide +kernel
theorem dX6_isFree_1 : decode cX6_isFree 1 = .ok (.iload_n 1, 1) := by decide +kernel
theorem dX6_isFree_2 : decode cX6_isFree 2 = .ok (.iconst 4, 1) := by decide +kernel
theorem dX6_isFree_3 : decode cX6_isFree 3 = .ok (.invokevirtual 39, 3) := by decide +kernel
theorem dX6_isFree_6 : decode cX6_isFree 6 = .ok (.ifCond .ne 7, 3) := by decide +kernel
theorem dX6_isFree_9 : decode cX6_isFree 9 = .ok (.iconst 1, 1) := by decide +kernel
theorem dX6_isFree_10 : decode cX6_isFree 10 = .ok (.goto 4, 3) := by decide +kernel
theorem dX6_isFree_13 : decode cX6_isFree 13 = .ok (.iconst 0, 1) := by decide +kernel
theorem dX6_isFree_14 : decode cX6_isFree 14 = .ok (.ireturn, 1) := by decide +kernel
theorem dX6_isOpen_0 : decode cX6_isOpen 0 = .ok (.aload_n 0, 1) := by decide +kernel
theorem dX6_isOpen_1 : decode cX6_isOpen 1 = .ok (.getfield 9, 3) := by decide +kernel
theorem dX6_isOpen_4 : decode cX6_isOpen 4 = .ok (.iload_n 1, 1) := by decide +kernel
theorem dX6_isOpen_5 : decode cX6_isOpen 5 = .ok (.iaload, 1) := by decide +kernel
theorem dX6_isOpen_6 : decode cX6_isOpen 6 = .ok (.ifCond .ne 7, 3) := by decide +kernel
theorem dX6_isOpen_9 : decode cX6_isOpen 9 = .ok (.iconst 1, 1) := by decide +kernel
theorem dX6_isOpen_10 : decode cX6_isOpen 10 = .ok (.goto 4, 3) := by decide +kernel
theorem dX6_isOpen_13 : decode cX6_isOpen 13 = .ok (.iconst 0, 1) := by decide +kernel
theorem dX6_isOpen_14 : decode cX6_isOpen 14 = .ok (.ireturn, 1) := by decide +kernel
theorem dX6_beside_0 : decode cX6_beside 0 = .ok (.iload_n 1, 1) := by decide +kernel
theorem dX6_beside_1 : decode cX6_beside 1 = .ok (.tableswitch 75 0 2 #[27, 42, 59], 27) := by decide +kernel
theorem dX6_beside_28 : decode cX6_beside 28 = .ok (.iload_n 0, 1) := by decide +kernel
theorem dX6_beside_29 : decode cX6_beside 29 = .ok (.bipush 16, 2) := by decide +kernel
theorem dX6_beside_31 : decode cX6_beside 31 = .ok (.if_icmp .ge 7, 3) := by decide +kernel
theorem dX6_beside_34 : decode cX6_beside 34 = .ok (.iconst (-1), 1) := by decide +kernel
theorem dX6_beside_35 : decode cX6_beside 35 = .ok (.goto 7, 3) := by decide +kernel
theorem dX6_beside_38 : decode cX6_beside 38 = .ok (.iload_n 0, 1) := by decide +kernel
theorem dX6_beside_39 : decode cX6_beside 39 = .ok (.bipush 16, 2) := by decide +kernel
theorem dX6_beside_41 : decode cX6_beside 41 = .ok (.isub, 1) := by decide +kernel
theorem dX6_beside_42 : decode cX6_beside 42 = .ok (.ireturn, 1) := by decide +kernel
theorem dX6_beside_43 : decode cX6_beside 43 = .ok (.iload_n 0, 1) := by decide +kernel
theorem dX6_beside_44 : decode cX6_beside 44 = .ok (.bipush 16, 2) := by decide +kernel
theorem dX6_beside_46 : decode cX6_beside 46 = .ok (.irem, 1) := by decide +kernel
theorem dX6_beside_47 : decode cX6_beside 47 = .ok (.bipush 15, 2) := by decide +kernel
theorem dX6_beside_49 : decode cX6_beside 49 = .ok (.if_icmp .ne 7, 3) := by decide +kernel
theorem dX6_beside_52 : decode cX6_beside 52 = .ok (.iconst (-1), 1) := by decide +kernel
theorem dX6_beside_53 : decode cX6_beside 53 = .ok (.goto 6, 3) := by decide +kernel
theorem dX6_beside_56 : decode cX6_beside 56 = .ok (.iload_n 0, 1) := by decide +kernel
theorem dX6_beside_57 : decode cX6_beside 57 = .ok (.iconst 1, 1) := by decide +kernel
theorem dX6_beside_58 : decode cX6_beside 58 = .ok (.iadd, 1) := by decide +kernel
theorem dX6_beside_59 : decode cX6_beside 59 = .ok (.ireturn, 1) := by decide +kernel
theorem dX6_beside_60 : decode cX6_beside 60 = .ok (.iload_n 0, 1) := by decide +kernel
theorem dX6_beside_61 : decode cX6_beside 61 = .ok (.sipush 240, 3) := by decide +kernel
theorem dX6_beside_64 : decode cX6_beside 64 = .ok (.if_icmp .lt 7, 3) := by decide +kernel
theorem dX6_beside_67 : decode cX6_beside 67 = .ok (.iconst (-1), 1) := by decide +kernel
theorem dX6_beside_68 : decode cX6_beside 68 = .ok (.goto 7, 3) := by decide +kernel
theorem dX6_beside_71 : decode cX6_beside 71 = .ok (.iload_n 0, 1) := by decide +kernel
theorem dX6_beside_72 : decode cX6_beside 72 = .ok (.bipush 16, 2) := by decide +kernel
theorem dX6_beside_74 : decode cX6_beside 74 = .ok (.iadd, 1) := by decide +kernel
theorem dX6_beside_75 : decode cX6_beside 75 = .ok (.ireturn, 1) := by decide +kernel
theorem dX6_beside_76 : decode cX6_beside 76 = .ok (.iload_n 0, 1) := by decide +kernel
theorem dX6_beside_77 : decode cX6_beside 77 = .ok (.bipush 16, 2) := by decide +kernel
theorem dX6_beside_79 : decode cX6_beside 79 = .ok (.irem, 1) := by decide +kernel
theorem dX6_beside_80 : decode cX6_beside 80 = .ok (.ifCond .ne 7, 3) := by decide +kernel
theorem dX6_beside_83 : decode cX6_beside 83 = .ok (.iconst (-1), 1) := by decide +kernel
theorem dX6_beside_84 : decode cX6_beside 84 = .ok (.goto 6, 3) := by decide +kernel
theorem dX6_beside_87 : decode cX6_beside 87 = .ok (.iload_n 0, 1) := by decide +kernel
theorem dX6_beside_88 : decode cX6_beside 88 = .ok (.iconst 1, 1) := by decide +kernel
theorem dX6_beside_89 : decode cX6_beside 89 = .ok (.isub, 1) := by decide +kernel
theorem dX6_beside_90 : decode cX6_beside 90 = .ok (.ireturn, 1) := by decide +kernel
set_option maxRecDepth 20000 in
theorem ggX6_isNear_X6_beside : GoodIn wsX6_isNear wsX6_beside := goodIn_r _ [4] (by decide +kernel) (by decide +kernel)
set_option maxRecDepth 20000 in
theorem gX6_isNear_X6_beside : GoodIn wsX6_isNear (va_wsS RX6 43 yX6_beside wsX6_beside) := goodIn_app (goodIn_of _ (by decide +kernel)) ggX6_isNear_X6_beside
theorem dX6_isNear_0 : decode cX6_isNear 0 = .ok (.iload_n 0, 1) := by decide +kernel
theorem dX6_isNear_1 : decode cX6_isNear 1 = .ok (.iload_n 1, 1) := by decide +kernel
theorem dX6_isNear_2 : decode cX6_isNear 2 = .ok (.if_icmp .ne 7, 3) := by decide +kernel
theorem dX6_isNear_5 : decode cX6_isNear 5 = .ok (.iconst 1, 1) := by decide +kernel
theorem dX6_isNear_6 : decode cX6_isNear 6 = .ok (.goto 4, 3) := by decide +kernel
theorem dX6_isNear_9 : decode cX6_isNear 9 = .ok (.iconst 0, 1) := by decide +kernel
theorem dX6_isNear_10 : decode cX6_isNear 10 = .ok (.istore_n 2, 1) := by decide +kernel
theorem dX6_isNear_11 : decode cX6_isNear 11 = .ok (.iconst 0, 1) := by decide +kernel
theorem dX6_isNear_12 : decode cX6_isNear 12 = .ok (.istore_n 3, 1) := by decide +kernel
theorem dX6_isNear_13 : decode cX6_isNear 13 = .ok (.iload_n 3, 1) := by decide +kernel
theorem dX6_isNear_14 : decode cX6_isNear 14 = .ok (.iconst 4, 1) := by decide +kernel
theorem dX6_isNear_15 : decode cX6_isNear 15 = .ok (.if_icmp .ge 28, 3) := by decide +kernel
theorem dX6_isNear_18 : decode cX6_isNear 18 = .ok (.iload_n 2, 1) := by decide +kernel
theorem dX6_isNear_19 : decode cX6_isNear 19 = .ok (.ifCond .ne 12, 3) := by decide +kernel
theorem dX6_isNear_22 : decode cX6_isNear 22 = .ok (.iload_n 0, 1) := by decide +kernel
theorem dX6_isNear_23 : decode cX6_isNear 23 = .ok (.iload_n 3, 1) := by decide +kernel
theorem dX6_isNear_24 : decode cX6_isNear 24 = .ok (.invokestatic 43, 3) := by decide +kernel
theorem dX6_isNear_27 : decode cX6_isNear 27 = .ok (.iload_n 1, 1) := by decide +kernel
theorem dX6_isNear_28 : decode cX6_isNear 28 = .ok (.if_icmp .ne 7, 3) := by decide +kernel
theorem dX6_isNear_31 : decode cX6_isNear 31 = .ok (.iconst 1, 1) := by decide +kernel
theorem dX6_isNear_32 : decode cX6_isNear 32 = .ok (.goto 4, 3) := by decide +kernel
theorem dX6_isNear_35 : decode cX6_isNear 35 = .ok (.iconst 0, 1) := by decide +kernel
theorem dX6_isNear_36 : decode cX6_isNear 36 = .ok (.istore_n 2, 1) := by decide +kernel
theorem dX6_isNear_37 : decode cX6_isNear 37 = .ok (.iinc 3 1, 3) := by decide +kernel
theorem dX6_isNear_40 : decode cX6_isNear 40 = .ok (.goto (-27), 3) := by decide +kernel
theorem dX6_isNear_43 : decode cX6_isNear 43 = .ok (.iload_n 2, 1) := by decide +kernel
theorem dX6_isNear_44 : decode cX6_isNear 44 = .ok (.ireturn, 1) := by decide +kernel
theorem dX6_clear_0 : decode cX6_clear 0 = .ok (.iconst 0, 1) := by decide +kernel
theorem dX6_clear_1 : decode cX6_clear 1 = .ok (.istore_n 1, 1) := by decide +kernel
theorem dX6_clear_2 : decode cX6_clear 2 = .ok (.iload_n 1, 1) := by decide +kernel
theorem dX6_clear_3 : decode cX6_clear 3 = .ok (.sipush 256, 3) := by decide +kernel
theorem dX6_clear_6 : decode cX6_clear 6 = .ok (.if_icmp .ge 16, 3) := by decide +kernel
theorem dX6_clear_9 : decode cX6_clear 9 = .ok (.aload_n 0, 1) := by decide +kernel
theorem dX6_clear_10 : decode cX6_clear 10 = .ok (.getfield 25, 3) := by decide +kernel
theorem dX6_clear_13 : decode cX6_clear 13 = .ok (.iload_n 1, 1) := by decide +kernel
theorem dX6_clear_14 : decode cX6_clear 14 = .ok (.iconst (-1), 1) := by decide +kernel
theorem dX6_clear_15 : decode cX6_clear 15 = .ok (.iastore, 1) := by decide +kernel
theorem dX6_clear_16 : decode cX6_clear 16 = .ok (.iinc 1 1, 3) := by decide +kernel
theorem dX6_clear_19 : decode cX6_clear 19 = .ok (.goto (-17), 3) := by decide +kernel
theorem dX6_clear_22 : decode cX6_clear 22 = .ok (.return_, 1) := by decide +kernel
set_option maxRecDepth 20000 in
theorem ggX6_spread_X6_beside : GoodIn wsX6_spread wsX6_beside := goodIn_r _ [5] (by decide +kernel) (by decide +kernel)
set_option maxRecDepth 20000 in
theorem gX6_spread_X6_beside : GoodIn wsX6_spread (va_wsS RX6 43 yX6_beside wsX6_beside) := goodIn_app (goodIn_of _ (by decide +kernel)) ggX6_spread_X6_beside
set_option maxRecDepth 20000 in
theorem ggX6_spread_X6_isOpen : GoodIn wsX6_spread wsX6_isOpen := goodIn_r _ [9, 10, 11, 12, 13, 14, 15, 16, 17, 18] (by decide +kernel) (by decide +kernel)
set_option maxRecDepth 20000 in
theorem gX6_spread_X6_isOpen : GoodIn wsX6_spread (wsV RX6 46 RX6 yX6_isOpen wsX6_isOpen) := goodIn_app (goodIn_of _ (by decide +kernel)) ggX6_spread_X6_isOpen
theorem dX6_spread_0 : decode cX6_spread 0 = .ok (.iconst 0, 1) := by decide +kernel
theorem dX6_spread_1 : decode cX6_spread 1 = .ok (.istore_n 2, 1) := by decide +kernel
theorem dX6_spread_2 : decode cX6_spread 2 = .ok (.iload_n 2, 1) := by decide +kernel
theorem dX6_spread_3 : decode cX6_spread 3 = .ok (.iload_n 1, 1) := by decide +kernel
theorem dX6_spread_4 : decode cX6_spread 4 = .ok (.if_icmp .ge 112, 3) := by decide +kernel
theorem dX6_spread_7 : decode cX6_spread 7 = .ok (.iconst 0, 1) := by decide +kernel
theorem dX6_spread_8 : decode cX6_spread 8 = .ok (.istore_n 3, 1) := by decide +kernel
theorem dX6_spread_9 : decode cX6_spread 9 = .ok (.iconst 0, 1) := by decide +kernel
theorem dX6_spread_10 : decode cX6_spread 10 = .ok (.istore 4, 2) := by decide +kernel
theorem dX6_spread_12 : decode cX6_spread 12 = .ok (.iload 4, 2) := by decide +kernel
theorem dX6_spread_14 : decode cX6_spread 14 = .ok (.sipush 256, 3) := by decide +kernel
theorem dX6_spread_17 : decode cX6_spread 17 = .ok (.if_icmp .ge 88, 3) := by decide +kernel
theorem dX6_spread_20 : decode cX6_spread 20 = .ok (.aload_n 0, 1) := by decide +kernel
theorem dX6_spread_21 : decode cX6_spread 21 = .ok (.getfield 25, 3) := by decide +kernel
theorem dX6_spread_24 : decode cX6_spread 24 = .ok (.iload 4, 2) := by decide +kernel
theorem dX6_spread_26 : decode cX6_spread 26 = .ok (.iaload, 1) := by decide +kernel
theorem dX6_spread_27 : decode cX6_spread 27 = .ok (.iload_n 2, 1) := by decide +kernel
theorem dX6_spread_28 : decode cX6_spread 28 = .ok (.if_icmp .eq 6, 3) := by decide +kernel
theorem dX6_spread_31 : decode cX6_spread 31 = .ok (.goto 68, 3) := by decide +kernel
theorem dX6_spread_34 : decode cX6_spread 34 = .ok (.iconst 0, 1) := by decide +kernel
theorem dX6_spread_35 : decode cX6_spread 35 = .ok (.istore 5, 2) := by decide +kernel
theorem dX6_spread_37 : decode cX6_spread 37 = .ok (.iload 5, 2) := by decide +kernel
theorem dX6_spread_39 : decode cX6_spread 39 = .ok (.iconst 4, 1) := by decide +kernel
theorem dX6_spread_40 : decode cX6_spread 40 = .ok (.if_icmp .ge 59, 3) := by decide +kernel
theorem dX6_spread_43 : decode cX6_spread 43 = .ok (.iload 4, 2) := by decide +kernel
theorem dX6_spread_45 : decode cX6_spread 45 = .ok (.iload 5, 2) := by decide +kernel
theorem dX6_spread_47 : decode cX6_spread 47 = .ok (.invokestatic 43, 3) := by decide +kernel
theorem dX6_spread_50 : decode cX6_spread 50 = .ok (.istore 6, 2) := by decide +kernel
theorem dX6_spread_52 : decode cX6_spread 52 = .ok (.iload 6, 2) := by decide +kernel
theorem dX6_spread_54 : decode cX6_spread 54 = .ok (.iconst (-1), 1) := by decide +kernel
theorem dX6_spread_55 : decode cX6_spread 55 = .ok (.if_icmp .eq 38, 3) := by decide +kernel
theorem dX6_spread_58 : decode cX6_spread 58 = .ok (.aload_n 0, 1) := by decide +kernel
theorem dX6_spread_59 : decode cX6_spread 59 = .ok (.iload 6, 2) := by decide +kernel
theorem dX6_spread_61 : decode cX6_spread 61 = .ok (.invokevirtual 46, 3) := by decide +kernel
theorem dX6_spread_64 : decode cX6_spread 64 = .ok (.ifCond .eq 29, 3) := by decide +kernel
theorem dX6_spread_67 : decode cX6_spread 67 = .ok (.aload_n 0, 1) := by decide +kernel
theorem dX6_spread_68 : decode cX6_spread 68 = .ok (.getfield 25, 3) := by decide +kernel
theorem dX6_spread_71 : decode cX6_spread 71 = .ok (.iload 6, 2) := by decide +kernel
theorem dX6_spread_73 : decode cX6_spread 73 = .ok (.iaload, 1) := by decide +kernel
theorem dX6_spread_74 : decode cX6_spread 74 = .ok (.iconst (-1), 1) := by decide +kernel
theorem dX6_spread_75 : decode cX6_spread 75 = .ok (.if_icmp .eq 6, 3) := by decide +kernel
theorem dX6_spread_78 : decode cX6_spread 78 = .ok (.goto 15, 3) := by decide +kernel
theorem dX6_spread_81 : decode cX6_spread 81 = .ok (.aload_n 0, 1) := by decide +kernel
theorem dX6_spread_82 : decode cX6_spread 82 = .ok (.getfield 25, 3) := by decide +kernel
theorem dX6_spread_85 : decode cX6_spread 85 = .ok (.iload 6, 2) := by decide +kernel
theorem dX6_spread_87 : decode cX6_spread 87 = .ok (.iload_n 2, 1) := by decide +kernel
theorem dX6_spread_88 : decode cX6_spread 88 = .ok (.iconst 1, 1) := by decide +kernel
theorem dX6_spread_89 : decode cX6_spread 89 = .ok (.iadd, 1) := by decide +kernel
theorem dX6_spread_90 : decode cX6_spread 90 = .ok (.iastore, 1) := by decide +kernel
theorem dX6_spread_91 : decode cX6_spread 91 = .ok (.iconst 1, 1) := by decide +kernel
theorem dX6_spread_92 : decode cX6_spread 92 = .ok (.istore_n 3, 1) := by decide +kernel
theorem dX6_spread_93 : decode cX6_spread 93 = .ok (.iinc 5 1, 3) := by decide +kernel
theorem dX6_spread_96 : decode cX6_spread 96 = .ok (.goto (-59), 3) := by decide +kernel
theorem dX6_spread_99 : decode cX6_spread 99 = .ok (.iinc 4 1, 3) := by decide +kernel
theorem dX6_spread_102 : decode cX6_spread 102 = .ok (.goto (-90), 3) := by decide +kernel
theorem dX6_spread_105 : decode cX6_spread 105 = .ok (.iload_n 3, 1) := by decide +kernel
theorem dX6_spread_106 : decode cX6_spread 106 = .ok (.ifCond .ne 4, 3) := by decide +kernel
theorem dX6_spread_109 : decode cX6_spread 109 = .ok (.return_, 1) := by decide +kernel
theorem dX6_spread_110 : decode cX6_spread 110 = .ok (.iinc 2 1, 3) := by decide +kernel
theorem dX6_spread_113 : decode cX6_spread 113 = .ok (.goto (-111), 3) := by decide +kernel
theorem dX6_spread_116 : decode cX6_spread 116 = .ok (.return_, 1) := by decide +kernel
set_option maxRecDepth 20000 in
theorem ggX6_shine_X6_clear : GoodIn wsX6_shine wsX6_clear := goodIn_r _ [7, 2, 29, 30, 31, 32, 33, 34, 35, 36] (by decide +kernel) (by decide +kernel)
set_option maxRecDepth 20000 in
theorem gX6_shine_X6_clear : GoodIn wsX6_shine (wsV RX6 50 RX6 yX6_clear wsX6_clear) := goodIn_app (goodIn_of _ (by decide +kernel)) ggX6_shine_X6_clear
set_option maxRecDepth 20000 in
theorem ggX6_shine_X6_isFree : GoodIn wsX6_shine wsX6_isFree := goodIn_r _ [11, 12, 13, 14, 6, 15, 16, 29, 30, 31, 32, 33, 34, 35, 36] (by decide +kernel) (by decide +kernel)
set_option maxRecDepth 20000 in
theorem gX6_shine_X6_isFree : GoodIn wsX6_shine (wsV RX6 53 RX6 yX6_isFree wsX6_isFree) := goodIn_app (goodIn_of _ (by decide +kernel)) ggX6_shine_X6_isFree
set_option maxRecDepth 20000 in
theorem ggX6_shine_X6_get : GoodIn wsX6_shine wsX6_get := goodIn_r _ [15, 16, 29, 30, 31, 32, 33, 34, 35, 36] (by decide +kernel) (by decide +kernel)
set_option maxRecDepth 20000 in
theorem gX6_shine_X6_get : GoodIn wsX6_shine (wsV RX6 39 RX6 yX6_get wsX6_get) := goodIn_app (goodIn_of _ (by decide +kernel)) ggX6_shine_X6_get
set_option maxRecDepth 20000 in
theorem ggX6_shine_X6_spread : GoodIn wsX6_shine wsX6_spread := goodIn_r _ [20, 2, 21, 22, 6, 23, 24, 25, 26, 27, 28, 29, 30, 31, 32, 33, 34, 35, 36] (by decide +kernel) (by decide +kernel)
set_option maxRecDepth 20000 in
theorem gX6_shine_X6_spread : GoodIn wsX6_shine (wsV RX6 56 RX6 yX6_spread wsX6_spread) := goodIn_app (goodIn_of _ (by decide +kernel)) ggX6_shine_X6_spread
theorem dX6_shine_0 : decode cX6_shine 0 = .ok (.aload_n 0, 1) := by decide +kernel
theorem dX6_shine_1 : decode cX6_shine 1 = .ok (.invokevirtual 50, 3) := by decide +kernel
theorem dX6_shine_4 : decode cX6_shine 4 = .ok (.iconst 0, 1) := by decide +kernel
theorem dX6_shine_5 : decode cX6_shine 5 = .ok (.istore_n 1, 1) := by decide +kernel
theorem dX6_shine_6 : decode cX6_shine 6 = .ok (.iload_n 1, 1) := by decide +kernel
theorem dX6_shine_7 : decode cX6_shine 7 = .ok (.aload_n 0, 1) := by decide +kernel
theorem dX6_shine_8 : decode cX6_shine 8 = .ok (.getfield 36, 3) := by decide +kernel
theorem dX6_shine_11 : decode cX6_shine 11 = .ok (.if_icmp .ge 38, 3) := by decide +kernel
theorem dX6_shine_14 : decode cX6_shine 14 = .ok (.aload_n 0, 1) := by decide +kernel
theorem dX6_shine_15 : decode cX6_shine 15 = .ok (.iload_n 1, 1) := by decide +kernel
theorem dX6_shine_16 : decode cX6_shine 16 = .ok (.invokevirtual 53, 3) := by decide +kernel
theorem dX6_shine_19 : decode cX6_shine 19 = .ok (.ifCond .eq 24, 3) := by decide +kernel
theorem dX6_shine_22 : decode cX6_shine 22 = .ok (.aload_n 0, 1) := by decide +kernel
theorem dX6_shine_23 : decode cX6_shine 23 = .ok (.iload_n 1, 1) := by decide +kernel
theorem dX6_shine_24 : decode cX6_shine 24 = .ok (.iconst 3, 1) := by decide +kernel
theorem dX6_shine_25 : decode cX6_shine 25 = .ok (.invokevirtual 39, 3) := by decide +kernel
theorem dX6_shine_28 : decode cX6_shine 28 = .ok (.ifCond .le 15, 3) := by decide +kernel
theorem dX6_shine_31 : decode cX6_shine 31 = .ok (.aload_n 0, 1) := by decide +kernel
theorem dX6_shine_32 : decode cX6_shine 32 = .ok (.getfield 25, 3) := by decide +kernel
theorem dX6_shine_35 : decode cX6_shine 35 = .ok (.aload_n 0, 1) := by decide +kernel
theorem dX6_shine_36 : decode cX6_shine 36 = .ok (.iload_n 1, 1) := by decide +kernel
theorem dX6_shine_37 : decode cX6_shine 37 = .ok (.iconst 0, 1) := by decide +kernel
theorem dX6_shine_38 : decode cX6_shine 38 = .ok (.invokevirtual 39, 3) := by decide +kernel
theorem dX6_shine_41 : decode cX6_shine 41 = .ok (.iconst 0, 1) := by decide +kernel
theorem dX6_shine_42 : decode cX6_shine 42 = .ok (.iastore, 1) := by decide +kernel
theorem dX6_shine_43 : decode cX6_shine 43 = .ok (.iinc 1 1, 3) := by decide +kernel
theorem dX6_shine_46 : decode cX6_shine 46 = .ok (.goto (-40), 3) := by decide +kernel
theorem dX6_shine_49 : decode cX6_shine 49 = .ok (.aload_n 0, 1) := by decide +kernel
theorem dX6_shine_50 : decode cX6_shine 50 = .ok (.iconst 3, 1) := by decide +kernel
theorem dX6_shine_51 : decode cX6_shine 51 = .ok (.invokevirtual 56, 3) := by decide +kernel
theorem dX6_shine_54 : decode cX6_shine 54 = .ok (.return_, 1) := by decide +kernel
set_option maxRecDepth 20000 in
theorem ggX6_isLit_X6_beside : GoodIn wsX6_isLit wsX6_beside := goodIn_r _ [6] (by decide +kernel) (by decide +kernel)
set_option maxRecDepth 20000 in
theorem gX6_isLit_X6_beside : GoodIn wsX6_isLit (va_wsS RX6 43 yX6_beside wsX6_beside) := goodIn_app (goodIn_of _ (by decide +kernel)) ggX6_isLit_X6_beside
set_option maxRecDepth 20000 in
theorem ggX6_isLit_X6_isOpen : GoodIn wsX6_isLit wsX6_isOpen := goodIn_r _ [10, 1, 11, 12, 13, 14, 15, 16, 17, 18] (by decide +kernel) (by decide +kernel)
set_option maxRecDepth 20000 in
theorem gX6_isLit_X6_isOpen : GoodIn wsX6_isLit (wsV RX6 46 RX6 yX6_isOpen wsX6_isOpen) := goodIn_app (goodIn_of _ (by decide +kernel)) ggX6_isLit_X6_isOpen
theorem dX6_isLit_0 : decode cX6_isLit 0 = .ok (.aload_n 0, 1) := by decide +kernel
theorem dX6_isLit_1 : decode cX6_isLit 1 = .ok (.getfield 9, 3) := by decide +kernel
theorem dX6_isLit_4 : decode cX6_isLit 4 = .ok (.iload_n 1, 1) := by decide +kernel
theorem dX6_isLit_5 : decode cX6_isLit 5 = .ok (.iaload, 1) := by decide +kernel
theorem dX6_isLit_6 : decode cX6_isLit 6 = .ok (.ifCond .ne 19, 3) := by decide +kernel
theorem dX6_isLit_9 : decode cX6_isLit 9 = .ok (.aload_n 0, 1) := by decide +kernel
theorem dX6_isLit_10 : decode cX6_isLit 10 = .ok (.getfield 25, 3) := by decide +kernel
theorem dX6_isLit_13 : decode cX6_isLit 13 = .ok (.iload_n 1, 1) := by decide +kernel
theorem dX6_isLit_14 : decode cX6_isLit 14 = .ok (.iaload, 1) := by decide +kernel
theorem dX6_isLit_15 : decode cX6_isLit 15 = .ok (.iconst (-1), 1) := by decide +kernel
theorem dX6_isLit_16 : decode cX6_isLit 16 = .ok (.if_icmp .eq 7, 3) := by decide +kernel
theorem dX6_isLit_19 : decode cX6_isLit 19 = .ok (.iconst 1, 1) := by decide +kernel
theorem dX6_isLit_20 : decode cX6_isLit 20 = .ok (.goto 4, 3) := by decide +kernel
theorem dX6_isLit_23 : decode cX6_isLit 23 = .ok (.iconst 0, 1) := by decide +kernel
theorem dX6_isLit_24 : decode cX6_isLit 24 = .ok (.ireturn, 1) := by decide +kernel
theorem dX6_isLit_25 : decode cX6_isLit 25 = .ok (.iconst 0, 1) := by decide +kernel
theorem dX6_isLit_26 : decode cX6_isLit 26 = .ok (.istore_n 2, 1) := by decide +kernel
theorem dX6_isLit_27 : decode cX6_isLit 27 = .ok (.iconst 0, 1) := by decide +kernel
theorem dX6_isLit_28 : decode cX6_isLit 28 = .ok (.istore_n 3, 1) := by decide +kernel
theorem dX6_isLit_29 : decode cX6_isLit 29 = .ok (.iload_n 3, 1) := by decide +kernel
theorem dX6_isLit_30 : decode cX6_isLit 30 = .ok (.iconst 4, 1) := by decide +kernel
theorem dX6_isLit_31 : decode cX6_isLit 31 = .ok (.if_icmp .ge 63, 3) := by decide +kernel
theorem dX6_isLit_34 : decode cX6_isLit 34 = .ok (.aload_n 0, 1) := by decide +kernel
theorem dX6_isLit_35 : decode cX6_isLit 35 = .ok (.getfield 9, 3) := by decide +kernel
theorem dX6_isLit_38 : decode cX6_isLit 38 = .ok (.iload_n 1, 1) := by decide +kernel
theorem dX6_isLit_39 : decode cX6_isLit 39 = .ok (.iaload, 1) := by decide +kernel
theorem dX6_isLit_40 : decode cX6_isLit 40 = .ok (.bipush 10, 2) := by decide +kernel
theorem dX6_isLit_42 : decode cX6_isLit 42 = .ok (.if_icmp .eq 52, 3) := by decide +kernel
theorem dX6_isLit_45 : decode cX6_isLit 45 = .ok (.iload_n 1, 1) := by decide +kernel
theorem dX6_isLit_46 : decode cX6_isLit 46 = .ok (.iload_n 3, 1) := by decide +kernel
theorem dX6_isLit_47 : decode cX6_isLit 47 = .ok (.invokestatic 43, 3) := by decide +kernel
theorem dX6_isLit_50 : decode cX6_isLit 50 = .ok (.istore 4, 2) := by decide +kernel
theorem dX6_isLit_52 : decode cX6_isLit 52 = .ok (.iload_n 2, 1) := by decide +kernel
theorem dX6_isLit_53 : decode cX6_isLit 53 = .ok (.ifCond .ne 29, 3) := by decide +kernel
theorem dX6_isLit_56 : decode cX6_isLit 56 = .ok (.iload 4, 2) := by decide +kernel
theorem dX6_isLit_58 : decode cX6_isLit 58 = .ok (.iconst (-1), 1) := by decide +kernel
theorem dX6_isLit_59 : decode cX6_isLit 59 = .ok (.if_icmp .eq 27, 3) := by decide +kernel
theorem dX6_isLit_62 : decode cX6_isLit 62 = .ok (.aload_n 0, 1) := by decide +kernel
theorem dX6_isLit_63 : decode cX6_isLit 63 = .ok (.iload 4, 2) := by decide +kernel
theorem dX6_isLit_65 : decode cX6_isLit 65 = .ok (.invokevirtual 46, 3) := by decide +kernel
theorem dX6_isLit_68 : decode cX6_isLit 68 = .ok (.ifCond .eq 18, 3) := by decide +kernel
theorem dX6_isLit_71 : decode cX6_isLit 71 = .ok (.aload_n 0, 1) := by decide +kernel
theorem dX6_isLit_72 : decode cX6_isLit 72 = .ok (.getfield 25, 3) := by decide +kernel
theorem dX6_isLit_75 : decode cX6_isLit 75 = .ok (.iload 4, 2) := by decide +kernel
theorem dX6_isLit_77 : decode cX6_isLit 77 = .ok (.iaload, 1) := by decide +kernel
theorem dX6_isLit_78 : decode cX6_isLit 78 = .ok (.iconst (-1), 1) := by decide +kernel
theorem dX6_isLit_79 : decode cX6_isLit 79 = .ok (.if_icmp .eq 7, 3) := by decide +kernel
theorem dX6_isLit_82 : decode cX6_isLit 82 = .ok (.iconst 1, 1) := by decide +kernel
theorem dX6_isLit_83 : decode cX6_isLit 83 = .ok (.goto 4, 3) := by decide +kernel
theorem dX6_isLit_86 : decode cX6_isLit 86 = .ok (.iconst 0, 1) := by decide +kernel
theorem dX6_isLit_87 : decode cX6_isLit 87 = .ok (.istore_n 2, 1) := by decide +kernel
theorem dX6_isLit_88 : decode cX6_isLit 88 = .ok (.iinc 3 1, 3) := by decide +kernel
theorem dX6_isLit_91 : decode cX6_isLit 91 = .ok (.goto (-62), 3) := by decide +kernel
theorem dX6_isLit_94 : decode cX6_isLit 94 = .ok (.iload_n 2, 1) := by decide +kernel
theorem dX6_isLit_95 : decode cX6_isLit 95 = .ok (.ireturn, 1) := by decide +kernel
set_option maxRecDepth 20000 in
theorem ggX6_hold_X6_clear : GoodIn wsX6_hold wsX6_clear := goodIn_r _ [7, 2, 20, 21, 22, 23, 24, 25, 26, 27] (by decide +kernel) (by decide +kernel)
set_option maxRecDepth 20000 in
theorem gX6_hold_X6_clear : GoodIn wsX6_hold (wsV RX6 50 RX6 yX6_clear wsX6_clear) := goodIn_app (goodIn_of _ (by decide +kernel)) ggX6_hold_X6_clear
set_option maxRecDepth 20000 in
theorem ggX6_hold_X6_isOpen : GoodIn wsX6_hold wsX6_isOpen := goodIn_r _ [11, 12, 20, 21, 22, 23, 24, 25, 26, 27] (by decide +kernel) (by decide +kernel)
set_option maxRecDepth 20000 in
theorem gX6_hold_X6_isOpen : GoodIn wsX6_hold (wsV RX6 46 RX6 yX6_isOpen wsX6_isOpen) := goodIn_app (goodIn_of _ (by decide +kernel)) ggX6_hold_X6_isOpen
set_option maxRecDepth 20000 in
theorem ggX6_hold_X6_spread : GoodIn wsX6_hold wsX6_spread := goodIn_r _ [16, 2, 17, 18, 6, 19, 8, 9, 10, 11, 12, 20, 21, 22, 23, 24, 25, 26, 27] (by decide +kernel) (by decide +kernel)
set_option maxRecDepth 20000 in
theorem gX6_hold_X6_spread : GoodIn wsX6_hold (wsV RX6 56 RX6 yX6_spread wsX6_spread) := goodIn_app (goodIn_of _ (by decide +kernel)) ggX6_hold_X6_spread
theorem dX6_hold_0 : decode cX6_hold 0 = .ok (.aload_n 0, 1) := by decide +kernel
theorem dX6_hold_1 : decode cX6_hold 1 = .ok (.invokevirtual 50, 3) := by decide +kernel
theorem dX6_hold_4 : decode cX6_hold 4 = .ok (.iconst 0, 1) := by decide +kernel
theorem dX6_hold_5 : decode cX6_hold 5 = .ok (.istore_n 1, 1) := by decide +kernel
theorem dX6_hold_6 : decode cX6_hold 6 = .ok (.iload_n 1, 1) := by decide +kernel
theorem dX6_hold_7 : decode cX6_hold 7 = .ok (.sipush 256, 3) := by decide +kernel
theorem dX6_hold_10 : decode cX6_hold 10 = .ok (.if_icmp .ge 34, 3) := by decide +kernel
theorem dX6_hold_13 : decode cX6_hold 13 = .ok (.aload_n 0, 1) := by decide +kernel
theorem dX6_hold_14 : decode cX6_hold 14 = .ok (.iload_n 1, 1) := by decide +kernel
theorem dX6_hold_15 : decode cX6_hold 15 = .ok (.invokevirtual 46, 3) := by decide +kernel
theorem dX6_hold_18 : decode cX6_hold 18 = .ok (.ifCond .eq 20, 3) := by decide +kernel
theorem dX6_hold_21 : decode cX6_hold 21 = .ok (.aload_n 0, 1) := by decide +kernel
theorem dX6_hold_22 : decode cX6_hold 22 = .ok (.getfield 16, 3) := by decide +kernel
theorem dX6_hold_25 : decode cX6_hold 25 = .ok (.iload_n 1, 1) := by decide +kernel
theorem dX6_hold_26 : decode cX6_hold 26 = .ok (.iaload, 1) := by decide +kernel
theorem dX6_hold_27 : decode cX6_hold 27 = .ok (.iconst 1, 1) := by decide +kernel
theorem dX6_hold_28 : decode cX6_hold 28 = .ok (.if_icmp .ne 10, 3) := by decide +kernel
theorem dX6_hold_31 : decode cX6_hold 31 = .ok (.aload_n 0, 1) := by decide +kernel
theorem dX6_hold_32 : decode cX6_hold 32 = .ok (.getfield 25, 3) := by decide +kernel
theorem dX6_hold_35 : decode cX6_hold 35 = .ok (.iload_n 1, 1) := by decide +kernel
theorem dX6_hold_36 : decode cX6_hold 36 = .ok (.iconst 0, 1) := by decide +kernel
theorem dX6_hold_37 : decode cX6_hold 37 = .ok (.iastore, 1) := by decide +kernel
theorem dX6_hold_38 : decode cX6_hold 38 = .ok (.iinc 1 1, 3) := by decide +kernel
theorem dX6_hold_41 : decode cX6_hold 41 = .ok (.goto (-35), 3) := by decide +kernel
theorem dX6_hold_44 : decode cX6_hold 44 = .ok (.aload_n 0, 1) := by decide +kernel
theorem dX6_hold_45 : decode cX6_hold 45 = .ok (.iconst 2, 1) := by decide +kernel
theorem dX6_hold_46 : decode cX6_hold 46 = .ok (.invokevirtual 56, 3) := by decide +kernel
theorem dX6_hold_49 : decode cX6_hold 49 = .ok (.return_, 1) := by decide +kernel
set_option maxRecDepth 20000 in
theorem ggX6_isHeld_X6_isOpen : GoodIn wsX6_isHeld wsX6_isOpen := goodIn_r _ [6, 7, 8, 9, 10, 11, 12, 13, 14, 15] (by decide +kernel) (by decide +kernel)
set_option maxRecDepth 20000 in
theorem gX6_isHeld_X6_isOpen : GoodIn wsX6_isHeld (wsV RX6 46 RX6 yX6_isOpen wsX6_isOpen) := goodIn_app (goodIn_of _ (by decide +kernel)) ggX6_isHeld_X6_isOpen
theorem dX6_isHeld_0 : decode cX6_isHeld 0 = .ok (.aload_n 0, 1) := by decide +kernel
theorem dX6_isHeld_1 : decode cX6_isHeld 1 = .ok (.iload_n 1, 1) := by decide +kernel
theorem dX6_isHeld_2 : decode cX6_isHeld 2 = .ok (.invokevirtual 46, 3) := by decide +kernel
theorem dX6_isHeld_5 : decode cX6_isHeld 5 = .ok (.ifCond .eq 17, 3) := by decide +kernel
theorem dX6_isHeld_8 : decode cX6_isHeld 8 = .ok (.aload_n 0, 1) := by decide +kernel
theorem dX6_isHeld_9 : decode cX6_isHeld 9 = .ok (.getfield 25, 3) := by decide +kernel
theorem dX6_isHeld_12 : decode cX6_isHeld 12 = .ok (.iload_n 1, 1) := by decide +kernel
theorem dX6_isHeld_13 : decode cX6_isHeld 13 = .ok (.iaload, 1) := by decide +kernel
theorem dX6_isHeld_14 : decode cX6_isHeld 14 = .ok (.iconst (-1), 1) := by decide +kernel
theorem dX6_isHeld_15 : decode cX6_isHeld 15 = .ok (.if_icmp .eq 7, 3) := by decide +kernel
theorem dX6_isHeld_18 : decode cX6_isHeld 18 = .ok (.iconst 1, 1) := by decide +kernel
theorem dX6_isHeld_19 : decode cX6_isHeld 19 = .ok (.goto 4, 3) := by decide +kernel
theorem dX6_isHeld_22 : decode cX6_isHeld 22 = .ok (.iconst 0, 1) := by decide +kernel
theorem dX6_isHeld_23 : decode cX6_isHeld 23 = .ok (.ireturn, 1) := by decide +kernel
theorem dX6_lay_0 : decode cX6_lay 0 = .ok (.aload_n 0, 1) := by decide +kernel
theorem dX6_lay_1 : decode cX6_lay 1 = .ok (.getfield 9, 3) := by decide +kernel
theorem dX6_lay_4 : decode cX6_lay 4 = .ok (.iload_n 1, 1) := by decide +kernel
theorem dX6_lay_5 : decode cX6_lay 5 = .ok (.iload_n 2, 1) := by decide +kernel
theorem dX6_lay_6 : decode cX6_lay 6 = .ok (.iastore, 1) := by decide +kernel
theorem dX6_lay_7 : decode cX6_lay 7 = .ok (.aload_n 0, 1) := by decide +kernel
theorem dX6_lay_8 : decode cX6_lay 8 = .ok (.getfield 13, 3) := by decide +kernel
theorem dX6_lay_11 : decode cX6_lay 11 = .ok (.iload_n 1, 1) := by decide +kernel
theorem dX6_lay_12 : decode cX6_lay 12 = .ok (.iconst 0, 1) := by decide +kernel
theorem dX6_lay_13 : decode cX6_lay 13 = .ok (.iastore, 1) := by decide +kernel
theorem dX6_lay_14 : decode cX6_lay 14 = .ok (.aload_n 0, 1) := by decide +kernel
theorem dX6_lay_15 : decode cX6_lay 15 = .ok (.getfield 16, 3) := by decide +kernel
theorem dX6_lay_18 : decode cX6_lay 18 = .ok (.iload_n 1, 1) := by decide +kernel
theorem dX6_lay_19 : decode cX6_lay 19 = .ok (.iconst 0, 1) := by decide +kernel
theorem dX6_lay_20 : decode cX6_lay 20 = .ok (.iastore, 1) := by decide +kernel
theorem dX6_lay_21 : decode cX6_lay 21 = .ok (.return_, 1) := by decide +kernel
set_option maxRecDepth 20000 in
theorem ggX6_peopleAt_X6_get : GoodIn wsX6_peopleAt wsX6_get := goodIn_r _ [6, 7, 12, 13, 14, 15, 16, 17, 18, 19] (by decide +kernel) (by decide +kernel)
set_option maxRecDepth 20000 in
theorem gX6_peopleAt_X6_get : GoodIn wsX6_peopleAt (wsV RX6 39 RX6 yX6_get wsX6_get) := goodIn_app (goodIn_of _ (by decide +kernel)) ggX6_peopleAt_X6_get
set_option maxRecDepth 20000 in
theorem ggX6_peopleAt_X6_isFree : GoodIn wsX6_peopleAt wsX6_isFree := goodIn_r _ [11, 2, 3, 4, 5, 6, 7, 12, 13, 14, 15, 16, 17, 18, 19] (by decide +kernel) (by decide +kernel)
set_option maxRecDepth 20000 in
theorem gX6_peopleAt_X6_isFree : GoodIn wsX6_peopleAt (wsV RX6 53 RX6 yX6_isFree wsX6_isFree) := goodIn_app (goodIn_of _ (by decide +kernel)) ggX6_peopleAt_X6_isFree
theorem dX6_peopleAt_0 : decode cX6_peopleAt 0 = .ok (.iconst 0, 1) := by decide +kernel
theorem dX6_peopleAt_1 : decode cX6_peopleAt 1 = .ok (.istore_n 3, 1) := by decide +kernel
theorem dX6_peopleAt_2 : decode cX6_peopleAt 2 = .ok (.iconst 0, 1) := by decide +kernel
theorem dX6_peopleAt_3 : decode cX6_peopleAt 3 = .ok (.istore 4, 2) := by decide +kernel
theorem dX6_peopleAt_5 : decode cX6_peopleAt 5 = .ok (.iload 4, 2) := by decide +kernel
theorem dX6_peopleAt_7 : decode cX6_peopleAt 7 = .ok (.aload_n 0, 1) := by decide +kernel
theorem dX6_peopleAt_8 : decode cX6_peopleAt 8 = .ok (.getfield 36, 3) := by decide +kernel
theorem dX6_peopleAt_11 : decode cX6_peopleAt 11 = .ok (.if_icmp .ge 41, 3) := by decide +kernel
theorem dX6_peopleAt_14 : decode cX6_peopleAt 14 = .ok (.iload_n 3, 1) := by decide +kernel
theorem dX6_peopleAt_15 : decode cX6_peopleAt 15 = .ok (.aload_n 0, 1) := by decide +kernel
theorem dX6_peopleAt_16 : decode cX6_peopleAt 16 = .ok (.iload 4, 2) := by decide +kernel
theorem dX6_peopleAt_18 : decode cX6_peopleAt 18 = .ok (.iconst 0, 1) := by decide +kernel
theorem dX6_peopleAt_19 : decode cX6_peopleAt 19 = .ok (.invokevirtual 39, 3) := by decide +kernel
theorem dX6_peopleAt_22 : decode cX6_peopleAt 22 = .ok (.iload_n 1, 1) := by decide +kernel
theorem dX6_peopleAt_23 : decode cX6_peopleAt 23 = .ok (.if_icmp .ne 20, 3) := by decide +kernel
theorem dX6_peopleAt_26 : decode cX6_peopleAt 26 = .ok (.iload_n 2, 1) := by decide +kernel
theorem dX6_peopleAt_27 : decode cX6_peopleAt 27 = .ok (.ifCond .eq 12, 3) := by decide +kernel
theorem dX6_peopleAt_30 : decode cX6_peopleAt 30 = .ok (.aload_n 0, 1) := by decide +kernel
theorem dX6_peopleAt_31 : decode cX6_peopleAt 31 = .ok (.iload 4, 2) := by decide +kernel
theorem dX6_peopleAt_33 : decode cX6_peopleAt 33 = .ok (.invokevirtual 53, 3) := by decide +kernel
theorem dX6_peopleAt_36 : decode cX6_peopleAt 36 = .ok (.ifCond .ne 7, 3) := by decide +kernel
theorem dX6_peopleAt_39 : decode cX6_peopleAt 39 = .ok (.iconst 1, 1) := by decide +kernel
theorem dX6_peopleAt_40 : decode cX6_peopleAt 40 = .ok (.goto 4, 3) := by decide +kernel
theorem dX6_peopleAt_43 : decode cX6_peopleAt 43 = .ok (.iconst 0, 1) := by decide +kernel
theorem dX6_peopleAt_44 : decode cX6_peopleAt 44 = .ok (.iadd, 1) := by decide +kernel
theorem dX6_peopleAt_45 : decode cX6_peopleAt 45 = .ok (.istore_n 3, 1) := by decide +kernel
theorem dX6_peopleAt_46 : decode cX6_peopleAt 46 = .ok (.iinc 4 1, 3) := by decide +kernel
theorem dX6_peopleAt_49 : decode cX6_peopleAt 49 = .ok (.goto (-44), 3) := by decide +kernel
theorem dX6_peopleAt_52 : decode cX6_peopleAt 52 = .ok (.iload_n 3, 1) := by decide +kernel
theorem dX6_peopleAt_53 : decode cX6_peopleAt 53 = .ok (.ireturn, 1) := by decide +kernel
set_option maxRecDepth 20000 in
theorem ggX6_lay__X6_isCell : GoodIn wsX6_lay_ wsX6_isCell := goodIn_r _ [6, 7, 8, 5, 9] (by decide +kernel) (by decide +kernel)
set_option maxRecDepth 20000 in
theorem gX6_lay__X6_isCell : GoodIn wsX6_lay_ (va_wsS RX6 60 yX6_isCell wsX6_isCell) := goodIn_app (goodIn_of _ (by decide +kernel)) ggX6_lay__X6_isCell
set_option maxRecDepth 20000 in
theorem ggX6_lay__X6_fail : GoodIn wsX6_lay_ wsX6_fail := goodIn_r _ [13, 1, 34, 35, 36, 37, 38, 39, 40, 41] (by decide +kernel) (by decide +kernel)
set_option maxRecDepth 20000 in
theorem gX6_lay__X6_fail : GoodIn wsX6_lay_ (wsV RX6 64 RX6 yX6_fail wsX6_fail) := goodIn_app (goodIn_of _ (by decide +kernel)) ggX6_lay__X6_fail
set_option maxRecDepth 20000 in
theorem ggX6_lay__X6_isIn : GoodIn wsX6_lay_ wsX6_isIn := goodIn_r _ [9] (by decide +kernel) (by decide +kernel)
set_option maxRecDepth 20000 in
theorem gX6_lay__X6_isIn : GoodIn wsX6_lay_ (va_wsS RX6 32 yX6_isIn wsX6_isIn) := goodIn_app (goodIn_of _ (by decide +kernel)) ggX6_lay__X6_isIn
set_option maxRecDepth 20000 in
theorem ggX6_lay__X6_peopleAt : GoodIn wsX6_lay_ wsX6_peopleAt := goodIn_r _ [17, 18, 19, 20, 21, 5, 22, 23, 24, 25, 26, 27, 34, 35, 36, 37, 38, 39, 40, 41] (by decide +kernel) (by decide +kernel)
set_option maxRecDepth 20000 in
theorem gX6_lay__X6_peopleAt : GoodIn wsX6_lay_ (wsV RX6 68 RX6 yX6_peopleAt wsX6_peopleAt) := goodIn_app (goodIn_of _ (by decide +kernel)) ggX6_lay__X6_peopleAt
set_option maxRecDepth 20000 in
theorem ggX6_lay__X6_lay : GoodIn wsX6_lay_ wsX6_lay := goodIn_r _ [31, 2, 32, 33, 34, 35, 36, 37, 38, 39, 40, 41] (by decide +kernel) (by decide +kernel)
set_option maxRecDepth 20000 in
theorem gX6_lay__X6_lay : GoodIn wsX6_lay_ (wsV RX6 72 RX6 yX6_lay wsX6_lay) := goodIn_app (goodIn_of _ (by decide +kernel)) ggX6_lay__X6_lay
theorem dX6_lay__0 : decode cX6_lay_ 0 = .ok (.aload_n 0, 1) := by decide +kernel
theorem dX6_lay__1 : decode cX6_lay_ 1 = .ok (.iconst 0, 1) := by decide +kernel
theorem dX6_lay__2 : decode cX6_lay_ 2 = .ok (.putfield 28, 3) := by decide +kernel
theorem dX6_lay__5 : decode cX6_lay_ 5 = .ok (.iload_n 1, 1) := by decide +kernel
theorem dX6_lay__6 : decode cX6_lay_ 6 = .ok (.iload_n 2, 1) := by decide +kernel
theorem dX6_lay__7 : decode cX6_lay_ 7 = .ok (.invokestatic 60, 3) := by decide +kernel
theorem dX6_lay__10 : decode cX6_lay_ 10 = .ok (.ifCond .ne 9, 3) := by decide +kernel
theorem dX6_lay__13 : decode cX6_lay_ 13 = .ok (.aload_n 0, 1) := by decide +kernel
theorem dX6_lay__14 : decode cX6_lay_ 14 = .ok (.iconst 1, 1) := by decide +kernel
theorem dX6_lay__15 : decode cX6_lay_ 15 = .ok (.invokevirtual 64, 3) := by decide +kernel
theorem dX6_lay__18 : decode cX6_lay_ 18 = .ok (.ireturn, 1) := by decide +kernel
theorem dX6_lay__19 : decode cX6_lay_ 19 = .ok (.iload_n 3, 1) := by decide +kernel
theorem dX6_lay__20 : decode cX6_lay_ 20 = .ok (.iconst 0, 1) := by decide +kernel
theorem dX6_lay__21 : decode cX6_lay_ 21 = .ok (.bipush 10, 2) := by decide +kernel
theorem dX6_lay__23 : decode cX6_lay_ 23 = .ok (.invokestatic 32, 3) := by decide +kernel
theorem dX6_lay__26 : decode cX6_lay_ 26 = .ok (.ifCond .ne 9, 3) := by decide +kernel
theorem dX6_lay__29 : decode cX6_lay_ 29 = .ok (.aload_n 0, 1) := by decide +kernel
theorem dX6_lay__30 : decode cX6_lay_ 30 = .ok (.iconst 2, 1) := by decide +kernel
theorem dX6_lay__31 : decode cX6_lay_ 31 = .ok (.invokevirtual 64, 3) := by decide +kernel
theorem dX6_lay__34 : decode cX6_lay_ 34 = .ok (.ireturn, 1) := by decide +kernel
theorem dX6_lay__35 : decode cX6_lay_ 35 = .ok (.iload_n 1, 1) := by decide +kernel
theorem dX6_lay__36 : decode cX6_lay_ 36 = .ok (.bipush 16, 2) := by decide +kernel
theorem dX6_lay__38 : decode cX6_lay_ 38 = .ok (.iload_n 2, 1) := by decide +kernel
theorem dX6_lay__39 : decode cX6_lay_ 39 = .ok (.imul, 1) := by decide +kernel
theorem dX6_lay__40 : decode cX6_lay_ 40 = .ok (.iadd, 1) := by decide +kernel
theorem dX6_lay__41 : decode cX6_lay_ 41 = .ok (.istore 4, 2) := by decide +kernel
theorem dX6_lay__43 : decode cX6_lay_ 43 = .ok (.aload_n 0, 1) := by decide +kernel
theorem dX6_lay__44 : decode cX6_lay_ 44 = .ok (.iload 4, 2) := by decide +kernel
theorem dX6_lay__46 : decode cX6_lay_ 46 = .ok (.iconst 0, 1) := by decide +kernel
theorem dX6_lay__47 : decode cX6_lay_ 47 = .ok (.invokevirtual 68, 3) := by decide +kernel
theorem dX6_lay__50 : decode cX6_lay_ 50 = .ok (.ifCond .le 9, 3) := by decide +kernel
theorem dX6_lay__53 : decode cX6_lay_ 53 = .ok (.aload_n 0, 1) := by decide +kernel
theorem dX6_lay__54 : decode cX6_lay_ 54 = .ok (.iconst 3, 1) := by decide +kernel
theorem dX6_lay__55 : decode cX6_lay_ 55 = .ok (.invokevirtual 64, 3) := by decide +kernel
theorem dX6_lay__58 : decode cX6_lay_ 58 = .ok (.ireturn, 1) := by decide +kernel
theorem dX6_lay__59 : decode cX6_lay_ 59 = .ok (.aload_n 0, 1) := by decide +kernel
theorem dX6_lay__60 : decode cX6_lay_ 60 = .ok (.getfield 9, 3) := by decide +kernel
theorem dX6_lay__63 : decode cX6_lay_ 63 = .ok (.iload 4, 2) := by decide +kernel
theorem dX6_lay__65 : decode cX6_lay_ 65 = .ok (.iaload, 1) := by decide +kernel
theorem dX6_lay__66 : decode cX6_lay_ 66 = .ok (.istore 5, 2) := by decide +kernel
theorem dX6_lay__68 : decode cX6_lay_ 68 = .ok (.aload_n 0, 1) := by decide +kernel
theorem dX6_lay__69 : decode cX6_lay_ 69 = .ok (.iload 4, 2) := by decide +kernel
theorem dX6_lay__71 : decode cX6_lay_ 71 = .ok (.iload_n 3, 1) := by decide +kernel
theorem dX6_lay__72 : decode cX6_lay_ 72 = .ok (.invokevirtual 72, 3) := by decide +kernel
theorem dX6_lay__75 : decode cX6_lay_ 75 = .ok (.iload 5, 2) := by decide +kernel
theorem dX6_lay__77 : decode cX6_lay_ 77 = .ok (.ireturn, 1) := by decide +kernel
set_option maxRecDepth 20000 in
theorem ggX6_cellTold_X6_hold : GoodIn wsX6_cellTold wsX6_hold := goodIn_r _ [8, 3, 9, 10, 11, 12, 7, 13, 14, 15, 16, 17, 1, 18, 19, 20, 21, 22, 23, 24, 51, 52, 53, 54, 55, 56, 57, 58] (by decide +kernel) (by decide +kernel)
set_option maxRecDepth 20000 in
theorem gX6_cellTold_X6_hold : GoodIn wsX6_cellTold (wsV RX6 76 RX6 yX6_hold wsX6_hold) := goodIn_app (goodIn_of _ (by decide +kernel)) ggX6_cellTold_X6_hold
set_option maxRecDepth 20000 in
theorem ggX6_cellTold_X6_isHeld : GoodIn wsX6_cellTold wsX6_isHeld := goodIn_r _ [28, 9, 14, 15, 16, 7, 17, 1, 51, 52, 53, 54, 55, 56, 57, 58] (by decide +kernel) (by decide +kernel)
set_option maxRecDepth 20000 in
theorem gX6_cellTold_X6_isHeld : GoodIn wsX6_cellTold (wsV RX6 79 RX6 yX6_isHeld wsX6_isHeld) := goodIn_app (goodIn_of _ (by decide +kernel)) ggX6_cellTold_X6_isHeld
set_option maxRecDepth 20000 in
theorem ggX6_cellTold_X6_shine : GoodIn wsX6_cellTold wsX6_shine := goodIn_r _ [32, 33, 9, 10, 11, 12, 7, 13, 34, 35, 36, 37, 38, 39, 40, 41, 42, 18, 19, 20, 21, 22, 23, 24, 14, 15, 16, 17, 1, 51, 52, 53, 54, 55, 56, 57, 58] (by decide +kernel) (by decide +kernel)
set_option maxRecDepth 20000 in
theorem gX6_cellTold_X6_shine : GoodIn wsX6_cellTold (wsV RX6 82 RX6 yX6_shine wsX6_shine) := goodIn_app (goodIn_of _ (by decide +kernel)) ggX6_cellTold_X6_shine
set_option maxRecDepth 20000 in
theorem ggX6_cellTold_X6_isLit : GoodIn wsX6_cellTold wsX6_isLit := goodIn_r _ [46, 1, 9, 22, 23, 7, 24, 14, 15, 16, 17, 51, 52, 53, 54, 55, 56, 57, 58] (by decide +kernel) (by decide +kernel)
set_option maxRecDepth 20000 in
theorem gX6_cellTold_X6_isLit : GoodIn wsX6_cellTold (wsV RX6 85 RX6 yX6_isLit wsX6_isLit) := goodIn_app (goodIn_of _ (by decide +kernel)) ggX6_cellTold_X6_isLit
set_option maxRecDepth 20000 in
theorem ggX6_cellTold_X6_peopleAt : GoodIn wsX6_cellTold wsX6_peopleAt := goodIn_r _ [50, 33, 38, 39, 40, 7, 41, 42, 34, 35, 36, 37, 51, 52, 53, 54, 55, 56, 57, 58] (by decide +kernel) (by decide +kernel)
set_option maxRecDepth 20000 in
theorem gX6_cellTold_X6_peopleAt : GoodIn wsX6_cellTold (wsV RX6 68 RX6 yX6_peopleAt wsX6_peopleAt) := goodIn_app (goodIn_of _ (by decide +kernel)) ggX6_cellTold_X6_peopleAt
theorem dX6_cellTold_0 : decode cX6_cellTold 0 = .ok (.iload_n 2, 1) := by decide +kernel
theorem dX6_cellTold_1 : decode cX6_cellTold 1 = .ok (.tableswitch 92 0 4 #[35, 42, 49, 56, 74], 35) := by decide +kernel
theorem dX6_cellTold_36 : decode cX6_cellTold 36 = .ok (.aload_n 0, 1) := by decide +kernel
theorem dX6_cellTold_37 : decode cX6_cellTold 37 = .ok (.getfield 9, 3) := by decide +kernel
theorem dX6_cellTold_40 : decode cX6_cellTold 40 = .ok (.iload_n 1, 1) := by decide +kernel
theorem dX6_cellTold_41 : decode cX6_cellTold 41 = .ok (.iaload, 1) := by decide +kernel
theorem dX6_cellTold_42 : decode cX6_cellTold 42 = .ok (.ireturn, 1) := by decide +kernel
theorem dX6_cellTold_43 : decode cX6_cellTold 43 = .ok (.aload_n 0, 1) := by decide +kernel
theorem dX6_cellTold_44 : decode cX6_cellTold 44 = .ok (.getfield 13, 3) := by decide +kernel
theorem dX6_cellTold_47 : decode cX6_cellTold 47 = .ok (.iload_n 1, 1) := by decide +kernel
theorem dX6_cellTold_48 : decode cX6_cellTold 48 = .ok (.iaload, 1) := by decide +kernel
theorem dX6_cellTold_49 : decode cX6_cellTold 49 = .ok (.ireturn, 1) := by decide +kernel
theorem dX6_cellTold_50 : decode cX6_cellTold 50 = .ok (.aload_n 0, 1) := by decide +kernel
theorem dX6_cellTold_51 : decode cX6_cellTold 51 = .ok (.getfield 16, 3) := by decide +kernel
theorem dX6_cellTold_54 : decode cX6_cellTold 54 = .ok (.iload_n 1, 1) := by decide +kernel
theorem dX6_cellTold_55 : decode cX6_cellTold 55 = .ok (.iaload, 1) := by decide +kernel
theorem dX6_cellTold_56 : decode cX6_cellTold 56 = .ok (.ireturn, 1) := by decide +kernel
theorem dX6_cellTold_57 : decode cX6_cellTold 57 = .ok (.aload_n 0, 1) := by decide +kernel
theorem dX6_cellTold_58 : decode cX6_cellTold 58 = .ok (.invokevirtual 76, 3) := by decide +kernel
theorem dX6_cellTold_61 : decode cX6_cellTold 61 = .ok (.aload_n 0, 1) := by decide +kernel
theorem dX6_cellTold_62 : decode cX6_cellTold 62 = .ok (.iload_n 1, 1) := by decide +kernel
theorem dX6_cellTold_63 : decode cX6_cellTold 63 = .ok (.invokevirtual 79, 3) := by decide +kernel
theorem dX6_cellTold_66 : decode cX6_cellTold 66 = .ok (.ifCond .eq 7, 3) := by decide +kernel
theorem dX6_cellTold_69 : decode cX6_cellTold 69 = .ok (.iconst 1, 1) := by decide +kernel
theorem dX6_cellTold_70 : decode cX6_cellTold 70 = .ok (.goto 4, 3) := by decide +kernel
theorem dX6_cellTold_73 : decode cX6_cellTold 73 = .ok (.iconst 0, 1) := by decide +kernel
theorem dX6_cellTold_74 : decode cX6_cellTold 74 = .ok (.ireturn, 1) := by decide +kernel
theorem dX6_cellTold_75 : decode cX6_cellTold 75 = .ok (.aload_n 0, 1) := by decide +kernel
theorem dX6_cellTold_76 : decode cX6_cellTold 76 = .ok (.invokevirtual 82, 3) := by decide +kernel
theorem dX6_cellTold_79 : decode cX6_cellTold 79 = .ok (.aload_n 0, 1) := by decide +kernel
theorem dX6_cellTold_80 : decode cX6_cellTold 80 = .ok (.iload_n 1, 1) := by decide +kernel
theorem dX6_cellTold_81 : decode cX6_cellTold 81 = .ok (.invokevirtual 85, 3) := by decide +kernel
theorem dX6_cellTold_84 : decode cX6_cellTold 84 = .ok (.ifCond .eq 7, 3) := by decide +kernel
theorem dX6_cellTold_87 : decode cX6_cellTold 87 = .ok (.iconst 1, 1) := by decide +kernel
theorem dX6_cellTold_88 : decode cX6_cellTold 88 = .ok (.goto 4, 3) := by decide +kernel
theorem dX6_cellTold_91 : decode cX6_cellTold 91 = .ok (.iconst 0, 1) := by decide +kernel
theorem dX6_cellTold_92 : decode cX6_cellTold 92 = .ok (.ireturn, 1) := by decide +kernel
theorem dX6_cellTold_93 : decode cX6_cellTold 93 = .ok (.aload_n 0, 1) := by decide +kernel
theorem dX6_cellTold_94 : decode cX6_cellTold 94 = .ok (.iload_n 1, 1) := by decide +kernel
theorem dX6_cellTold_95 : decode cX6_cellTold 95 = .ok (.iconst 0, 1) := by decide +kernel
theorem dX6_cellTold_96 : decode cX6_cellTold 96 = .ok (.invokevirtual 68, 3) := by decide +kernel
theorem dX6_cellTold_99 : decode cX6_cellTold 99 = .ok (.ireturn, 1) := by decide +kernel
set_option maxRecDepth 20000 in
theorem ggX6_cell_X6_isCell : GoodIn wsX6_cell wsX6_isCell := goodIn_r _ [5, 6, 7, 4, 8] (by decide +kernel) (by decide +kernel)
set_option maxRecDepth 20000 in
theorem gX6_cell_X6_isCell : GoodIn wsX6_cell (va_wsS RX6 60 yX6_isCell wsX6_isCell) := goodIn_app (goodIn_of _ (by decide +kernel)) ggX6_cell_X6_isCell
set_option maxRecDepth 20000 in
theorem ggX6_cell_X6_isIn : GoodIn wsX6_cell wsX6_isIn := goodIn_r _ [8] (by decide +kernel) (by decide +kernel)
set_option maxRecDepth 20000 in
theorem gX6_cell_X6_isIn : GoodIn wsX6_cell (va_wsS RX6 32 yX6_isIn wsX6_isIn) := goodIn_app (goodIn_of _ (by decide +kernel)) ggX6_cell_X6_isIn
set_option maxRecDepth 20000 in
theorem ggX6_cell_X6_cellTold : GoodIn wsX6_cell wsX6_cellTold := goodIn_r _ [12, 13, 14, 15, 16, 17, 18, 4, 19, 20, 21, 22, 23, 24, 25, 26, 27, 28, 29, 30, 31, 32, 33, 34, 35, 36, 37, 38, 39, 40, 41, 42, 43, 44, 45, 46, 47, 48, 49, 50, 51, 52, 53, 54, 55, 56, 57, 58, 59, 60, 61, 66, 67, 68, 69, 70, 71, 72, 73] (by decide +kernel) (by decide +kernel)
set_option maxRecDepth 20000 in
theorem gX6_cell_X6_cellTold : GoodIn wsX6_cell (wsV RX6 88 RX6 yX6_cellTold wsX6_cellTold) := goodIn_app (goodIn_of _ (by decide +kernel)) ggX6_cell_X6_cellTold
set_option maxRecDepth 20000 in
theorem ggX6_cell_X6_fail : GoodIn wsX6_cell wsX6_fail := goodIn_r _ [65, 1, 66, 67, 68, 69, 70, 71, 72, 73] (by decide +kernel) (by decide +kernel)
set_option maxRecDepth 20000 in
theorem gX6_cell_X6_fail : GoodIn wsX6_cell (wsV RX6 64 RX6 yX6_fail wsX6_fail) := goodIn_app (goodIn_of _ (by decide +kernel)) ggX6_cell_X6_fail
theorem dX6_cell_0 : decode cX6_cell 0 = .ok (.aload_n 0, 1) := by decide +kernel
theorem dX6_cell_1 : decode cX6_cell 1 = .ok (.iconst 0, 1) := by decide +kernel
theorem dX6_cell_2 : decode cX6_cell 2 = .ok (.putfield 28, 3) := by decide +kernel
theorem dX6_cell_5 : decode cX6_cell 5 = .ok (.iload_n 1, 1) := by decide +kernel
theorem dX6_cell_6 : decode cX6_cell 6 = .ok (.iload_n 2, 1) := by decide +kernel
theorem dX6_cell_7 : decode cX6_cell 7 = .ok (.invokestatic 60, 3) := by decide +kernel
theorem dX6_cell_10 : decode cX6_cell 10 = .ok (.ifCond .eq 26, 3) := by decide +kernel
theorem dX6_cell_13 : decode cX6_cell 13 = .ok (.iload_n 3, 1) := by decide +kernel
theorem dX6_cell_14 : decode cX6_cell 14 = .ok (.iconst 0, 1) := by decide +kernel
theorem dX6_cell_15 : decode cX6_cell 15 = .ok (.iconst 5, 1) := by decide +kernel
theorem dX6_cell_16 : decode cX6_cell 16 = .ok (.invokestatic 32, 3) := by decide +kernel
theorem dX6_cell_19 : decode cX6_cell 19 = .ok (.ifCond .eq 17, 3) := by decide +kernel
theorem dX6_cell_22 : decode cX6_cell 22 = .ok (.aload_n 0, 1) := by decide +kernel
theorem dX6_cell_23 : decode cX6_cell 23 = .ok (.iload_n 1, 1) := by decide +kernel
theorem dX6_cell_24 : decode cX6_cell 24 = .ok (.bipush 16, 2) := by decide +kernel
theorem dX6_cell_26 : decode cX6_cell 26 = .ok (.iload_n 2, 1) := by decide +kernel
theorem dX6_cell_27 : decode cX6_cell 27 = .ok (.imul, 1) := by decide +kernel
theorem dX6_cell_28 : decode cX6_cell 28 = .ok (.iadd, 1) := by decide +kernel
theorem dX6_cell_29 : decode cX6_cell 29 = .ok (.iload_n 3, 1) := by decide +kernel
theorem dX6_cell_30 : decode cX6_cell 30 = .ok (.invokevirtual 88, 3) := by decide +kernel
theorem dX6_cell_33 : decode cX6_cell 33 = .ok (.goto 8, 3) := by decide +kernel
theorem dX6_cell_36 : decode cX6_cell 36 = .ok (.aload_n 0, 1) := by decide +kernel
theorem dX6_cell_37 : decode cX6_cell 37 = .ok (.iconst 1, 1) := by decide +kernel
theorem dX6_cell_38 : decode cX6_cell 38 = .ok (.invokevirtual 64, 3) := by decide +kernel
theorem dX6_cell_41 : decode cX6_cell 41 = .ok (.ireturn, 1) := by decide +kernel
set_option maxRecDepth 20000 in
theorem ggX6_come_X6_isCell : GoodIn wsX6_come wsX6_isCell := goodIn_r _ [7, 8, 9, 6, 10] (by decide +kernel) (by decide +kernel)
set_option maxRecDepth 20000 in
theorem gX6_come_X6_isCell : GoodIn wsX6_come (va_wsS RX6 60 yX6_isCell wsX6_isCell) := goodIn_app (goodIn_of _ (by decide +kernel)) ggX6_come_X6_isCell
set_option maxRecDepth 20000 in
theorem ggX6_come_X6_fail : GoodIn wsX6_come wsX6_fail := goodIn_r _ [14, 1, 42, 43, 44, 45, 46, 47, 48, 49] (by decide +kernel) (by decide +kernel)
set_option maxRecDepth 20000 in
theorem gX6_come_X6_fail : GoodIn wsX6_come (wsV RX6 64 RX6 yX6_fail wsX6_fail) := goodIn_app (goodIn_of _ (by decide +kernel)) ggX6_come_X6_fail
set_option maxRecDepth 20000 in
theorem ggX6_come_X6_isIn : GoodIn wsX6_come wsX6_isIn := goodIn_r _ [10] (by decide +kernel) (by decide +kernel)
set_option maxRecDepth 20000 in
theorem gX6_come_X6_isIn : GoodIn wsX6_come (va_wsS RX6 32 yX6_isIn wsX6_isIn) := goodIn_app (goodIn_of _ (by decide +kernel)) ggX6_come_X6_isIn
set_option maxRecDepth 20000 in
theorem ggX6_come_X6_peopleAt : GoodIn wsX6_come wsX6_peopleAt := goodIn_r _ [18, 3, 19, 20, 21, 6, 22, 23, 24, 25, 26, 27, 42, 43, 44, 45, 46, 47, 48, 49] (by decide +kernel) (by decide +kernel)
set_option maxRecDepth 20000 in
theorem gX6_come_X6_peopleAt : GoodIn wsX6_come (wsV RX6 68 RX6 yX6_peopleAt wsX6_peopleAt) := goodIn_app (goodIn_of _ (by decide +kernel)) ggX6_come_X6_peopleAt
set_option maxRecDepth 20000 in
theorem ggX6_come_X6_isOpen : GoodIn wsX6_come wsX6_isOpen := goodIn_r _ [31, 2, 42, 43, 44, 45, 46, 47, 48, 49] (by decide +kernel) (by decide +kernel)
set_option maxRecDepth 20000 in
theorem gX6_come_X6_isOpen : GoodIn wsX6_come (wsV RX6 46 RX6 yX6_isOpen wsX6_isOpen) := goodIn_app (goodIn_of _ (by decide +kernel)) ggX6_come_X6_isOpen
set_option maxRecDepth 20000 in
theorem ggX6_come_X6_lay : GoodIn wsX6_come wsX6_lay := goodIn_r _ [35, 2, 36, 37, 42, 43, 44, 45, 46, 47, 48, 49] (by decide +kernel) (by decide +kernel)
set_option maxRecDepth 20000 in
theorem gX6_come_X6_lay : GoodIn wsX6_come (wsV RX6 72 RX6 yX6_lay wsX6_lay) := goodIn_app (goodIn_of _ (by decide +kernel)) ggX6_come_X6_lay
set_option maxRecDepth 20000 in
theorem ggX6_come_X6_set : GoodIn wsX6_come wsX6_set := goodIn_r _ [41, 23, 42, 43, 44, 45, 46, 47, 48, 49] (by decide +kernel) (by decide +kernel)
set_option maxRecDepth 20000 in
theorem gX6_come_X6_set : GoodIn wsX6_come (wsV RX6 91 RX6 yX6_set wsX6_set) := goodIn_app (goodIn_of _ (by decide +kernel)) ggX6_come_X6_set
theorem dX6_come_0 : decode cX6_come 0 = .ok (.aload_n 0, 1) := by decide +kernel
theorem dX6_come_1 : decode cX6_come 1 = .ok (.iconst 0, 1) := by decide +kernel
theorem dX6_come_2 : decode cX6_come 2 = .ok (.putfield 28, 3) := by decide +kernel
theorem dX6_come_5 : decode cX6_come 5 = .ok (.iload_n 1, 1) := by decide +kernel
theorem dX6_come_6 : decode cX6_come 6 = .ok (.iload_n 2, 1) := by decide +kernel
theorem dX6_come_7 : decode cX6_come 7 = .ok (.invokestatic 60, 3) := by decide +kernel
theorem dX6_come_10 : decode cX6_come 10 = .ok (.ifCond .ne 9, 3) := by decide +kernel
theorem dX6_come_13 : decode cX6_come 13 = .ok (.aload_n 0, 1) := by decide +kernel
theorem dX6_come_14 : decode cX6_come 14 = .ok (.iconst 1, 1) := by decide +kernel
theorem dX6_come_15 : decode cX6_come 15 = .ok (.invokevirtual 64, 3) := by decide +kernel
theorem dX6_come_18 : decode cX6_come 18 = .ok (.ireturn, 1) := by decide +kernel
theorem dX6_come_19 : decode cX6_come 19 = .ok (.iload_n 3, 1) := by decide +kernel
theorem dX6_come_20 : decode cX6_come 20 = .ok (.iconst 0, 1) := by decide +kernel
theorem dX6_come_21 : decode cX6_come 21 = .ok (.bipush 20, 2) := by decide +kernel
theorem dX6_come_23 : decode cX6_come 23 = .ok (.invokestatic 32, 3) := by decide +kernel
theorem dX6_come_26 : decode cX6_come 26 = .ok (.ifCond .eq 14, 3) := by decide +kernel
theorem dX6_come_29 : decode cX6_come 29 = .ok (.iload 4, 2) := by decide +kernel
theorem dX6_come_31 : decode cX6_come 31 = .ok (.iconst 0, 1) := by decide +kernel
theorem dX6_come_32 : decode cX6_come 32 = .ok (.bipush 9, 2) := by decide +kernel
theorem dX6_come_34 : decode cX6_come 34 = .ok (.invokestatic 32, 3) := by decide +kernel
theorem dX6_come_37 : decode cX6_come 37 = .ok (.ifCond .ne 9, 3) := by decide +kernel
theorem dX6_come_40 : decode cX6_come 40 = .ok (.aload_n 0, 1) := by decide +kernel
theorem dX6_come_41 : decode cX6_come 41 = .ok (.iconst 2, 1) := by decide +kernel
theorem dX6_come_42 : decode cX6_come 42 = .ok (.invokevirtual 64, 3) := by decide +kernel
theorem dX6_come_45 : decode cX6_come 45 = .ok (.ireturn, 1) := by decide +kernel
theorem dX6_come_46 : decode cX6_come 46 = .ok (.iload_n 1, 1) := by decide +kernel
theorem dX6_come_47 : decode cX6_come 47 = .ok (.bipush 16, 2) := by decide +kernel
theorem dX6_come_49 : decode cX6_come 49 = .ok (.iload_n 2, 1) := by decide +kernel
theorem dX6_come_50 : decode cX6_come 50 = .ok (.imul, 1) := by decide +kernel
theorem dX6_come_51 : decode cX6_come 51 = .ok (.iadd, 1) := by decide +kernel
theorem dX6_come_52 : decode cX6_come 52 = .ok (.istore 5, 2) := by decide +kernel
theorem dX6_come_54 : decode cX6_come 54 = .ok (.aload_n 0, 1) := by decide +kernel
theorem dX6_come_55 : decode cX6_come 55 = .ok (.getfield 9, 3) := by decide +kernel
theorem dX6_come_58 : decode cX6_come 58 = .ok (.iload 5, 2) := by decide +kernel
theorem dX6_come_60 : decode cX6_come 60 = .ok (.iaload, 1) := by decide +kernel
theorem dX6_come_61 : decode cX6_come 61 = .ok (.bipush 10, 2) := by decide +kernel
theorem dX6_come_63 : decode cX6_come 63 = .ok (.if_icmp .eq 22, 3) := by decide +kernel
theorem dX6_come_66 : decode cX6_come 66 = .ok (.aload_n 0, 1) := by decide +kernel
theorem dX6_come_67 : decode cX6_come 67 = .ok (.iload 5, 2) := by decide +kernel
theorem dX6_come_69 : decode cX6_come 69 = .ok (.iconst 1, 1) := by decide +kernel
theorem dX6_come_70 : decode cX6_come 70 = .ok (.invokevirtual 68, 3) := by decide +kernel
theorem dX6_come_73 : decode cX6_come 73 = .ok (.ifCond .gt 12, 3) := by decide +kernel
theorem dX6_come_76 : decode cX6_come 76 = .ok (.aload_n 0, 1) := by decide +kernel
theorem dX6_come_77 : decode cX6_come 77 = .ok (.getfield 36, 3) := by decide +kernel
theorem dX6_come_80 : decode cX6_come 80 = .ok (.bipush 8, 2) := by decide +kernel
theorem dX6_come_82 : decode cX6_come 82 = .ok (.if_icmp .ne 9, 3) := by decide +kernel
theorem dX6_come_85 : decode cX6_come 85 = .ok (.aload_n 0, 1) := by decide +kernel
theorem dX6_come_86 : decode cX6_come 86 = .ok (.iconst 3, 1) := by decide +kernel
theorem dX6_come_87 : decode cX6_come 87 = .ok (.invokevirtual 64, 3) := by decide +kernel
theorem dX6_come_90 : decode cX6_come 90 = .ok (.ireturn, 1) := by decide +kernel
theorem dX6_come_91 : decode cX6_come 91 = .ok (.aload_n 0, 1) := by decide +kernel
theorem dX6_come_92 : decode cX6_come 92 = .ok (.iload 5, 2) := by decide +kernel
theorem dX6_come_94 : decode cX6_come 94 = .ok (.invokevirtual 46, 3) := by decide +kernel
theorem dX6_come_97 : decode cX6_come 97 = .ok (.ifCond .ne 10, 3) := by decide +kernel
theorem dX6_come_100 : decode cX6_come 100 = .ok (.aload_n 0, 1) := by decide +kernel
theorem dX6_come_101 : decode cX6_come 101 = .ok (.iload 5, 2) := by decide +kernel
theorem dX6_come_103 : decode cX6_come 103 = .ok (.iconst 0, 1) := by decide +kernel
theorem dX6_come_104 : decode cX6_come 104 = .ok (.invokevirtual 72, 3) := by decide +kernel
theorem dX6_come_107 : decode cX6_come 107 = .ok (.aload_n 0, 1) := by decide +kernel
theorem dX6_come_108 : decode cX6_come 108 = .ok (.aload_n 0, 1) := by decide +kernel
theorem dX6_come_109 : decode cX6_come 109 = .ok (.getfield 36, 3) := by decide +kernel
theorem dX6_come_112 : decode cX6_come 112 = .ok (.iconst 0, 1) := by decide +kernel
theorem dX6_come_113 : decode cX6_come 113 = .ok (.iload 5, 2) := by decide +kernel
theorem dX6_come_115 : decode cX6_come 115 = .ok (.invokevirtual 91, 3) := by decide +kernel
theorem dX6_come_118 : decode cX6_come 118 = .ok (.aload_n 0, 1) := by decide +kernel
theorem dX6_come_119 : decode cX6_come 119 = .ok (.aload_n 0, 1) := by decide +kernel
theorem dX6_come_120 : decode cX6_come 120 = .ok (.getfield 36, 3) := by decide +kernel
theorem dX6_come_123 : decode cX6_come 123 = .ok (.iconst 1, 1) := by decide +kernel
theorem dX6_come_124 : decode cX6_come 124 = .ok (.iload_n 3, 1) := by decide +kernel
theorem dX6_come_125 : decode cX6_come 125 = .ok (.invokevirtual 91, 3) := by decide +kernel
theorem dX6_come_128 : decode cX6_come 128 = .ok (.aload_n 0, 1) := by decide +kernel
theorem dX6_come_129 : decode cX6_come 129 = .ok (.aload_n 0, 1) := by decide +kernel
theorem dX6_come_130 : decode cX6_come 130 = .ok (.getfield 36, 3) := by decide +kernel
theorem dX6_come_133 : decode cX6_come 133 = .ok (.iconst 2, 1) := by decide +kernel
theorem dX6_come_134 : decode cX6_come 134 = .ok (.iload 4, 2) := by decide +kernel
theorem dX6_come_136 : decode cX6_come 136 = .ok (.invokevirtual 91, 3) := by decide +kernel
theorem dX6_come_139 : decode cX6_come 139 = .ok (.aload_n 0, 1) := by decide +kernel
theorem dX6_come_140 : decode cX6_come 140 = .ok (.dup, 1) := by decide +kernel
theorem dX6_come_141 : decode cX6_come 141 = .ok (.getfield 36, 3) := by decide +kernel
theorem dX6_come_144 : decode cX6_come 144 = .ok (.iconst 1, 1) := by decide +kernel
theorem dX6_come_145 : decode cX6_come 145 = .ok (.iadd, 1) := by decide +kernel
theorem dX6_come_146 : decode cX6_come 146 = .ok (.putfield 36, 3) := by decide +kernel
theorem dX6_come_149 : decode cX6_come 149 = .ok (.aload_n 0, 1) := by decide +kernel
theorem dX6_come_150 : decode cX6_come 150 = .ok (.getfield 36, 3) := by decide +kernel
theorem dX6_come_153 : decode cX6_come 153 = .ok (.iconst 1, 1) := by decide +kernel
theorem dX6_come_154 : decode cX6_come 154 = .ok (.isub, 1) := by decide +kernel
theorem dX6_come_155 : decode cX6_come 155 = .ok (.ireturn, 1) := by decide +kernel
set_option maxRecDepth 20000 in
theorem ggX6_order_X6_isMan : GoodIn wsX6_order wsX6_isMan := goodIn_r _ [6, 7, 8, 9, 5, 10, 28, 29, 30, 31, 32, 33, 34, 35] (by decide +kernel) (by decide +kernel)
set_option maxRecDepth 20000 in
theorem gX6_order_X6_isMan : GoodIn wsX6_order (wsV RX6 95 RX6 yX6_isMan wsX6_isMan) := goodIn_app (goodIn_of _ (by decide +kernel)) ggX6_order_X6_isMan
set_option maxRecDepth 20000 in
theorem ggX6_order_X6_fail : GoodIn wsX6_order wsX6_fail := goodIn_r _ [14, 1, 28, 29, 30, 31, 32, 33, 34, 35] (by decide +kernel) (by decide +kernel)
set_option maxRecDepth 20000 in
theorem gX6_order_X6_fail : GoodIn wsX6_order (wsV RX6 64 RX6 yX6_fail wsX6_fail) := goodIn_app (goodIn_of _ (by decide +kernel)) ggX6_order_X6_fail
set_option maxRecDepth 20000 in
theorem ggX6_order_X6_isIn : GoodIn wsX6_order wsX6_isIn := goodIn_r _ [10] (by decide +kernel) (by decide +kernel)
set_option maxRecDepth 20000 in
theorem gX6_order_X6_isIn : GoodIn wsX6_order (va_wsS RX6 32 yX6_isIn wsX6_isIn) := goodIn_app (goodIn_of _ (by decide +kernel)) ggX6_order_X6_isIn
set_option maxRecDepth 20000 in
theorem ggX6_order_X6_get : GoodIn wsX6_order wsX6_get := goodIn_r _ [18, 19, 28, 29, 30, 31, 32, 33, 34, 35] (by decide +kernel) (by decide +kernel)
set_option maxRecDepth 20000 in
theorem gX6_order_X6_get : GoodIn wsX6_order (wsV RX6 39 RX6 yX6_get wsX6_get) := goodIn_app (goodIn_of _ (by decide +kernel)) ggX6_order_X6_get
set_option maxRecDepth 20000 in
theorem ggX6_order_X6_set : GoodIn wsX6_order wsX6_set := goodIn_r _ [23, 19, 28, 29, 30, 31, 32, 33, 34, 35] (by decide +kernel) (by decide +kernel)
set_option maxRecDepth 20000 in
theorem gX6_order_X6_set : GoodIn wsX6_order (wsV RX6 91 RX6 yX6_set wsX6_set) := goodIn_app (goodIn_of _ (by decide +kernel)) ggX6_order_X6_set
set_option maxRecDepth 20000 in
theorem ggX6_order_X6_add : GoodIn wsX6_order wsX6_add := goodIn_r _ [27, 19, 28, 29, 30, 31, 32, 33, 34, 35] (by decide +kernel) (by decide +kernel)
set_option maxRecDepth 20000 in
theorem gX6_order_X6_add : GoodIn wsX6_order (wsV RX6 98 RX6 yX6_add wsX6_add) := goodIn_app (goodIn_of _ (by decide +kernel)) ggX6_order_X6_add
theorem dX6_order_0 : decode cX6_order 0 = .ok (.aload_n 0, 1) := by decide +kernel
theorem dX6_order_1 : decode cX6_order 1 = .ok (.iconst 0, 1) := by decide +kernel
theorem dX6_order_2 : decode cX6_order 2 = .ok (.putfield 28, 3) := by decide +kernel
theorem dX6_order_5 : decode cX6_order 5 = .ok (.aload_n 0, 1) := by decide +kernel
theorem dX6_order_6 : decode cX6_order 6 = .ok (.iload_n 1, 1) := by decide +kernel
theorem dX6_order_7 : decode cX6_order 7 = .ok (.invokevirtual 95, 3) := by decide +kernel
theorem dX6_order_10 : decode cX6_order 10 = .ok (.ifCond .ne 9, 3) := by decide +kernel
theorem dX6_order_13 : decode cX6_order 13 = .ok (.aload_n 0, 1) := by decide +kernel
theorem dX6_order_14 : decode cX6_order 14 = .ok (.iconst 1, 1) := by decide +kernel
theorem dX6_order_15 : decode cX6_order 15 = .ok (.invokevirtual 64, 3) := by decide +kernel
theorem dX6_order_18 : decode cX6_order 18 = .ok (.ireturn, 1) := by decide +kernel
theorem dX6_order_19 : decode cX6_order 19 = .ok (.iload_n 2, 1) := by decide +kernel
theorem dX6_order_20 : decode cX6_order 20 = .ok (.iconst 0, 1) := by decide +kernel
theorem dX6_order_21 : decode cX6_order 21 = .ok (.bipush 6, 2) := by decide +kernel
theorem dX6_order_23 : decode cX6_order 23 = .ok (.invokestatic 32, 3) := by decide +kernel
theorem dX6_order_26 : decode cX6_order 26 = .ok (.ifCond .eq 13, 3) := by decide +kernel
theorem dX6_order_29 : decode cX6_order 29 = .ok (.iload_n 3, 1) := by decide +kernel
theorem dX6_order_30 : decode cX6_order 30 = .ok (.iconst 1, 1) := by decide +kernel
theorem dX6_order_31 : decode cX6_order 31 = .ok (.bipush 9, 2) := by decide +kernel
theorem dX6_order_33 : decode cX6_order 33 = .ok (.invokestatic 32, 3) := by decide +kernel
theorem dX6_order_36 : decode cX6_order 36 = .ok (.ifCond .ne 9, 3) := by decide +kernel
theorem dX6_order_39 : decode cX6_order 39 = .ok (.aload_n 0, 1) := by decide +kernel
theorem dX6_order_40 : decode cX6_order 40 = .ok (.iconst 2, 1) := by decide +kernel
theorem dX6_order_41 : decode cX6_order 41 = .ok (.invokevirtual 64, 3) := by decide +kernel
theorem dX6_order_44 : decode cX6_order 44 = .ok (.ireturn, 1) := by decide +kernel
theorem dX6_order_45 : decode cX6_order 45 = .ok (.aload_n 0, 1) := by decide +kernel
theorem dX6_order_46 : decode cX6_order 46 = .ok (.iload_n 1, 1) := by decide +kernel
theorem dX6_order_47 : decode cX6_order 47 = .ok (.bipush 6, 2) := by decide +kernel
theorem dX6_order_49 : decode cX6_order 49 = .ok (.invokevirtual 39, 3) := by decide +kernel
theorem dX6_order_52 : decode cX6_order 52 = .ok (.iload_n 3, 1) := by decide +kernel
theorem dX6_order_53 : decode cX6_order 53 = .ok (.iadd, 1) := by decide +kernel
theorem dX6_order_54 : decode cX6_order 54 = .ok (.bipush 24, 2) := by decide +kernel
theorem dX6_order_56 : decode cX6_order 56 = .ok (.if_icmp .le 9, 3) := by decide +kernel
theorem dX6_order_59 : decode cX6_order 59 = .ok (.aload_n 0, 1) := by decide +kernel
theorem dX6_order_60 : decode cX6_order 60 = .ok (.iconst 3, 1) := by decide +kernel
theorem dX6_order_61 : decode cX6_order 61 = .ok (.invokevirtual 64, 3) := by decide +kernel
theorem dX6_order_64 : decode cX6_order 64 = .ok (.ireturn, 1) := by decide +kernel
theorem dX6_order_65 : decode cX6_order 65 = .ok (.iconst 0, 1) := by decide +kernel
theorem dX6_order_66 : decode cX6_order 66 = .ok (.istore 4, 2) := by decide +kernel
theorem dX6_order_68 : decode cX6_order 68 = .ok (.iload 4, 2) := by decide +kernel
theorem dX6_order_70 : decode cX6_order 70 = .ok (.iload_n 3, 1) := by decide +kernel
theorem dX6_order_71 : decode cX6_order 71 = .ok (.if_icmp .ge 33, 3) := by decide +kernel
theorem dX6_order_74 : decode cX6_order 74 = .ok (.aload_n 0, 1) := by decide +kernel
theorem dX6_order_75 : decode cX6_order 75 = .ok (.iload_n 1, 1) := by decide +kernel
theorem dX6_order_76 : decode cX6_order 76 = .ok (.bipush 7, 2) := by decide +kernel
theorem dX6_order_78 : decode cX6_order 78 = .ok (.aload_n 0, 1) := by decide +kernel
theorem dX6_order_79 : decode cX6_order 79 = .ok (.iload_n 1, 1) := by decide +kernel
theorem dX6_order_80 : decode cX6_order 80 = .ok (.bipush 6, 2) := by decide +kernel
theorem dX6_order_82 : decode cX6_order 82 = .ok (.invokevirtual 39, 3) := by decide +kernel
theorem dX6_order_85 : decode cX6_order 85 = .ok (.iadd, 1) := by decide +kernel
theorem dX6_order_86 : decode cX6_order 86 = .ok (.iload_n 2, 1) := by decide +kernel
theorem dX6_order_87 : decode cX6_order 87 = .ok (.invokevirtual 91, 3) := by decide +kernel
theorem dX6_order_90 : decode cX6_order 90 = .ok (.aload_n 0, 1) := by decide +kernel
theorem dX6_order_91 : decode cX6_order 91 = .ok (.iload_n 1, 1) := by decide +kernel
theorem dX6_order_92 : decode cX6_order 92 = .ok (.bipush 6, 2) := by decide +kernel
theorem dX6_order_94 : decode cX6_order 94 = .ok (.iconst 1, 1) := by decide +kernel
theorem dX6_order_95 : decode cX6_order 95 = .ok (.invokevirtual 98, 3) := by decide +kernel
theorem dX6_order_98 : decode cX6_order 98 = .ok (.iinc 4 1, 3) := by decide +kernel
theorem dX6_order_101 : decode cX6_order 101 = .ok (.goto (-33), 3) := by decide +kernel
theorem dX6_order_104 : decode cX6_order 104 = .ok (.aload_n 0, 1) := by decide +kernel
theorem dX6_order_105 : decode cX6_order 105 = .ok (.iload_n 1, 1) := by decide +kernel
theorem dX6_order_106 : decode cX6_order 106 = .ok (.bipush 6, 2) := by decide +kernel
theorem dX6_order_108 : decode cX6_order 108 = .ok (.invokevirtual 39, 3) := by decide +kernel
theorem dX6_order_111 : decode cX6_order 111 = .ok (.ireturn, 1) := by decide +kernel
set_option maxRecDepth 20000 in
theorem ggX6_call_X6_isMan : GoodIn wsX6_call wsX6_isMan := goodIn_r _ [6, 7, 8, 9, 5, 10, 24, 25, 26, 27, 28, 29, 30, 31] (by decide +kernel) (by decide +kernel)
set_option maxRecDepth 20000 in
theorem gX6_call_X6_isMan : GoodIn wsX6_call (wsV RX6 95 RX6 yX6_isMan wsX6_isMan) := goodIn_app (goodIn_of _ (by decide +kernel)) ggX6_call_X6_isMan
set_option maxRecDepth 20000 in
theorem ggX6_call_X6_fail : GoodIn wsX6_call wsX6_fail := goodIn_r _ [14, 1, 24, 25, 26, 27, 28, 29, 30, 31] (by decide +kernel) (by decide +kernel)
set_option maxRecDepth 20000 in
theorem gX6_call_X6_fail : GoodIn wsX6_call (wsV RX6 64 RX6 yX6_fail wsX6_fail) := goodIn_app (goodIn_of _ (by decide +kernel)) ggX6_call_X6_fail
set_option maxRecDepth 20000 in
theorem ggX6_call_X6_get : GoodIn wsX6_call wsX6_get := goodIn_r _ [18, 19, 24, 25, 26, 27, 28, 29, 30, 31] (by decide +kernel) (by decide +kernel)
set_option maxRecDepth 20000 in
theorem gX6_call_X6_get : GoodIn wsX6_call (wsV RX6 39 RX6 yX6_get wsX6_get) := goodIn_app (goodIn_of _ (by decide +kernel)) ggX6_call_X6_get
set_option maxRecDepth 20000 in
theorem ggX6_call_X6_set : GoodIn wsX6_call wsX6_set := goodIn_r _ [23, 19, 24, 25, 26, 27, 28, 29, 30, 31] (by decide +kernel) (by decide +kernel)
set_option maxRecDepth 20000 in
theorem gX6_call_X6_set : GoodIn wsX6_call (wsV RX6 91 RX6 yX6_set wsX6_set) := goodIn_app (goodIn_of _ (by decide +kernel)) ggX6_call_X6_set
theorem dX6_call_0 : decode cX6_call 0 = .ok (.aload_n 0, 1) := by decide +kernel
theorem dX6_call_1 : decode cX6_call 1 = .ok (.iconst 0, 1) := by decide +kernel
theorem dX6_call_2 : decode cX6_call 2 = .ok (.putfield 28, 3) := by decide +kernel
theorem dX6_call_5 : decode cX6_call 5 = .ok (.aload_n 0, 1) := by decide +kernel
theorem dX6_call_6 : decode cX6_call 6 = .ok (.iload_n 1, 1) := by decide +kernel
theorem dX6_call_7 : decode cX6_call 7 = .ok (.invokevirtual 95, 3) := by decide +kernel
theorem dX6_call_10 : decode cX6_call 10 = .ok (.ifCond .ne 9, 3) := by decide +kernel
theorem dX6_call_13 : decode cX6_call 13 = .ok (.aload_n 0, 1) := by decide +kernel
theorem dX6_call_14 : decode cX6_call 14 = .ok (.iconst 1, 1) := by decide +kernel
theorem dX6_call_15 : decode cX6_call 15 = .ok (.invokevirtual 64, 3) := by decide +kernel
theorem dX6_call_18 : decode cX6_call 18 = .ok (.ireturn, 1) := by decide +kernel
theorem dX6_call_19 : decode cX6_call 19 = .ok (.aload_n 0, 1) := by decide +kernel
theorem dX6_call_20 : decode cX6_call 20 = .ok (.iload_n 1, 1) := by decide +kernel
theorem dX6_call_21 : decode cX6_call 21 = .ok (.bipush 6, 2) := by decide +kernel
theorem dX6_call_23 : decode cX6_call 23 = .ok (.invokevirtual 39, 3) := by decide +kernel
theorem dX6_call_26 : decode cX6_call 26 = .ok (.istore_n 2, 1) := by decide +kernel
theorem dX6_call_27 : decode cX6_call 27 = .ok (.aload_n 0, 1) := by decide +kernel
theorem dX6_call_28 : decode cX6_call 28 = .ok (.iload_n 1, 1) := by decide +kernel
theorem dX6_call_29 : decode cX6_call 29 = .ok (.bipush 6, 2) := by decide +kernel
theorem dX6_call_31 : decode cX6_call 31 = .ok (.iconst 0, 1) := by decide +kernel
theorem dX6_call_32 : decode cX6_call 32 = .ok (.invokevirtual 91, 3) := by decide +kernel
theorem dX6_call_35 : decode cX6_call 35 = .ok (.iload_n 2, 1) := by decide +kernel
theorem dX6_call_36 : decode cX6_call 36 = .ok (.ireturn, 1) := by decide +kernel
set_option maxRecDepth 20000 in
theorem ggX6_manTold_X6_get : GoodIn wsX6_manTold wsX6_get := goodIn_r _ [5, 6, 7, 8, 9, 10, 11, 12, 13, 14] (by decide +kernel) (by decide +kernel)
set_option maxRecDepth 20000 in
theorem gX6_manTold_X6_get : GoodIn wsX6_manTold (wsV RX6 39 RX6 yX6_get wsX6_get) := goodIn_app (goodIn_of _ (by decide +kernel)) ggX6_manTold_X6_get
theorem dX6_manTold_0 : decode cX6_manTold 0 = .ok (.iload_n 2, 1) := by decide +kernel
theorem dX6_manTold_1 : decode cX6_manTold 1 = .ok (.tableswitch 125 0 7 #[47, 57, 67, 74, 81, 88, 96, 118], 47) := by decide +kernel
theorem dX6_manTold_48 : decode cX6_manTold 48 = .ok (.aload_n 0, 1) := by decide +kernel
theorem dX6_manTold_49 : decode cX6_manTold 49 = .ok (.iload_n 1, 1) := by decide +kernel
theorem dX6_manTold_50 : decode cX6_manTold 50 = .ok (.iconst 0, 1) := by decide +kernel
theorem dX6_manTold_51 : decode cX6_manTold 51 = .ok (.invokevirtual 39, 3) := by decide +kernel
theorem dX6_manTold_54 : decode cX6_manTold 54 = .ok (.bipush 16, 2) := by decide +kernel
theorem dX6_manTold_56 : decode cX6_manTold 56 = .ok (.irem, 1) := by decide +kernel
theorem dX6_manTold_57 : decode cX6_manTold 57 = .ok (.ireturn, 1) := by decide +kernel
theorem dX6_manTold_58 : decode cX6_manTold 58 = .ok (.aload_n 0, 1) := by decide +kernel
theorem dX6_manTold_59 : decode cX6_manTold 59 = .ok (.iload_n 1, 1) := by decide +kernel
theorem dX6_manTold_60 : decode cX6_manTold 60 = .ok (.iconst 0, 1) := by decide +kernel
theorem dX6_manTold_61 : decode cX6_manTold 61 = .ok (.invokevirtual 39, 3) := by decide +kernel
theorem dX6_manTold_64 : decode cX6_manTold 64 = .ok (.bipush 16, 2) := by decide +kernel
theorem dX6_manTold_66 : decode cX6_manTold 66 = .ok (.idiv, 1) := by decide +kernel
theorem dX6_manTold_67 : decode cX6_manTold 67 = .ok (.ireturn, 1) := by decide +kernel
theorem dX6_manTold_68 : decode cX6_manTold 68 = .ok (.aload_n 0, 1) := by decide +kernel
theorem dX6_manTold_69 : decode cX6_manTold 69 = .ok (.iload_n 1, 1) := by decide +kernel
theorem dX6_manTold_70 : decode cX6_manTold 70 = .ok (.iconst 1, 1) := by decide +kernel
theorem dX6_manTold_71 : decode cX6_manTold 71 = .ok (.invokevirtual 39, 3) := by decide +kernel
theorem dX6_manTold_74 : decode cX6_manTold 74 = .ok (.ireturn, 1) := by decide +kernel
theorem dX6_manTold_75 : decode cX6_manTold 75 = .ok (.aload_n 0, 1) := by decide +kernel
theorem dX6_manTold_76 : decode cX6_manTold 76 = .ok (.iload_n 1, 1) := by decide +kernel
theorem dX6_manTold_77 : decode cX6_manTold 77 = .ok (.iconst 2, 1) := by decide +kernel
theorem dX6_manTold_78 : decode cX6_manTold 78 = .ok (.invokevirtual 39, 3) := by decide +kernel
theorem dX6_manTold_81 : decode cX6_manTold 81 = .ok (.ireturn, 1) := by decide +kernel
theorem dX6_manTold_82 : decode cX6_manTold 82 = .ok (.aload_n 0, 1) := by decide +kernel
theorem dX6_manTold_83 : decode cX6_manTold 83 = .ok (.iload_n 1, 1) := by decide +kernel
theorem dX6_manTold_84 : decode cX6_manTold 84 = .ok (.iconst 3, 1) := by decide +kernel
theorem dX6_manTold_85 : decode cX6_manTold 85 = .ok (.invokevirtual 39, 3) := by decide +kernel
theorem dX6_manTold_88 : decode cX6_manTold 88 = .ok (.ireturn, 1) := by decide +kernel
theorem dX6_manTold_89 : decode cX6_manTold 89 = .ok (.aload_n 0, 1) := by decide +kernel
theorem dX6_manTold_90 : decode cX6_manTold 90 = .ok (.iload_n 1, 1) := by decide +kernel
theorem dX6_manTold_91 : decode cX6_manTold 91 = .ok (.bipush 6, 2) := by decide +kernel
theorem dX6_manTold_93 : decode cX6_manTold 93 = .ok (.invokevirtual 39, 3) := by decide +kernel
theorem dX6_manTold_96 : decode cX6_manTold 96 = .ok (.ireturn, 1) := by decide +kernel
theorem dX6_manTold_97 : decode cX6_manTold 97 = .ok (.aload_n 0, 1) := by decide +kernel
theorem dX6_manTold_98 : decode cX6_manTold 98 = .ok (.iload_n 1, 1) := by decide +kernel
theorem dX6_manTold_99 : decode cX6_manTold 99 = .ok (.bipush 6, 2) := by decide +kernel
theorem dX6_manTold_101 : decode cX6_manTold 101 = .ok (.invokevirtual 39, 3) := by decide +kernel
theorem dX6_manTold_104 : decode cX6_manTold 104 = .ok (.ifCond .ne 7, 3) := by decide +kernel
theorem dX6_manTold_107 : decode cX6_manTold 107 = .ok (.iconst (-1), 1) := by decide +kernel
theorem dX6_manTold_108 : decode cX6_manTold 108 = .ok (.goto 10, 3) := by decide +kernel
theorem dX6_manTold_111 : decode cX6_manTold 111 = .ok (.aload_n 0, 1) := by decide +kernel
theorem dX6_manTold_112 : decode cX6_manTold 112 = .ok (.iload_n 1, 1) := by decide +kernel
theorem dX6_manTold_113 : decode cX6_manTold 113 = .ok (.bipush 7, 2) := by decide +kernel
theorem dX6_manTold_115 : decode cX6_manTold 115 = .ok (.invokevirtual 39, 3) := by decide +kernel
theorem dX6_manTold_118 : decode cX6_manTold 118 = .ok (.ireturn, 1) := by decide +kernel
theorem dX6_manTold_119 : decode cX6_manTold 119 = .ok (.aload_n 0, 1) := by decide +kernel
theorem dX6_manTold_120 : decode cX6_manTold 120 = .ok (.iload_n 1, 1) := by decide +kernel
theorem dX6_manTold_121 : decode cX6_manTold 121 = .ok (.iconst 4, 1) := by decide +kernel
theorem dX6_manTold_122 : decode cX6_manTold 122 = .ok (.invokevirtual 39, 3) := by decide +kernel
theorem dX6_manTold_125 : decode cX6_manTold 125 = .ok (.ireturn, 1) := by decide +kernel
theorem dX6_manTold_126 : decode cX6_manTold 126 = .ok (.aload_n 0, 1) := by decide +kernel
theorem dX6_manTold_127 : decode cX6_manTold 127 = .ok (.iload_n 1, 1) := by decide +kernel
theorem dX6_manTold_128 : decode cX6_manTold 128 = .ok (.iconst 5, 1) := by decide +kernel
theorem dX6_manTold_129 : decode cX6_manTold 129 = .ok (.invokevirtual 39, 3) := by decide +kernel
theorem dX6_manTold_132 : decode cX6_manTold 132 = .ok (.ireturn, 1) := by decide +kernel
set_option maxRecDepth 20000 in
theorem ggX6_tunneller_X6_isMan : GoodIn wsX6_tunneller wsX6_isMan := goodIn_r _ [6, 7, 8, 9, 5, 10, 24, 25, 26, 27, 28, 29, 30, 31] (by decide +kernel) (by decide +kernel)
set_option maxRecDepth 20000 in
theorem gX6_tunneller_X6_isMan : GoodIn wsX6_tunneller (wsV RX6 95 RX6 yX6_isMan wsX6_isMan) := goodIn_app (goodIn_of _ (by decide +kernel)) ggX6_tunneller_X6_isMan
set_option maxRecDepth 20000 in
theorem ggX6_tunneller_X6_isIn : GoodIn wsX6_tunneller wsX6_isIn := goodIn_r _ [10] (by decide +kernel) (by decide +kernel)
set_option maxRecDepth 20000 in
theorem gX6_tunneller_X6_isIn : GoodIn wsX6_tunneller (va_wsS RX6 32 yX6_isIn wsX6_isIn) := goodIn_app (goodIn_of _ (by decide +kernel)) ggX6_tunneller_X6_isIn
set_option maxRecDepth 20000 in
theorem ggX6_tunneller_X6_manTold : GoodIn wsX6_tunneller wsX6_manTold := goodIn_r _ [14, 15, 16, 17, 5, 18, 19, 24, 25, 26, 27, 28, 29, 30, 31] (by decide +kernel) (by decide +kernel)
set_option maxRecDepth 20000 in
theorem gX6_tunneller_X6_manTold : GoodIn wsX6_tunneller (wsV RX6 101 RX6 yX6_manTold wsX6_manTold) := goodIn_app (goodIn_of _ (by decide +kernel)) ggX6_tunneller_X6_manTold
set_option maxRecDepth 20000 in
theorem ggX6_tunneller_X6_fail : GoodIn wsX6_tunneller wsX6_fail := goodIn_r _ [23, 1, 24, 25, 26, 27, 28, 29, 30, 31] (by decide +kernel) (by decide +kernel)
set_option maxRecDepth 20000 in
theorem gX6_tunneller_X6_fail : GoodIn wsX6_tunneller (wsV RX6 64 RX6 yX6_fail wsX6_fail) := goodIn_app (goodIn_of _ (by decide +kernel)) ggX6_tunneller_X6_fail
theorem dX6_tunneller_0 : decode cX6_tunneller 0 = .ok (.aload_n 0, 1) := by decide +kernel
theorem dX6_tunneller_1 : decode cX6_tunneller 1 = .ok (.iconst 0, 1) := by decide +kernel
theorem dX6_tunneller_2 : decode cX6_tunneller 2 = .ok (.putfield 28, 3) := by decide +kernel
theorem dX6_tunneller_5 : decode cX6_tunneller 5 = .ok (.aload_n 0, 1) := by decide +kernel
theorem dX6_tunneller_6 : decode cX6_tunneller 6 = .ok (.iload_n 1, 1) := by decide +kernel
theorem dX6_tunneller_7 : decode cX6_tunneller 7 = .ok (.invokevirtual 95, 3) := by decide +kernel
theorem dX6_tunneller_10 : decode cX6_tunneller 10 = .ok (.ifCond .eq 22, 3) := by decide +kernel
theorem dX6_tunneller_13 : decode cX6_tunneller 13 = .ok (.iload_n 2, 1) := by decide +kernel
theorem dX6_tunneller_14 : decode cX6_tunneller 14 = .ok (.iconst 0, 1) := by decide +kernel
theorem dX6_tunneller_15 : decode cX6_tunneller 15 = .ok (.bipush 8, 2) := by decide +kernel
theorem dX6_tunneller_17 : decode cX6_tunneller 17 = .ok (.invokestatic 32, 3) := by decide +kernel
theorem dX6_tunneller_20 : decode cX6_tunneller 20 = .ok (.ifCond .eq 12, 3) := by decide +kernel
theorem dX6_tunneller_23 : decode cX6_tunneller 23 = .ok (.aload_n 0, 1) := by decide +kernel
theorem dX6_tunneller_24 : decode cX6_tunneller 24 = .ok (.iload_n 1, 1) := by decide +kernel
theorem dX6_tunneller_25 : decode cX6_tunneller 25 = .ok (.iload_n 2, 1) := by decide +kernel
theorem dX6_tunneller_26 : decode cX6_tunneller 26 = .ok (.invokevirtual 101, 3) := by decide +kernel
theorem dX6_tunneller_29 : decode cX6_tunneller 29 = .ok (.goto 8, 3) := by decide +kernel
theorem dX6_tunneller_32 : decode cX6_tunneller 32 = .ok (.aload_n 0, 1) := by decide +kernel
theorem dX6_tunneller_33 : decode cX6_tunneller 33 = .ok (.iconst 1, 1) := by decide +kernel
theorem dX6_tunneller_34 : decode cX6_tunneller 34 = .ok (.invokevirtual 64, 3) := by decide +kernel
theorem dX6_tunneller_37 : decode cX6_tunneller 37 = .ok (.ireturn, 1) := by decide +kernel
set_option maxRecDepth 20000 in
theorem ggX6_done_X6_get : GoodIn wsX6_done wsX6_get := goodIn_r _ [5, 6, 15, 16, 17, 18, 19, 20, 21, 22] (by decide +kernel) (by decide +kernel)
set_option maxRecDepth 20000 in
theorem gX6_done_X6_get : GoodIn wsX6_done (wsV RX6 39 RX6 yX6_get wsX6_get) := goodIn_app (goodIn_of _ (by decide +kernel)) ggX6_done_X6_get
set_option maxRecDepth 20000 in
theorem ggX6_done_X6_set : GoodIn wsX6_done wsX6_set := goodIn_r _ [10, 6, 15, 16, 17, 18, 19, 20, 21, 22] (by decide +kernel) (by decide +kernel)
set_option maxRecDepth 20000 in
theorem gX6_done_X6_set : GoodIn wsX6_done (wsV RX6 91 RX6 yX6_set wsX6_set) := goodIn_app (goodIn_of _ (by decide +kernel)) ggX6_done_X6_set
set_option maxRecDepth 20000 in
theorem ggX6_done_X6_add : GoodIn wsX6_done wsX6_add := goodIn_r _ [14, 6, 15, 16, 17, 18, 19, 20, 21, 22] (by decide +kernel) (by decide +kernel)
set_option maxRecDepth 20000 in
theorem gX6_done_X6_add : GoodIn wsX6_done (wsV RX6 98 RX6 yX6_add wsX6_add) := goodIn_app (goodIn_of _ (by decide +kernel)) ggX6_done_X6_add
theorem dX6_done_0 : decode cX6_done 0 = .ok (.iconst 1, 1) := by decide +kernel
theorem dX6_done_1 : decode cX6_done 1 = .ok (.istore_n 2, 1) := by decide +kernel
theorem dX6_done_2 : decode cX6_done 2 = .ok (.iload_n 2, 1) := by decide +kernel
theorem dX6_done_3 : decode cX6_done 3 = .ok (.aload_n 0, 1) := by decide +kernel
theorem dX6_done_4 : decode cX6_done 4 = .ok (.iload_n 1, 1) := by decide +kernel
theorem dX6_done_5 : decode cX6_done 5 = .ok (.bipush 6, 2) := by decide +kernel
theorem dX6_done_7 : decode cX6_done 7 = .ok (.invokevirtual 39, 3) := by decide +kernel
theorem dX6_done_10 : decode cX6_done 10 = .ok (.if_icmp .ge 29, 3) := by decide +kernel
theorem dX6_done_13 : decode cX6_done 13 = .ok (.aload_n 0, 1) := by decide +kernel
theorem dX6_done_14 : decode cX6_done 14 = .ok (.iload_n 1, 1) := by decide +kernel
theorem dX6_done_15 : decode cX6_done 15 = .ok (.bipush 7, 2) := by decide +kernel
theorem dX6_done_17 : decode cX6_done 17 = .ok (.iload_n 2, 1) := by decide +kernel
theorem dX6_done_18 : decode cX6_done 18 = .ok (.iadd, 1) := by decide +kernel
theorem dX6_done_19 : decode cX6_done 19 = .ok (.iconst 1, 1) := by decide +kernel
theorem dX6_done_20 : decode cX6_done 20 = .ok (.isub, 1) := by decide +kernel
theorem dX6_done_21 : decode cX6_done 21 = .ok (.aload_n 0, 1) := by decide +kernel
theorem dX6_done_22 : decode cX6_done 22 = .ok (.iload_n 1, 1) := by decide +kernel
theorem dX6_done_23 : decode cX6_done 23 = .ok (.bipush 7, 2) := by decide +kernel
theorem dX6_done_25 : decode cX6_done 25 = .ok (.iload_n 2, 1) := by decide +kernel
theorem dX6_done_26 : decode cX6_done 26 = .ok (.iadd, 1) := by decide +kernel
theorem dX6_done_27 : decode cX6_done 27 = .ok (.invokevirtual 39, 3) := by decide +kernel
theorem dX6_done_30 : decode cX6_done 30 = .ok (.invokevirtual 91, 3) := by decide +kernel
theorem dX6_done_33 : decode cX6_done 33 = .ok (.iinc 2 1, 3) := by decide +kernel
theorem dX6_done_36 : decode cX6_done 36 = .ok (.goto (-34), 3) := by decide +kernel
theorem dX6_done_39 : decode cX6_done 39 = .ok (.aload_n 0, 1) := by decide +kernel
theorem dX6_done_40 : decode cX6_done 40 = .ok (.iload_n 1, 1) := by decide +kernel
theorem dX6_done_41 : decode cX6_done 41 = .ok (.bipush 6, 2) := by decide +kernel
theorem dX6_done_43 : decode cX6_done 43 = .ok (.iconst (-1), 1) := by decide +kernel
theorem dX6_done_44 : decode cX6_done 44 = .ok (.invokevirtual 98, 3) := by decide +kernel
theorem dX6_done_47 : decode cX6_done 47 = .ok (.return_, 1) := by decide +kernel
set_option maxRecDepth 20000 in
theorem ggX6_step_X6_get : GoodIn wsX6_step wsX6_get := goodIn_r _ [8, 9, 56, 57, 58, 59, 60, 61, 62, 63] (by decide +kernel) (by decide +kernel)
set_option maxRecDepth 20000 in
theorem gX6_step_X6_get : GoodIn wsX6_step (wsV RX6 39 RX6 yX6_get wsX6_get) := goodIn_app (goodIn_of _ (by decide +kernel)) ggX6_step_X6_get
set_option maxRecDepth 20000 in
theorem ggX6_step_X6_beside : GoodIn wsX6_step wsX6_beside := goodIn_r _ [12] (by decide +kernel) (by decide +kernel)
set_option maxRecDepth 20000 in
theorem gX6_step_X6_beside : GoodIn wsX6_step (va_wsS RX6 43 yX6_beside wsX6_beside) := goodIn_app (goodIn_of _ (by decide +kernel)) ggX6_step_X6_beside
set_option maxRecDepth 20000 in
theorem ggX6_step_X6_done : GoodIn wsX6_step wsX6_done := goodIn_r _ [16, 4, 5, 6, 7, 8, 9, 17, 18, 19, 20, 21, 22, 23, 24, 56, 57, 58, 59, 60, 61, 62, 63] (by decide +kernel) (by decide +kernel)
set_option maxRecDepth 20000 in
theorem gX6_step_X6_done : GoodIn wsX6_step (wsV RX6 104 RX6 yX6_done wsX6_done) := goodIn_app (goodIn_of _ (by decide +kernel)) ggX6_step_X6_done
set_option maxRecDepth 20000 in
theorem ggX6_step_X6_isOpen : GoodIn wsX6_step wsX6_isOpen := goodIn_r _ [28, 1, 56, 57, 58, 59, 60, 61, 62, 63] (by decide +kernel) (by decide +kernel)
set_option maxRecDepth 20000 in
theorem gX6_step_X6_isOpen : GoodIn wsX6_step (wsV RX6 46 RX6 yX6_isOpen wsX6_isOpen) := goodIn_app (goodIn_of _ (by decide +kernel)) ggX6_step_X6_isOpen
set_option maxRecDepth 20000 in
theorem ggX6_step_X6_shine : GoodIn wsX6_step wsX6_shine := goodIn_r _ [32, 3, 33, 34, 35, 36, 7, 37, 38, 39, 40, 41, 4, 5, 6, 8, 9, 42, 43, 44, 45, 10, 11, 12, 25, 26, 27, 28, 1, 56, 57, 58, 59, 60, 61, 62, 63] (by decide +kernel) (by decide +kernel)
set_option maxRecDepth 20000 in
theorem gX6_step_X6_shine : GoodIn wsX6_step (wsV RX6 82 RX6 yX6_shine wsX6_shine) := goodIn_app (goodIn_of _ (by decide +kernel)) ggX6_step_X6_shine
set_option maxRecDepth 20000 in
theorem ggX6_step_X6_isLit : GoodIn wsX6_step wsX6_isLit := goodIn_r _ [49, 1, 33, 10, 11, 7, 12, 25, 26, 27, 28, 56, 57, 58, 59, 60, 61, 62, 63] (by decide +kernel) (by decide +kernel)
set_option maxRecDepth 20000 in
theorem gX6_step_X6_isLit : GoodIn wsX6_step (wsV RX6 85 RX6 yX6_isLit wsX6_isLit) := goodIn_app (goodIn_of _ (by decide +kernel)) ggX6_step_X6_isLit
set_option maxRecDepth 20000 in
theorem ggX6_step_X6_lay : GoodIn wsX6_step wsX6_lay := goodIn_r _ [53, 1, 54, 55, 56, 57, 58, 59, 60, 61, 62, 63] (by decide +kernel) (by decide +kernel)
set_option maxRecDepth 20000 in
theorem gX6_step_X6_lay : GoodIn wsX6_step (wsV RX6 72 RX6 yX6_lay wsX6_lay) := goodIn_app (goodIn_of _ (by decide +kernel)) ggX6_step_X6_lay
set_option maxRecDepth 20000 in
theorem ggX6_step_X6_add : GoodIn wsX6_step wsX6_add := goodIn_r _ [24, 9, 56, 57, 58, 59, 60, 61, 62, 63] (by decide +kernel) (by decide +kernel)
set_option maxRecDepth 20000 in
theorem gX6_step_X6_add : GoodIn wsX6_step (wsV RX6 98 RX6 yX6_add wsX6_add) := goodIn_app (goodIn_of _ (by decide +kernel)) ggX6_step_X6_add
set_option maxRecDepth 20000 in
theorem ggX6_step_X6_set : GoodIn wsX6_step wsX6_set := goodIn_r _ [20, 9, 56, 57, 58, 59, 60, 61, 62, 63] (by decide +kernel) (by decide +kernel)
set_option maxRecDepth 20000 in
theorem gX6_step_X6_set : GoodIn wsX6_step (wsV RX6 91 RX6 yX6_set wsX6_set) := goodIn_app (goodIn_of _ (by decide +kernel)) ggX6_step_X6_set
theorem dX6_step_0 : decode cX6_step 0 = .ok (.aload_n 0, 1) := by decide +kernel
theorem dX6_step_1 : decode cX6_step 1 = .ok (.iload_n 1, 1) := by decide +kernel
theorem dX6_step_2 : decode cX6_step 2 = .ok (.iconst 0, 1) := by decide +kernel
theorem dX6_step_3 : decode cX6_step 3 = .ok (.invokevirtual 39, 3) := by decide +kernel
theorem dX6_step_6 : decode cX6_step 6 = .ok (.iload_n 2, 1) := by decide +kernel
theorem dX6_step_7 : decode cX6_step 7 = .ok (.invokestatic 43, 3) := by decide +kernel
theorem dX6_step_10 : decode cX6_step 10 = .ok (.istore_n 3, 1) := by decide +kernel
theorem dX6_step_11 : decode cX6_step 11 = .ok (.iload_n 3, 1) := by decide +kernel
theorem dX6_step_12 : decode cX6_step 12 = .ok (.iconst (-1), 1) := by decide +kernel
theorem dX6_step_13 : decode cX6_step 13 = .ok (.if_icmp .eq 14, 3) := by decide +kernel
theorem dX6_step_16 : decode cX6_step 16 = .ok (.aload_n 0, 1) := by decide +kernel
theorem dX6_step_17 : decode cX6_step 17 = .ok (.getfield 9, 3) := by decide +kernel
theorem dX6_step_20 : decode cX6_step 20 = .ok (.iload_n 3, 1) := by decide +kernel
theorem dX6_step_21 : decode cX6_step 21 = .ok (.iaload, 1) := by decide +kernel
theorem dX6_step_22 : decode cX6_step 22 = .ok (.bipush 10, 2) := by decide +kernel
theorem dX6_step_24 : decode cX6_step 24 = .ok (.if_icmp .ne 9, 3) := by decide +kernel
theorem dX6_step_27 : decode cX6_step 27 = .ok (.aload_n 0, 1) := by decide +kernel
theorem dX6_step_28 : decode cX6_step 28 = .ok (.iload_n 1, 1) := by decide +kernel
theorem dX6_step_29 : decode cX6_step 29 = .ok (.invokevirtual 104, 3) := by decide +kernel
theorem dX6_step_32 : decode cX6_step 32 = .ok (.return_, 1) := by decide +kernel
theorem dX6_step_33 : decode cX6_step 33 = .ok (.aload_n 0, 1) := by decide +kernel
theorem dX6_step_34 : decode cX6_step 34 = .ok (.iload_n 3, 1) := by decide +kernel
theorem dX6_step_35 : decode cX6_step 35 = .ok (.invokevirtual 46, 3) := by decide +kernel
theorem dX6_step_38 : decode cX6_step 38 = .ok (.ifCond .ne 101, 3) := by decide +kernel
theorem dX6_step_41 : decode cX6_step 41 = .ok (.aload_n 0, 1) := by decide +kernel
theorem dX6_step_42 : decode cX6_step 42 = .ok (.invokevirtual 82, 3) := by decide +kernel
theorem dX6_step_45 : decode cX6_step 45 = .ok (.aload_n 0, 1) := by decide +kernel
theorem dX6_step_46 : decode cX6_step 46 = .ok (.aload_n 0, 1) := by decide +kernel
theorem dX6_step_47 : decode cX6_step 47 = .ok (.iload_n 1, 1) := by decide +kernel
theorem dX6_step_48 : decode cX6_step 48 = .ok (.iconst 0, 1) := by decide +kernel
theorem dX6_step_49 : decode cX6_step 49 = .ok (.invokevirtual 39, 3) := by decide +kernel
theorem dX6_step_52 : decode cX6_step 52 = .ok (.invokevirtual 85, 3) := by decide +kernel
theorem dX6_step_55 : decode cX6_step 55 = .ok (.ifCond .ne 4, 3) := by decide +kernel
theorem dX6_step_58 : decode cX6_step 58 = .ok (.return_, 1) := by decide +kernel
theorem dX6_step_59 : decode cX6_step 59 = .ok (.aload_n 0, 1) := by decide +kernel
theorem dX6_step_60 : decode cX6_step 60 = .ok (.getfield 9, 3) := by decide +kernel
theorem dX6_step_63 : decode cX6_step 63 = .ok (.iload_n 3, 1) := by decide +kernel
theorem dX6_step_64 : decode cX6_step 64 = .ok (.dup2, 1) := by decide +kernel
theorem dX6_step_65 : decode cX6_step 65 = .ok (.iaload, 1) := by decide +kernel
theorem dX6_step_66 : decode cX6_step 66 = .ok (.iconst 1, 1) := by decide +kernel
theorem dX6_step_67 : decode cX6_step 67 = .ok (.isub, 1) := by decide +kernel
theorem dX6_step_68 : decode cX6_step 68 = .ok (.iastore, 1) := by decide +kernel
theorem dX6_step_69 : decode cX6_step 69 = .ok (.aload_n 0, 1) := by decide +kernel
theorem dX6_step_70 : decode cX6_step 70 = .ok (.getfield 9, 3) := by decide +kernel
theorem dX6_step_73 : decode cX6_step 73 = .ok (.iload_n 3, 1) := by decide +kernel
theorem dX6_step_74 : decode cX6_step 74 = .ok (.iaload, 1) := by decide +kernel
theorem dX6_step_75 : decode cX6_step 75 = .ok (.ifCond .le 4, 3) := by decide +kernel
theorem dX6_step_78 : decode cX6_step 78 = .ok (.return_, 1) := by decide +kernel
theorem dX6_step_79 : decode cX6_step 79 = .ok (.aload_n 0, 1) := by decide +kernel
theorem dX6_step_80 : decode cX6_step 80 = .ok (.iload_n 3, 1) := by decide +kernel
theorem dX6_step_81 : decode cX6_step 81 = .ok (.iconst 0, 1) := by decide +kernel
theorem dX6_step_82 : decode cX6_step 82 = .ok (.invokevirtual 72, 3) := by decide +kernel
theorem dX6_step_85 : decode cX6_step 85 = .ok (.aload_n 0, 1) := by decide +kernel
theorem dX6_step_86 : decode cX6_step 86 = .ok (.iload_n 1, 1) := by decide +kernel
theorem dX6_step_87 : decode cX6_step 87 = .ok (.iconst 5, 1) := by decide +kernel
theorem dX6_step_88 : decode cX6_step 88 = .ok (.iconst 1, 1) := by decide +kernel
theorem dX6_step_89 : decode cX6_step 89 = .ok (.invokevirtual 98, 3) := by decide +kernel
theorem dX6_step_92 : decode cX6_step 92 = .ok (.aload_n 0, 1) := by decide +kernel
theorem dX6_step_93 : decode cX6_step 93 = .ok (.getfield 22, 3) := by decide +kernel
theorem dX6_step_96 : decode cX6_step 96 = .ok (.iconst 3, 1) := by decide +kernel
theorem dX6_step_97 : decode cX6_step 97 = .ok (.dup2, 1) := by decide +kernel
theorem dX6_step_98 : decode cX6_step 98 = .ok (.iaload, 1) := by decide +kernel
theorem dX6_step_99 : decode cX6_step 99 = .ok (.iconst 1, 1) := by decide +kernel
theorem dX6_step_100 : decode cX6_step 100 = .ok (.iadd, 1) := by decide +kernel
theorem dX6_step_101 : decode cX6_step 101 = .ok (.iastore, 1) := by decide +kernel
theorem dX6_step_102 : decode cX6_step 102 = .ok (.iconst 0, 1) := by decide +kernel
theorem dX6_step_103 : decode cX6_step 103 = .ok (.istore 4, 2) := by decide +kernel
theorem dX6_step_105 : decode cX6_step 105 = .ok (.iload 4, 2) := by decide +kernel
theorem dX6_step_107 : decode cX6_step 107 = .ok (.aload_n 0, 1) := by decide +kernel
theorem dX6_step_108 : decode cX6_step 108 = .ok (.getfield 36, 3) := by decide +kernel
theorem dX6_step_111 : decode cX6_step 111 = .ok (.if_icmp .ge 28, 3) := by decide +kernel
theorem dX6_step_114 : decode cX6_step 114 = .ok (.aload_n 0, 1) := by decide +kernel
theorem dX6_step_115 : decode cX6_step 115 = .ok (.iload 4, 2) := by decide +kernel
theorem dX6_step_117 : decode cX6_step 117 = .ok (.iconst 0, 1) := by decide +kernel
theorem dX6_step_118 : decode cX6_step 118 = .ok (.invokevirtual 39, 3) := by decide +kernel
theorem dX6_step_121 : decode cX6_step 121 = .ok (.iload_n 3, 1) := by decide +kernel
theorem dX6_step_122 : decode cX6_step 122 = .ok (.if_icmp .ne 11, 3) := by decide +kernel
theorem dX6_step_125 : decode cX6_step 125 = .ok (.aload_n 0, 1) := by decide +kernel
theorem dX6_step_126 : decode cX6_step 126 = .ok (.iload 4, 2) := by decide +kernel
theorem dX6_step_128 : decode cX6_step 128 = .ok (.iconst 4, 1) := by decide +kernel
theorem dX6_step_129 : decode cX6_step 129 = .ok (.iconst 0, 1) := by decide +kernel
theorem dX6_step_130 : decode cX6_step 130 = .ok (.invokevirtual 91, 3) := by decide +kernel
theorem dX6_step_133 : decode cX6_step 133 = .ok (.iinc 4 1, 3) := by decide +kernel
theorem dX6_step_136 : decode cX6_step 136 = .ok (.goto (-31), 3) := by decide +kernel
theorem dX6_step_139 : decode cX6_step 139 = .ok (.aload_n 0, 1) := by decide +kernel
theorem dX6_step_140 : decode cX6_step 140 = .ok (.iload_n 1, 1) := by decide +kernel
theorem dX6_step_141 : decode cX6_step 141 = .ok (.iconst 0, 1) := by decide +kernel
theorem dX6_step_142 : decode cX6_step 142 = .ok (.iload_n 3, 1) := by decide +kernel
theorem dX6_step_143 : decode cX6_step 143 = .ok (.invokevirtual 91, 3) := by decide +kernel
theorem dX6_step_146 : decode cX6_step 146 = .ok (.aload_n 0, 1) := by decide +kernel
theorem dX6_step_147 : decode cX6_step 147 = .ok (.iload_n 1, 1) := by decide +kernel
theorem dX6_step_148 : decode cX6_step 148 = .ok (.invokevirtual 104, 3) := by decide +kernel
theorem dX6_step_151 : decode cX6_step 151 = .ok (.return_, 1) := by decide +kernel
set_option maxRecDepth 20000 in
theorem ggX6_trade_X6_isFree : GoodIn wsX6_trade wsX6_isFree := goodIn_r _ [7, 8, 9, 10, 6, 11, 12, 31, 32, 33, 34, 35, 36, 37, 38] (by decide +kernel) (by decide +kernel)
set_option maxRecDepth 20000 in
theorem gX6_trade_X6_isFree : GoodIn wsX6_trade (wsV RX6 53 RX6 yX6_isFree wsX6_isFree) := goodIn_app (goodIn_of _ (by decide +kernel)) ggX6_trade_X6_isFree
set_option maxRecDepth 20000 in
theorem ggX6_trade_X6_get : GoodIn wsX6_trade wsX6_get := goodIn_r _ [11, 12, 31, 32, 33, 34, 35, 36, 37, 38] (by decide +kernel) (by decide +kernel)
set_option maxRecDepth 20000 in
theorem gX6_trade_X6_get : GoodIn wsX6_trade (wsV RX6 39 RX6 yX6_get wsX6_get) := goodIn_app (goodIn_of _ (by decide +kernel)) ggX6_trade_X6_get
set_option maxRecDepth 20000 in
theorem ggX6_trade_X6_isNear : GoodIn wsX6_trade wsX6_isNear := goodIn_r _ [15, 16, 17, 6, 18] (by decide +kernel) (by decide +kernel)
set_option maxRecDepth 20000 in
theorem gX6_trade_X6_isNear : GoodIn wsX6_trade (va_wsS RX6 107 yX6_isNear wsX6_isNear) := goodIn_app (goodIn_of _ (by decide +kernel)) ggX6_trade_X6_isNear
set_option maxRecDepth 20000 in
theorem ggX6_trade_X6_add : GoodIn wsX6_trade wsX6_add := goodIn_r _ [22, 12, 31, 32, 33, 34, 35, 36, 37, 38] (by decide +kernel) (by decide +kernel)
set_option maxRecDepth 20000 in
theorem gX6_trade_X6_add : GoodIn wsX6_trade (wsV RX6 98 RX6 yX6_add wsX6_add) := goodIn_app (goodIn_of _ (by decide +kernel)) ggX6_trade_X6_add
set_option maxRecDepth 20000 in
theorem ggX6_trade_X6_done : GoodIn wsX6_trade wsX6_done := goodIn_r _ [26, 8, 9, 10, 6, 11, 12, 27, 28, 29, 30, 19, 20, 21, 22, 31, 32, 33, 34, 35, 36, 37, 38] (by decide +kernel) (by decide +kernel)
set_option maxRecDepth 20000 in
theorem gX6_trade_X6_done : GoodIn wsX6_trade (wsV RX6 104 RX6 yX6_done wsX6_done) := goodIn_app (goodIn_of _ (by decide +kernel)) ggX6_trade_X6_done
theorem dX6_trade_0 : decode cX6_trade 0 = .ok (.iconst (-1), 1) := by decide +kernel
theorem dX6_trade_1 : decode cX6_trade 1 = .ok (.istore_n 2, 1) := by decide +kernel
theorem dX6_trade_2 : decode cX6_trade 2 = .ok (.aload_n 0, 1) := by decide +kernel
theorem dX6_trade_3 : decode cX6_trade 3 = .ok (.getfield 36, 3) := by decide +kernel
theorem dX6_trade_6 : decode cX6_trade 6 = .ok (.iconst 1, 1) := by decide +kernel
theorem dX6_trade_7 : decode cX6_trade 7 = .ok (.isub, 1) := by decide +kernel
theorem dX6_trade_8 : decode cX6_trade 8 = .ok (.istore_n 3, 1) := by decide +kernel
theorem dX6_trade_9 : decode cX6_trade 9 = .ok (.iload_n 3, 1) := by decide +kernel
theorem dX6_trade_10 : decode cX6_trade 10 = .ok (.ifCond .lt 42, 3) := by decide +kernel
theorem dX6_trade_13 : decode cX6_trade 13 = .ok (.iload_n 3, 1) := by decide +kernel
theorem dX6_trade_14 : decode cX6_trade 14 = .ok (.iload_n 1, 1) := by decide +kernel
theorem dX6_trade_15 : decode cX6_trade 15 = .ok (.if_icmp .eq 31, 3) := by decide +kernel
theorem dX6_trade_18 : decode cX6_trade 18 = .ok (.aload_n 0, 1) := by decide +kernel
theorem dX6_trade_19 : decode cX6_trade 19 = .ok (.iload_n 3, 1) := by decide +kernel
theorem dX6_trade_20 : decode cX6_trade 20 = .ok (.invokevirtual 53, 3) := by decide +kernel
theorem dX6_trade_23 : decode cX6_trade 23 = .ok (.ifCond .eq 23, 3) := by decide +kernel
theorem dX6_trade_26 : decode cX6_trade 26 = .ok (.aload_n 0, 1) := by decide +kernel
theorem dX6_trade_27 : decode cX6_trade 27 = .ok (.iload_n 1, 1) := by decide +kernel
theorem dX6_trade_28 : decode cX6_trade 28 = .ok (.iconst 0, 1) := by decide +kernel
theorem dX6_trade_29 : decode cX6_trade 29 = .ok (.invokevirtual 39, 3) := by decide +kernel
theorem dX6_trade_32 : decode cX6_trade 32 = .ok (.aload_n 0, 1) := by decide +kernel
theorem dX6_trade_33 : decode cX6_trade 33 = .ok (.iload_n 3, 1) := by decide +kernel
theorem dX6_trade_34 : decode cX6_trade 34 = .ok (.iconst 0, 1) := by decide +kernel
theorem dX6_trade_35 : decode cX6_trade 35 = .ok (.invokevirtual 39, 3) := by decide +kernel
theorem dX6_trade_38 : decode cX6_trade 38 = .ok (.invokestatic 107, 3) := by decide +kernel
theorem dX6_trade_41 : decode cX6_trade 41 = .ok (.ifCond .eq 5, 3) := by decide +kernel
theorem dX6_trade_44 : decode cX6_trade 44 = .ok (.iload_n 3, 1) := by decide +kernel
theorem dX6_trade_45 : decode cX6_trade 45 = .ok (.istore_n 2, 1) := by decide +kernel
theorem dX6_trade_46 : decode cX6_trade 46 = .ok (.iinc 3 (-1), 3) := by decide +kernel
theorem dX6_trade_49 : decode cX6_trade 49 = .ok (.goto (-40), 3) := by decide +kernel
theorem dX6_trade_52 : decode cX6_trade 52 = .ok (.iload_n 2, 1) := by decide +kernel
theorem dX6_trade_53 : decode cX6_trade 53 = .ok (.iconst (-1), 1) := by decide +kernel
theorem dX6_trade_54 : decode cX6_trade 54 = .ok (.if_icmp .ne 4, 3) := by decide +kernel
theorem dX6_trade_57 : decode cX6_trade 57 = .ok (.return_, 1) := by decide +kernel
theorem dX6_trade_58 : decode cX6_trade 58 = .ok (.aload_n 0, 1) := by decide +kernel
theorem dX6_trade_59 : decode cX6_trade 59 = .ok (.iload_n 1, 1) := by decide +kernel
theorem dX6_trade_60 : decode cX6_trade 60 = .ok (.iconst 2, 1) := by decide +kernel
theorem dX6_trade_61 : decode cX6_trade 61 = .ok (.invokevirtual 39, 3) := by decide +kernel
theorem dX6_trade_64 : decode cX6_trade 64 = .ok (.aload_n 0, 1) := by decide +kernel
theorem dX6_trade_65 : decode cX6_trade 65 = .ok (.iload_n 2, 1) := by decide +kernel
theorem dX6_trade_66 : decode cX6_trade 66 = .ok (.iconst 2, 1) := by decide +kernel
theorem dX6_trade_67 : decode cX6_trade 67 = .ok (.invokevirtual 39, 3) := by decide +kernel
theorem dX6_trade_70 : decode cX6_trade 70 = .ok (.isub, 1) := by decide +kernel
theorem dX6_trade_71 : decode cX6_trade 71 = .ok (.istore_n 3, 1) := by decide +kernel
theorem dX6_trade_72 : decode cX6_trade 72 = .ok (.iload_n 3, 1) := by decide +kernel
theorem dX6_trade_73 : decode cX6_trade 73 = .ok (.iconst 2, 1) := by decide +kernel
theorem dX6_trade_74 : decode cX6_trade 74 = .ok (.if_icmp .ge 9, 3) := by decide +kernel
theorem dX6_trade_77 : decode cX6_trade 77 = .ok (.iload_n 3, 1) := by decide +kernel
theorem dX6_trade_78 : decode cX6_trade 78 = .ok (.bipush (-2), 2) := by decide +kernel
theorem dX6_trade_80 : decode cX6_trade 80 = .ok (.if_icmp .gt 43, 3) := by decide +kernel
theorem dX6_trade_83 : decode cX6_trade 83 = .ok (.aload_n 0, 1) := by decide +kernel
theorem dX6_trade_84 : decode cX6_trade 84 = .ok (.iload_n 1, 1) := by decide +kernel
theorem dX6_trade_85 : decode cX6_trade 85 = .ok (.iconst 2, 1) := by decide +kernel
theorem dX6_trade_86 : decode cX6_trade 86 = .ok (.iload_n 3, 1) := by decide +kernel
theorem dX6_trade_87 : decode cX6_trade 87 = .ok (.ifCond .le 7, 3) := by decide +kernel
theorem dX6_trade_90 : decode cX6_trade 90 = .ok (.iconst (-1), 1) := by decide +kernel
theorem dX6_trade_91 : decode cX6_trade 91 = .ok (.goto 4, 3) := by decide +kernel
theorem dX6_trade_94 : decode cX6_trade 94 = .ok (.iconst 1, 1) := by decide +kernel
theorem dX6_trade_95 : decode cX6_trade 95 = .ok (.invokevirtual 98, 3) := by decide +kernel
theorem dX6_trade_98 : decode cX6_trade 98 = .ok (.aload_n 0, 1) := by decide +kernel
theorem dX6_trade_99 : decode cX6_trade 99 = .ok (.iload_n 2, 1) := by decide +kernel
theorem dX6_trade_100 : decode cX6_trade 100 = .ok (.iconst 2, 1) := by decide +kernel
theorem dX6_trade_101 : decode cX6_trade 101 = .ok (.iload_n 3, 1) := by decide +kernel
theorem dX6_trade_102 : decode cX6_trade 102 = .ok (.ifCond .le 7, 3) := by decide +kernel
theorem dX6_trade_105 : decode cX6_trade 105 = .ok (.iconst 1, 1) := by decide +kernel
theorem dX6_trade_106 : decode cX6_trade 106 = .ok (.goto 4, 3) := by decide +kernel
theorem dX6_trade_109 : decode cX6_trade 109 = .ok (.iconst (-1), 1) := by decide +kernel
theorem dX6_trade_110 : decode cX6_trade 110 = .ok (.invokevirtual 98, 3) := by decide +kernel
theorem dX6_trade_113 : decode cX6_trade 113 = .ok (.aload_n 0, 1) := by decide +kernel
theorem dX6_trade_114 : decode cX6_trade 114 = .ok (.getfield 22, 3) := by decide +kernel
theorem dX6_trade_117 : decode cX6_trade 117 = .ok (.iconst 2, 1) := by decide +kernel
theorem dX6_trade_118 : decode cX6_trade 118 = .ok (.dup2, 1) := by decide +kernel
theorem dX6_trade_119 : decode cX6_trade 119 = .ok (.iaload, 1) := by decide +kernel
theorem dX6_trade_120 : decode cX6_trade 120 = .ok (.iconst 1, 1) := by decide +kernel
theorem dX6_trade_121 : decode cX6_trade 121 = .ok (.iadd, 1) := by decide +kernel
theorem dX6_trade_122 : decode cX6_trade 122 = .ok (.iastore, 1) := by decide +kernel
theorem dX6_trade_123 : decode cX6_trade 123 = .ok (.aload_n 0, 1) := by decide +kernel
theorem dX6_trade_124 : decode cX6_trade 124 = .ok (.iload_n 1, 1) := by decide +kernel
theorem dX6_trade_125 : decode cX6_trade 125 = .ok (.invokevirtual 104, 3) := by decide +kernel
theorem dX6_trade_128 : decode cX6_trade 128 = .ok (.return_, 1) := by decide +kernel
set_option maxRecDepth 20000 in
theorem ggX6_act_X6_get : GoodIn wsX6_act wsX6_get := goodIn_r _ [6, 7, 67, 68, 69, 70, 71, 72, 73, 74] (by decide +kernel) (by decide +kernel)
set_option maxRecDepth 20000 in
theorem gX6_act_X6_get : GoodIn wsX6_act (wsV RX6 39 RX6 yX6_get wsX6_get) := goodIn_app (goodIn_of _ (by decide +kernel)) ggX6_act_X6_get
set_option maxRecDepth 20000 in
theorem ggX6_act_X6_step : GoodIn wsX6_act wsX6_step := goodIn_r _ [11, 12, 13, 14, 2, 3, 4, 5, 6, 7, 15, 16, 17, 18, 19, 20, 21, 22, 23, 24, 25, 26, 27, 28, 29, 30, 31, 32, 33, 34, 35, 36, 37, 38, 39, 40, 41, 42, 43, 44, 45, 46, 47, 48, 49, 50, 51, 52, 53, 54, 55, 56, 57, 58, 59, 1, 67, 68, 69, 70, 71, 72, 73, 74] (by decide +kernel) (by decide +kernel)
set_option maxRecDepth 20000 in
theorem gX6_act_X6_step : GoodIn wsX6_act (wsV RX6 110 RX6 yX6_step wsX6_step) := goodIn_app (goodIn_of _ (by decide +kernel)) ggX6_act_X6_step
set_option maxRecDepth 20000 in
theorem ggX6_act_X6_trade : GoodIn wsX6_act wsX6_trade := goodIn_r _ [63, 14, 13, 43, 44, 45, 5, 46, 2, 3, 4, 6, 7, 64, 65, 66, 15, 16, 17, 26, 27, 28, 29, 18, 19, 20, 21, 22, 23, 24, 25, 67, 68, 69, 70, 71, 72, 73, 74] (by decide +kernel) (by decide +kernel)
set_option maxRecDepth 20000 in
theorem gX6_act_X6_trade : GoodIn wsX6_act (wsV RX6 113 RX6 yX6_trade wsX6_trade) := goodIn_app (goodIn_of _ (by decide +kernel)) ggX6_act_X6_trade
set_option maxRecDepth 20000 in
theorem ggX6_act_X6_add : GoodIn wsX6_act wsX6_add := goodIn_r _ [29, 7, 67, 68, 69, 70, 71, 72, 73, 74] (by decide +kernel) (by decide +kernel)
set_option maxRecDepth 20000 in
theorem gX6_act_X6_add : GoodIn wsX6_act (wsV RX6 98 RX6 yX6_add wsX6_add) := goodIn_app (goodIn_of _ (by decide +kernel)) ggX6_act_X6_add
set_option maxRecDepth 20000 in
theorem ggX6_act_X6_done : GoodIn wsX6_act wsX6_done := goodIn_r _ [21, 2, 3, 4, 5, 6, 7, 22, 23, 24, 25, 26, 27, 28, 29, 67, 68, 69, 70, 71, 72, 73, 74] (by decide +kernel) (by decide +kernel)
set_option maxRecDepth 20000 in
theorem gX6_act_X6_done : GoodIn wsX6_act (wsV RX6 104 RX6 yX6_done wsX6_done) := goodIn_app (goodIn_of _ (by decide +kernel)) ggX6_act_X6_done
theorem dX6_act_0 : decode cX6_act 0 = .ok (.aload_n 0, 1) := by decide +kernel
theorem dX6_act_1 : decode cX6_act 1 = .ok (.iload_n 1, 1) := by decide +kernel
theorem dX6_act_2 : decode cX6_act 2 = .ok (.bipush 7, 2) := by decide +kernel
theorem dX6_act_4 : decode cX6_act 4 = .ok (.invokevirtual 39, 3) := by decide +kernel
theorem dX6_act_7 : decode cX6_act 7 = .ok (.istore_n 2, 1) := by decide +kernel
theorem dX6_act_8 : decode cX6_act 8 = .ok (.aload_n 0, 1) := by decide +kernel
theorem dX6_act_9 : decode cX6_act 9 = .ok (.iload_n 1, 1) := by decide +kernel
theorem dX6_act_10 : decode cX6_act 10 = .ok (.iconst 0, 1) := by decide +kernel
theorem dX6_act_11 : decode cX6_act 11 = .ok (.invokevirtual 39, 3) := by decide +kernel
theorem dX6_act_14 : decode cX6_act 14 = .ok (.istore_n 3, 1) := by decide +kernel
theorem dX6_act_15 : decode cX6_act 15 = .ok (.iload_n 2, 1) := by decide +kernel
theorem dX6_act_16 : decode cX6_act 16 = .ok (.iconst 4, 1) := by decide +kernel
theorem dX6_act_17 : decode cX6_act 17 = .ok (.if_icmp .ge 12, 3) := by decide +kernel
theorem dX6_act_20 : decode cX6_act 20 = .ok (.aload_n 0, 1) := by decide +kernel
theorem dX6_act_21 : decode cX6_act 21 = .ok (.iload_n 1, 1) := by decide +kernel
theorem dX6_act_22 : decode cX6_act 22 = .ok (.iload_n 2, 1) := by decide +kernel
theorem dX6_act_23 : decode cX6_act 23 = .ok (.invokevirtual 110, 3) := by decide +kernel
theorem dX6_act_26 : decode cX6_act 26 = .ok (.goto 59, 3) := by decide +kernel
theorem dX6_act_29 : decode cX6_act 29 = .ok (.iload_n 2, 1) := by decide +kernel
theorem dX6_act_30 : decode cX6_act 30 = .ok (.bipush 6, 2) := by decide +kernel
theorem dX6_act_32 : decode cX6_act 32 = .ok (.if_icmp .ne 11, 3) := by decide +kernel
theorem dX6_act_35 : decode cX6_act 35 = .ok (.aload_n 0, 1) := by decide +kernel
theorem dX6_act_36 : decode cX6_act 36 = .ok (.iload_n 1, 1) := by decide +kernel
theorem dX6_act_37 : decode cX6_act 37 = .ok (.invokevirtual 113, 3) := by decide +kernel
theorem dX6_act_40 : decode cX6_act 40 = .ok (.goto 45, 3) := by decide +kernel
theorem dX6_act_43 : decode cX6_act 43 = .ok (.iload_n 2, 1) := by decide +kernel
theorem dX6_act_44 : decode cX6_act 44 = .ok (.iconst 4, 1) := by decide +kernel
theorem dX6_act_45 : decode cX6_act 45 = .ok (.if_icmp .ne 35, 3) := by decide +kernel
theorem dX6_act_48 : decode cX6_act 48 = .ok (.aload_n 0, 1) := by decide +kernel
theorem dX6_act_49 : decode cX6_act 49 = .ok (.getfield 16, 3) := by decide +kernel
theorem dX6_act_52 : decode cX6_act 52 = .ok (.iload_n 3, 1) := by decide +kernel
theorem dX6_act_53 : decode cX6_act 53 = .ok (.iaload, 1) := by decide +kernel
theorem dX6_act_54 : decode cX6_act 54 = .ok (.ifCond .ne 26, 3) := by decide +kernel
theorem dX6_act_57 : decode cX6_act 57 = .ok (.aload_n 0, 1) := by decide +kernel
theorem dX6_act_58 : decode cX6_act 58 = .ok (.iload_n 1, 1) := by decide +kernel
theorem dX6_act_59 : decode cX6_act 59 = .ok (.iconst 1, 1) := by decide +kernel
theorem dX6_act_60 : decode cX6_act 60 = .ok (.invokevirtual 39, 3) := by decide +kernel
theorem dX6_act_63 : decode cX6_act 63 = .ok (.ifCond .le 17, 3) := by decide +kernel
theorem dX6_act_66 : decode cX6_act 66 = .ok (.aload_n 0, 1) := by decide +kernel
theorem dX6_act_67 : decode cX6_act 67 = .ok (.getfield 16, 3) := by decide +kernel
theorem dX6_act_70 : decode cX6_act 70 = .ok (.iload_n 3, 1) := by decide +kernel
theorem dX6_act_71 : decode cX6_act 71 = .ok (.iconst 1, 1) := by decide +kernel
theorem dX6_act_72 : decode cX6_act 72 = .ok (.iastore, 1) := by decide +kernel
theorem dX6_act_73 : decode cX6_act 73 = .ok (.aload_n 0, 1) := by decide +kernel
theorem dX6_act_74 : decode cX6_act 74 = .ok (.iload_n 1, 1) := by decide +kernel
theorem dX6_act_75 : decode cX6_act 75 = .ok (.iconst 1, 1) := by decide +kernel
theorem dX6_act_76 : decode cX6_act 76 = .ok (.iconst (-1), 1) := by decide +kernel
theorem dX6_act_77 : decode cX6_act 77 = .ok (.invokevirtual 98, 3) := by decide +kernel
theorem dX6_act_80 : decode cX6_act 80 = .ok (.aload_n 0, 1) := by decide +kernel
theorem dX6_act_81 : decode cX6_act 81 = .ok (.iload_n 1, 1) := by decide +kernel
theorem dX6_act_82 : decode cX6_act 82 = .ok (.invokevirtual 104, 3) := by decide +kernel
theorem dX6_act_85 : decode cX6_act 85 = .ok (.return_, 1) := by decide +kernel
set_option maxRecDepth 20000 in
theorem ggX6_tickOn_X6_isFree : GoodIn wsX6_tickOn wsX6_isFree := goodIn_r _ [13, 14, 15, 16, 12, 17, 18, 79, 80, 81, 82, 83, 84, 85, 86] (by decide +kernel) (by decide +kernel)
set_option maxRecDepth 20000 in
theorem gX6_tickOn_X6_isFree : GoodIn wsX6_tickOn (wsV RX6 53 RX6 yX6_isFree wsX6_isFree) := goodIn_app (goodIn_of _ (by decide +kernel)) ggX6_tickOn_X6_isFree
set_option maxRecDepth 20000 in
theorem ggX6_tickOn_X6_get : GoodIn wsX6_tickOn wsX6_get := goodIn_r _ [17, 18, 79, 80, 81, 82, 83, 84, 85, 86] (by decide +kernel) (by decide +kernel)
set_option maxRecDepth 20000 in
theorem gX6_tickOn_X6_get : GoodIn wsX6_tickOn (wsV RX6 39 RX6 yX6_get wsX6_get) := goodIn_app (goodIn_of _ (by decide +kernel)) ggX6_tickOn_X6_get
set_option maxRecDepth 20000 in
theorem ggX6_tickOn_X6_set : GoodIn wsX6_tickOn wsX6_set := goodIn_r _ [22, 18, 79, 80, 81, 82, 83, 84, 85, 86] (by decide +kernel) (by decide +kernel)
set_option maxRecDepth 20000 in
theorem gX6_tickOn_X6_set : GoodIn wsX6_tickOn (wsV RX6 91 RX6 yX6_set wsX6_set) := goodIn_app (goodIn_of _ (by decide +kernel)) ggX6_tickOn_X6_set
set_option maxRecDepth 20000 in
theorem ggX6_tickOn_X6_add : GoodIn wsX6_tickOn wsX6_add := goodIn_r _ [26, 18, 79, 80, 81, 82, 83, 84, 85, 86] (by decide +kernel) (by decide +kernel)
set_option maxRecDepth 20000 in
theorem gX6_tickOn_X6_add : GoodIn wsX6_tickOn (wsV RX6 98 RX6 yX6_add wsX6_add) := goodIn_app (goodIn_of _ (by decide +kernel)) ggX6_tickOn_X6_add
set_option maxRecDepth 20000 in
theorem ggX6_tickOn_X6_act : GoodIn wsX6_tickOn wsX6_act := goodIn_r _ [30, 31, 14, 15, 16, 12, 17, 18, 32, 33, 34, 35, 36, 8, 1, 37, 38, 39, 40, 41, 42, 43, 19, 20, 21, 22, 23, 24, 25, 26, 44, 45, 46, 47, 48, 49, 50, 51, 7, 52, 53, 54, 55, 9, 10, 11, 13, 56, 57, 58, 59, 60, 61, 62, 63, 64, 65, 66, 67, 6, 68, 69, 70, 71, 72, 73, 74, 79, 80, 81, 82, 83, 84, 85, 86] (by decide +kernel) (by decide +kernel)
set_option maxRecDepth 20000 in
theorem gX6_tickOn_X6_act : GoodIn wsX6_tickOn (wsV RX6 121 RX6 yX6_act wsX6_act) := goodIn_app (goodIn_of _ (by decide +kernel)) ggX6_tickOn_X6_act
set_option maxRecDepth 20000 in
theorem ggX6_tickOn_X6_isOpen : GoodIn wsX6_tickOn wsX6_isOpen := goodIn_r _ [47, 36, 79, 80, 81, 82, 83, 84, 85, 86] (by decide +kernel) (by decide +kernel)
set_option maxRecDepth 20000 in
theorem gX6_tickOn_X6_isOpen : GoodIn wsX6_tickOn (wsV RX6 46 RX6 yX6_isOpen wsX6_isOpen) := goodIn_app (goodIn_of _ (by decide +kernel)) ggX6_tickOn_X6_isOpen
set_option maxRecDepth 20000 in
theorem ggX6_tickOn_X6_hold : GoodIn wsX6_tickOn wsX6_hold := goodIn_r _ [78, 31, 7, 52, 53, 54, 12, 55, 44, 45, 46, 47, 36, 56, 57, 58, 59, 37, 38, 39, 79, 80, 81, 82, 83, 84, 85, 86] (by decide +kernel) (by decide +kernel)
set_option maxRecDepth 20000 in
theorem gX6_tickOn_X6_hold : GoodIn wsX6_tickOn (wsV RX6 76 RX6 yX6_hold wsX6_hold) := goodIn_app (goodIn_of _ (by decide +kernel)) ggX6_tickOn_X6_hold
set_option maxRecDepth 20000 in
theorem ggX6_tickOn_X6_lay : GoodIn wsX6_tickOn wsX6_lay := goodIn_r _ [67, 36, 6, 31, 79, 80, 81, 82, 83, 84, 85, 86] (by decide +kernel) (by decide +kernel)
set_option maxRecDepth 20000 in
theorem gX6_tickOn_X6_lay : GoodIn wsX6_tickOn (wsV RX6 72 RX6 yX6_lay wsX6_lay) := goodIn_app (goodIn_of _ (by decide +kernel)) ggX6_tickOn_X6_lay
theorem dX6_tickOn_0 : decode cX6_tickOn 0 = .ok (.iconst 0, 1) := by decide +kernel
theorem dX6_tickOn_1 : decode cX6_tickOn 1 = .ok (.istore_n 1, 1) := by decide +kernel
theorem dX6_tickOn_2 : decode cX6_tickOn 2 = .ok (.iload_n 1, 1) := by decide +kernel
theorem dX6_tickOn_3 : decode cX6_tickOn 3 = .ok (.aload_n 0, 1) := by decide +kernel
theorem dX6_tickOn_4 : decode cX6_tickOn 4 = .ok (.getfield 36, 3) := by decide +kernel
theorem dX6_tickOn_7 : decode cX6_tickOn 7 = .ok (.if_icmp .ge 74, 3) := by decide +kernel
theorem dX6_tickOn_10 : decode cX6_tickOn 10 = .ok (.aload_n 0, 1) := by decide +kernel
theorem dX6_tickOn_11 : decode cX6_tickOn 11 = .ok (.iload_n 1, 1) := by decide +kernel
theorem dX6_tickOn_12 : decode cX6_tickOn 12 = .ok (.invokevirtual 53, 3) := by decide +kernel
theorem dX6_tickOn_15 : decode cX6_tickOn 15 = .ok (.ifCond .ne 6, 3) := by decide +kernel
theorem dX6_tickOn_18 : decode cX6_tickOn 18 = .ok (.goto 57, 3) := by decide +kernel
theorem dX6_tickOn_21 : decode cX6_tickOn 21 = .ok (.aload_n 0, 1) := by decide +kernel
theorem dX6_tickOn_22 : decode cX6_tickOn 22 = .ok (.iload_n 1, 1) := by decide +kernel
theorem dX6_tickOn_23 : decode cX6_tickOn 23 = .ok (.iconst 3, 1) := by decide +kernel
theorem dX6_tickOn_24 : decode cX6_tickOn 24 = .ok (.iconst 0, 1) := by decide +kernel
theorem dX6_tickOn_25 : decode cX6_tickOn 25 = .ok (.aload_n 0, 1) := by decide +kernel
theorem dX6_tickOn_26 : decode cX6_tickOn 26 = .ok (.iload_n 1, 1) := by decide +kernel
theorem dX6_tickOn_27 : decode cX6_tickOn 27 = .ok (.iconst 3, 1) := by decide +kernel
theorem dX6_tickOn_28 : decode cX6_tickOn 28 = .ok (.invokevirtual 39, 3) := by decide +kernel
theorem dX6_tickOn_31 : decode cX6_tickOn 31 = .ok (.iconst 1, 1) := by decide +kernel
theorem dX6_tickOn_32 : decode cX6_tickOn 32 = .ok (.isub, 1) := by decide +kernel
theorem dX6_tickOn_33 : decode cX6_tickOn 33 = .ok (.invokestatic 116, 3) := by decide +kernel
theorem dX6_tickOn_36 : decode cX6_tickOn 36 = .ok (.invokevirtual 91, 3) := by decide +kernel
theorem dX6_tickOn_39 : decode cX6_tickOn 39 = .ok (.aload_n 0, 1) := by decide +kernel
theorem dX6_tickOn_40 : decode cX6_tickOn 40 = .ok (.iload_n 1, 1) := by decide +kernel
theorem dX6_tickOn_41 : decode cX6_tickOn 41 = .ok (.iconst 3, 1) := by decide +kernel
theorem dX6_tickOn_42 : decode cX6_tickOn 42 = .ok (.invokevirtual 39, 3) := by decide +kernel
theorem dX6_tickOn_45 : decode cX6_tickOn 45 = .ok (.ifCond .gt 30, 3) := by decide +kernel
theorem dX6_tickOn_48 : decode cX6_tickOn 48 = .ok (.aload_n 0, 1) := by decide +kernel
theorem dX6_tickOn_49 : decode cX6_tickOn 49 = .ok (.iload_n 1, 1) := by decide +kernel
theorem dX6_tickOn_50 : decode cX6_tickOn 50 = .ok (.iconst 2, 1) := by decide +kernel
theorem dX6_tickOn_51 : decode cX6_tickOn 51 = .ok (.invokevirtual 39, 3) := by decide +kernel
theorem dX6_tickOn_54 : decode cX6_tickOn 54 = .ok (.ifCond .ne 6, 3) := by decide +kernel
theorem dX6_tickOn_57 : decode cX6_tickOn 57 = .ok (.goto 18, 3) := by decide +kernel
theorem dX6_tickOn_60 : decode cX6_tickOn 60 = .ok (.aload_n 0, 1) := by decide +kernel
theorem dX6_tickOn_61 : decode cX6_tickOn 61 = .ok (.iload_n 1, 1) := by decide +kernel
theorem dX6_tickOn_62 : decode cX6_tickOn 62 = .ok (.iconst 2, 1) := by decide +kernel
theorem dX6_tickOn_63 : decode cX6_tickOn 63 = .ok (.iconst (-1), 1) := by decide +kernel
theorem dX6_tickOn_64 : decode cX6_tickOn 64 = .ok (.invokevirtual 98, 3) := by decide +kernel
theorem dX6_tickOn_67 : decode cX6_tickOn 67 = .ok (.aload_n 0, 1) := by decide +kernel
theorem dX6_tickOn_68 : decode cX6_tickOn 68 = .ok (.iload_n 1, 1) := by decide +kernel
theorem dX6_tickOn_69 : decode cX6_tickOn 69 = .ok (.iconst 3, 1) := by decide +kernel
theorem dX6_tickOn_70 : decode cX6_tickOn 70 = .ok (.bipush 60, 2) := by decide +kernel
theorem dX6_tickOn_72 : decode cX6_tickOn 72 = .ok (.invokevirtual 91, 3) := by decide +kernel
theorem dX6_tickOn_75 : decode cX6_tickOn 75 = .ok (.iinc 1 1, 3) := by decide +kernel
theorem dX6_tickOn_78 : decode cX6_tickOn 78 = .ok (.goto (-76), 3) := by decide +kernel
theorem dX6_tickOn_81 : decode cX6_tickOn 81 = .ok (.iconst 0, 1) := by decide +kernel
theorem dX6_tickOn_82 : decode cX6_tickOn 82 = .ok (.istore_n 1, 1) := by decide +kernel
theorem dX6_tickOn_83 : decode cX6_tickOn 83 = .ok (.iload_n 1, 1) := by decide +kernel
theorem dX6_tickOn_84 : decode cX6_tickOn 84 = .ok (.aload_n 0, 1) := by decide +kernel
theorem dX6_tickOn_85 : decode cX6_tickOn 85 = .ok (.getfield 36, 3) := by decide +kernel
theorem dX6_tickOn_88 : decode cX6_tickOn 88 = .ok (.if_icmp .ge 32, 3) := by decide +kernel
theorem dX6_tickOn_91 : decode cX6_tickOn 91 = .ok (.aload_n 0, 1) := by decide +kernel
theorem dX6_tickOn_92 : decode cX6_tickOn 92 = .ok (.iload_n 1, 1) := by decide +kernel
theorem dX6_tickOn_93 : decode cX6_tickOn 93 = .ok (.invokevirtual 53, 3) := by decide +kernel
theorem dX6_tickOn_96 : decode cX6_tickOn 96 = .ok (.ifCond .eq 18, 3) := by decide +kernel
theorem dX6_tickOn_99 : decode cX6_tickOn 99 = .ok (.aload_n 0, 1) := by decide +kernel
theorem dX6_tickOn_100 : decode cX6_tickOn 100 = .ok (.iload_n 1, 1) := by decide +kernel
theorem dX6_tickOn_101 : decode cX6_tickOn 101 = .ok (.bipush 6, 2) := by decide +kernel
theorem dX6_tickOn_103 : decode cX6_tickOn 103 = .ok (.invokevirtual 39, 3) := by decide +kernel
theorem dX6_tickOn_106 : decode cX6_tickOn 106 = .ok (.ifCond .le 8, 3) := by decide +kernel
theorem dX6_tickOn_109 : decode cX6_tickOn 109 = .ok (.aload_n 0, 1) := by decide +kernel
theorem dX6_tickOn_110 : decode cX6_tickOn 110 = .ok (.iload_n 1, 1) := by decide +kernel
theorem dX6_tickOn_111 : decode cX6_tickOn 111 = .ok (.invokevirtual 121, 3) := by decide +kernel
theorem dX6_tickOn_114 : decode cX6_tickOn 114 = .ok (.iinc 1 1, 3) := by decide +kernel
theorem dX6_tickOn_117 : decode cX6_tickOn 117 = .ok (.goto (-34), 3) := by decide +kernel
theorem dX6_tickOn_120 : decode cX6_tickOn 120 = .ok (.iconst 0, 1) := by decide +kernel
theorem dX6_tickOn_121 : decode cX6_tickOn 121 = .ok (.istore_n 1, 1) := by decide +kernel
theorem dX6_tickOn_122 : decode cX6_tickOn 122 = .ok (.iload_n 1, 1) := by decide +kernel
theorem dX6_tickOn_123 : decode cX6_tickOn 123 = .ok (.sipush 256, 3) := by decide +kernel
theorem dX6_tickOn_126 : decode cX6_tickOn 126 = .ok (.if_icmp .ge 27, 3) := by decide +kernel
theorem dX6_tickOn_129 : decode cX6_tickOn 129 = .ok (.aload_n 0, 1) := by decide +kernel
theorem dX6_tickOn_130 : decode cX6_tickOn 130 = .ok (.iload_n 1, 1) := by decide +kernel
theorem dX6_tickOn_131 : decode cX6_tickOn 131 = .ok (.invokevirtual 46, 3) := by decide +kernel
theorem dX6_tickOn_134 : decode cX6_tickOn 134 = .ok (.ifCond .eq 13, 3) := by decide +kernel
theorem dX6_tickOn_137 : decode cX6_tickOn 137 = .ok (.aload_n 0, 1) := by decide +kernel
theorem dX6_tickOn_138 : decode cX6_tickOn 138 = .ok (.getfield 13, 3) := by decide +kernel
theorem dX6_tickOn_141 : decode cX6_tickOn 141 = .ok (.iload_n 1, 1) := by decide +kernel
theorem dX6_tickOn_142 : decode cX6_tickOn 142 = .ok (.dup2, 1) := by decide +kernel
theorem dX6_tickOn_143 : decode cX6_tickOn 143 = .ok (.iaload, 1) := by decide +kernel
theorem dX6_tickOn_144 : decode cX6_tickOn 144 = .ok (.iconst 1, 1) := by decide +kernel
theorem dX6_tickOn_145 : decode cX6_tickOn 145 = .ok (.iadd, 1) := by decide +kernel
theorem dX6_tickOn_146 : decode cX6_tickOn 146 = .ok (.iastore, 1) := by decide +kernel
theorem dX6_tickOn_147 : decode cX6_tickOn 147 = .ok (.iinc 1 1, 3) := by decide +kernel
theorem dX6_tickOn_150 : decode cX6_tickOn 150 = .ok (.goto (-28), 3) := by decide +kernel
theorem dX6_tickOn_153 : decode cX6_tickOn 153 = .ok (.aload_n 0, 1) := by decide +kernel
theorem dX6_tickOn_154 : decode cX6_tickOn 154 = .ok (.invokevirtual 76, 3) := by decide +kernel
theorem dX6_tickOn_157 : decode cX6_tickOn 157 = .ok (.iconst 0, 1) := by decide +kernel
theorem dX6_tickOn_158 : decode cX6_tickOn 158 = .ok (.istore_n 1, 1) := by decide +kernel
theorem dX6_tickOn_159 : decode cX6_tickOn 159 = .ok (.iload_n 1, 1) := by decide +kernel
theorem dX6_tickOn_160 : decode cX6_tickOn 160 = .ok (.sipush 256, 3) := by decide +kernel
theorem dX6_tickOn_163 : decode cX6_tickOn 163 = .ok (.if_icmp .ge 90, 3) := by decide +kernel
theorem dX6_tickOn_166 : decode cX6_tickOn 166 = .ok (.aload_n 0, 1) := by decide +kernel
theorem dX6_tickOn_167 : decode cX6_tickOn 167 = .ok (.iload_n 1, 1) := by decide +kernel
theorem dX6_tickOn_168 : decode cX6_tickOn 168 = .ok (.invokevirtual 46, 3) := by decide +kernel
theorem dX6_tickOn_171 : decode cX6_tickOn 171 = .ok (.ifCond .eq 76, 3) := by decide +kernel
theorem dX6_tickOn_174 : decode cX6_tickOn 174 = .ok (.aload_n 0, 1) := by decide +kernel
theorem dX6_tickOn_175 : decode cX6_tickOn 175 = .ok (.getfield 13, 3) := by decide +kernel
theorem dX6_tickOn_178 : decode cX6_tickOn 178 = .ok (.iload_n 1, 1) := by decide +kernel
theorem dX6_tickOn_179 : decode cX6_tickOn 179 = .ok (.iaload, 1) := by decide +kernel
theorem dX6_tickOn_180 : decode cX6_tickOn 180 = .ok (.bipush 12, 2) := by decide +kernel
theorem dX6_tickOn_182 : decode cX6_tickOn 182 = .ok (.if_icmp .lt 65, 3) := by decide +kernel
theorem dX6_tickOn_185 : decode cX6_tickOn 185 = .ok (.aload_n 0, 1) := by decide +kernel
theorem dX6_tickOn_186 : decode cX6_tickOn 186 = .ok (.getfield 25, 3) := by decide +kernel
theorem dX6_tickOn_189 : decode cX6_tickOn 189 = .ok (.iload_n 1, 1) := by decide +kernel
theorem dX6_tickOn_190 : decode cX6_tickOn 190 = .ok (.iaload, 1) := by decide +kernel
theorem dX6_tickOn_191 : decode cX6_tickOn 191 = .ok (.iconst (-1), 1) := by decide +kernel
theorem dX6_tickOn_192 : decode cX6_tickOn 192 = .ok (.if_icmp .eq 6, 3) := by decide +kernel
theorem dX6_tickOn_195 : decode cX6_tickOn 195 = .ok (.goto 52, 3) := by decide +kernel
theorem dX6_tickOn_198 : decode cX6_tickOn 198 = .ok (.aload_n 0, 1) := by decide +kernel
theorem dX6_tickOn_199 : decode cX6_tickOn 199 = .ok (.iload_n 1, 1) := by decide +kernel
theorem dX6_tickOn_200 : decode cX6_tickOn 200 = .ok (.iconst 2, 1) := by decide +kernel
theorem dX6_tickOn_201 : decode cX6_tickOn 201 = .ok (.invokevirtual 72, 3) := by decide +kernel
theorem dX6_tickOn_204 : decode cX6_tickOn 204 = .ok (.aload_n 0, 1) := by decide +kernel
theorem dX6_tickOn_205 : decode cX6_tickOn 205 = .ok (.getfield 22, 3) := by decide +kernel
theorem dX6_tickOn_208 : decode cX6_tickOn 208 = .ok (.iconst 1, 1) := by decide +kernel
theorem dX6_tickOn_209 : decode cX6_tickOn 209 = .ok (.dup2, 1) := by decide +kernel
theorem dX6_tickOn_210 : decode cX6_tickOn 210 = .ok (.iaload, 1) := by decide +kernel
theorem dX6_tickOn_211 : decode cX6_tickOn 211 = .ok (.iconst 1, 1) := by decide +kernel
theorem dX6_tickOn_212 : decode cX6_tickOn 212 = .ok (.iadd, 1) := by decide +kernel
theorem dX6_tickOn_213 : decode cX6_tickOn 213 = .ok (.iastore, 1) := by decide +kernel
theorem dX6_tickOn_214 : decode cX6_tickOn 214 = .ok (.iconst 0, 1) := by decide +kernel
theorem dX6_tickOn_215 : decode cX6_tickOn 215 = .ok (.istore_n 2, 1) := by decide +kernel
theorem dX6_tickOn_216 : decode cX6_tickOn 216 = .ok (.iload_n 2, 1) := by decide +kernel
theorem dX6_tickOn_217 : decode cX6_tickOn 217 = .ok (.aload_n 0, 1) := by decide +kernel
theorem dX6_tickOn_218 : decode cX6_tickOn 218 = .ok (.getfield 36, 3) := by decide +kernel
theorem dX6_tickOn_221 : decode cX6_tickOn 221 = .ok (.if_icmp .ge 26, 3) := by decide +kernel
theorem dX6_tickOn_224 : decode cX6_tickOn 224 = .ok (.aload_n 0, 1) := by decide +kernel
theorem dX6_tickOn_225 : decode cX6_tickOn 225 = .ok (.iload_n 2, 1) := by decide +kernel
theorem dX6_tickOn_226 : decode cX6_tickOn 226 = .ok (.iconst 0, 1) := by decide +kernel
theorem dX6_tickOn_227 : decode cX6_tickOn 227 = .ok (.invokevirtual 39, 3) := by decide +kernel
theorem dX6_tickOn_230 : decode cX6_tickOn 230 = .ok (.iload_n 1, 1) := by decide +kernel
theorem dX6_tickOn_231 : decode cX6_tickOn 231 = .ok (.if_icmp .ne 10, 3) := by decide +kernel
theorem dX6_tickOn_234 : decode cX6_tickOn 234 = .ok (.aload_n 0, 1) := by decide +kernel
theorem dX6_tickOn_235 : decode cX6_tickOn 235 = .ok (.iload_n 2, 1) := by decide +kernel
theorem dX6_tickOn_236 : decode cX6_tickOn 236 = .ok (.iconst 4, 1) := by decide +kernel
theorem dX6_tickOn_237 : decode cX6_tickOn 237 = .ok (.iconst 1, 1) := by decide +kernel
theorem dX6_tickOn_238 : decode cX6_tickOn 238 = .ok (.invokevirtual 91, 3) := by decide +kernel
theorem dX6_tickOn_241 : decode cX6_tickOn 241 = .ok (.iinc 2 1, 3) := by decide +kernel
theorem dX6_tickOn_244 : decode cX6_tickOn 244 = .ok (.goto (-28), 3) := by decide +kernel
theorem dX6_tickOn_247 : decode cX6_tickOn 247 = .ok (.iinc 1 1, 3) := by decide +kernel
theorem dX6_tickOn_250 : decode cX6_tickOn 250 = .ok (.goto (-91), 3) := by decide +kernel
theorem dX6_tickOn_253 : decode cX6_tickOn 253 = .ok (.aload_n 0, 1) := by decide +kernel
theorem dX6_tickOn_254 : decode cX6_tickOn 254 = .ok (.getfield 22, 3) := by decide +kernel
theorem dX6_tickOn_257 : decode cX6_tickOn 257 = .ok (.iconst 0, 1) := by decide +kernel
theorem dX6_tickOn_258 : decode cX6_tickOn 258 = .ok (.dup2, 1) := by decide +kernel
theorem dX6_tickOn_259 : decode cX6_tickOn 259 = .ok (.iaload, 1) := by decide +kernel
theorem dX6_tickOn_260 : decode cX6_tickOn 260 = .ok (.iconst 1, 1) := by decide +kernel
theorem dX6_tickOn_261 : decode cX6_tickOn 261 = .ok (.iadd, 1) := by decide +kernel
theorem dX6_tickOn_262 : decode cX6_tickOn 262 = .ok (.iastore, 1) := by decide +kernel
theorem dX6_tickOn_263 : decode cX6_tickOn 263 = .ok (.return_, 1) := by decide +kernel
set_option maxRecDepth 20000 in
theorem ggX6_pass_X6_isIn : GoodIn wsX6_pass wsX6_isIn := goodIn_r _ [6] (by decide +kernel) (by decide +kernel)
set_option maxRecDepth 20000 in
theorem gX6_pass_X6_isIn : GoodIn wsX6_pass (va_wsS RX6 32 yX6_isIn wsX6_isIn) := goodIn_app (goodIn_of _ (by decide +kernel)) ggX6_pass_X6_isIn
set_option maxRecDepth 20000 in
theorem ggX6_pass_X6_fail : GoodIn wsX6_pass wsX6_fail := goodIn_r _ [10, 1, 91, 92, 93, 94, 95, 96, 97, 98] (by decide +kernel) (by decide +kernel)
set_option maxRecDepth 20000 in
theorem gX6_pass_X6_fail : GoodIn wsX6_pass (wsV RX6 64 RX6 yX6_fail wsX6_fail) := goodIn_app (goodIn_of _ (by decide +kernel)) ggX6_pass_X6_fail
set_option maxRecDepth 20000 in
theorem ggX6_pass_X6_tickOn : GoodIn wsX6_pass wsX6_tickOn := goodIn_r _ [14, 15, 16, 17, 18, 19, 20, 21, 2, 22, 23, 24, 5, 25, 26, 27, 28, 29, 30, 31, 32, 33, 34, 35, 36, 37, 38, 39, 40, 41, 42, 43, 44, 45, 46, 47, 48, 49, 50, 51, 52, 53, 54, 55, 56, 57, 58, 59, 60, 61, 62, 63, 64, 65, 66, 67, 68, 69, 70, 71, 72, 73, 74, 75, 76, 77, 78, 79, 80, 81, 82, 83, 84, 85, 86, 87, 88, 89, 90, 91, 92, 93, 94, 95, 96, 97, 98] (by decide +kernel) (by decide +kernel)
set_option maxRecDepth 20000 in
theorem gX6_pass_X6_tickOn : GoodIn wsX6_pass (wsV RX6 124 RX6 yX6_tickOn wsX6_tickOn) := goodIn_app (goodIn_of _ (by decide +kernel)) ggX6_pass_X6_tickOn
theorem dX6_pass_0 : decode cX6_pass 0 = .ok (.aload_n 0, 1) := by decide +kernel
theorem dX6_pass_1 : decode cX6_pass 1 = .ok (.iconst 0, 1) := by decide +kernel
theorem dX6_pass_2 : decode cX6_pass 2 = .ok (.putfield 28, 3) := by decide +kernel
theorem dX6_pass_5 : decode cX6_pass 5 = .ok (.iload_n 1, 1) := by decide +kernel
theorem dX6_pass_6 : decode cX6_pass 6 = .ok (.iconst 1, 1) := by decide +kernel
theorem dX6_pass_7 : decode cX6_pass 7 = .ok (.bipush 100, 2) := by decide +kernel
theorem dX6_pass_9 : decode cX6_pass 9 = .ok (.invokestatic 32, 3) := by decide +kernel
theorem dX6_pass_12 : decode cX6_pass 12 = .ok (.ifCond .ne 9, 3) := by decide +kernel
theorem dX6_pass_15 : decode cX6_pass 15 = .ok (.aload_n 0, 1) := by decide +kernel
theorem dX6_pass_16 : decode cX6_pass 16 = .ok (.iconst 1, 1) := by decide +kernel
theorem dX6_pass_17 : decode cX6_pass 17 = .ok (.invokevirtual 64, 3) := by decide +kernel
theorem dX6_pass_20 : decode cX6_pass 20 = .ok (.ireturn, 1) := by decide +kernel
theorem dX6_pass_21 : decode cX6_pass 21 = .ok (.aload_n 0, 1) := by decide +kernel
theorem dX6_pass_22 : decode cX6_pass 22 = .ok (.getfield 22, 3) := by decide +kernel
theorem dX6_pass_25 : decode cX6_pass 25 = .ok (.iconst 3, 1) := by decide +kernel
theorem dX6_pass_26 : decode cX6_pass 26 = .ok (.iaload, 1) := by decide +kernel
theorem dX6_pass_27 : decode cX6_pass 27 = .ok (.istore_n 2, 1) := by decide +kernel
theorem dX6_pass_28 : decode cX6_pass 28 = .ok (.iconst 0, 1) := by decide +kernel
theorem dX6_pass_29 : decode cX6_pass 29 = .ok (.istore_n 3, 1) := by decide +kernel
theorem dX6_pass_30 : decode cX6_pass 30 = .ok (.iload_n 3, 1) := by decide +kernel
theorem dX6_pass_31 : decode cX6_pass 31 = .ok (.iload_n 1, 1) := by decide +kernel
theorem dX6_pass_32 : decode cX6_pass 32 = .ok (.if_icmp .ge 13, 3) := by decide +kernel
theorem dX6_pass_35 : decode cX6_pass 35 = .ok (.aload_n 0, 1) := by decide +kernel
theorem dX6_pass_36 : decode cX6_pass 36 = .ok (.invokevirtual 124, 3) := by decide +kernel
theorem dX6_pass_39 : decode cX6_pass 39 = .ok (.iinc 3 1, 3) := by decide +kernel
theorem dX6_pass_42 : decode cX6_pass 42 = .ok (.goto (-12), 3) := by decide +kernel
theorem dX6_pass_45 : decode cX6_pass 45 = .ok (.aload_n 0, 1) := by decide +kernel
theorem dX6_pass_46 : decode cX6_pass 46 = .ok (.getfield 22, 3) := by decide +kernel
theorem dX6_pass_49 : decode cX6_pass 49 = .ok (.iconst 3, 1) := by decide +kernel
theorem dX6_pass_50 : decode cX6_pass 50 = .ok (.iaload, 1) := by decide +kernel
theorem dX6_pass_51 : decode cX6_pass 51 = .ok (.iload_n 2, 1) := by decide +kernel
theorem dX6_pass_52 : decode cX6_pass 52 = .ok (.isub, 1) := by decide +kernel
theorem dX6_pass_53 : decode cX6_pass 53 = .ok (.ireturn, 1) := by decide +kernel
set_option maxRecDepth 20000 in
theorem ggX6_manyOpen_X6_isOpen : GoodIn wsX6_manyOpen wsX6_isOpen := goodIn_r _ [5, 6, 7, 8, 9, 10, 11, 12, 13, 14] (by decide +kernel) (by decide +kernel)
set_option maxRecDepth 20000 in
theorem gX6_manyOpen_X6_isOpen : GoodIn wsX6_manyOpen (wsV RX6 46 RX6 yX6_isOpen wsX6_isOpen) := goodIn_app (goodIn_of _ (by decide +kernel)) ggX6_manyOpen_X6_isOpen
theorem dX6_manyOpen_0 : decode cX6_manyOpen 0 = .ok (.iconst 0, 1) := by decide +kernel
theorem dX6_manyOpen_1 : decode cX6_manyOpen 1 = .ok (.istore_n 1, 1) := by decide +kernel
theorem dX6_manyOpen_2 : decode cX6_manyOpen 2 = .ok (.iconst 0, 1) := by decide +kernel
theorem dX6_manyOpen_3 : decode cX6_manyOpen 3 = .ok (.istore_n 2, 1) := by decide +kernel
theorem dX6_manyOpen_4 : decode cX6_manyOpen 4 = .ok (.iload_n 2, 1) := by decide +kernel
theorem dX6_manyOpen_5 : decode cX6_manyOpen 5 = .ok (.sipush 256, 3) := by decide +kernel
theorem dX6_manyOpen_8 : decode cX6_manyOpen 8 = .ok (.if_icmp .ge 25, 3) := by decide +kernel
theorem dX6_manyOpen_11 : decode cX6_manyOpen 11 = .ok (.iload_n 1, 1) := by decide +kernel
theorem dX6_manyOpen_12 : decode cX6_manyOpen 12 = .ok (.aload_n 0, 1) := by decide +kernel
theorem dX6_manyOpen_13 : decode cX6_manyOpen 13 = .ok (.iload_n 2, 1) := by decide +kernel
theorem dX6_manyOpen_14 : decode cX6_manyOpen 14 = .ok (.invokevirtual 46, 3) := by decide +kernel
theorem dX6_manyOpen_17 : decode cX6_manyOpen 17 = .ok (.ifCond .eq 7, 3) := by decide +kernel
theorem dX6_manyOpen_20 : decode cX6_manyOpen 20 = .ok (.iconst 1, 1) := by decide +kernel
theorem dX6_manyOpen_21 : decode cX6_manyOpen 21 = .ok (.goto 4, 3) := by decide +kernel
theorem dX6_manyOpen_24 : decode cX6_manyOpen 24 = .ok (.iconst 0, 1) := by decide +kernel
theorem dX6_manyOpen_25 : decode cX6_manyOpen 25 = .ok (.iadd, 1) := by decide +kernel
theorem dX6_manyOpen_26 : decode cX6_manyOpen 26 = .ok (.istore_n 1, 1) := by decide +kernel
theorem dX6_manyOpen_27 : decode cX6_manyOpen 27 = .ok (.iinc 2 1, 3) := by decide +kernel
theorem dX6_manyOpen_30 : decode cX6_manyOpen 30 = .ok (.goto (-26), 3) := by decide +kernel
theorem dX6_manyOpen_33 : decode cX6_manyOpen 33 = .ok (.iload_n 1, 1) := by decide +kernel
theorem dX6_manyOpen_34 : decode cX6_manyOpen 34 = .ok (.ireturn, 1) := by decide +kernel
set_option maxRecDepth 20000 in
theorem ggX6_manyLit_X6_shine : GoodIn wsX6_manyLit wsX6_shine := goodIn_r _ [5, 6, 7, 8, 9, 10, 4, 11, 12, 13, 14, 15, 16, 17, 18, 19, 20, 21, 22, 23, 24, 25, 26, 27, 28, 29, 30, 31, 32, 37, 38, 39, 40, 41, 42, 43, 44] (by decide +kernel) (by decide +kernel)
set_option maxRecDepth 20000 in
theorem gX6_manyLit_X6_shine : GoodIn wsX6_manyLit (wsV RX6 82 RX6 yX6_shine wsX6_shine) := goodIn_app (goodIn_of _ (by decide +kernel)) ggX6_manyLit_X6_shine
set_option maxRecDepth 20000 in
theorem ggX6_manyLit_X6_isLit : GoodIn wsX6_manyLit wsX6_isLit := goodIn_r _ [36, 32, 7, 25, 26, 4, 27, 28, 29, 30, 31, 37, 38, 39, 40, 41, 42, 43, 44] (by decide +kernel) (by decide +kernel)
set_option maxRecDepth 20000 in
theorem gX6_manyLit_X6_isLit : GoodIn wsX6_manyLit (wsV RX6 85 RX6 yX6_isLit wsX6_isLit) := goodIn_app (goodIn_of _ (by decide +kernel)) ggX6_manyLit_X6_isLit
set_option maxRecDepth 20000 in
theorem ggX6_manyLit_X6_isOpen : GoodIn wsX6_manyLit wsX6_isOpen := goodIn_r _ [31, 32, 37, 38, 39, 40, 41, 42, 43, 44] (by decide +kernel) (by decide +kernel)
set_option maxRecDepth 20000 in
theorem gX6_manyLit_X6_isOpen : GoodIn wsX6_manyLit (wsV RX6 46 RX6 yX6_isOpen wsX6_isOpen) := goodIn_app (goodIn_of _ (by decide +kernel)) ggX6_manyLit_X6_isOpen
theorem dX6_manyLit_0 : decode cX6_manyLit 0 = .ok (.aload_n 0, 1) := by decide +kernel
theorem dX6_manyLit_1 : decode cX6_manyLit 1 = .ok (.invokevirtual 82, 3) := by decide +kernel
theorem dX6_manyLit_4 : decode cX6_manyLit 4 = .ok (.iconst 0, 1) := by decide +kernel
theorem dX6_manyLit_5 : decode cX6_manyLit 5 = .ok (.istore_n 2, 1) := by decide +kernel
theorem dX6_manyLit_6 : decode cX6_manyLit 6 = .ok (.iconst 0, 1) := by decide +kernel
theorem dX6_manyLit_7 : decode cX6_manyLit 7 = .ok (.istore_n 3, 1) := by decide +kernel
theorem dX6_manyLit_8 : decode cX6_manyLit 8 = .ok (.iload_n 3, 1) := by decide +kernel
theorem dX6_manyLit_9 : decode cX6_manyLit 9 = .ok (.sipush 256, 3) := by decide +kernel
theorem dX6_manyLit_12 : decode cX6_manyLit 12 = .ok (.if_icmp .ge 37, 3) := by decide +kernel
theorem dX6_manyLit_15 : decode cX6_manyLit 15 = .ok (.iload_n 2, 1) := by decide +kernel
theorem dX6_manyLit_16 : decode cX6_manyLit 16 = .ok (.aload_n 0, 1) := by decide +kernel
theorem dX6_manyLit_17 : decode cX6_manyLit 17 = .ok (.iload_n 3, 1) := by decide +kernel
theorem dX6_manyLit_18 : decode cX6_manyLit 18 = .ok (.invokevirtual 85, 3) := by decide +kernel
theorem dX6_manyLit_21 : decode cX6_manyLit 21 = .ok (.ifCond .eq 19, 3) := by decide +kernel
theorem dX6_manyLit_24 : decode cX6_manyLit 24 = .ok (.aload_n 0, 1) := by decide +kernel
theorem dX6_manyLit_25 : decode cX6_manyLit 25 = .ok (.iload_n 3, 1) := by decide +kernel
theorem dX6_manyLit_26 : decode cX6_manyLit 26 = .ok (.invokevirtual 46, 3) := by decide +kernel
theorem dX6_manyLit_29 : decode cX6_manyLit 29 = .ok (.ifCond .ne 7, 3) := by decide +kernel
theorem dX6_manyLit_32 : decode cX6_manyLit 32 = .ok (.iload_n 1, 1) := by decide +kernel
theorem dX6_manyLit_33 : decode cX6_manyLit 33 = .ok (.ifCond .ne 7, 3) := by decide +kernel
theorem dX6_manyLit_36 : decode cX6_manyLit 36 = .ok (.iconst 1, 1) := by decide +kernel
theorem dX6_manyLit_37 : decode cX6_manyLit 37 = .ok (.goto 4, 3) := by decide +kernel
theorem dX6_manyLit_40 : decode cX6_manyLit 40 = .ok (.iconst 0, 1) := by decide +kernel
theorem dX6_manyLit_41 : decode cX6_manyLit 41 = .ok (.iadd, 1) := by decide +kernel
theorem dX6_manyLit_42 : decode cX6_manyLit 42 = .ok (.istore_n 2, 1) := by decide +kernel
theorem dX6_manyLit_43 : decode cX6_manyLit 43 = .ok (.iinc 3 1, 3) := by decide +kernel
theorem dX6_manyLit_46 : decode cX6_manyLit 46 = .ok (.goto (-38), 3) := by decide +kernel
theorem dX6_manyLit_49 : decode cX6_manyLit 49 = .ok (.iload_n 2, 1) := by decide +kernel
theorem dX6_manyLit_50 : decode cX6_manyLit 50 = .ok (.ireturn, 1) := by decide +kernel
set_option maxRecDepth 20000 in
theorem ggX6_sumOf_X6_get : GoodIn wsX6_sumOf wsX6_get := goodIn_r _ [6, 7, 8, 9, 10, 11, 12, 13, 14, 15] (by decide +kernel) (by decide +kernel)
set_option maxRecDepth 20000 in
theorem gX6_sumOf_X6_get : GoodIn wsX6_sumOf (wsV RX6 39 RX6 yX6_get wsX6_get) := goodIn_app (goodIn_of _ (by decide +kernel)) ggX6_sumOf_X6_get
theorem dX6_sumOf_0 : decode cX6_sumOf 0 = .ok (.iconst 0, 1) := by decide +kernel
theorem dX6_sumOf_1 : decode cX6_sumOf 1 = .ok (.istore_n 2, 1) := by decide +kernel
theorem dX6_sumOf_2 : decode cX6_sumOf 2 = .ok (.iconst 0, 1) := by decide +kernel
theorem dX6_sumOf_3 : decode cX6_sumOf 3 = .ok (.istore_n 3, 1) := by decide +kernel
theorem dX6_sumOf_4 : decode cX6_sumOf 4 = .ok (.iload_n 3, 1) := by decide +kernel
theorem dX6_sumOf_5 : decode cX6_sumOf 5 = .ok (.aload_n 0, 1) := by decide +kernel
theorem dX6_sumOf_6 : decode cX6_sumOf 6 = .ok (.getfield 36, 3) := by decide +kernel
theorem dX6_sumOf_9 : decode cX6_sumOf 9 = .ok (.if_icmp .ge 18, 3) := by decide +kernel
theorem dX6_sumOf_12 : decode cX6_sumOf 12 = .ok (.iload_n 2, 1) := by decide +kernel
theorem dX6_sumOf_13 : decode cX6_sumOf 13 = .ok (.aload_n 0, 1) := by decide +kernel
theorem dX6_sumOf_14 : decode cX6_sumOf 14 = .ok (.iload_n 3, 1) := by decide +kernel
theorem dX6_sumOf_15 : decode cX6_sumOf 15 = .ok (.iload_n 1, 1) := by decide +kernel
theorem dX6_sumOf_16 : decode cX6_sumOf 16 = .ok (.invokevirtual 39, 3) := by decide +kernel
theorem dX6_sumOf_19 : decode cX6_sumOf 19 = .ok (.iadd, 1) := by decide +kernel
theorem dX6_sumOf_20 : decode cX6_sumOf 20 = .ok (.istore_n 2, 1) := by decide +kernel
theorem dX6_sumOf_21 : decode cX6_sumOf 21 = .ok (.iinc 3 1, 3) := by decide +kernel
theorem dX6_sumOf_24 : decode cX6_sumOf 24 = .ok (.goto (-20), 3) := by decide +kernel
theorem dX6_sumOf_27 : decode cX6_sumOf 27 = .ok (.iload_n 2, 1) := by decide +kernel
theorem dX6_sumOf_28 : decode cX6_sumOf 28 = .ok (.ireturn, 1) := by decide +kernel
set_option maxRecDepth 20000 in
theorem ggX6_counted_X6_sumOf : GoodIn wsX6_counted wsX6_sumOf := goodIn_r _ [8, 2, 9, 10, 11, 7, 12, 13, 59, 60, 61, 62, 63, 64, 65, 66] (by decide +kernel) (by decide +kernel)
set_option maxRecDepth 20000 in
theorem gX6_counted_X6_sumOf : GoodIn wsX6_counted (wsV RX6 127 RX6 yX6_sumOf wsX6_sumOf) := goodIn_app (goodIn_of _ (by decide +kernel)) ggX6_counted_X6_sumOf
set_option maxRecDepth 20000 in
theorem ggX6_counted_X6_manyOpen : GoodIn wsX6_counted wsX6_manyOpen := goodIn_r _ [17, 18, 19, 20, 7, 21, 22, 59, 60, 61, 62, 63, 64, 65, 66] (by decide +kernel) (by decide +kernel)
set_option maxRecDepth 20000 in
theorem gX6_counted_X6_manyOpen : GoodIn wsX6_counted (wsV RX6 130 RX6 yX6_manyOpen wsX6_manyOpen) := goodIn_app (goodIn_of _ (by decide +kernel)) ggX6_counted_X6_manyOpen
set_option maxRecDepth 20000 in
theorem ggX6_counted_X6_manyLit : GoodIn wsX6_counted wsX6_manyLit := goodIn_r _ [26, 27, 28, 29, 7, 30, 2, 31, 32, 33, 34, 35, 36, 37, 38, 39, 9, 10, 11, 12, 13, 40, 41, 42, 43, 44, 45, 46, 18, 19, 20, 21, 22, 47, 48, 49, 50, 59, 60, 61, 62, 63, 64, 65, 66] (by decide +kernel) (by decide +kernel)
set_option maxRecDepth 20000 in
theorem gX6_counted_X6_manyLit : GoodIn wsX6_counted (wsV RX6 134 RX6 yX6_manyLit wsX6_manyLit) := goodIn_app (goodIn_of _ (by decide +kernel)) ggX6_counted_X6_manyLit
set_option maxRecDepth 20000 in
theorem ggX6_counted_X6_hold : GoodIn wsX6_counted wsX6_hold := goodIn_r _ [54, 3, 31, 32, 33, 34, 7, 35, 18, 19, 20, 21, 22, 40, 41, 42, 43, 44, 45, 46, 59, 60, 61, 62, 63, 64, 65, 66] (by decide +kernel) (by decide +kernel)
set_option maxRecDepth 20000 in
theorem gX6_counted_X6_hold : GoodIn wsX6_counted (wsV RX6 76 RX6 yX6_hold wsX6_hold) := goodIn_app (goodIn_of _ (by decide +kernel)) ggX6_counted_X6_hold
set_option maxRecDepth 20000 in
theorem ggX6_counted_X6_isOpen : GoodIn wsX6_counted wsX6_isOpen := goodIn_r _ [21, 22, 59, 60, 61, 62, 63, 64, 65, 66] (by decide +kernel) (by decide +kernel)
set_option maxRecDepth 20000 in
theorem gX6_counted_X6_isOpen : GoodIn wsX6_counted (wsV RX6 46 RX6 yX6_isOpen wsX6_isOpen) := goodIn_app (goodIn_of _ (by decide +kernel)) ggX6_counted_X6_isOpen
set_option maxRecDepth 20000 in
theorem ggX6_counted_X6_isHeld : GoodIn wsX6_counted wsX6_isHeld := goodIn_r _ [58, 31, 18, 19, 20, 7, 21, 22, 59, 60, 61, 62, 63, 64, 65, 66] (by decide +kernel) (by decide +kernel)
set_option maxRecDepth 20000 in
theorem gX6_counted_X6_isHeld : GoodIn wsX6_counted (wsV RX6 79 RX6 yX6_isHeld wsX6_isHeld) := goodIn_app (goodIn_of _ (by decide +kernel)) ggX6_counted_X6_isHeld
theorem dX6_counted_0 : decode cX6_counted 0 = .ok (.iconst 0, 1) := by decide +kernel
theorem dX6_counted_1 : decode cX6_counted 1 = .ok (.istore_n 2, 1) := by decide +kernel
theorem dX6_counted_2 : decode cX6_counted 2 = .ok (.iload_n 1, 1) := by decide +kernel
theorem dX6_counted_3 : decode cX6_counted 3 = .ok (.tableswitch 152 0 7 #[45, 52, 57, 63, 68, 94, 101, 107], 45) := by decide +kernel
theorem dX6_counted_48 : decode cX6_counted 48 = .ok (.aload_n 0, 1) := by decide +kernel
theorem dX6_counted_49 : decode cX6_counted 49 = .ok (.getfield 22, 3) := by decide +kernel
theorem dX6_counted_52 : decode cX6_counted 52 = .ok (.iconst 0, 1) := by decide +kernel
theorem dX6_counted_53 : decode cX6_counted 53 = .ok (.iaload, 1) := by decide +kernel
theorem dX6_counted_54 : decode cX6_counted 54 = .ok (.ireturn, 1) := by decide +kernel
theorem dX6_counted_55 : decode cX6_counted 55 = .ok (.aload_n 0, 1) := by decide +kernel
theorem dX6_counted_56 : decode cX6_counted 56 = .ok (.getfield 36, 3) := by decide +kernel
theorem dX6_counted_59 : decode cX6_counted 59 = .ok (.ireturn, 1) := by decide +kernel
theorem dX6_counted_60 : decode cX6_counted 60 = .ok (.aload_n 0, 1) := by decide +kernel
theorem dX6_counted_61 : decode cX6_counted 61 = .ok (.iconst 4, 1) := by decide +kernel
theorem dX6_counted_62 : decode cX6_counted 62 = .ok (.invokevirtual 127, 3) := by decide +kernel
theorem dX6_counted_65 : decode cX6_counted 65 = .ok (.ireturn, 1) := by decide +kernel
theorem dX6_counted_66 : decode cX6_counted 66 = .ok (.aload_n 0, 1) := by decide +kernel
theorem dX6_counted_67 : decode cX6_counted 67 = .ok (.invokevirtual 130, 3) := by decide +kernel
theorem dX6_counted_70 : decode cX6_counted 70 = .ok (.ireturn, 1) := by decide +kernel
theorem dX6_counted_71 : decode cX6_counted 71 = .ok (.iconst 0, 1) := by decide +kernel
theorem dX6_counted_72 : decode cX6_counted 72 = .ok (.istore_n 3, 1) := by decide +kernel
theorem dX6_counted_73 : decode cX6_counted 73 = .ok (.iload_n 3, 1) := by decide +kernel
theorem dX6_counted_74 : decode cX6_counted 74 = .ok (.sipush 256, 3) := by decide +kernel
theorem dX6_counted_77 : decode cX6_counted 77 = .ok (.if_icmp .ge 18, 3) := by decide +kernel
theorem dX6_counted_80 : decode cX6_counted 80 = .ok (.iload_n 2, 1) := by decide +kernel
theorem dX6_counted_81 : decode cX6_counted 81 = .ok (.aload_n 0, 1) := by decide +kernel
theorem dX6_counted_82 : decode cX6_counted 82 = .ok (.getfield 16, 3) := by decide +kernel
theorem dX6_counted_85 : decode cX6_counted 85 = .ok (.iload_n 3, 1) := by decide +kernel
theorem dX6_counted_86 : decode cX6_counted 86 = .ok (.iaload, 1) := by decide +kernel
theorem dX6_counted_87 : decode cX6_counted 87 = .ok (.iadd, 1) := by decide +kernel
theorem dX6_counted_88 : decode cX6_counted 88 = .ok (.istore_n 2, 1) := by decide +kernel
theorem dX6_counted_89 : decode cX6_counted 89 = .ok (.iinc 3 1, 3) := by decide +kernel
theorem dX6_counted_92 : decode cX6_counted 92 = .ok (.goto (-19), 3) := by decide +kernel
theorem dX6_counted_95 : decode cX6_counted 95 = .ok (.iload_n 2, 1) := by decide +kernel
theorem dX6_counted_96 : decode cX6_counted 96 = .ok (.ireturn, 1) := by decide +kernel
theorem dX6_counted_97 : decode cX6_counted 97 = .ok (.aload_n 0, 1) := by decide +kernel
theorem dX6_counted_98 : decode cX6_counted 98 = .ok (.getfield 22, 3) := by decide +kernel
theorem dX6_counted_101 : decode cX6_counted 101 = .ok (.iconst 1, 1) := by decide +kernel
theorem dX6_counted_102 : decode cX6_counted 102 = .ok (.iaload, 1) := by decide +kernel
theorem dX6_counted_103 : decode cX6_counted 103 = .ok (.ireturn, 1) := by decide +kernel
theorem dX6_counted_104 : decode cX6_counted 104 = .ok (.aload_n 0, 1) := by decide +kernel
theorem dX6_counted_105 : decode cX6_counted 105 = .ok (.iconst 0, 1) := by decide +kernel
theorem dX6_counted_106 : decode cX6_counted 106 = .ok (.invokevirtual 134, 3) := by decide +kernel
theorem dX6_counted_109 : decode cX6_counted 109 = .ok (.ireturn, 1) := by decide +kernel
theorem dX6_counted_110 : decode cX6_counted 110 = .ok (.aload_n 0, 1) := by decide +kernel
theorem dX6_counted_111 : decode cX6_counted 111 = .ok (.invokevirtual 76, 3) := by decide +kernel
theorem dX6_counted_114 : decode cX6_counted 114 = .ok (.iconst 0, 1) := by decide +kernel
theorem dX6_counted_115 : decode cX6_counted 115 = .ok (.istore_n 3, 1) := by decide +kernel
theorem dX6_counted_116 : decode cX6_counted 116 = .ok (.iload_n 3, 1) := by decide +kernel
theorem dX6_counted_117 : decode cX6_counted 117 = .ok (.sipush 256, 3) := by decide +kernel
theorem dX6_counted_120 : decode cX6_counted 120 = .ok (.if_icmp .ge 33, 3) := by decide +kernel
theorem dX6_counted_123 : decode cX6_counted 123 = .ok (.iload_n 2, 1) := by decide +kernel
theorem dX6_counted_124 : decode cX6_counted 124 = .ok (.aload_n 0, 1) := by decide +kernel
theorem dX6_counted_125 : decode cX6_counted 125 = .ok (.iload_n 3, 1) := by decide +kernel
theorem dX6_counted_126 : decode cX6_counted 126 = .ok (.invokevirtual 46, 3) := by decide +kernel
theorem dX6_counted_129 : decode cX6_counted 129 = .ok (.ifCond .eq 15, 3) := by decide +kernel
theorem dX6_counted_132 : decode cX6_counted 132 = .ok (.aload_n 0, 1) := by decide +kernel
theorem dX6_counted_133 : decode cX6_counted 133 = .ok (.iload_n 3, 1) := by decide +kernel
theorem dX6_counted_134 : decode cX6_counted 134 = .ok (.invokevirtual 79, 3) := by decide +kernel
theorem dX6_counted_137 : decode cX6_counted 137 = .ok (.ifCond .ne 7, 3) := by decide +kernel
theorem dX6_counted_140 : decode cX6_counted 140 = .ok (.iconst 1, 1) := by decide +kernel
theorem dX6_counted_141 : decode cX6_counted 141 = .ok (.goto 4, 3) := by decide +kernel
theorem dX6_counted_144 : decode cX6_counted 144 = .ok (.iconst 0, 1) := by decide +kernel
theorem dX6_counted_145 : decode cX6_counted 145 = .ok (.iadd, 1) := by decide +kernel
theorem dX6_counted_146 : decode cX6_counted 146 = .ok (.istore_n 2, 1) := by decide +kernel
theorem dX6_counted_147 : decode cX6_counted 147 = .ok (.iinc 3 1, 3) := by decide +kernel
theorem dX6_counted_150 : decode cX6_counted 150 = .ok (.goto (-34), 3) := by decide +kernel
theorem dX6_counted_153 : decode cX6_counted 153 = .ok (.iload_n 2, 1) := by decide +kernel
theorem dX6_counted_154 : decode cX6_counted 154 = .ok (.ireturn, 1) := by decide +kernel
theorem dX6_counted_155 : decode cX6_counted 155 = .ok (.aload_n 0, 1) := by decide +kernel
theorem dX6_counted_156 : decode cX6_counted 156 = .ok (.getfield 22, 3) := by decide +kernel
theorem dX6_counted_159 : decode cX6_counted 159 = .ok (.iconst 2, 1) := by decide +kernel
theorem dX6_counted_160 : decode cX6_counted 160 = .ok (.iaload, 1) := by decide +kernel
theorem dX6_counted_161 : decode cX6_counted 161 = .ok (.ireturn, 1) := by decide +kernel
set_option maxRecDepth 20000 in
theorem ggX6_count_X6_isIn : GoodIn wsX6_count wsX6_isIn := goodIn_r _ [5] (by decide +kernel) (by decide +kernel)
set_option maxRecDepth 20000 in
theorem gX6_count_X6_isIn : GoodIn wsX6_count (va_wsS RX6 32 yX6_isIn wsX6_isIn) := goodIn_app (goodIn_of _ (by decide +kernel)) ggX6_count_X6_isIn
set_option maxRecDepth 20000 in
theorem ggX6_count_X6_counted : GoodIn wsX6_count wsX6_counted := goodIn_r _ [9, 10, 11, 12, 13, 14, 15, 4, 16, 17, 18, 19, 20, 21, 22, 23, 24, 25, 26, 27, 28, 29, 30, 31, 32, 33, 34, 35, 36, 37, 38, 39, 40, 41, 42, 43, 44, 45, 46, 47, 48, 49, 50, 51, 52, 53, 54, 55, 56, 57, 58, 59, 60, 61, 62, 63, 64, 65, 66, 71, 72, 73, 74, 75, 76, 77, 78] (by decide +kernel) (by decide +kernel)
set_option maxRecDepth 20000 in
theorem gX6_count_X6_counted : GoodIn wsX6_count (wsV RX6 138 RX6 yX6_counted wsX6_counted) := goodIn_app (goodIn_of _ (by decide +kernel)) ggX6_count_X6_counted
set_option maxRecDepth 20000 in
theorem ggX6_count_X6_fail : GoodIn wsX6_count wsX6_fail := goodIn_r _ [70, 1, 71, 72, 73, 74, 75, 76, 77, 78] (by decide +kernel) (by decide +kernel)
set_option maxRecDepth 20000 in
theorem gX6_count_X6_fail : GoodIn wsX6_count (wsV RX6 64 RX6 yX6_fail wsX6_fail) := goodIn_app (goodIn_of _ (by decide +kernel)) ggX6_count_X6_fail
theorem dX6_count_0 : decode cX6_count 0 = .ok (.aload_n 0, 1) := by decide +kernel
theorem dX6_count_1 : decode cX6_count 1 = .ok (.iconst 0, 1) := by decide +kernel
theorem dX6_count_2 : decode cX6_count 2 = .ok (.putfield 28, 3) := by decide +kernel
theorem dX6_count_5 : decode cX6_count 5 = .ok (.iload_n 1, 1) := by decide +kernel
theorem dX6_count_6 : decode cX6_count 6 = .ok (.iconst 0, 1) := by decide +kernel
theorem dX6_count_7 : decode cX6_count 7 = .ok (.bipush 8, 2) := by decide +kernel
theorem dX6_count_9 : decode cX6_count 9 = .ok (.invokestatic 32, 3) := by decide +kernel
theorem dX6_count_12 : decode cX6_count 12 = .ok (.ifCond .eq 11, 3) := by decide +kernel
theorem dX6_count_15 : decode cX6_count 15 = .ok (.aload_n 0, 1) := by decide +kernel
theorem dX6_count_16 : decode cX6_count 16 = .ok (.iload_n 1, 1) := by decide +kernel
theorem dX6_count_17 : decode cX6_count 17 = .ok (.invokevirtual 138, 3) := by decide +kernel
theorem dX6_count_20 : decode cX6_count 20 = .ok (.goto 8, 3) := by decide +kernel
theorem dX6_count_23 : decode cX6_count 23 = .ok (.aload_n 0, 1) := by decide +kernel
theorem dX6_count_24 : decode cX6_count 24 = .ok (.iconst 1, 1) := by decide +kernel
theorem dX6_count_25 : decode cX6_count 25 = .ok (.invokevirtual 64, 3) := by decide +kernel
theorem dX6_count_28 : decode cX6_count 28 = .ok (.ireturn, 1) := by decide +kernel
set_option maxRecDepth 20000 in
theorem ggX6_way_X6_isCell : GoodIn wsX6_way wsX6_isCell := goodIn_r _ [6, 7, 8, 5, 9] (by decide +kernel) (by decide +kernel)
set_option maxRecDepth 20000 in
theorem gX6_way_X6_isCell : GoodIn wsX6_way (va_wsS RX6 60 yX6_isCell wsX6_isCell) := goodIn_app (goodIn_of _ (by decide +kernel)) ggX6_way_X6_isCell
set_option maxRecDepth 20000 in
theorem ggX6_way_X6_fail : GoodIn wsX6_way wsX6_fail := goodIn_r _ [13, 1, 30, 31, 32, 33, 34, 35, 36, 37] (by decide +kernel) (by decide +kernel)
set_option maxRecDepth 20000 in
theorem gX6_way_X6_fail : GoodIn wsX6_way (wsV RX6 64 RX6 yX6_fail wsX6_fail) := goodIn_app (goodIn_of _ (by decide +kernel)) ggX6_way_X6_fail
set_option maxRecDepth 20000 in
theorem ggX6_way_X6_isOpen : GoodIn wsX6_way wsX6_isOpen := goodIn_r _ [17, 18, 30, 31, 32, 33, 34, 35, 36, 37] (by decide +kernel) (by decide +kernel)
set_option maxRecDepth 20000 in
theorem gX6_way_X6_isOpen : GoodIn wsX6_way (wsV RX6 46 RX6 yX6_isOpen wsX6_isOpen) := goodIn_app (goodIn_of _ (by decide +kernel)) ggX6_way_X6_isOpen
set_option maxRecDepth 20000 in
theorem ggX6_way_X6_clear : GoodIn wsX6_way wsX6_clear := goodIn_r _ [22, 2, 30, 31, 32, 33, 34, 35, 36, 37] (by decide +kernel) (by decide +kernel)
set_option maxRecDepth 20000 in
theorem gX6_way_X6_clear : GoodIn wsX6_way (wsV RX6 50 RX6 yX6_clear wsX6_clear) := goodIn_app (goodIn_of _ (by decide +kernel)) ggX6_way_X6_clear
set_option maxRecDepth 20000 in
theorem ggX6_way_X6_spread : GoodIn wsX6_way wsX6_spread := goodIn_r _ [26, 2, 27, 28, 5, 29, 14, 15, 16, 17, 18, 30, 31, 32, 33, 34, 35, 36, 37] (by decide +kernel) (by decide +kernel)
set_option maxRecDepth 20000 in
theorem gX6_way_X6_spread : GoodIn wsX6_way (wsV RX6 56 RX6 yX6_spread wsX6_spread) := goodIn_app (goodIn_of _ (by decide +kernel)) ggX6_way_X6_spread
theorem dX6_way_0 : decode cX6_way 0 = .ok (.aload_n 0, 1) := by decide +kernel
theorem dX6_way_1 : decode cX6_way 1 = .ok (.iconst 0, 1) := by decide +kernel
theorem dX6_way_2 : decode cX6_way 2 = .ok (.putfield 28, 3) := by decide +kernel
theorem dX6_way_5 : decode cX6_way 5 = .ok (.iload_n 1, 1) := by decide +kernel
theorem dX6_way_6 : decode cX6_way 6 = .ok (.iload_n 2, 1) := by decide +kernel
theorem dX6_way_7 : decode cX6_way 7 = .ok (.invokestatic 60, 3) := by decide +kernel
theorem dX6_way_10 : decode cX6_way 10 = .ok (.ifCond .eq 12, 3) := by decide +kernel
theorem dX6_way_13 : decode cX6_way 13 = .ok (.iload_n 3, 1) := by decide +kernel
theorem dX6_way_14 : decode cX6_way 14 = .ok (.iload 4, 2) := by decide +kernel
theorem dX6_way_16 : decode cX6_way 16 = .ok (.invokestatic 60, 3) := by decide +kernel
theorem dX6_way_19 : decode cX6_way 19 = .ok (.ifCond .ne 9, 3) := by decide +kernel
theorem dX6_way_22 : decode cX6_way 22 = .ok (.aload_n 0, 1) := by decide +kernel
theorem dX6_way_23 : decode cX6_way 23 = .ok (.iconst 1, 1) := by decide +kernel
theorem dX6_way_24 : decode cX6_way 24 = .ok (.invokevirtual 64, 3) := by decide +kernel
theorem dX6_way_27 : decode cX6_way 27 = .ok (.ireturn, 1) := by decide +kernel
theorem dX6_way_28 : decode cX6_way 28 = .ok (.iload_n 1, 1) := by decide +kernel
theorem dX6_way_29 : decode cX6_way 29 = .ok (.bipush 16, 2) := by decide +kernel
theorem dX6_way_31 : decode cX6_way 31 = .ok (.iload_n 2, 1) := by decide +kernel
theorem dX6_way_32 : decode cX6_way 32 = .ok (.imul, 1) := by decide +kernel
theorem dX6_way_33 : decode cX6_way 33 = .ok (.iadd, 1) := by decide +kernel
theorem dX6_way_34 : decode cX6_way 34 = .ok (.istore 5, 2) := by decide +kernel
theorem dX6_way_36 : decode cX6_way 36 = .ok (.aload_n 0, 1) := by decide +kernel
theorem dX6_way_37 : decode cX6_way 37 = .ok (.iload 5, 2) := by decide +kernel
theorem dX6_way_39 : decode cX6_way 39 = .ok (.invokevirtual 46, 3) := by decide +kernel
theorem dX6_way_42 : decode cX6_way 42 = .ok (.ifCond .eq 17, 3) := by decide +kernel
theorem dX6_way_45 : decode cX6_way 45 = .ok (.aload_n 0, 1) := by decide +kernel
theorem dX6_way_46 : decode cX6_way 46 = .ok (.iload_n 3, 1) := by decide +kernel
theorem dX6_way_47 : decode cX6_way 47 = .ok (.bipush 16, 2) := by decide +kernel
theorem dX6_way_49 : decode cX6_way 49 = .ok (.iload 4, 2) := by decide +kernel
theorem dX6_way_51 : decode cX6_way 51 = .ok (.imul, 1) := by decide +kernel
theorem dX6_way_52 : decode cX6_way 52 = .ok (.iadd, 1) := by decide +kernel
theorem dX6_way_53 : decode cX6_way 53 = .ok (.invokevirtual 46, 3) := by decide +kernel
theorem dX6_way_56 : decode cX6_way 56 = .ok (.ifCond .ne 5, 3) := by decide +kernel
theorem dX6_way_59 : decode cX6_way 59 = .ok (.iconst (-1), 1) := by decide +kernel
theorem dX6_way_60 : decode cX6_way 60 = .ok (.ireturn, 1) := by decide +kernel
theorem dX6_way_61 : decode cX6_way 61 = .ok (.aload_n 0, 1) := by decide +kernel
theorem dX6_way_62 : decode cX6_way 62 = .ok (.invokevirtual 50, 3) := by decide +kernel
theorem dX6_way_65 : decode cX6_way 65 = .ok (.aload_n 0, 1) := by decide +kernel
theorem dX6_way_66 : decode cX6_way 66 = .ok (.getfield 25, 3) := by decide +kernel
theorem dX6_way_69 : decode cX6_way 69 = .ok (.iload 5, 2) := by decide +kernel
theorem dX6_way_71 : decode cX6_way 71 = .ok (.iconst 0, 1) := by decide +kernel
theorem dX6_way_72 : decode cX6_way 72 = .ok (.iastore, 1) := by decide +kernel
theorem dX6_way_73 : decode cX6_way 73 = .ok (.aload_n 0, 1) := by decide +kernel
theorem dX6_way_74 : decode cX6_way 74 = .ok (.sipush 256, 3) := by decide +kernel
theorem dX6_way_77 : decode cX6_way 77 = .ok (.invokevirtual 56, 3) := by decide +kernel
theorem dX6_way_80 : decode cX6_way 80 = .ok (.aload_n 0, 1) := by decide +kernel
theorem dX6_way_81 : decode cX6_way 81 = .ok (.getfield 25, 3) := by decide +kernel
theorem dX6_way_84 : decode cX6_way 84 = .ok (.iload_n 3, 1) := by decide +kernel
theorem dX6_way_85 : decode cX6_way 85 = .ok (.bipush 16, 2) := by decide +kernel
theorem dX6_way_87 : decode cX6_way 87 = .ok (.iload 4, 2) := by decide +kernel
theorem dX6_way_89 : decode cX6_way 89 = .ok (.imul, 1) := by decide +kernel
theorem dX6_way_90 : decode cX6_way 90 = .ok (.iadd, 1) := by decide +kernel
theorem dX6_way_91 : decode cX6_way 91 = .ok (.iaload, 1) := by decide +kernel
theorem dX6_way_92 : decode cX6_way 92 = .ok (.ireturn, 1) := by decide +kernel
set_option maxRecDepth 20000 in
theorem ggX6_dig_X6_isCell : GoodIn wsX6_dig wsX6_isCell := goodIn_r _ [8, 9, 10, 7, 11] (by decide +kernel) (by decide +kernel)
set_option maxRecDepth 20000 in
theorem gX6_dig_X6_isCell : GoodIn wsX6_dig (va_wsS RX6 60 yX6_isCell wsX6_isCell) := goodIn_app (goodIn_of _ (by decide +kernel)) ggX6_dig_X6_isCell
set_option maxRecDepth 20000 in
theorem ggX6_dig_X6_fail : GoodIn wsX6_dig wsX6_fail := goodIn_r _ [15, 1, 19, 20, 21, 22, 23, 24, 25, 26] (by decide +kernel) (by decide +kernel)
set_option maxRecDepth 20000 in
theorem gX6_dig_X6_fail : GoodIn wsX6_dig (wsV RX6 64 RX6 yX6_fail wsX6_fail) := goodIn_app (goodIn_of _ (by decide +kernel)) ggX6_dig_X6_fail
set_option maxRecDepth 20000 in
theorem ggX6_dig_X6_beside : GoodIn wsX6_dig wsX6_beside := goodIn_r _ [18] (by decide +kernel) (by decide +kernel)
set_option maxRecDepth 20000 in
theorem gX6_dig_X6_beside : GoodIn wsX6_dig (va_wsS RX6 43 yX6_beside wsX6_beside) := goodIn_app (goodIn_of _ (by decide +kernel)) ggX6_dig_X6_beside
theorem dX6_dig_0 : decode cX6_dig 0 = .ok (.aload_n 0, 1) := by decide +kernel
theorem dX6_dig_1 : decode cX6_dig 1 = .ok (.iconst 0, 1) := by decide +kernel
theorem dX6_dig_2 : decode cX6_dig 2 = .ok (.putfield 28, 3) := by decide +kernel
theorem dX6_dig_5 : decode cX6_dig 5 = .ok (.iload_n 1, 1) := by decide +kernel
theorem dX6_dig_6 : decode cX6_dig 6 = .ok (.iload_n 2, 1) := by decide +kernel
theorem dX6_dig_7 : decode cX6_dig 7 = .ok (.invokestatic 60, 3) := by decide +kernel
theorem dX6_dig_10 : decode cX6_dig 10 = .ok (.ifCond .eq 12, 3) := by decide +kernel
theorem dX6_dig_13 : decode cX6_dig 13 = .ok (.iload_n 3, 1) := by decide +kernel
theorem dX6_dig_14 : decode cX6_dig 14 = .ok (.iload 4, 2) := by decide +kernel
theorem dX6_dig_16 : decode cX6_dig 16 = .ok (.invokestatic 60, 3) := by decide +kernel
theorem dX6_dig_19 : decode cX6_dig 19 = .ok (.ifCond .ne 9, 3) := by decide +kernel
theorem dX6_dig_22 : decode cX6_dig 22 = .ok (.aload_n 0, 1) := by decide +kernel
theorem dX6_dig_23 : decode cX6_dig 23 = .ok (.iconst 1, 1) := by decide +kernel
theorem dX6_dig_24 : decode cX6_dig 24 = .ok (.invokevirtual 64, 3) := by decide +kernel
theorem dX6_dig_27 : decode cX6_dig 27 = .ok (.ireturn, 1) := by decide +kernel
theorem dX6_dig_28 : decode cX6_dig 28 = .ok (.iload_n 1, 1) := by decide +kernel
theorem dX6_dig_29 : decode cX6_dig 29 = .ok (.bipush 16, 2) := by decide +kernel
theorem dX6_dig_31 : decode cX6_dig 31 = .ok (.iload_n 2, 1) := by decide +kernel
theorem dX6_dig_32 : decode cX6_dig 32 = .ok (.imul, 1) := by decide +kernel
theorem dX6_dig_33 : decode cX6_dig 33 = .ok (.iadd, 1) := by decide +kernel
theorem dX6_dig_34 : decode cX6_dig 34 = .ok (.istore 5, 2) := by decide +kernel
theorem dX6_dig_36 : decode cX6_dig 36 = .ok (.iload_n 3, 1) := by decide +kernel
theorem dX6_dig_37 : decode cX6_dig 37 = .ok (.bipush 16, 2) := by decide +kernel
theorem dX6_dig_39 : decode cX6_dig 39 = .ok (.iload 4, 2) := by decide +kernel
theorem dX6_dig_41 : decode cX6_dig 41 = .ok (.imul, 1) := by decide +kernel
theorem dX6_dig_42 : decode cX6_dig 42 = .ok (.iadd, 1) := by decide +kernel
theorem dX6_dig_43 : decode cX6_dig 43 = .ok (.istore 6, 2) := by decide +kernel
theorem dX6_dig_45 : decode cX6_dig 45 = .ok (.aload_n 0, 1) := by decide +kernel
theorem dX6_dig_46 : decode cX6_dig 46 = .ok (.getfield 9, 3) := by decide +kernel
theorem dX6_dig_49 : decode cX6_dig 49 = .ok (.iload 5, 2) := by decide +kernel
theorem dX6_dig_51 : decode cX6_dig 51 = .ok (.iaload, 1) := by decide +kernel
theorem dX6_dig_52 : decode cX6_dig 52 = .ok (.bipush 10, 2) := by decide +kernel
theorem dX6_dig_54 : decode cX6_dig 54 = .ok (.if_icmp .ne 5, 3) := by decide +kernel
theorem dX6_dig_57 : decode cX6_dig 57 = .ok (.iconst (-1), 1) := by decide +kernel
theorem dX6_dig_58 : decode cX6_dig 58 = .ok (.ireturn, 1) := by decide +kernel
theorem dX6_dig_59 : decode cX6_dig 59 = .ok (.iconst 0, 1) := by decide +kernel
theorem dX6_dig_60 : decode cX6_dig 60 = .ok (.istore 7, 2) := by decide +kernel
theorem dX6_dig_62 : decode cX6_dig 62 = .ok (.iload 7, 2) := by decide +kernel
theorem dX6_dig_64 : decode cX6_dig 64 = .ok (.sipush 256, 3) := by decide +kernel
theorem dX6_dig_67 : decode cX6_dig 67 = .ok (.if_icmp .ge 35, 3) := by decide +kernel
theorem dX6_dig_70 : decode cX6_dig 70 = .ok (.aload_n 0, 1) := by decide +kernel
theorem dX6_dig_71 : decode cX6_dig 71 = .ok (.getfield 25, 3) := by decide +kernel
theorem dX6_dig_74 : decode cX6_dig 74 = .ok (.iload 7, 2) := by decide +kernel
theorem dX6_dig_76 : decode cX6_dig 76 = .ok (.iload 7, 2) := by decide +kernel
theorem dX6_dig_78 : decode cX6_dig 78 = .ok (.iload 5, 2) := by decide +kernel
theorem dX6_dig_80 : decode cX6_dig 80 = .ok (.if_icmp .ne 13, 3) := by decide +kernel
theorem dX6_dig_83 : decode cX6_dig 83 = .ok (.aload_n 0, 1) := by decide +kernel
theorem dX6_dig_84 : decode cX6_dig 84 = .ok (.getfield 9, 3) := by decide +kernel
theorem dX6_dig_87 : decode cX6_dig 87 = .ok (.iload 5, 2) := by decide +kernel
theorem dX6_dig_89 : decode cX6_dig 89 = .ok (.iaload, 1) := by decide +kernel
theorem dX6_dig_90 : decode cX6_dig 90 = .ok (.goto 5, 3) := by decide +kernel
theorem dX6_dig_93 : decode cX6_dig 93 = .ok (.ldc 141, 2) := by decide +kernel
theorem dX6_dig_95 : decode cX6_dig 95 = .ok (.iastore, 1) := by decide +kernel
theorem dX6_dig_96 : decode cX6_dig 96 = .ok (.iinc 7 1, 3) := by decide +kernel
theorem dX6_dig_99 : decode cX6_dig 99 = .ok (.goto (-37), 3) := by decide +kernel
theorem dX6_dig_102 : decode cX6_dig 102 = .ok (.iconst 1, 1) := by decide +kernel
theorem dX6_dig_103 : decode cX6_dig 103 = .ok (.istore 7, 2) := by decide +kernel
theorem dX6_dig_105 : decode cX6_dig 105 = .ok (.iload 7, 2) := by decide +kernel
theorem dX6_dig_107 : decode cX6_dig 107 = .ok (.ifCond .eq 133, 3) := by decide +kernel
theorem dX6_dig_110 : decode cX6_dig 110 = .ok (.iconst 0, 1) := by decide +kernel
theorem dX6_dig_111 : decode cX6_dig 111 = .ok (.istore 7, 2) := by decide +kernel
theorem dX6_dig_113 : decode cX6_dig 113 = .ok (.iconst 0, 1) := by decide +kernel
theorem dX6_dig_114 : decode cX6_dig 114 = .ok (.istore 8, 2) := by decide +kernel
theorem dX6_dig_116 : decode cX6_dig 116 = .ok (.iload 8, 2) := by decide +kernel
theorem dX6_dig_118 : decode cX6_dig 118 = .ok (.sipush 256, 3) := by decide +kernel
theorem dX6_dig_121 : decode cX6_dig 121 = .ok (.if_icmp .ge 116, 3) := by decide +kernel
theorem dX6_dig_124 : decode cX6_dig 124 = .ok (.iconst 0, 1) := by decide +kernel
theorem dX6_dig_125 : decode cX6_dig 125 = .ok (.istore 9, 2) := by decide +kernel
theorem dX6_dig_127 : decode cX6_dig 127 = .ok (.iload 9, 2) := by decide +kernel
theorem dX6_dig_129 : decode cX6_dig 129 = .ok (.iconst 4, 1) := by decide +kernel
theorem dX6_dig_130 : decode cX6_dig 130 = .ok (.if_icmp .ge 101, 3) := by decide +kernel
theorem dX6_dig_133 : decode cX6_dig 133 = .ok (.aload_n 0, 1) := by decide +kernel
theorem dX6_dig_134 : decode cX6_dig 134 = .ok (.getfield 9, 3) := by decide +kernel
theorem dX6_dig_137 : decode cX6_dig 137 = .ok (.iload 8, 2) := by decide +kernel
theorem dX6_dig_139 : decode cX6_dig 139 = .ok (.iaload, 1) := by decide +kernel
theorem dX6_dig_140 : decode cX6_dig 140 = .ok (.bipush 10, 2) := by decide +kernel
theorem dX6_dig_142 : decode cX6_dig 142 = .ok (.if_icmp .eq 89, 3) := by decide +kernel
theorem dX6_dig_145 : decode cX6_dig 145 = .ok (.iload 8, 2) := by decide +kernel
theorem dX6_dig_147 : decode cX6_dig 147 = .ok (.iload 9, 2) := by decide +kernel
theorem dX6_dig_149 : decode cX6_dig 149 = .ok (.invokestatic 43, 3) := by decide +kernel
theorem dX6_dig_152 : decode cX6_dig 152 = .ok (.istore 10, 2) := by decide +kernel
theorem dX6_dig_154 : decode cX6_dig 154 = .ok (.iload 10, 2) := by decide +kernel
theorem dX6_dig_156 : decode cX6_dig 156 = .ok (.iconst (-1), 1) := by decide +kernel
theorem dX6_dig_157 : decode cX6_dig 157 = .ok (.if_icmp .eq 68, 3) := by decide +kernel
theorem dX6_dig_160 : decode cX6_dig 160 = .ok (.aload_n 0, 1) := by decide +kernel
theorem dX6_dig_161 : decode cX6_dig 161 = .ok (.getfield 25, 3) := by decide +kernel
theorem dX6_dig_164 : decode cX6_dig 164 = .ok (.iload 10, 2) := by decide +kernel
theorem dX6_dig_166 : decode cX6_dig 166 = .ok (.iaload, 1) := by decide +kernel
theorem dX6_dig_167 : decode cX6_dig 167 = .ok (.ldc 141, 2) := by decide +kernel
theorem dX6_dig_169 : decode cX6_dig 169 = .ok (.if_icmp .eq 56, 3) := by decide +kernel
theorem dX6_dig_172 : decode cX6_dig 172 = .ok (.aload_n 0, 1) := by decide +kernel
theorem dX6_dig_173 : decode cX6_dig 173 = .ok (.getfield 25, 3) := by decide +kernel
theorem dX6_dig_176 : decode cX6_dig 176 = .ok (.iload 10, 2) := by decide +kernel
theorem dX6_dig_178 : decode cX6_dig 178 = .ok (.iaload, 1) := by decide +kernel
theorem dX6_dig_179 : decode cX6_dig 179 = .ok (.aload_n 0, 1) := by decide +kernel
theorem dX6_dig_180 : decode cX6_dig 180 = .ok (.getfield 9, 3) := by decide +kernel
theorem dX6_dig_183 : decode cX6_dig 183 = .ok (.iload 8, 2) := by decide +kernel
theorem dX6_dig_185 : decode cX6_dig 185 = .ok (.iaload, 1) := by decide +kernel
theorem dX6_dig_186 : decode cX6_dig 186 = .ok (.iadd, 1) := by decide +kernel
theorem dX6_dig_187 : decode cX6_dig 187 = .ok (.aload_n 0, 1) := by decide +kernel
theorem dX6_dig_188 : decode cX6_dig 188 = .ok (.getfield 25, 3) := by decide +kernel
theorem dX6_dig_191 : decode cX6_dig 191 = .ok (.iload 8, 2) := by decide +kernel
theorem dX6_dig_193 : decode cX6_dig 193 = .ok (.iaload, 1) := by decide +kernel
theorem dX6_dig_194 : decode cX6_dig 194 = .ok (.if_icmp .lt 6, 3) := by decide +kernel
theorem dX6_dig_197 : decode cX6_dig 197 = .ok (.goto 28, 3) := by decide +kernel
theorem dX6_dig_200 : decode cX6_dig 200 = .ok (.aload_n 0, 1) := by decide +kernel
theorem dX6_dig_201 : decode cX6_dig 201 = .ok (.getfield 25, 3) := by decide +kernel
theorem dX6_dig_204 : decode cX6_dig 204 = .ok (.iload 8, 2) := by decide +kernel
theorem dX6_dig_206 : decode cX6_dig 206 = .ok (.aload_n 0, 1) := by decide +kernel
theorem dX6_dig_207 : decode cX6_dig 207 = .ok (.getfield 25, 3) := by decide +kernel
theorem dX6_dig_210 : decode cX6_dig 210 = .ok (.iload 10, 2) := by decide +kernel
theorem dX6_dig_212 : decode cX6_dig 212 = .ok (.iaload, 1) := by decide +kernel
theorem dX6_dig_213 : decode cX6_dig 213 = .ok (.aload_n 0, 1) := by decide +kernel
theorem dX6_dig_214 : decode cX6_dig 214 = .ok (.getfield 9, 3) := by decide +kernel
theorem dX6_dig_217 : decode cX6_dig 217 = .ok (.iload 8, 2) := by decide +kernel
theorem dX6_dig_219 : decode cX6_dig 219 = .ok (.iaload, 1) := by decide +kernel
theorem dX6_dig_220 : decode cX6_dig 220 = .ok (.iadd, 1) := by decide +kernel
theorem dX6_dig_221 : decode cX6_dig 221 = .ok (.iastore, 1) := by decide +kernel
theorem dX6_dig_222 : decode cX6_dig 222 = .ok (.iconst 1, 1) := by decide +kernel
theorem dX6_dig_223 : decode cX6_dig 223 = .ok (.istore 7, 2) := by decide +kernel
theorem dX6_dig_225 : decode cX6_dig 225 = .ok (.iinc 9 1, 3) := by decide +kernel
theorem dX6_dig_228 : decode cX6_dig 228 = .ok (.goto (-101), 3) := by decide +kernel
theorem dX6_dig_231 : decode cX6_dig 231 = .ok (.iinc 8 1, 3) := by decide +kernel
theorem dX6_dig_234 : decode cX6_dig 234 = .ok (.goto (-118), 3) := by decide +kernel
theorem dX6_dig_237 : decode cX6_dig 237 = .ok (.goto (-132), 3) := by decide +kernel
theorem dX6_dig_240 : decode cX6_dig 240 = .ok (.aload_n 0, 1) := by decide +kernel
theorem dX6_dig_241 : decode cX6_dig 241 = .ok (.getfield 25, 3) := by decide +kernel
theorem dX6_dig_244 : decode cX6_dig 244 = .ok (.iload 6, 2) := by decide +kernel
theorem dX6_dig_246 : decode cX6_dig 246 = .ok (.iaload, 1) := by decide +kernel
theorem dX6_dig_247 : decode cX6_dig 247 = .ok (.ldc 141, 2) := by decide +kernel
theorem dX6_dig_249 : decode cX6_dig 249 = .ok (.if_icmp .ne 7, 3) := by decide +kernel
theorem dX6_dig_252 : decode cX6_dig 252 = .ok (.iconst (-1), 1) := by decide +kernel
theorem dX6_dig_253 : decode cX6_dig 253 = .ok (.goto 10, 3) := by decide +kernel
theorem dX6_dig_256 : decode cX6_dig 256 = .ok (.aload_n 0, 1) := by decide +kernel
theorem dX6_dig_257 : decode cX6_dig 257 = .ok (.getfield 25, 3) := by decide +kernel
theorem dX6_dig_260 : decode cX6_dig 260 = .ok (.iload 6, 2) := by decide +kernel
theorem dX6_dig_262 : decode cX6_dig 262 = .ok (.iaload, 1) := by decide +kernel
theorem dX6_dig_263 : decode cX6_dig 263 = .ok (.ireturn, 1) := by decide +kernel
set_option maxRecDepth 20000 in
theorem ggX6_cavesOf_X6_clear : GoodIn wsX6_cavesOf wsX6_clear := goodIn_r _ [11, 1, 37, 38, 39, 40, 41, 42, 43, 44] (by decide +kernel) (by decide +kernel)
set_option maxRecDepth 20000 in
theorem gX6_cavesOf_X6_clear : GoodIn wsX6_cavesOf (wsV RX6 50 RX6 yX6_clear wsX6_clear) := goodIn_app (goodIn_of _ (by decide +kernel)) ggX6_cavesOf_X6_clear
set_option maxRecDepth 20000 in
theorem ggX6_cavesOf_X6_isOpen : GoodIn wsX6_cavesOf wsX6_isOpen := goodIn_r _ [15, 16, 37, 38, 39, 40, 41, 42, 43, 44] (by decide +kernel) (by decide +kernel)
set_option maxRecDepth 20000 in
theorem gX6_cavesOf_X6_isOpen : GoodIn wsX6_cavesOf (wsV RX6 46 RX6 yX6_isOpen wsX6_isOpen) := goodIn_app (goodIn_of _ (by decide +kernel)) ggX6_cavesOf_X6_isOpen
set_option maxRecDepth 20000 in
theorem ggX6_cavesOf_X6_found : GoodIn wsX6_cavesOf wsX6_found := goodIn_r _ [20, 1, 37, 38, 39, 40, 41, 42, 43, 44] (by decide +kernel) (by decide +kernel)
set_option maxRecDepth 20000 in
theorem gX6_cavesOf_X6_found : GoodIn wsX6_cavesOf (wsV RX6 142 RX6 yX6_found wsX6_found) := goodIn_app (goodIn_of _ (by decide +kernel)) ggX6_cavesOf_X6_found
set_option maxRecDepth 20000 in
theorem ggX6_cavesOf_X6_spreadFrom : GoodIn wsX6_cavesOf wsX6_spreadFrom := goodIn_r _ [24, 1, 25, 26, 10, 27, 12, 13, 14, 15, 16, 37, 38, 39, 40, 41, 42, 43, 44] (by decide +kernel) (by decide +kernel)
set_option maxRecDepth 20000 in
theorem gX6_cavesOf_X6_spreadFrom : GoodIn wsX6_cavesOf (wsV RX6 145 RX6 yX6_spreadFrom wsX6_spreadFrom) := goodIn_app (goodIn_of _ (by decide +kernel)) ggX6_cavesOf_X6_spreadFrom
set_option maxRecDepth 20000 in
theorem ggX6_cavesOf_X6_isFree : GoodIn wsX6_cavesOf wsX6_isFree := goodIn_r _ [31, 32, 33, 34, 10, 35, 36, 37, 38, 39, 40, 41, 42, 43, 44] (by decide +kernel) (by decide +kernel)
set_option maxRecDepth 20000 in
theorem gX6_cavesOf_X6_isFree : GoodIn wsX6_cavesOf (wsV RX6 53 RX6 yX6_isFree wsX6_isFree) := goodIn_app (goodIn_of _ (by decide +kernel)) ggX6_cavesOf_X6_isFree
set_option maxRecDepth 20000 in
theorem ggX6_cavesOf_X6_get : GoodIn wsX6_cavesOf wsX6_get := goodIn_r _ [35, 36, 37, 38, 39, 40, 41, 42, 43, 44] (by decide +kernel) (by decide +kernel)
set_option maxRecDepth 20000 in
theorem gX6_cavesOf_X6_get : GoodIn wsX6_cavesOf (wsV RX6 39 RX6 yX6_get wsX6_get) := goodIn_app (goodIn_of _ (by decide +kernel)) ggX6_cavesOf_X6_get
theorem dX6_cavesOf_0 : decode cX6_cavesOf 0 = .ok (.iconst 0, 1) := by decide +kernel
theorem dX6_cavesOf_1 : decode cX6_cavesOf 1 = .ok (.istore_n 2, 1) := by decide +kernel
theorem dX6_cavesOf_2 : decode cX6_cavesOf 2 = .ok (.aload_n 0, 1) := by decide +kernel
theorem dX6_cavesOf_3 : decode cX6_cavesOf 3 = .ok (.invokevirtual 50, 3) := by decide +kernel
theorem dX6_cavesOf_6 : decode cX6_cavesOf 6 = .ok (.iconst 0, 1) := by decide +kernel
theorem dX6_cavesOf_7 : decode cX6_cavesOf 7 = .ok (.istore_n 3, 1) := by decide +kernel
theorem dX6_cavesOf_8 : decode cX6_cavesOf 8 = .ok (.iload_n 3, 1) := by decide +kernel
theorem dX6_cavesOf_9 : decode cX6_cavesOf 9 = .ok (.sipush 256, 3) := by decide +kernel
theorem dX6_cavesOf_12 : decode cX6_cavesOf 12 = .ok (.if_icmp .ge 143, 3) := by decide +kernel
theorem dX6_cavesOf_15 : decode cX6_cavesOf 15 = .ok (.aload_n 0, 1) := by decide +kernel
theorem dX6_cavesOf_16 : decode cX6_cavesOf 16 = .ok (.iload_n 3, 1) := by decide +kernel
theorem dX6_cavesOf_17 : decode cX6_cavesOf 17 = .ok (.invokevirtual 46, 3) := by decide +kernel
theorem dX6_cavesOf_20 : decode cX6_cavesOf 20 = .ok (.ifCond .eq 129, 3) := by decide +kernel
theorem dX6_cavesOf_23 : decode cX6_cavesOf 23 = .ok (.aload_n 0, 1) := by decide +kernel
theorem dX6_cavesOf_24 : decode cX6_cavesOf 24 = .ok (.getfield 25, 3) := by decide +kernel
theorem dX6_cavesOf_27 : decode cX6_cavesOf 27 = .ok (.iload_n 3, 1) := by decide +kernel
theorem dX6_cavesOf_28 : decode cX6_cavesOf 28 = .ok (.iaload, 1) := by decide +kernel
theorem dX6_cavesOf_29 : decode cX6_cavesOf 29 = .ok (.iconst (-1), 1) := by decide +kernel
theorem dX6_cavesOf_30 : decode cX6_cavesOf 30 = .ok (.if_icmp .eq 6, 3) := by decide +kernel
theorem dX6_cavesOf_33 : decode cX6_cavesOf 33 = .ok (.goto 116, 3) := by decide +kernel
theorem dX6_cavesOf_36 : decode cX6_cavesOf 36 = .ok (.aload_n 0, 1) := by decide +kernel
theorem dX6_cavesOf_37 : decode cX6_cavesOf 37 = .ok (.invokevirtual 142, 3) := by decide +kernel
theorem dX6_cavesOf_40 : decode cX6_cavesOf 40 = .ok (.istore 4, 2) := by decide +kernel
theorem dX6_cavesOf_42 : decode cX6_cavesOf 42 = .ok (.iconst 0, 1) := by decide +kernel
theorem dX6_cavesOf_43 : decode cX6_cavesOf 43 = .ok (.istore 5, 2) := by decide +kernel
theorem dX6_cavesOf_45 : decode cX6_cavesOf 45 = .ok (.aload_n 0, 1) := by decide +kernel
theorem dX6_cavesOf_46 : decode cX6_cavesOf 46 = .ok (.iload_n 3, 1) := by decide +kernel
theorem dX6_cavesOf_47 : decode cX6_cavesOf 47 = .ok (.invokevirtual 145, 3) := by decide +kernel
theorem dX6_cavesOf_50 : decode cX6_cavesOf 50 = .ok (.aload_n 0, 1) := by decide +kernel
theorem dX6_cavesOf_51 : decode cX6_cavesOf 51 = .ok (.invokevirtual 142, 3) := by decide +kernel
theorem dX6_cavesOf_54 : decode cX6_cavesOf 54 = .ok (.iload 4, 2) := by decide +kernel
theorem dX6_cavesOf_56 : decode cX6_cavesOf 56 = .ok (.isub, 1) := by decide +kernel
theorem dX6_cavesOf_57 : decode cX6_cavesOf 57 = .ok (.istore 6, 2) := by decide +kernel
theorem dX6_cavesOf_59 : decode cX6_cavesOf 59 = .ok (.iconst 0, 1) := by decide +kernel
theorem dX6_cavesOf_60 : decode cX6_cavesOf 60 = .ok (.istore 7, 2) := by decide +kernel
theorem dX6_cavesOf_62 : decode cX6_cavesOf 62 = .ok (.iload 7, 2) := by decide +kernel
theorem dX6_cavesOf_64 : decode cX6_cavesOf 64 = .ok (.aload_n 0, 1) := by decide +kernel
theorem dX6_cavesOf_65 : decode cX6_cavesOf 65 = .ok (.getfield 36, 3) := by decide +kernel
theorem dX6_cavesOf_68 : decode cX6_cavesOf 68 = .ok (.if_icmp .ge 50, 3) := by decide +kernel
theorem dX6_cavesOf_71 : decode cX6_cavesOf 71 = .ok (.iload 5, 2) := by decide +kernel
theorem dX6_cavesOf_73 : decode cX6_cavesOf 73 = .ok (.ifCond .ne 32, 3) := by decide +kernel
theorem dX6_cavesOf_76 : decode cX6_cavesOf 76 = .ok (.aload_n 0, 1) := by decide +kernel
theorem dX6_cavesOf_77 : decode cX6_cavesOf 77 = .ok (.iload 7, 2) := by decide +kernel
theorem dX6_cavesOf_79 : decode cX6_cavesOf 79 = .ok (.invokevirtual 53, 3) := by decide +kernel
theorem dX6_cavesOf_82 : decode cX6_cavesOf 82 = .ok (.ifCond .eq 27, 3) := by decide +kernel
theorem dX6_cavesOf_85 : decode cX6_cavesOf 85 = .ok (.aload_n 0, 1) := by decide +kernel
theorem dX6_cavesOf_86 : decode cX6_cavesOf 86 = .ok (.getfield 25, 3) := by decide +kernel
theorem dX6_cavesOf_89 : decode cX6_cavesOf 89 = .ok (.aload_n 0, 1) := by decide +kernel
theorem dX6_cavesOf_90 : decode cX6_cavesOf 90 = .ok (.iload 7, 2) := by decide +kernel
theorem dX6_cavesOf_92 : decode cX6_cavesOf 92 = .ok (.iconst 0, 1) := by decide +kernel
theorem dX6_cavesOf_93 : decode cX6_cavesOf 93 = .ok (.invokevirtual 39, 3) := by decide +kernel
theorem dX6_cavesOf_96 : decode cX6_cavesOf 96 = .ok (.iaload, 1) := by decide +kernel
theorem dX6_cavesOf_97 : decode cX6_cavesOf 97 = .ok (.iload_n 3, 1) := by decide +kernel
theorem dX6_cavesOf_98 : decode cX6_cavesOf 98 = .ok (.sipush 256, 3) := by decide +kernel
theorem dX6_cavesOf_101 : decode cX6_cavesOf 101 = .ok (.iadd, 1) := by decide +kernel
theorem dX6_cavesOf_102 : decode cX6_cavesOf 102 = .ok (.if_icmp .ne 7, 3) := by decide +kernel
theorem dX6_cavesOf_105 : decode cX6_cavesOf 105 = .ok (.iconst 1, 1) := by decide +kernel
theorem dX6_cavesOf_106 : decode cX6_cavesOf 106 = .ok (.goto 4, 3) := by decide +kernel
theorem dX6_cavesOf_109 : decode cX6_cavesOf 109 = .ok (.iconst 0, 1) := by decide +kernel
theorem dX6_cavesOf_110 : decode cX6_cavesOf 110 = .ok (.istore 5, 2) := by decide +kernel
theorem dX6_cavesOf_112 : decode cX6_cavesOf 112 = .ok (.iinc 7 1, 3) := by decide +kernel
theorem dX6_cavesOf_115 : decode cX6_cavesOf 115 = .ok (.goto (-53), 3) := by decide +kernel
theorem dX6_cavesOf_118 : decode cX6_cavesOf 118 = .ok (.iload_n 1, 1) := by decide +kernel
theorem dX6_cavesOf_119 : decode cX6_cavesOf 119 = .ok (.iconst 1, 1) := by decide +kernel
theorem dX6_cavesOf_120 : decode cX6_cavesOf 120 = .ok (.if_icmp .ne 12, 3) := by decide +kernel
theorem dX6_cavesOf_123 : decode cX6_cavesOf 123 = .ok (.iload_n 2, 1) := by decide +kernel
theorem dX6_cavesOf_124 : decode cX6_cavesOf 124 = .ok (.iload 6, 2) := by decide +kernel
theorem dX6_cavesOf_126 : decode cX6_cavesOf 126 = .ok (.invokestatic 116, 3) := by decide +kernel
theorem dX6_cavesOf_129 : decode cX6_cavesOf 129 = .ok (.goto 19, 3) := by decide +kernel
theorem dX6_cavesOf_132 : decode cX6_cavesOf 132 = .ok (.iload_n 2, 1) := by decide +kernel
theorem dX6_cavesOf_133 : decode cX6_cavesOf 133 = .ok (.iload_n 1, 1) := by decide +kernel
theorem dX6_cavesOf_134 : decode cX6_cavesOf 134 = .ok (.ifCond .eq 8, 3) := by decide +kernel
theorem dX6_cavesOf_137 : decode cX6_cavesOf 137 = .ok (.iload 5, 2) := by decide +kernel
theorem dX6_cavesOf_139 : decode cX6_cavesOf 139 = .ok (.ifCond .eq 7, 3) := by decide +kernel
theorem dX6_cavesOf_142 : decode cX6_cavesOf 142 = .ok (.iconst 1, 1) := by decide +kernel
theorem dX6_cavesOf_143 : decode cX6_cavesOf 143 = .ok (.goto 4, 3) := by decide +kernel
theorem dX6_cavesOf_146 : decode cX6_cavesOf 146 = .ok (.iconst 0, 1) := by decide +kernel
theorem dX6_cavesOf_147 : decode cX6_cavesOf 147 = .ok (.iadd, 1) := by decide +kernel
theorem dX6_cavesOf_148 : decode cX6_cavesOf 148 = .ok (.istore_n 2, 1) := by decide +kernel
theorem dX6_cavesOf_149 : decode cX6_cavesOf 149 = .ok (.iinc 3 1, 3) := by decide +kernel
theorem dX6_cavesOf_152 : decode cX6_cavesOf 152 = .ok (.goto (-144), 3) := by decide +kernel
theorem dX6_cavesOf_155 : decode cX6_cavesOf 155 = .ok (.iload_n 2, 1) := by decide +kernel
theorem dX6_cavesOf_156 : decode cX6_cavesOf 156 = .ok (.ireturn, 1) := by decide +kernel
theorem dX6_found_0 : decode cX6_found 0 = .ok (.iconst 0, 1) := by decide +kernel
theorem dX6_found_1 : decode cX6_found 1 = .ok (.istore_n 1, 1) := by decide +kernel
theorem dX6_found_2 : decode cX6_found 2 = .ok (.iconst 0, 1) := by decide +kernel
theorem dX6_found_3 : decode cX6_found 3 = .ok (.istore_n 2, 1) := by decide +kernel
theorem dX6_found_4 : decode cX6_found 4 = .ok (.iload_n 2, 1) := by decide +kernel
theorem dX6_found_5 : decode cX6_found 5 = .ok (.sipush 256, 3) := by decide +kernel
theorem dX6_found_8 : decode cX6_found 8 = .ok (.if_icmp .ge 27, 3) := by decide +kernel
theorem dX6_found_11 : decode cX6_found 11 = .ok (.iload_n 1, 1) := by decide +kernel
theorem dX6_found_12 : decode cX6_found 12 = .ok (.aload_n 0, 1) := by decide +kernel
theorem dX6_found_13 : decode cX6_found 13 = .ok (.getfield 25, 3) := by decide +kernel
theorem dX6_found_16 : decode cX6_found 16 = .ok (.iload_n 2, 1) := by decide +kernel
theorem dX6_found_17 : decode cX6_found 17 = .ok (.iaload, 1) := by decide +kernel
theorem dX6_found_18 : decode cX6_found 18 = .ok (.iconst (-1), 1) := by decide +kernel
theorem dX6_found_19 : decode cX6_found 19 = .ok (.if_icmp .eq 7, 3) := by decide +kernel
theorem dX6_found_22 : decode cX6_found 22 = .ok (.iconst 1, 1) := by decide +kernel
theorem dX6_found_23 : decode cX6_found 23 = .ok (.goto 4, 3) := by decide +kernel
theorem dX6_found_26 : decode cX6_found 26 = .ok (.iconst 0, 1) := by decide +kernel
theorem dX6_found_27 : decode cX6_found 27 = .ok (.iadd, 1) := by decide +kernel
theorem dX6_found_28 : decode cX6_found 28 = .ok (.istore_n 1, 1) := by decide +kernel
theorem dX6_found_29 : decode cX6_found 29 = .ok (.iinc 2 1, 3) := by decide +kernel
theorem dX6_found_32 : decode cX6_found 32 = .ok (.goto (-28), 3) := by decide +kernel
theorem dX6_found_35 : decode cX6_found 35 = .ok (.iload_n 1, 1) := by decide +kernel
theorem dX6_found_36 : decode cX6_found 36 = .ok (.ireturn, 1) := by decide +kernel
set_option maxRecDepth 20000 in
theorem ggX6_spreadFrom_X6_beside : GoodIn wsX6_spreadFrom wsX6_beside := goodIn_r _ [5] (by decide +kernel) (by decide +kernel)
set_option maxRecDepth 20000 in
theorem gX6_spreadFrom_X6_beside : GoodIn wsX6_spreadFrom (va_wsS RX6 43 yX6_beside wsX6_beside) := goodIn_app (goodIn_of _ (by decide +kernel)) ggX6_spreadFrom_X6_beside
set_option maxRecDepth 20000 in
theorem ggX6_spreadFrom_X6_isOpen : GoodIn wsX6_spreadFrom wsX6_isOpen := goodIn_r _ [9, 10, 11, 12, 13, 14, 15, 16, 17, 18] (by decide +kernel) (by decide +kernel)
set_option maxRecDepth 20000 in
theorem gX6_spreadFrom_X6_isOpen : GoodIn wsX6_spreadFrom (wsV RX6 46 RX6 yX6_isOpen wsX6_isOpen) := goodIn_app (goodIn_of _ (by decide +kernel)) ggX6_spreadFrom_X6_isOpen
theorem dX6_spreadFrom_0 : decode cX6_spreadFrom 0 = .ok (.aload_n 0, 1) := by decide +kernel
theorem dX6_spreadFrom_1 : decode cX6_spreadFrom 1 = .ok (.getfield 25, 3) := by decide +kernel
theorem dX6_spreadFrom_4 : decode cX6_spreadFrom 4 = .ok (.iload_n 1, 1) := by decide +kernel
theorem dX6_spreadFrom_5 : decode cX6_spreadFrom 5 = .ok (.iload_n 1, 1) := by decide +kernel
theorem dX6_spreadFrom_6 : decode cX6_spreadFrom 6 = .ok (.sipush 256, 3) := by decide +kernel
theorem dX6_spreadFrom_9 : decode cX6_spreadFrom 9 = .ok (.iadd, 1) := by decide +kernel
theorem dX6_spreadFrom_10 : decode cX6_spreadFrom 10 = .ok (.iastore, 1) := by decide +kernel
theorem dX6_spreadFrom_11 : decode cX6_spreadFrom 11 = .ok (.iconst 1, 1) := by decide +kernel
theorem dX6_spreadFrom_12 : decode cX6_spreadFrom 12 = .ok (.istore_n 2, 1) := by decide +kernel
theorem dX6_spreadFrom_13 : decode cX6_spreadFrom 13 = .ok (.iload_n 2, 1) := by decide +kernel
theorem dX6_spreadFrom_14 : decode cX6_spreadFrom 14 = .ok (.ifCond .eq 103, 3) := by decide +kernel
theorem dX6_spreadFrom_17 : decode cX6_spreadFrom 17 = .ok (.iconst 0, 1) := by decide +kernel
theorem dX6_spreadFrom_18 : decode cX6_spreadFrom 18 = .ok (.istore_n 2, 1) := by decide +kernel
theorem dX6_spreadFrom_19 : decode cX6_spreadFrom 19 = .ok (.iconst 0, 1) := by decide +kernel
theorem dX6_spreadFrom_20 : decode cX6_spreadFrom 20 = .ok (.istore_n 3, 1) := by decide +kernel
theorem dX6_spreadFrom_21 : decode cX6_spreadFrom 21 = .ok (.iload_n 3, 1) := by decide +kernel
theorem dX6_spreadFrom_22 : decode cX6_spreadFrom 22 = .ok (.sipush 256, 3) := by decide +kernel
theorem dX6_spreadFrom_25 : decode cX6_spreadFrom 25 = .ok (.if_icmp .ge 89, 3) := by decide +kernel
theorem dX6_spreadFrom_28 : decode cX6_spreadFrom 28 = .ok (.iconst 0, 1) := by decide +kernel
theorem dX6_spreadFrom_29 : decode cX6_spreadFrom 29 = .ok (.istore 4, 2) := by decide +kernel
theorem dX6_spreadFrom_31 : decode cX6_spreadFrom 31 = .ok (.iload 4, 2) := by decide +kernel
theorem dX6_spreadFrom_33 : decode cX6_spreadFrom 33 = .ok (.iconst 4, 1) := by decide +kernel
theorem dX6_spreadFrom_34 : decode cX6_spreadFrom 34 = .ok (.if_icmp .ge 74, 3) := by decide +kernel
theorem dX6_spreadFrom_37 : decode cX6_spreadFrom 37 = .ok (.aload_n 0, 1) := by decide +kernel
theorem dX6_spreadFrom_38 : decode cX6_spreadFrom 38 = .ok (.getfield 25, 3) := by decide +kernel
theorem dX6_spreadFrom_41 : decode cX6_spreadFrom 41 = .ok (.iload_n 3, 1) := by decide +kernel
theorem dX6_spreadFrom_42 : decode cX6_spreadFrom 42 = .ok (.iaload, 1) := by decide +kernel
theorem dX6_spreadFrom_43 : decode cX6_spreadFrom 43 = .ok (.iload_n 1, 1) := by decide +kernel
theorem dX6_spreadFrom_44 : decode cX6_spreadFrom 44 = .ok (.sipush 256, 3) := by decide +kernel
theorem dX6_spreadFrom_47 : decode cX6_spreadFrom 47 = .ok (.iadd, 1) := by decide +kernel
theorem dX6_spreadFrom_48 : decode cX6_spreadFrom 48 = .ok (.if_icmp .ne 60, 3) := by decide +kernel
theorem dX6_spreadFrom_51 : decode cX6_spreadFrom 51 = .ok (.iload_n 3, 1) := by decide +kernel
theorem dX6_spreadFrom_52 : decode cX6_spreadFrom 52 = .ok (.iload 4, 2) := by decide +kernel
theorem dX6_spreadFrom_54 : decode cX6_spreadFrom 54 = .ok (.invokestatic 43, 3) := by decide +kernel
theorem dX6_spreadFrom_57 : decode cX6_spreadFrom 57 = .ok (.istore 5, 2) := by decide +kernel
theorem dX6_spreadFrom_59 : decode cX6_spreadFrom 59 = .ok (.iload 5, 2) := by decide +kernel
theorem dX6_spreadFrom_61 : decode cX6_spreadFrom 61 = .ok (.iconst (-1), 1) := by decide +kernel
theorem dX6_spreadFrom_62 : decode cX6_spreadFrom 62 = .ok (.if_icmp .eq 40, 3) := by decide +kernel
theorem dX6_spreadFrom_65 : decode cX6_spreadFrom 65 = .ok (.aload_n 0, 1) := by decide +kernel
theorem dX6_spreadFrom_66 : decode cX6_spreadFrom 66 = .ok (.iload 5, 2) := by decide +kernel
theorem dX6_spreadFrom_68 : decode cX6_spreadFrom 68 = .ok (.invokevirtual 46, 3) := by decide +kernel
theorem dX6_spreadFrom_71 : decode cX6_spreadFrom 71 = .ok (.ifCond .eq 31, 3) := by decide +kernel
theorem dX6_spreadFrom_74 : decode cX6_spreadFrom 74 = .ok (.aload_n 0, 1) := by decide +kernel
theorem dX6_spreadFrom_75 : decode cX6_spreadFrom 75 = .ok (.getfield 25, 3) := by decide +kernel
theorem dX6_spreadFrom_78 : decode cX6_spreadFrom 78 = .ok (.iload 5, 2) := by decide +kernel
theorem dX6_spreadFrom_80 : decode cX6_spreadFrom 80 = .ok (.iaload, 1) := by decide +kernel
theorem dX6_spreadFrom_81 : decode cX6_spreadFrom 81 = .ok (.iconst (-1), 1) := by decide +kernel
theorem dX6_spreadFrom_82 : decode cX6_spreadFrom 82 = .ok (.if_icmp .eq 6, 3) := by decide +kernel
theorem dX6_spreadFrom_85 : decode cX6_spreadFrom 85 = .ok (.goto 17, 3) := by decide +kernel
theorem dX6_spreadFrom_88 : decode cX6_spreadFrom 88 = .ok (.aload_n 0, 1) := by decide +kernel
theorem dX6_spreadFrom_89 : decode cX6_spreadFrom 89 = .ok (.getfield 25, 3) := by decide +kernel
theorem dX6_spreadFrom_92 : decode cX6_spreadFrom 92 = .ok (.iload 5, 2) := by decide +kernel
theorem dX6_spreadFrom_94 : decode cX6_spreadFrom 94 = .ok (.iload_n 1, 1) := by decide +kernel
theorem dX6_spreadFrom_95 : decode cX6_spreadFrom 95 = .ok (.sipush 256, 3) := by decide +kernel
theorem dX6_spreadFrom_98 : decode cX6_spreadFrom 98 = .ok (.iadd, 1) := by decide +kernel
theorem dX6_spreadFrom_99 : decode cX6_spreadFrom 99 = .ok (.iastore, 1) := by decide +kernel
theorem dX6_spreadFrom_100 : decode cX6_spreadFrom 100 = .ok (.iconst 1, 1) := by decide +kernel
theorem dX6_spreadFrom_101 : decode cX6_spreadFrom 101 = .ok (.istore_n 2, 1) := by decide +kernel
theorem dX6_spreadFrom_102 : decode cX6_spreadFrom 102 = .ok (.iinc 4 1, 3) := by decide +kernel
theorem dX6_spreadFrom_105 : decode cX6_spreadFrom 105 = .ok (.goto (-74), 3) := by decide +kernel
theorem dX6_spreadFrom_108 : decode cX6_spreadFrom 108 = .ok (.iinc 3 1, 3) := by decide +kernel
theorem dX6_spreadFrom_111 : decode cX6_spreadFrom 111 = .ok (.goto (-90), 3) := by decide +kernel
theorem dX6_spreadFrom_114 : decode cX6_spreadFrom 114 = .ok (.goto (-101), 3) := by decide +kernel
theorem dX6_spreadFrom_117 : decode cX6_spreadFrom 117 = .ok (.return_, 1) := by decide +kernel
set_option maxRecDepth 20000 in
theorem ggX6_caves_X6_isIn : GoodIn wsX6_caves wsX6_isIn := goodIn_r _ [5] (by decide +kernel) (by decide +kernel)
set_option maxRecDepth 20000 in
theorem gX6_caves_X6_isIn : GoodIn wsX6_caves (va_wsS RX6 32 yX6_isIn wsX6_isIn) := goodIn_app (goodIn_of _ (by decide +kernel)) ggX6_caves_X6_isIn
set_option maxRecDepth 20000 in
theorem ggX6_caves_X6_cavesOf : GoodIn wsX6_caves wsX6_cavesOf := goodIn_r _ [9, 10, 11, 12, 13, 14, 15, 16, 17, 18, 4, 19, 20, 21, 22, 23, 24, 25, 26, 27, 28, 29, 30, 31, 32, 33, 34, 35, 36, 37, 38, 39, 40, 41, 42, 43, 44, 49, 50, 51, 52, 53, 54, 55, 56] (by decide +kernel) (by decide +kernel)
set_option maxRecDepth 20000 in
theorem gX6_caves_X6_cavesOf : GoodIn wsX6_caves (wsV RX6 148 RX6 yX6_cavesOf wsX6_cavesOf) := goodIn_app (goodIn_of _ (by decide +kernel)) ggX6_caves_X6_cavesOf
set_option maxRecDepth 20000 in
theorem ggX6_caves_X6_fail : GoodIn wsX6_caves wsX6_fail := goodIn_r _ [48, 1, 49, 50, 51, 52, 53, 54, 55, 56] (by decide +kernel) (by decide +kernel)
set_option maxRecDepth 20000 in
theorem gX6_caves_X6_fail : GoodIn wsX6_caves (wsV RX6 64 RX6 yX6_fail wsX6_fail) := goodIn_app (goodIn_of _ (by decide +kernel)) ggX6_caves_X6_fail
theorem dX6_caves_0 : decode cX6_caves 0 = .ok (.aload_n 0, 1) := by decide +kernel
theorem dX6_caves_1 : decode cX6_caves 1 = .ok (.iconst 0, 1) := by decide +kernel
theorem dX6_caves_2 : decode cX6_caves 2 = .ok (.putfield 28, 3) := by decide +kernel
theorem dX6_caves_5 : decode cX6_caves 5 = .ok (.iload_n 1, 1) := by decide +kernel
theorem dX6_caves_6 : decode cX6_caves 6 = .ok (.iconst 0, 1) := by decide +kernel
theorem dX6_caves_7 : decode cX6_caves 7 = .ok (.iconst 2, 1) := by decide +kernel
theorem dX6_caves_8 : decode cX6_caves 8 = .ok (.invokestatic 32, 3) := by decide +kernel
theorem dX6_caves_11 : decode cX6_caves 11 = .ok (.ifCond .eq 11, 3) := by decide +kernel
theorem dX6_caves_14 : decode cX6_caves 14 = .ok (.aload_n 0, 1) := by decide +kernel
theorem dX6_caves_15 : decode cX6_caves 15 = .ok (.iload_n 1, 1) := by decide +kernel
theorem dX6_caves_16 : decode cX6_caves 16 = .ok (.invokevirtual 148, 3) := by decide +kernel
theorem dX6_caves_19 : decode cX6_caves 19 = .ok (.goto 8, 3) := by decide +kernel
theorem dX6_caves_22 : decode cX6_caves 22 = .ok (.aload_n 0, 1) := by decide +kernel
theorem dX6_caves_23 : decode cX6_caves 23 = .ok (.iconst 1, 1) := by decide +kernel
theorem dX6_caves_24 : decode cX6_caves 24 = .ok (.invokevirtual 64, 3) := by decide +kernel
theorem dX6_caves_27 : decode cX6_caves 27 = .ok (.ireturn, 1) := by decide +kernel
theorem dX6_kept_0 : decode cX6_kept 0 = .ok (.iconst 5, 1) := by decide +kernel
theorem dX6_kept_1 : decode cX6_kept 1 = .ok (.anewarray 151, 3) := by decide +kernel
theorem dX6_kept_4 : decode cX6_kept 4 = .ok (.dup, 1) := by decide +kernel
theorem dX6_kept_5 : decode cX6_kept 5 = .ok (.iconst 0, 1) := by decide +kernel
theorem dX6_kept_6 : decode cX6_kept 6 = .ok (.aload_n 0, 1) := by decide +kernel
theorem dX6_kept_7 : decode cX6_kept 7 = .ok (.getfield 9, 3) := by decide +kernel
theorem dX6_kept_10 : decode cX6_kept 10 = .ok (.invokevirtual 152, 3) := by decide +kernel
theorem dX6_kept_13 : decode cX6_kept 13 = .ok (.checkcast 151, 3) := by decide +kernel
theorem dX6_kept_16 : decode cX6_kept 16 = .ok (.aastore, 1) := by decide +kernel
theorem dX6_kept_17 : decode cX6_kept 17 = .ok (.dup, 1) := by decide +kernel
theorem dX6_kept_18 : decode cX6_kept 18 = .ok (.iconst 1, 1) := by decide +kernel
theorem dX6_kept_19 : decode cX6_kept 19 = .ok (.aload_n 0, 1) := by decide +kernel
theorem dX6_kept_20 : decode cX6_kept 20 = .ok (.getfield 13, 3) := by decide +kernel
theorem dX6_kept_23 : decode cX6_kept 23 = .ok (.invokevirtual 152, 3) := by decide +kernel
theorem dX6_kept_26 : decode cX6_kept 26 = .ok (.checkcast 151, 3) := by decide +kernel
theorem dX6_kept_29 : decode cX6_kept 29 = .ok (.aastore, 1) := by decide +kernel
theorem dX6_kept_30 : decode cX6_kept 30 = .ok (.dup, 1) := by decide +kernel
theorem dX6_kept_31 : decode cX6_kept 31 = .ok (.iconst 2, 1) := by decide +kernel
theorem dX6_kept_32 : decode cX6_kept 32 = .ok (.aload_n 0, 1) := by decide +kernel
theorem dX6_kept_33 : decode cX6_kept 33 = .ok (.getfield 16, 3) := by decide +kernel
theorem dX6_kept_36 : decode cX6_kept 36 = .ok (.invokevirtual 152, 3) := by decide +kernel
theorem dX6_kept_39 : decode cX6_kept 39 = .ok (.checkcast 151, 3) := by decide +kernel
theorem dX6_kept_42 : decode cX6_kept 42 = .ok (.aastore, 1) := by decide +kernel
theorem dX6_kept_43 : decode cX6_kept 43 = .ok (.dup, 1) := by decide +kernel
theorem dX6_kept_44 : decode cX6_kept 44 = .ok (.iconst 3, 1) := by decide +kernel
theorem dX6_kept_45 : decode cX6_kept 45 = .ok (.aload_n 0, 1) := by decide +kernel
theorem dX6_kept_46 : decode cX6_kept 46 = .ok (.getfield 19, 3) := by decide +kernel
theorem dX6_kept_49 : decode cX6_kept 49 = .ok (.invokevirtual 152, 3) := by decide +kernel
theorem dX6_kept_52 : decode cX6_kept 52 = .ok (.checkcast 151, 3) := by decide +kernel
theorem dX6_kept_55 : decode cX6_kept 55 = .ok (.aastore, 1) := by decide +kernel
theorem dX6_kept_56 : decode cX6_kept 56 = .ok (.dup, 1) := by decide +kernel
theorem dX6_kept_57 : decode cX6_kept 57 = .ok (.iconst 4, 1) := by decide +kernel
theorem dX6_kept_58 : decode cX6_kept 58 = .ok (.aload_n 0, 1) := by decide +kernel
theorem dX6_kept_59 : decode cX6_kept 59 = .ok (.getfield 22, 3) := by decide +kernel
theorem dX6_kept_62 : decode cX6_kept 62 = .ok (.invokevirtual 152, 3) := by decide +kernel
theorem dX6_kept_65 : decode cX6_kept 65 = .ok (.checkcast 151, 3) := by decide +kernel
theorem dX6_kept_68 : decode cX6_kept 68 = .ok (.aastore, 1) := by decide +kernel
theorem dX6_kept_69 : decode cX6_kept 69 = .ok (.areturn, 1) := by decide +kernel
theorem dX6_bringBack_0 : decode cX6_bringBack 0 = .ok (.aload_n 0, 1) := by decide +kernel
theorem dX6_bringBack_1 : decode cX6_bringBack 1 = .ok (.aload_n 1, 1) := by decide +kernel
theorem dX6_bringBack_2 : decode cX6_bringBack 2 = .ok (.iconst 0, 1) := by decide +kernel
theorem dX6_bringBack_3 : decode cX6_bringBack 3 = .ok (.aaload, 1) := by decide +kernel
theorem dX6_bringBack_4 : decode cX6_bringBack 4 = .ok (.putfield 9, 3) := by decide +kernel
theorem dX6_bringBack_7 : decode cX6_bringBack 7 = .ok (.aload_n 0, 1) := by decide +kernel
theorem dX6_bringBack_8 : decode cX6_bringBack 8 = .ok (.aload_n 1, 1) := by decide +kernel
theorem dX6_bringBack_9 : decode cX6_bringBack 9 = .ok (.iconst 1, 1) := by decide +kernel
theorem dX6_bringBack_10 : decode cX6_bringBack 10 = .ok (.aaload, 1) := by decide +kernel
theorem dX6_bringBack_11 : decode cX6_bringBack 11 = .ok (.putfield 13, 3) := by decide +kernel
theorem dX6_bringBack_14 : decode cX6_bringBack 14 = .ok (.aload_n 0, 1) := by decide +kernel
theorem dX6_bringBack_15 : decode cX6_bringBack 15 = .ok (.aload_n 1, 1) := by decide +kernel
theorem dX6_bringBack_16 : decode cX6_bringBack 16 = .ok (.iconst 2, 1) := by decide +kernel
theorem dX6_bringBack_17 : decode cX6_bringBack 17 = .ok (.aaload, 1) := by decide +kernel
theorem dX6_bringBack_18 : decode cX6_bringBack 18 = .ok (.putfield 16, 3) := by decide +kernel
theorem dX6_bringBack_21 : decode cX6_bringBack 21 = .ok (.aload_n 0, 1) := by decide +kernel
theorem dX6_bringBack_22 : decode cX6_bringBack 22 = .ok (.aload_n 1, 1) := by decide +kernel
theorem dX6_bringBack_23 : decode cX6_bringBack 23 = .ok (.iconst 3, 1) := by decide +kernel
theorem dX6_bringBack_24 : decode cX6_bringBack 24 = .ok (.aaload, 1) := by decide +kernel
theorem dX6_bringBack_25 : decode cX6_bringBack 25 = .ok (.putfield 19, 3) := by decide +kernel
theorem dX6_bringBack_28 : decode cX6_bringBack 28 = .ok (.aload_n 0, 1) := by decide +kernel
theorem dX6_bringBack_29 : decode cX6_bringBack 29 = .ok (.aload_n 1, 1) := by decide +kernel
theorem dX6_bringBack_30 : decode cX6_bringBack 30 = .ok (.iconst 4, 1) := by decide +kernel
theorem dX6_bringBack_31 : decode cX6_bringBack 31 = .ok (.aaload, 1) := by decide +kernel
theorem dX6_bringBack_32 : decode cX6_bringBack 32 = .ok (.putfield 22, 3) := by decide +kernel
theorem dX6_bringBack_35 : decode cX6_bringBack 35 = .ok (.return_, 1) := by decide +kernel
set_option maxRecDepth 20000 in
theorem ggX6_areTogether_X6_isFree : GoodIn wsX6_areTogether wsX6_isFree := goodIn_r _ [5, 6, 7, 8, 4, 9, 10, 17, 18, 19, 20, 21, 22, 23, 24] (by decide +kernel) (by decide +kernel)
set_option maxRecDepth 20000 in
theorem gX6_areTogether_X6_isFree : GoodIn wsX6_areTogether (wsV RX6 53 RX6 yX6_isFree wsX6_isFree) := goodIn_app (goodIn_of _ (by decide +kernel)) ggX6_areTogether_X6_isFree
set_option maxRecDepth 20000 in
theorem ggX6_areTogether_X6_get : GoodIn wsX6_areTogether wsX6_get := goodIn_r _ [9, 10, 17, 18, 19, 20, 21, 22, 23, 24] (by decide +kernel) (by decide +kernel)
set_option maxRecDepth 20000 in
theorem gX6_areTogether_X6_get : GoodIn wsX6_areTogether (wsV RX6 39 RX6 yX6_get wsX6_get) := goodIn_app (goodIn_of _ (by decide +kernel)) ggX6_areTogether_X6_get
set_option maxRecDepth 20000 in
theorem ggX6_areTogether_X6_isNear : GoodIn wsX6_areTogether wsX6_isNear := goodIn_r _ [13, 14, 15, 4, 16] (by decide +kernel) (by decide +kernel)
set_option maxRecDepth 20000 in
theorem gX6_areTogether_X6_isNear : GoodIn wsX6_areTogether (va_wsS RX6 107 yX6_isNear wsX6_isNear) := goodIn_app (goodIn_of _ (by decide +kernel)) ggX6_areTogether_X6_isNear
theorem dX6_areTogether_0 : decode cX6_areTogether 0 = .ok (.aload_n 0, 1) := by decide +kernel
theorem dX6_areTogether_1 : decode cX6_areTogether 1 = .ok (.iload_n 1, 1) := by decide +kernel
theorem dX6_areTogether_2 : decode cX6_areTogether 2 = .ok (.invokevirtual 53, 3) := by decide +kernel
theorem dX6_areTogether_5 : decode cX6_areTogether 5 = .ok (.ifCond .eq 33, 3) := by decide +kernel
theorem dX6_areTogether_8 : decode cX6_areTogether 8 = .ok (.aload_n 0, 1) := by decide +kernel
theorem dX6_areTogether_9 : decode cX6_areTogether 9 = .ok (.iload_n 2, 1) := by decide +kernel
theorem dX6_areTogether_10 : decode cX6_areTogether 10 = .ok (.invokevirtual 53, 3) := by decide +kernel
theorem dX6_areTogether_13 : decode cX6_areTogether 13 = .ok (.ifCond .eq 25, 3) := by decide +kernel
theorem dX6_areTogether_16 : decode cX6_areTogether 16 = .ok (.aload_n 0, 1) := by decide +kernel
theorem dX6_areTogether_17 : decode cX6_areTogether 17 = .ok (.iload_n 1, 1) := by decide +kernel
theorem dX6_areTogether_18 : decode cX6_areTogether 18 = .ok (.iconst 0, 1) := by decide +kernel
theorem dX6_areTogether_19 : decode cX6_areTogether 19 = .ok (.invokevirtual 39, 3) := by decide +kernel
theorem dX6_areTogether_22 : decode cX6_areTogether 22 = .ok (.aload_n 0, 1) := by decide +kernel
theorem dX6_areTogether_23 : decode cX6_areTogether 23 = .ok (.iload_n 2, 1) := by decide +kernel
theorem dX6_areTogether_24 : decode cX6_areTogether 24 = .ok (.iconst 0, 1) := by decide +kernel
theorem dX6_areTogether_25 : decode cX6_areTogether 25 = .ok (.invokevirtual 39, 3) := by decide +kernel
theorem dX6_areTogether_28 : decode cX6_areTogether 28 = .ok (.invokestatic 107, 3) := by decide +kernel
theorem dX6_areTogether_31 : decode cX6_areTogether 31 = .ok (.ifCond .eq 7, 3) := by decide +kernel
theorem dX6_areTogether_34 : decode cX6_areTogether 34 = .ok (.iconst 1, 1) := by decide +kernel
theorem dX6_areTogether_35 : decode cX6_areTogether 35 = .ok (.goto 4, 3) := by decide +kernel
theorem dX6_areTogether_38 : decode cX6_areTogether 38 = .ok (.iconst 0, 1) := by decide +kernel
theorem dX6_areTogether_39 : decode cX6_areTogether 39 = .ok (.ireturn, 1) := by decide +kernel
set_option maxRecDepth 20000 in
theorem ggX6_meet_X6_isMan : GoodIn wsX6_meet wsX6_isMan := goodIn_r _ [6, 7, 8, 9, 5, 10, 113, 114, 115, 116, 117, 118, 119, 120] (by decide +kernel) (by decide +kernel)
set_option maxRecDepth 20000 in
theorem gX6_meet_X6_isMan : GoodIn wsX6_meet (wsV RX6 95 RX6 yX6_isMan wsX6_isMan) := goodIn_app (goodIn_of _ (by decide +kernel)) ggX6_meet_X6_isMan
set_option maxRecDepth 20000 in
theorem ggX6_meet_X6_fail : GoodIn wsX6_meet wsX6_fail := goodIn_r _ [14, 1, 113, 114, 115, 116, 117, 118, 119, 120] (by decide +kernel) (by decide +kernel)
set_option maxRecDepth 20000 in
theorem gX6_meet_X6_fail : GoodIn wsX6_meet (wsV RX6 64 RX6 yX6_fail wsX6_fail) := goodIn_app (goodIn_of _ (by decide +kernel)) ggX6_meet_X6_fail
set_option maxRecDepth 20000 in
theorem ggX6_meet_X6_isIn : GoodIn wsX6_meet wsX6_isIn := goodIn_r _ [10] (by decide +kernel) (by decide +kernel)
set_option maxRecDepth 20000 in
theorem gX6_meet_X6_isIn : GoodIn wsX6_meet (va_wsS RX6 32 yX6_isIn wsX6_isIn) := goodIn_app (goodIn_of _ (by decide +kernel)) ggX6_meet_X6_isIn
set_option maxRecDepth 20000 in
theorem ggX6_meet_X6_kept : GoodIn wsX6_meet wsX6_kept := goodIn_r _ [18, 19, 20, 21, 22, 23, 24, 25, 26, 27, 28, 29, 113, 114, 115, 116, 117, 118, 119, 120] (by decide +kernel) (by decide +kernel)
set_option maxRecDepth 20000 in
theorem gX6_meet_X6_kept : GoodIn wsX6_meet (wsV RX6 156 RX6 yX6_kept wsX6_kept) := goodIn_app (goodIn_of _ (by decide +kernel)) ggX6_meet_X6_kept
set_option maxRecDepth 20000 in
theorem ggX6_meet_X6_areTogether : GoodIn wsX6_meet wsX6_areTogether := goodIn_r _ [33, 34, 35, 36, 5, 37, 38, 39, 40, 41, 28, 42, 43, 44, 45, 46, 47, 113, 114, 115, 116, 117, 118, 119, 120] (by decide +kernel) (by decide +kernel)
set_option maxRecDepth 20000 in
theorem gX6_meet_X6_areTogether : GoodIn wsX6_meet (wsV RX6 160 RX6 yX6_areTogether wsX6_areTogether) := goodIn_app (goodIn_of _ (by decide +kernel)) ggX6_meet_X6_areTogether
set_option maxRecDepth 20000 in
theorem ggX6_meet_X6_tickOn : GoodIn wsX6_meet wsX6_tickOn := goodIn_r _ [51, 7, 52, 53, 54, 55, 26, 56, 29, 34, 35, 36, 5, 37, 38, 39, 40, 41, 28, 57, 58, 59, 60, 61, 62, 63, 64, 65, 66, 67, 68, 27, 69, 70, 71, 72, 20, 45, 46, 47, 73, 74, 75, 76, 77, 78, 79, 80, 81, 82, 83, 84, 85, 86, 87, 88, 89, 90, 91, 92, 93, 94, 95, 96, 97, 98, 99, 100, 101, 102, 103, 104, 42, 43, 44, 105, 106, 107, 108, 113, 114, 115, 116, 117, 118, 119, 120] (by decide +kernel) (by decide +kernel)
set_option maxRecDepth 20000 in
theorem gX6_meet_X6_tickOn : GoodIn wsX6_meet (wsV RX6 124 RX6 yX6_tickOn wsX6_tickOn) := goodIn_app (goodIn_of _ (by decide +kernel)) ggX6_meet_X6_tickOn
set_option maxRecDepth 20000 in
theorem ggX6_meet_X6_bringBack : GoodIn wsX6_meet wsX6_bringBack := goodIn_r _ [112, 20, 26, 27, 28, 29, 113, 114, 115, 116, 117, 118, 119, 120] (by decide +kernel) (by decide +kernel)
set_option maxRecDepth 20000 in
theorem gX6_meet_X6_bringBack : GoodIn wsX6_meet (wsV RX6 163 RX6 yX6_bringBack wsX6_bringBack) := goodIn_app (goodIn_of _ (by decide +kernel)) ggX6_meet_X6_bringBack
theorem dX6_meet_0 : decode cX6_meet 0 = .ok (.aload_n 0, 1) := by decide +kernel
theorem dX6_meet_1 : decode cX6_meet 1 = .ok (.iconst 0, 1) := by decide +kernel
theorem dX6_meet_2 : decode cX6_meet 2 = .ok (.putfield 28, 3) := by decide +kernel
theorem dX6_meet_5 : decode cX6_meet 5 = .ok (.aload_n 0, 1) := by decide +kernel
theorem dX6_meet_6 : decode cX6_meet 6 = .ok (.iload_n 1, 1) := by decide +kernel
theorem dX6_meet_7 : decode cX6_meet 7 = .ok (.invokevirtual 95, 3) := by decide +kernel
theorem dX6_meet_10 : decode cX6_meet 10 = .ok (.ifCond .eq 11, 3) := by decide +kernel
theorem dX6_meet_13 : decode cX6_meet 13 = .ok (.aload_n 0, 1) := by decide +kernel
theorem dX6_meet_14 : decode cX6_meet 14 = .ok (.iload_n 2, 1) := by decide +kernel
theorem dX6_meet_15 : decode cX6_meet 15 = .ok (.invokevirtual 95, 3) := by decide +kernel
theorem dX6_meet_18 : decode cX6_meet 18 = .ok (.ifCond .ne 9, 3) := by decide +kernel
theorem dX6_meet_21 : decode cX6_meet 21 = .ok (.aload_n 0, 1) := by decide +kernel
theorem dX6_meet_22 : decode cX6_meet 22 = .ok (.iconst 1, 1) := by decide +kernel
theorem dX6_meet_23 : decode cX6_meet 23 = .ok (.invokevirtual 64, 3) := by decide +kernel
theorem dX6_meet_26 : decode cX6_meet 26 = .ok (.ireturn, 1) := by decide +kernel
theorem dX6_meet_27 : decode cX6_meet 27 = .ok (.iload_n 1, 1) := by decide +kernel
theorem dX6_meet_28 : decode cX6_meet 28 = .ok (.iload_n 2, 1) := by decide +kernel
theorem dX6_meet_29 : decode cX6_meet 29 = .ok (.if_icmp .eq 13, 3) := by decide +kernel
theorem dX6_meet_32 : decode cX6_meet 32 = .ok (.iload_n 3, 1) := by decide +kernel
theorem dX6_meet_33 : decode cX6_meet 33 = .ok (.iconst 1, 1) := by decide +kernel
theorem dX6_meet_34 : decode cX6_meet 34 = .ok (.bipush 100, 2) := by decide +kernel
theorem dX6_meet_36 : decode cX6_meet 36 = .ok (.invokestatic 32, 3) := by decide +kernel
theorem dX6_meet_39 : decode cX6_meet 39 = .ok (.ifCond .ne 9, 3) := by decide +kernel
theorem dX6_meet_42 : decode cX6_meet 42 = .ok (.aload_n 0, 1) := by decide +kernel
theorem dX6_meet_43 : decode cX6_meet 43 = .ok (.iconst 2, 1) := by decide +kernel
theorem dX6_meet_44 : decode cX6_meet 44 = .ok (.invokevirtual 64, 3) := by decide +kernel
theorem dX6_meet_47 : decode cX6_meet 47 = .ok (.ireturn, 1) := by decide +kernel
theorem dX6_meet_48 : decode cX6_meet 48 = .ok (.aload_n 0, 1) := by decide +kernel
theorem dX6_meet_49 : decode cX6_meet 49 = .ok (.invokevirtual 156, 3) := by decide +kernel
theorem dX6_meet_52 : decode cX6_meet 52 = .ok (.astore 4, 2) := by decide +kernel
theorem dX6_meet_54 : decode cX6_meet 54 = .ok (.iconst 0, 1) := by decide +kernel
theorem dX6_meet_55 : decode cX6_meet 55 = .ok (.istore 5, 2) := by decide +kernel
theorem dX6_meet_57 : decode cX6_meet 57 = .ok (.iload 5, 2) := by decide +kernel
theorem dX6_meet_59 : decode cX6_meet 59 = .ok (.iload_n 3, 1) := by decide +kernel
theorem dX6_meet_60 : decode cX6_meet 60 = .ok (.if_icmp .ge 22, 3) := by decide +kernel
theorem dX6_meet_63 : decode cX6_meet 63 = .ok (.aload_n 0, 1) := by decide +kernel
theorem dX6_meet_64 : decode cX6_meet 64 = .ok (.iload_n 1, 1) := by decide +kernel
theorem dX6_meet_65 : decode cX6_meet 65 = .ok (.iload_n 2, 1) := by decide +kernel
theorem dX6_meet_66 : decode cX6_meet 66 = .ok (.invokevirtual 160, 3) := by decide +kernel
theorem dX6_meet_69 : decode cX6_meet 69 = .ok (.ifCond .ne 13, 3) := by decide +kernel
theorem dX6_meet_72 : decode cX6_meet 72 = .ok (.aload_n 0, 1) := by decide +kernel
theorem dX6_meet_73 : decode cX6_meet 73 = .ok (.invokevirtual 124, 3) := by decide +kernel
theorem dX6_meet_76 : decode cX6_meet 76 = .ok (.iinc 5 1, 3) := by decide +kernel
theorem dX6_meet_79 : decode cX6_meet 79 = .ok (.goto (-22), 3) := by decide +kernel
theorem dX6_meet_82 : decode cX6_meet 82 = .ok (.aload_n 0, 1) := by decide +kernel
theorem dX6_meet_83 : decode cX6_meet 83 = .ok (.iload_n 1, 1) := by decide +kernel
theorem dX6_meet_84 : decode cX6_meet 84 = .ok (.iload_n 2, 1) := by decide +kernel
theorem dX6_meet_85 : decode cX6_meet 85 = .ok (.invokevirtual 160, 3) := by decide +kernel
theorem dX6_meet_88 : decode cX6_meet 88 = .ok (.ifCond .eq 8, 3) := by decide +kernel
theorem dX6_meet_91 : decode cX6_meet 91 = .ok (.iload 5, 2) := by decide +kernel
theorem dX6_meet_93 : decode cX6_meet 93 = .ok (.goto 4, 3) := by decide +kernel
theorem dX6_meet_96 : decode cX6_meet 96 = .ok (.iconst (-1), 1) := by decide +kernel
theorem dX6_meet_97 : decode cX6_meet 97 = .ok (.istore 6, 2) := by decide +kernel
theorem dX6_meet_99 : decode cX6_meet 99 = .ok (.aload_n 0, 1) := by decide +kernel
theorem dX6_meet_100 : decode cX6_meet 100 = .ok (.aload 4, 2) := by decide +kernel
theorem dX6_meet_102 : decode cX6_meet 102 = .ok (.invokevirtual 163, 3) := by decide +kernel
theorem dX6_meet_105 : decode cX6_meet 105 = .ok (.iload 6, 2) := by decide +kernel
theorem dX6_meet_107 : decode cX6_meet 107 = .ok (.ireturn, 1) := by decide +kernel
set_option maxRecDepth 20000 in
theorem ggX6_foresee_X6_isIn : GoodIn wsX6_foresee wsX6_isIn := goodIn_r _ [5] (by decide +kernel) (by decide +kernel)
set_option maxRecDepth 20000 in
theorem gX6_foresee_X6_isIn : GoodIn wsX6_foresee (va_wsS RX6 32 yX6_isIn wsX6_isIn) := goodIn_app (goodIn_of _ (by decide +kernel)) ggX6_foresee_X6_isIn
set_option maxRecDepth 20000 in
theorem ggX6_foresee_X6_fail : GoodIn wsX6_foresee wsX6_fail := goodIn_r _ [9, 1, 113, 114, 115, 116, 117, 118, 119, 120] (by decide +kernel) (by decide +kernel)
set_option maxRecDepth 20000 in
theorem gX6_foresee_X6_fail : GoodIn wsX6_foresee (wsV RX6 64 RX6 yX6_fail wsX6_fail) := goodIn_app (goodIn_of _ (by decide +kernel)) ggX6_foresee_X6_fail
set_option maxRecDepth 20000 in
theorem ggX6_foresee_X6_kept : GoodIn wsX6_foresee wsX6_kept := goodIn_r _ [13, 14, 15, 16, 17, 18, 19, 20, 21, 22, 23, 24, 113, 114, 115, 116, 117, 118, 119, 120] (by decide +kernel) (by decide +kernel)
set_option maxRecDepth 20000 in
theorem gX6_foresee_X6_kept : GoodIn wsX6_foresee (wsV RX6 156 RX6 yX6_kept wsX6_kept) := goodIn_app (goodIn_of _ (by decide +kernel)) ggX6_foresee_X6_kept
set_option maxRecDepth 20000 in
theorem ggX6_foresee_X6_tickOn : GoodIn wsX6_foresee wsX6_tickOn := goodIn_r _ [28, 29, 30, 31, 32, 33, 21, 34, 24, 35, 36, 37, 4, 38, 39, 40, 41, 42, 23, 43, 44, 45, 46, 47, 48, 49, 50, 51, 52, 53, 54, 22, 55, 56, 57, 58, 15, 59, 60, 61, 62, 63, 64, 65, 66, 67, 68, 69, 70, 71, 72, 73, 74, 75, 76, 77, 78, 79, 80, 81, 82, 83, 84, 85, 86, 87, 88, 89, 90, 91, 92, 93, 94, 95, 96, 97, 98, 99, 100, 113, 114, 115, 116, 117, 118, 119, 120] (by decide +kernel) (by decide +kernel)
set_option maxRecDepth 20000 in
theorem gX6_foresee_X6_tickOn : GoodIn wsX6_foresee (wsV RX6 124 RX6 yX6_tickOn wsX6_tickOn) := goodIn_app (goodIn_of _ (by decide +kernel)) ggX6_foresee_X6_tickOn
set_option maxRecDepth 20000 in
theorem ggX6_foresee_X6_sumOf : GoodIn wsX6_foresee wsX6_sumOf := goodIn_r _ [104, 29, 39, 40, 41, 4, 42, 23, 113, 114, 115, 116, 117, 118, 119, 120] (by decide +kernel) (by decide +kernel)
set_option maxRecDepth 20000 in
theorem gX6_foresee_X6_sumOf : GoodIn wsX6_foresee (wsV RX6 127 RX6 yX6_sumOf wsX6_sumOf) := goodIn_app (goodIn_of _ (by decide +kernel)) ggX6_foresee_X6_sumOf
set_option maxRecDepth 20000 in
theorem ggX6_foresee_X6_manyOpen : GoodIn wsX6_foresee wsX6_manyOpen := goodIn_r _ [108, 66, 67, 68, 4, 69, 15, 113, 114, 115, 116, 117, 118, 119, 120] (by decide +kernel) (by decide +kernel)
set_option maxRecDepth 20000 in
theorem gX6_foresee_X6_manyOpen : GoodIn wsX6_foresee (wsV RX6 130 RX6 yX6_manyOpen wsX6_manyOpen) := goodIn_app (goodIn_of _ (by decide +kernel)) ggX6_foresee_X6_manyOpen
set_option maxRecDepth 20000 in
theorem ggX6_foresee_X6_bringBack : GoodIn wsX6_foresee wsX6_bringBack := goodIn_r _ [112, 15, 21, 22, 23, 24, 113, 114, 115, 116, 117, 118, 119, 120] (by decide +kernel) (by decide +kernel)
set_option maxRecDepth 20000 in
theorem gX6_foresee_X6_bringBack : GoodIn wsX6_foresee (wsV RX6 163 RX6 yX6_bringBack wsX6_bringBack) := goodIn_app (goodIn_of _ (by decide +kernel)) ggX6_foresee_X6_bringBack
theorem dX6_foresee_0 : decode cX6_foresee 0 = .ok (.aload_n 0, 1) := by decide +kernel
theorem dX6_foresee_1 : decode cX6_foresee 1 = .ok (.iconst 0, 1) := by decide +kernel
theorem dX6_foresee_2 : decode cX6_foresee 2 = .ok (.putfield 28, 3) := by decide +kernel
theorem dX6_foresee_5 : decode cX6_foresee 5 = .ok (.iload_n 1, 1) := by decide +kernel
theorem dX6_foresee_6 : decode cX6_foresee 6 = .ok (.iconst 1, 1) := by decide +kernel
theorem dX6_foresee_7 : decode cX6_foresee 7 = .ok (.bipush 100, 2) := by decide +kernel
theorem dX6_foresee_9 : decode cX6_foresee 9 = .ok (.invokestatic 32, 3) := by decide +kernel
theorem dX6_foresee_12 : decode cX6_foresee 12 = .ok (.ifCond .ne 9, 3) := by decide +kernel
theorem dX6_foresee_15 : decode cX6_foresee 15 = .ok (.aload_n 0, 1) := by decide +kernel
theorem dX6_foresee_16 : decode cX6_foresee 16 = .ok (.iconst 1, 1) := by decide +kernel
theorem dX6_foresee_17 : decode cX6_foresee 17 = .ok (.invokevirtual 64, 3) := by decide +kernel
theorem dX6_foresee_20 : decode cX6_foresee 20 = .ok (.ireturn, 1) := by decide +kernel
theorem dX6_foresee_21 : decode cX6_foresee 21 = .ok (.iload_n 2, 1) := by decide +kernel
theorem dX6_foresee_22 : decode cX6_foresee 22 = .ok (.iconst 0, 1) := by decide +kernel
theorem dX6_foresee_23 : decode cX6_foresee 23 = .ok (.iconst 3, 1) := by decide +kernel
theorem dX6_foresee_24 : decode cX6_foresee 24 = .ok (.invokestatic 32, 3) := by decide +kernel
theorem dX6_foresee_27 : decode cX6_foresee 27 = .ok (.ifCond .ne 9, 3) := by decide +kernel
theorem dX6_foresee_30 : decode cX6_foresee 30 = .ok (.aload_n 0, 1) := by decide +kernel
theorem dX6_foresee_31 : decode cX6_foresee 31 = .ok (.iconst 2, 1) := by decide +kernel
theorem dX6_foresee_32 : decode cX6_foresee 32 = .ok (.invokevirtual 64, 3) := by decide +kernel
theorem dX6_foresee_35 : decode cX6_foresee 35 = .ok (.ireturn, 1) := by decide +kernel
theorem dX6_foresee_36 : decode cX6_foresee 36 = .ok (.aload_n 0, 1) := by decide +kernel
theorem dX6_foresee_37 : decode cX6_foresee 37 = .ok (.invokevirtual 156, 3) := by decide +kernel
theorem dX6_foresee_40 : decode cX6_foresee 40 = .ok (.astore_n 3, 1) := by decide +kernel
theorem dX6_foresee_41 : decode cX6_foresee 41 = .ok (.iconst 0, 1) := by decide +kernel
theorem dX6_foresee_42 : decode cX6_foresee 42 = .ok (.istore 4, 2) := by decide +kernel
theorem dX6_foresee_44 : decode cX6_foresee 44 = .ok (.iload 4, 2) := by decide +kernel
theorem dX6_foresee_46 : decode cX6_foresee 46 = .ok (.iload_n 1, 1) := by decide +kernel
theorem dX6_foresee_47 : decode cX6_foresee 47 = .ok (.if_icmp .ge 13, 3) := by decide +kernel
theorem dX6_foresee_50 : decode cX6_foresee 50 = .ok (.aload_n 0, 1) := by decide +kernel
theorem dX6_foresee_51 : decode cX6_foresee 51 = .ok (.invokevirtual 124, 3) := by decide +kernel
theorem dX6_foresee_54 : decode cX6_foresee 54 = .ok (.iinc 4 1, 3) := by decide +kernel
theorem dX6_foresee_57 : decode cX6_foresee 57 = .ok (.goto (-13), 3) := by decide +kernel
theorem dX6_foresee_60 : decode cX6_foresee 60 = .ok (.iload_n 2, 1) := by decide +kernel
theorem dX6_foresee_61 : decode cX6_foresee 61 = .ok (.ifCond .ne 11, 3) := by decide +kernel
theorem dX6_foresee_64 : decode cX6_foresee 64 = .ok (.aload_n 0, 1) := by decide +kernel
theorem dX6_foresee_65 : decode cX6_foresee 65 = .ok (.iconst 4, 1) := by decide +kernel
theorem dX6_foresee_66 : decode cX6_foresee 66 = .ok (.invokevirtual 127, 3) := by decide +kernel
theorem dX6_foresee_69 : decode cX6_foresee 69 = .ok (.goto 30, 3) := by decide +kernel
theorem dX6_foresee_72 : decode cX6_foresee 72 = .ok (.iload_n 2, 1) := by decide +kernel
theorem dX6_foresee_73 : decode cX6_foresee 73 = .ok (.iconst 1, 1) := by decide +kernel
theorem dX6_foresee_74 : decode cX6_foresee 74 = .ok (.if_icmp .ne 10, 3) := by decide +kernel
theorem dX6_foresee_77 : decode cX6_foresee 77 = .ok (.aload_n 0, 1) := by decide +kernel
theorem dX6_foresee_78 : decode cX6_foresee 78 = .ok (.invokevirtual 130, 3) := by decide +kernel
theorem dX6_foresee_81 : decode cX6_foresee 81 = .ok (.goto 18, 3) := by decide +kernel
theorem dX6_foresee_84 : decode cX6_foresee 84 = .ok (.aload_n 0, 1) := by decide +kernel
theorem dX6_foresee_85 : decode cX6_foresee 85 = .ok (.iload_n 2, 1) := by decide +kernel
theorem dX6_foresee_86 : decode cX6_foresee 86 = .ok (.iconst 2, 1) := by decide +kernel
theorem dX6_foresee_87 : decode cX6_foresee 87 = .ok (.if_icmp .ne 7, 3) := by decide +kernel
theorem dX6_foresee_90 : decode cX6_foresee 90 = .ok (.iconst 3, 1) := by decide +kernel
theorem dX6_foresee_91 : decode cX6_foresee 91 = .ok (.goto 5, 3) := by decide +kernel
theorem dX6_foresee_94 : decode cX6_foresee 94 = .ok (.bipush 6, 2) := by decide +kernel
theorem dX6_foresee_96 : decode cX6_foresee 96 = .ok (.invokevirtual 127, 3) := by decide +kernel
theorem dX6_foresee_99 : decode cX6_foresee 99 = .ok (.istore 4, 2) := by decide +kernel
theorem dX6_foresee_101 : decode cX6_foresee 101 = .ok (.aload_n 0, 1) := by decide +kernel
theorem dX6_foresee_102 : decode cX6_foresee 102 = .ok (.aload_n 3, 1) := by decide +kernel
theorem dX6_foresee_103 : decode cX6_foresee 103 = .ok (.invokevirtual 163, 3) := by decide +kernel
theorem dX6_foresee_106 : decode cX6_foresee 106 = .ok (.iload 4, 2) := by decide +kernel
theorem dX6_foresee_108 : decode cX6_foresee 108 = .ok (.ireturn, 1) := by decide +kernel
set_option maxRecDepth 20000 in
theorem ggX6_without_X6_isCell : GoodIn wsX6_without wsX6_isCell := goodIn_r _ [6, 7, 8, 5, 9] (by decide +kernel) (by decide +kernel)
set_option maxRecDepth 20000 in
theorem gX6_without_X6_isCell : GoodIn wsX6_without (va_wsS RX6 60 yX6_isCell wsX6_isCell) := goodIn_app (goodIn_of _ (by decide +kernel)) ggX6_without_X6_isCell
set_option maxRecDepth 20000 in
theorem ggX6_without_X6_fail : GoodIn wsX6_without wsX6_fail := goodIn_r _ [13, 1, 52, 53, 54, 55, 56, 57, 58, 59] (by decide +kernel) (by decide +kernel)
set_option maxRecDepth 20000 in
theorem gX6_without_X6_fail : GoodIn wsX6_without (wsV RX6 64 RX6 yX6_fail wsX6_fail) := goodIn_app (goodIn_of _ (by decide +kernel)) ggX6_without_X6_fail
set_option maxRecDepth 20000 in
theorem ggX6_without_X6_isOpen : GoodIn wsX6_without wsX6_isOpen := goodIn_r _ [17, 2, 52, 53, 54, 55, 56, 57, 58, 59] (by decide +kernel) (by decide +kernel)
set_option maxRecDepth 20000 in
theorem gX6_without_X6_isOpen : GoodIn wsX6_without (wsV RX6 46 RX6 yX6_isOpen wsX6_isOpen) := goodIn_app (goodIn_of _ (by decide +kernel)) ggX6_without_X6_isOpen
set_option maxRecDepth 20000 in
theorem ggX6_without_X6_cavesOf : GoodIn wsX6_without wsX6_cavesOf := goodIn_r _ [21, 22, 23, 24, 25, 26, 27, 28, 29, 30, 5, 31, 14, 15, 16, 17, 2, 32, 33, 34, 35, 36, 37, 38, 39, 40, 41, 42, 43, 44, 45, 46, 47, 48, 49, 50, 51, 52, 53, 54, 55, 56, 57, 58, 59] (by decide +kernel) (by decide +kernel)
set_option maxRecDepth 20000 in
theorem gX6_without_X6_cavesOf : GoodIn wsX6_without (wsV RX6 148 RX6 yX6_cavesOf wsX6_cavesOf) := goodIn_app (goodIn_of _ (by decide +kernel)) ggX6_without_X6_cavesOf
theorem dX6_without_0 : decode cX6_without 0 = .ok (.aload_n 0, 1) := by decide +kernel
theorem dX6_without_1 : decode cX6_without 1 = .ok (.iconst 0, 1) := by decide +kernel
theorem dX6_without_2 : decode cX6_without 2 = .ok (.putfield 28, 3) := by decide +kernel
theorem dX6_without_5 : decode cX6_without 5 = .ok (.iload_n 1, 1) := by decide +kernel
theorem dX6_without_6 : decode cX6_without 6 = .ok (.iload_n 2, 1) := by decide +kernel
theorem dX6_without_7 : decode cX6_without 7 = .ok (.invokestatic 60, 3) := by decide +kernel
theorem dX6_without_10 : decode cX6_without 10 = .ok (.ifCond .ne 9, 3) := by decide +kernel
theorem dX6_without_13 : decode cX6_without 13 = .ok (.aload_n 0, 1) := by decide +kernel
theorem dX6_without_14 : decode cX6_without 14 = .ok (.iconst 1, 1) := by decide +kernel
theorem dX6_without_15 : decode cX6_without 15 = .ok (.invokevirtual 64, 3) := by decide +kernel
theorem dX6_without_18 : decode cX6_without 18 = .ok (.ireturn, 1) := by decide +kernel
theorem dX6_without_19 : decode cX6_without 19 = .ok (.iload_n 1, 1) := by decide +kernel
theorem dX6_without_20 : decode cX6_without 20 = .ok (.bipush 16, 2) := by decide +kernel
theorem dX6_without_22 : decode cX6_without 22 = .ok (.iload_n 2, 1) := by decide +kernel
theorem dX6_without_23 : decode cX6_without 23 = .ok (.imul, 1) := by decide +kernel
theorem dX6_without_24 : decode cX6_without 24 = .ok (.iadd, 1) := by decide +kernel
theorem dX6_without_25 : decode cX6_without 25 = .ok (.istore_n 3, 1) := by decide +kernel
theorem dX6_without_26 : decode cX6_without 26 = .ok (.aload_n 0, 1) := by decide +kernel
theorem dX6_without_27 : decode cX6_without 27 = .ok (.iload_n 3, 1) := by decide +kernel
theorem dX6_without_28 : decode cX6_without 28 = .ok (.invokevirtual 46, 3) := by decide +kernel
theorem dX6_without_31 : decode cX6_without 31 = .ok (.ifCond .ne 5, 3) := by decide +kernel
theorem dX6_without_34 : decode cX6_without 34 = .ok (.iconst (-1), 1) := by decide +kernel
theorem dX6_without_35 : decode cX6_without 35 = .ok (.ireturn, 1) := by decide +kernel
theorem dX6_without_36 : decode cX6_without 36 = .ok (.aload_n 0, 1) := by decide +kernel
theorem dX6_without_37 : decode cX6_without 37 = .ok (.getfield 9, 3) := by decide +kernel
theorem dX6_without_40 : decode cX6_without 40 = .ok (.iload_n 3, 1) := by decide +kernel
theorem dX6_without_41 : decode cX6_without 41 = .ok (.bipush 10, 2) := by decide +kernel
theorem dX6_without_43 : decode cX6_without 43 = .ok (.iastore, 1) := by decide +kernel
theorem dX6_without_44 : decode cX6_without 44 = .ok (.aload_n 0, 1) := by decide +kernel
theorem dX6_without_45 : decode cX6_without 45 = .ok (.iconst 0, 1) := by decide +kernel
theorem dX6_without_46 : decode cX6_without 46 = .ok (.invokevirtual 148, 3) := by decide +kernel
theorem dX6_without_49 : decode cX6_without 49 = .ok (.istore 4, 2) := by decide +kernel
theorem dX6_without_51 : decode cX6_without 51 = .ok (.aload_n 0, 1) := by decide +kernel
theorem dX6_without_52 : decode cX6_without 52 = .ok (.getfield 9, 3) := by decide +kernel
theorem dX6_without_55 : decode cX6_without 55 = .ok (.iload_n 3, 1) := by decide +kernel
theorem dX6_without_56 : decode cX6_without 56 = .ok (.iconst 0, 1) := by decide +kernel
theorem dX6_without_57 : decode cX6_without 57 = .ok (.iastore, 1) := by decide +kernel
theorem dX6_without_58 : decode cX6_without 58 = .ok (.iload 4, 2) := by decide +kernel
theorem dX6_without_60 : decode cX6_without 60 = .ok (.ireturn, 1) := by decide +kernel
set_option maxRecDepth 20000 in
theorem ggX6_light_X6_manyOpen : GoodIn wsX6_light wsX6_manyOpen := goodIn_r _ [6, 7, 8, 9, 5, 10, 11, 46, 47, 48, 49, 50, 51, 52, 53] (by decide +kernel) (by decide +kernel)
set_option maxRecDepth 20000 in
theorem gX6_light_X6_manyOpen : GoodIn wsX6_light (wsV RX6 130 RX6 yX6_manyOpen wsX6_manyOpen) := goodIn_app (goodIn_of _ (by decide +kernel)) ggX6_light_X6_manyOpen
set_option maxRecDepth 20000 in
theorem ggX6_light_X6_manyLit : GoodIn wsX6_light wsX6_manyLit := goodIn_r _ [15, 16, 17, 18, 5, 19, 20, 21, 22, 23, 24, 25, 26, 27, 28, 29, 30, 31, 32, 33, 34, 35, 36, 37, 38, 39, 40, 41, 7, 8, 9, 10, 11, 42, 43, 44, 45, 46, 47, 48, 49, 50, 51, 52, 53] (by decide +kernel) (by decide +kernel)
set_option maxRecDepth 20000 in
theorem gX6_light_X6_manyLit : GoodIn wsX6_light (wsV RX6 134 RX6 yX6_manyLit wsX6_manyLit) := goodIn_app (goodIn_of _ (by decide +kernel)) ggX6_light_X6_manyLit
theorem dX6_light_0 : decode cX6_light 0 = .ok (.aload_n 0, 1) := by decide +kernel
theorem dX6_light_1 : decode cX6_light 1 = .ok (.iconst 0, 1) := by decide +kernel
theorem dX6_light_2 : decode cX6_light 2 = .ok (.putfield 28, 3) := by decide +kernel
theorem dX6_light_5 : decode cX6_light 5 = .ok (.aload_n 0, 1) := by decide +kernel
theorem dX6_light_6 : decode cX6_light 6 = .ok (.invokevirtual 130, 3) := by decide +kernel
theorem dX6_light_9 : decode cX6_light 9 = .ok (.istore_n 1, 1) := by decide +kernel
theorem dX6_light_10 : decode cX6_light 10 = .ok (.iload_n 1, 1) := by decide +kernel
theorem dX6_light_11 : decode cX6_light 11 = .ok (.ifCond .ne 7, 3) := by decide +kernel
theorem dX6_light_14 : decode cX6_light 14 = .ok (.dconst 0, 1) := by decide +kernel
theorem dX6_light_15 : decode cX6_light 15 = .ok (.goto 12, 3) := by decide +kernel
theorem dX6_light_18 : decode cX6_light 18 = .ok (.aload_n 0, 1) := by decide +kernel
theorem dX6_light_19 : decode cX6_light 19 = .ok (.iconst 1, 1) := by decide +kernel
theorem dX6_light_20 : decode cX6_light 20 = .ok (.invokevirtual 134, 3) := by decide +kernel
theorem dX6_light_23 : decode cX6_light 23 = .ok (.i2d, 1) := by decide +kernel
theorem dX6_light_24 : decode cX6_light 24 = .ok (.iload_n 1, 1) := by decide +kernel
theorem dX6_light_25 : decode cX6_light 25 = .ok (.i2d, 1) := by decide +kernel
theorem dX6_light_26 : decode cX6_light 26 = .ok (.ddiv, 1) := by decide +kernel
theorem dX6_light_27 : decode cX6_light 27 = .ok (.dreturn, 1) := by decide +kernel
set_option maxRecDepth 20000 in
theorem ggX6_digest_X6_counted : GoodIn wsX6_digest wsX6_counted := goodIn_r _ [12, 13, 7, 6, 14, 15, 16, 11, 17, 18, 19, 20, 21, 22, 23, 24, 25, 26, 27, 28, 29, 30, 4, 31, 32, 33, 34, 35, 36, 37, 38, 39, 40, 41, 42, 43, 44, 45, 46, 47, 48, 49, 50, 51, 52, 53, 54, 55, 56, 57, 58, 59, 60, 61, 62, 63, 64, 65, 66, 71, 72, 73, 74, 75, 76, 77, 78] (by decide +kernel) (by decide +kernel)
set_option maxRecDepth 20000 in
theorem gX6_digest_X6_counted : GoodIn wsX6_digest (wsV RX6 138 RX6 yX6_counted wsX6_counted) := goodIn_app (goodIn_of _ (by decide +kernel)) ggX6_digest_X6_counted
set_option maxRecDepth 20000 in
theorem ggX6_digest_X6_manTold : GoodIn wsX6_digest wsX6_manTold := goodIn_r _ [70, 18, 19, 20, 11, 21, 22, 71, 72, 73, 74, 75, 76, 77, 78] (by decide +kernel) (by decide +kernel)
set_option maxRecDepth 20000 in
theorem gX6_digest_X6_manTold : GoodIn wsX6_digest (wsV RX6 101 RX6 yX6_manTold wsX6_manTold) := goodIn_app (goodIn_of _ (by decide +kernel)) ggX6_digest_X6_manTold
theorem dX6_digest_0 : decode cX6_digest 0 = .ok (.aload_n 0, 1) := by decide +kernel
theorem dX6_digest_1 : decode cX6_digest 1 = .ok (.iconst 0, 1) := by decide +kernel
theorem dX6_digest_2 : decode cX6_digest 2 = .ok (.putfield 28, 3) := by decide +kernel
theorem dX6_digest_5 : decode cX6_digest 5 = .ok (.ldc2_w 167, 3) := by decide +kernel
theorem dX6_digest_8 : decode cX6_digest 8 = .ok (.lstore_n 1, 1) := by decide +kernel
theorem dX6_digest_9 : decode cX6_digest 9 = .ok (.iconst 0, 1) := by decide +kernel
theorem dX6_digest_10 : decode cX6_digest 10 = .ok (.istore_n 3, 1) := by decide +kernel
theorem dX6_digest_11 : decode cX6_digest 11 = .ok (.iload_n 3, 1) := by decide +kernel
theorem dX6_digest_12 : decode cX6_digest 12 = .ok (.bipush 9, 2) := by decide +kernel
theorem dX6_digest_14 : decode cX6_digest 14 = .ok (.if_icmp .ge 22, 3) := by decide +kernel
theorem dX6_digest_17 : decode cX6_digest 17 = .ok (.lload_n 1, 1) := by decide +kernel
theorem dX6_digest_18 : decode cX6_digest 18 = .ok (.ldc2_w 169, 3) := by decide +kernel
theorem dX6_digest_21 : decode cX6_digest 21 = .ok (.lmul, 1) := by decide +kernel
theorem dX6_digest_22 : decode cX6_digest 22 = .ok (.aload_n 0, 1) := by decide +kernel
theorem dX6_digest_23 : decode cX6_digest 23 = .ok (.iload_n 3, 1) := by decide +kernel
theorem dX6_digest_24 : decode cX6_digest 24 = .ok (.invokevirtual 138, 3) := by decide +kernel
theorem dX6_digest_27 : decode cX6_digest 27 = .ok (.i2l, 1) := by decide +kernel
theorem dX6_digest_28 : decode cX6_digest 28 = .ok (.ladd, 1) := by decide +kernel
theorem dX6_digest_29 : decode cX6_digest 29 = .ok (.lstore_n 1, 1) := by decide +kernel
theorem dX6_digest_30 : decode cX6_digest 30 = .ok (.iinc 3 1, 3) := by decide +kernel
theorem dX6_digest_33 : decode cX6_digest 33 = .ok (.goto (-22), 3) := by decide +kernel
theorem dX6_digest_36 : decode cX6_digest 36 = .ok (.iconst 0, 1) := by decide +kernel
theorem dX6_digest_37 : decode cX6_digest 37 = .ok (.istore_n 3, 1) := by decide +kernel
theorem dX6_digest_38 : decode cX6_digest 38 = .ok (.iload_n 3, 1) := by decide +kernel
theorem dX6_digest_39 : decode cX6_digest 39 = .ok (.sipush 256, 3) := by decide +kernel
theorem dX6_digest_42 : decode cX6_digest 42 = .ok (.if_icmp .ge 47, 3) := by decide +kernel
theorem dX6_digest_45 : decode cX6_digest 45 = .ok (.lload_n 1, 1) := by decide +kernel
theorem dX6_digest_46 : decode cX6_digest 46 = .ok (.ldc2_w 169, 3) := by decide +kernel
theorem dX6_digest_49 : decode cX6_digest 49 = .ok (.lmul, 1) := by decide +kernel
theorem dX6_digest_50 : decode cX6_digest 50 = .ok (.aload_n 0, 1) := by decide +kernel
theorem dX6_digest_51 : decode cX6_digest 51 = .ok (.getfield 9, 3) := by decide +kernel
theorem dX6_digest_54 : decode cX6_digest 54 = .ok (.iload_n 3, 1) := by decide +kernel
theorem dX6_digest_55 : decode cX6_digest 55 = .ok (.iaload, 1) := by decide +kernel
theorem dX6_digest_56 : decode cX6_digest 56 = .ok (.i2l, 1) := by decide +kernel
theorem dX6_digest_57 : decode cX6_digest 57 = .ok (.ladd, 1) := by decide +kernel
theorem dX6_digest_58 : decode cX6_digest 58 = .ok (.ldc2_w 169, 3) := by decide +kernel
theorem dX6_digest_61 : decode cX6_digest 61 = .ok (.lmul, 1) := by decide +kernel
theorem dX6_digest_62 : decode cX6_digest 62 = .ok (.aload_n 0, 1) := by decide +kernel
theorem dX6_digest_63 : decode cX6_digest 63 = .ok (.getfield 13, 3) := by decide +kernel
theorem dX6_digest_66 : decode cX6_digest 66 = .ok (.iload_n 3, 1) := by decide +kernel
theorem dX6_digest_67 : decode cX6_digest 67 = .ok (.iaload, 1) := by decide +kernel
theorem dX6_digest_68 : decode cX6_digest 68 = .ok (.i2l, 1) := by decide +kernel
theorem dX6_digest_69 : decode cX6_digest 69 = .ok (.ladd, 1) := by decide +kernel
theorem dX6_digest_70 : decode cX6_digest 70 = .ok (.ldc2_w 169, 3) := by decide +kernel
theorem dX6_digest_73 : decode cX6_digest 73 = .ok (.lmul, 1) := by decide +kernel
theorem dX6_digest_74 : decode cX6_digest 74 = .ok (.aload_n 0, 1) := by decide +kernel
theorem dX6_digest_75 : decode cX6_digest 75 = .ok (.getfield 16, 3) := by decide +kernel
theorem dX6_digest_78 : decode cX6_digest 78 = .ok (.iload_n 3, 1) := by decide +kernel
theorem dX6_digest_79 : decode cX6_digest 79 = .ok (.iaload, 1) := by decide +kernel
theorem dX6_digest_80 : decode cX6_digest 80 = .ok (.i2l, 1) := by decide +kernel
theorem dX6_digest_81 : decode cX6_digest 81 = .ok (.ladd, 1) := by decide +kernel
theorem dX6_digest_82 : decode cX6_digest 82 = .ok (.lstore_n 1, 1) := by decide +kernel
theorem dX6_digest_83 : decode cX6_digest 83 = .ok (.iinc 3 1, 3) := by decide +kernel
theorem dX6_digest_86 : decode cX6_digest 86 = .ok (.goto (-48), 3) := by decide +kernel
theorem dX6_digest_89 : decode cX6_digest 89 = .ok (.iconst 0, 1) := by decide +kernel
theorem dX6_digest_90 : decode cX6_digest 90 = .ok (.istore_n 3, 1) := by decide +kernel
theorem dX6_digest_91 : decode cX6_digest 91 = .ok (.iload_n 3, 1) := by decide +kernel
theorem dX6_digest_92 : decode cX6_digest 92 = .ok (.aload_n 0, 1) := by decide +kernel
theorem dX6_digest_93 : decode cX6_digest 93 = .ok (.getfield 36, 3) := by decide +kernel
theorem dX6_digest_96 : decode cX6_digest 96 = .ok (.if_icmp .ge 40, 3) := by decide +kernel
theorem dX6_digest_99 : decode cX6_digest 99 = .ok (.iconst 0, 1) := by decide +kernel
theorem dX6_digest_100 : decode cX6_digest 100 = .ok (.istore 4, 2) := by decide +kernel
theorem dX6_digest_102 : decode cX6_digest 102 = .ok (.iload 4, 2) := by decide +kernel
theorem dX6_digest_104 : decode cX6_digest 104 = .ok (.bipush 9, 2) := by decide +kernel
theorem dX6_digest_106 : decode cX6_digest 106 = .ok (.if_icmp .ge 24, 3) := by decide +kernel
theorem dX6_digest_109 : decode cX6_digest 109 = .ok (.lload_n 1, 1) := by decide +kernel
theorem dX6_digest_110 : decode cX6_digest 110 = .ok (.ldc2_w 169, 3) := by decide +kernel
theorem dX6_digest_113 : decode cX6_digest 113 = .ok (.lmul, 1) := by decide +kernel
theorem dX6_digest_114 : decode cX6_digest 114 = .ok (.aload_n 0, 1) := by decide +kernel
theorem dX6_digest_115 : decode cX6_digest 115 = .ok (.iload_n 3, 1) := by decide +kernel
theorem dX6_digest_116 : decode cX6_digest 116 = .ok (.iload 4, 2) := by decide +kernel
theorem dX6_digest_118 : decode cX6_digest 118 = .ok (.invokevirtual 101, 3) := by decide +kernel
theorem dX6_digest_121 : decode cX6_digest 121 = .ok (.i2l, 1) := by decide +kernel
theorem dX6_digest_122 : decode cX6_digest 122 = .ok (.ladd, 1) := by decide +kernel
theorem dX6_digest_123 : decode cX6_digest 123 = .ok (.lstore_n 1, 1) := by decide +kernel
theorem dX6_digest_124 : decode cX6_digest 124 = .ok (.iinc 4 1, 3) := by decide +kernel
theorem dX6_digest_127 : decode cX6_digest 127 = .ok (.goto (-25), 3) := by decide +kernel
theorem dX6_digest_130 : decode cX6_digest 130 = .ok (.iinc 3 1, 3) := by decide +kernel
theorem dX6_digest_133 : decode cX6_digest 133 = .ok (.goto (-42), 3) := by decide +kernel
theorem dX6_digest_136 : decode cX6_digest 136 = .ok (.lload_n 1, 1) := by decide +kernel
theorem dX6_digest_137 : decode cX6_digest 137 = .ok (.lreturn, 1) := by decide +kernel
