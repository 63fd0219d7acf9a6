set_option maxRecDepth 20000 in
theorem ggX5_init_X0_init : GoodIn wsX5_init wsX0_init := goodIn_r _ [15, 16, 2, 3, 17, 18, 19, 20, 21, 22, 23, 24, 25, 26, 27, 28, 29, 30, 31, 32, 33, 34, 35, 36, 37, 38, 39, 40, 41, 42, 43, 44, 45, 46, 47, 48, 49, 50, 51, 70, 71, 72, 57, 58, 59, 60, 61, 62, 63, 73, 74, 75, 76, 77, 78, 79, 80, 81, 82, 83, 84] (by decide +kernel) (by decide +kernel)
set_option maxRecDepth 20000 in
theorem gX5_init_X0_init : GoodIn wsX5_init (wsX0_init) := ggX5_init_X0_init
set_option maxRecDepth 20000 in
theorem ggX5_init_X2_init : GoodIn wsX5_init wsX2_init := goodIn_r _ [53, 54, 2, 3, 33, 55, 56, 67, 68, 69] (by decide +kernel) (by decide +kernel)
set_option maxRecDepth 20000 in
theorem gX5_init_X2_init_n21 : GoodIn wsX5_init (wsX2_init) := ggX5_init_X2_init
theorem dX5_init_0 : decode cX5_init 0 = .ok (.aload_n 0, 1) := by decide +kernel
theorem dX5_init_1 : decode cX5_init 1 = .ok (.invokespecial 3, 3) := by decide +kernel
theorem dX5_init_4 : decode cX5_init 4 = .ok (.aload_n 0, 1) := by decide +kernel
theorem dX5_init_5 : decode cX5_init 5 = .ok (.new 9, 3) := by decide +kernel
theorem dX5_init_8 : decode cX5_init 8 = .ok (.dup, 1) := by decide +kernel
theorem dX5_init_9 : decode cX5_init 9 = .ok (.invokespecial 11, 3) := by decide +kernel
theorem dX5_init_12 : decode cX5_init 12 = .ok (.putfield 12, 3) := by decide +kernel
theorem dX5_init_15 : decode cX5_init 15 = .ok (.aload_n 0, 1) := by decide +kernel
theorem dX5_init_16 : decode cX5_init 16 = .ok (.new 9, 3) := by decide +kernel
theorem dX5_init_19 : decode cX5_init 19 = .ok (.dup, 1) := by decide +kernel
theorem dX5_init_20 : decode cX5_init 20 = .ok (.invokespecial 11, 3) := by decide +kernel
theorem dX5_init_23 : decode cX5_init 23 = .ok (.putfield 16, 3) := by decide +kernel
theorem dX5_init_26 : decode cX5_init 26 = .ok (.aload_n 0, 1) := by decide +kernel
theorem dX5_init_27 : decode cX5_init 27 = .ok (.new 19, 3) := by decide +kernel
theorem dX5_init_30 : decode cX5_init 30 = .ok (.dup, 1) := by decide +kernel
theorem dX5_init_31 : decode cX5_init 31 = .ok (.invokespecial 21, 3) := by decide +kernel
theorem dX5_init_34 : decode cX5_init 34 = .ok (.putfield 22, 3) := by decide +kernel
theorem dX5_init_37 : decode cX5_init 37 = .ok (.return_, 1) := by decide +kernel
set_option maxRecDepth 20000 in
theorem ggX5_lay_X5_placeOf : GoodIn wsX5_lay wsX5_placeOf := goodIn_ca (goodIn_r _ [9, 10, 11] (by decide +kernel) (by decide +kernel)) (goodIn_sub (fun _ h => List.mem_cons_of_mem _ (List.mem_append_right _ h)) (by decide +kernel))
set_option maxRecDepth 20000 in
theorem gX5_lay_X5_placeOf : GoodIn wsX5_lay (va_wsS RX5 26 yX5_placeOf wsX5_placeOf) := goodIn_app (goodIn_of _ (by decide +kernel)) ggX5_lay_X5_placeOf
set_option maxRecDepth 20000 in
theorem ggX5_lay_X0_crewAt : GoodIn wsX5_lay wsX0_crewAt := goodIn_r _ [16, 17, 18, 34, 35, 36, 37, 38, 39, 40, 41, 42, 43, 44, 45, 46, 47, 48] (by decide +kernel) (by decide +kernel)
set_option maxRecDepth 20000 in
theorem gX5_lay_X0_crewAt : GoodIn wsX5_lay (wsV RX5 37 RX0 yX0_crewAt wsX0_crewAt) := goodIn_app (goodIn_of _ (by decide +kernel)) ggX5_lay_X0_crewAt
set_option maxRecDepth 20000 in
theorem ggX5_lay_X3_sortAt : GoodIn wsX5_lay wsX3_sortAt := goodIn_r _ [23, 24, 49, 50, 51] (by decide +kernel) (by decide +kernel)
set_option maxRecDepth 20000 in
theorem gX5_lay_X3_sortAt : GoodIn wsX5_lay (wsV RX5 50 RX3 yX3_sortAt wsX3_sortAt) := goodIn_app (goodIn_of _ (by decide +kernel)) ggX5_lay_X3_sortAt
set_option maxRecDepth 20000 in
theorem ggX5_lay_X3_put : GoodIn wsX5_lay wsX3_put := goodIn_r _ [28, 24, 29, 30, 49, 50, 51] (by decide +kernel) (by decide +kernel)
set_option maxRecDepth 20000 in
theorem gX5_lay_X3_put : GoodIn wsX5_lay (wsV RX5 55 RX3 yX3_put wsX3_put) := goodIn_app (goodIn_of _ (by decide +kernel)) ggX5_lay_X3_put
theorem dX5_lay_0 : decode cX5_lay 0 = .ok (.iload_n 1, 1) := by decide +kernel
theorem dX5_lay_1 : decode cX5_lay 1 = .ok (.iload_n 2, 1) := by decide +kernel
theorem dX5_lay_2 : decode cX5_lay 2 = .ok (.invokestatic 26, 3) := by decide +kernel
theorem dX5_lay_5 : decode cX5_lay 5 = .ok (.istore 4, 2) := by decide +kernel
theorem dX5_lay_7 : decode cX5_lay 7 = .ok (.iload_n 3, 1) := by decide +kernel
theorem dX5_lay_8 : decode cX5_lay 8 = .ok (.ifCond .lt 9, 3) := by decide +kernel
theorem dX5_lay_11 : decode cX5_lay 11 = .ok (.iload_n 3, 1) := by decide +kernel
theorem dX5_lay_12 : decode cX5_lay 12 = .ok (.bipush 10, 2) := by decide +kernel
theorem dX5_lay_14 : decode cX5_lay 14 = .ok (.if_icmp .le 13, 3) := by decide +kernel
theorem dX5_lay_17 : decode cX5_lay 17 = .ok (.new 30, 3) := by decide +kernel
theorem dX5_lay_20 : decode cX5_lay 20 = .ok (.dup, 1) := by decide +kernel
theorem dX5_lay_21 : decode cX5_lay 21 = .ok (.ldc 32, 2) := by decide +kernel
theorem dX5_lay_23 : decode cX5_lay 23 = .ok (.invokespecial 34, 3) := by decide +kernel
theorem dX5_lay_26 : decode cX5_lay 26 = .ok (.athrow, 1) := by decide +kernel
theorem dX5_lay_27 : decode cX5_lay 27 = .ok (.aload_n 0, 1) := by decide +kernel
theorem dX5_lay_28 : decode cX5_lay 28 = .ok (.getfield 12, 3) := by decide +kernel
theorem dX5_lay_31 : decode cX5_lay 31 = .ok (.iload 4, 2) := by decide +kernel
theorem dX5_lay_33 : decode cX5_lay 33 = .ok (.invokevirtual 37, 3) := by decide +kernel
theorem dX5_lay_36 : decode cX5_lay 36 = .ok (.ifCond .le 13, 3) := by decide +kernel
theorem dX5_lay_39 : decode cX5_lay 39 = .ok (.new 41, 3) := by decide +kernel
theorem dX5_lay_42 : decode cX5_lay 42 = .ok (.dup, 1) := by decide +kernel
theorem dX5_lay_43 : decode cX5_lay 43 = .ok (.ldc 43, 2) := by decide +kernel
theorem dX5_lay_45 : decode cX5_lay 45 = .ok (.invokespecial 45, 3) := by decide +kernel
theorem dX5_lay_48 : decode cX5_lay 48 = .ok (.athrow, 1) := by decide +kernel
theorem dX5_lay_49 : decode cX5_lay 49 = .ok (.aload_n 0, 1) := by decide +kernel
theorem dX5_lay_50 : decode cX5_lay 50 = .ok (.getfield 12, 3) := by decide +kernel
theorem dX5_lay_53 : decode cX5_lay 53 = .ok (.getfield 46, 3) := by decide +kernel
theorem dX5_lay_56 : decode cX5_lay 56 = .ok (.iload 4, 2) := by decide +kernel
theorem dX5_lay_58 : decode cX5_lay 58 = .ok (.invokevirtual 50, 3) := by decide +kernel
theorem dX5_lay_61 : decode cX5_lay 61 = .ok (.istore 5, 2) := by decide +kernel
theorem dX5_lay_63 : decode cX5_lay 63 = .ok (.aload_n 0, 1) := by decide +kernel
theorem dX5_lay_64 : decode cX5_lay 64 = .ok (.getfield 12, 3) := by decide +kernel
theorem dX5_lay_67 : decode cX5_lay 67 = .ok (.getfield 46, 3) := by decide +kernel
theorem dX5_lay_70 : decode cX5_lay 70 = .ok (.iload 4, 2) := by decide +kernel
theorem dX5_lay_72 : decode cX5_lay 72 = .ok (.iload_n 3, 1) := by decide +kernel
theorem dX5_lay_73 : decode cX5_lay 73 = .ok (.invokevirtual 55, 3) := by decide +kernel
theorem dX5_lay_76 : decode cX5_lay 76 = .ok (.iload 5, 2) := by decide +kernel
theorem dX5_lay_78 : decode cX5_lay 78 = .ok (.ireturn, 1) := by decide +kernel
set_option maxRecDepth 20000 in
theorem ggX5_cell_X5_placeOf : GoodIn wsX5_cell wsX5_placeOf := goodIn_ca (goodIn_r _ [7, 1, 2] (by decide +kernel) (by decide +kernel)) (goodIn_sub (fun _ h => List.mem_cons_of_mem _ (List.mem_append_right _ h)) (by decide +kernel))
set_option maxRecDepth 20000 in
theorem gX5_cell_X5_placeOf : GoodIn wsX5_cell (va_wsS RX5 26 yX5_placeOf wsX5_placeOf) := goodIn_app (goodIn_of _ (by decide +kernel)) ggX5_cell_X5_placeOf
set_option maxRecDepth 20000 in
theorem ggX5_cell_X3_sortAt : GoodIn wsX5_cell wsX3_sortAt := goodIn_r _ [12, 13, 101, 102, 103] (by decide +kernel) (by decide +kernel)
set_option maxRecDepth 20000 in
theorem gX5_cell_X3_sortAt : GoodIn wsX5_cell (wsV RX5 50 RX3 yX3_sortAt wsX3_sortAt) := goodIn_app (goodIn_of _ (by decide +kernel)) ggX5_cell_X3_sortAt
set_option maxRecDepth 20000 in
theorem ggX5_cell_X3_ageAt : GoodIn wsX5_cell wsX3_ageAt := goodIn_r _ [17, 18, 101, 102, 103] (by decide +kernel) (by decide +kernel)
set_option maxRecDepth 20000 in
theorem gX5_cell_X3_ageAt : GoodIn wsX5_cell (wsV RX5 59 RX3 yX3_ageAt wsX3_ageAt) := goodIn_app (goodIn_of _ (by decide +kernel)) ggX5_cell_X3_ageAt
set_option maxRecDepth 20000 in
theorem ggX5_cell_X3_postsAt : GoodIn wsX5_cell wsX3_postsAt := goodIn_r _ [22, 23, 101, 102, 103] (by decide +kernel) (by decide +kernel)
set_option maxRecDepth 20000 in
theorem gX5_cell_X3_postsAt : GoodIn wsX5_cell (wsV RX5 62 RX3 yX3_postsAt wsX3_postsAt) := goodIn_app (goodIn_of _ (by decide +kernel)) ggX5_cell_X3_postsAt
set_option maxRecDepth 20000 in
theorem ggX5_cell_X0_isHeld : GoodIn wsX5_cell wsX0_isHeld := goodIn_r _ [28, 29, 30, 31, 32, 27, 33, 34, 35, 36, 37, 38, 39, 40, 41, 42, 43, 44, 20, 21, 11, 22, 23, 45, 46, 47, 48, 49, 50, 51, 52, 53, 54, 55, 56, 57, 6, 58, 59, 60, 61, 62, 13, 63, 64, 65, 66, 67, 94, 95, 96, 97, 98, 99, 100, 104, 105, 106, 107, 101, 102, 103] (by decide +kernel) (by decide +kernel)
set_option maxRecDepth 20000 in
theorem gX5_cell_X0_isHeld : GoodIn wsX5_cell (wsV RX5 65 RX0 yX0_isHeld wsX0_isHeld) := goodIn_app (goodIn_of _ (by decide +kernel)) ggX5_cell_X0_isHeld
set_option maxRecDepth 20000 in
theorem ggX5_cell_X5_oneIf : GoodIn wsX5_cell wsX5_oneIf := goodIn_r _ [70] (by decide +kernel) (by decide +kernel)
set_option maxRecDepth 20000 in
theorem gX5_cell_X5_oneIf : GoodIn wsX5_cell (va_wsS RX5 69 yX5_oneIf wsX5_oneIf) := goodIn_app (goodIn_of _ (by decide +kernel)) ggX5_cell_X5_oneIf
set_option maxRecDepth 20000 in
theorem ggX5_cell_X0_isLit : GoodIn wsX5_cell wsX0_isLit := goodIn_r _ [74, 75, 76, 77, 27, 78, 29, 79, 80, 34, 35, 36, 37, 38, 39, 40, 41, 42, 43, 45, 46, 47, 48, 49, 50, 51, 52, 53, 54, 55, 56, 57, 6, 58, 59, 60, 61, 11, 62, 13, 63, 81, 82, 83, 84, 85, 9, 10, 12, 64, 65, 66, 67, 86, 94, 95, 96, 97, 98, 99, 100, 108, 109, 110, 111, 112, 113, 114, 115, 104, 105, 106, 107, 101, 102, 103] (by decide +kernel) (by decide +kernel)
set_option maxRecDepth 20000 in
theorem gX5_cell_X0_isLit : GoodIn wsX5_cell (wsV RX5 73 RX0 yX0_isLit wsX0_isLit) := goodIn_app (goodIn_of _ (by decide +kernel)) ggX5_cell_X0_isLit
set_option maxRecDepth 20000 in
theorem ggX5_cell_X0_crewAt : GoodIn wsX5_cell wsX0_crewAt := goodIn_r _ [90, 79, 80, 94, 95, 96, 97, 98, 99, 100, 108, 109, 110, 111, 112, 113, 114, 115] (by decide +kernel) (by decide +kernel)
set_option maxRecDepth 20000 in
theorem gX5_cell_X0_crewAt : GoodIn wsX5_cell (wsV RX5 37 RX0 yX0_crewAt wsX0_crewAt) := goodIn_app (goodIn_of _ (by decide +kernel)) ggX5_cell_X0_crewAt
theorem dX5_cell_0 : decode cX5_cell 0 = .ok (.iload_n 1, 1) := by decide +kernel
theorem dX5_cell_1 : decode cX5_cell 1 = .ok (.iload_n 2, 1) := by decide +kernel
theorem dX5_cell_2 : decode cX5_cell 2 = .ok (.invokestatic 26, 3) := by decide +kernel
theorem dX5_cell_5 : decode cX5_cell 5 = .ok (.istore 4, 2) := by decide +kernel
theorem dX5_cell_7 : decode cX5_cell 7 = .ok (.iload_n 3, 1) := by decide +kernel
theorem dX5_cell_8 : decode cX5_cell 8 = .ok (.tableswitch 115 0 5 #[40, 53, 66, 79, 92, 105], 40) := by decide +kernel
theorem dX5_cell_48 : decode cX5_cell 48 = .ok (.aload_n 0, 1) := by decide +kernel
theorem dX5_cell_49 : decode cX5_cell 49 = .ok (.getfield 12, 3) := by decide +kernel
theorem dX5_cell_52 : decode cX5_cell 52 = .ok (.getfield 46, 3) := by decide +kernel
theorem dX5_cell_55 : decode cX5_cell 55 = .ok (.iload 4, 2) := by decide +kernel
theorem dX5_cell_57 : decode cX5_cell 57 = .ok (.invokevirtual 50, 3) := by decide +kernel
theorem dX5_cell_60 : decode cX5_cell 60 = .ok (.ireturn, 1) := by decide +kernel
theorem dX5_cell_61 : decode cX5_cell 61 = .ok (.aload_n 0, 1) := by decide +kernel
theorem dX5_cell_62 : decode cX5_cell 62 = .ok (.getfield 12, 3) := by decide +kernel
theorem dX5_cell_65 : decode cX5_cell 65 = .ok (.getfield 46, 3) := by decide +kernel
theorem dX5_cell_68 : decode cX5_cell 68 = .ok (.iload 4, 2) := by decide +kernel
theorem dX5_cell_70 : decode cX5_cell 70 = .ok (.invokevirtual 59, 3) := by decide +kernel
theorem dX5_cell_73 : decode cX5_cell 73 = .ok (.ireturn, 1) := by decide +kernel
theorem dX5_cell_74 : decode cX5_cell 74 = .ok (.aload_n 0, 1) := by decide +kernel
theorem dX5_cell_75 : decode cX5_cell 75 = .ok (.getfield 12, 3) := by decide +kernel
theorem dX5_cell_78 : decode cX5_cell 78 = .ok (.getfield 46, 3) := by decide +kernel
theorem dX5_cell_81 : decode cX5_cell 81 = .ok (.iload 4, 2) := by decide +kernel
theorem dX5_cell_83 : decode cX5_cell 83 = .ok (.invokevirtual 62, 3) := by decide +kernel
theorem dX5_cell_86 : decode cX5_cell 86 = .ok (.ireturn, 1) := by decide +kernel
theorem dX5_cell_87 : decode cX5_cell 87 = .ok (.aload_n 0, 1) := by decide +kernel
theorem dX5_cell_88 : decode cX5_cell 88 = .ok (.getfield 12, 3) := by decide +kernel
theorem dX5_cell_91 : decode cX5_cell 91 = .ok (.iload 4, 2) := by decide +kernel
theorem dX5_cell_93 : decode cX5_cell 93 = .ok (.invokevirtual 65, 3) := by decide +kernel
theorem dX5_cell_96 : decode cX5_cell 96 = .ok (.invokestatic 69, 3) := by decide +kernel
theorem dX5_cell_99 : decode cX5_cell 99 = .ok (.ireturn, 1) := by decide +kernel
theorem dX5_cell_100 : decode cX5_cell 100 = .ok (.aload_n 0, 1) := by decide +kernel
theorem dX5_cell_101 : decode cX5_cell 101 = .ok (.getfield 12, 3) := by decide +kernel
theorem dX5_cell_104 : decode cX5_cell 104 = .ok (.iload 4, 2) := by decide +kernel
theorem dX5_cell_106 : decode cX5_cell 106 = .ok (.invokevirtual 73, 3) := by decide +kernel
theorem dX5_cell_109 : decode cX5_cell 109 = .ok (.invokestatic 69, 3) := by decide +kernel
theorem dX5_cell_112 : decode cX5_cell 112 = .ok (.ireturn, 1) := by decide +kernel
theorem dX5_cell_113 : decode cX5_cell 113 = .ok (.aload_n 0, 1) := by decide +kernel
theorem dX5_cell_114 : decode cX5_cell 114 = .ok (.getfield 12, 3) := by decide +kernel
theorem dX5_cell_117 : decode cX5_cell 117 = .ok (.iload 4, 2) := by decide +kernel
theorem dX5_cell_119 : decode cX5_cell 119 = .ok (.invokevirtual 37, 3) := by decide +kernel
theorem dX5_cell_122 : decode cX5_cell 122 = .ok (.ireturn, 1) := by decide +kernel
theorem dX5_cell_123 : decode cX5_cell 123 = .ok (.new 76, 3) := by decide +kernel
theorem dX5_cell_126 : decode cX5_cell 126 = .ok (.dup, 1) := by decide +kernel
theorem dX5_cell_127 : decode cX5_cell 127 = .ok (.ldc 78, 2) := by decide +kernel
theorem dX5_cell_129 : decode cX5_cell 129 = .ok (.invokespecial 80, 3) := by decide +kernel
theorem dX5_cell_132 : decode cX5_cell 132 = .ok (.athrow, 1) := by decide +kernel
set_option maxRecDepth 20000 in
theorem ggX5_come_X5_placeOf : GoodIn wsX5_come wsX5_placeOf := goodIn_ca (goodIn_r _ [9, 10, 11] (by decide +kernel) (by decide +kernel)) (goodIn_sub (fun _ h => List.mem_cons_of_mem _ (List.mem_append_right _ h)) (by decide +kernel))
set_option maxRecDepth 20000 in
theorem gX5_come_X5_placeOf : GoodIn wsX5_come (va_wsS RX5 26 yX5_placeOf wsX5_placeOf) := goodIn_app (goodIn_of _ (by decide +kernel)) ggX5_come_X5_placeOf
set_option maxRecDepth 20000 in
theorem ggX5_come_X3_sortAt : GoodIn wsX5_come wsX3_sortAt := goodIn_r _ [16, 17, 50, 51, 52] (by decide +kernel) (by decide +kernel)
set_option maxRecDepth 20000 in
theorem gX5_come_X3_sortAt : GoodIn wsX5_come (wsV RX5 50 RX3 yX3_sortAt wsX3_sortAt) := goodIn_app (goodIn_of _ (by decide +kernel)) ggX5_come_X3_sortAt
set_option maxRecDepth 20000 in
theorem ggX5_come_X0_buriedAt : GoodIn wsX5_come wsX0_buriedAt := goodIn_r _ [22, 23, 24, 43, 44, 45, 46, 47, 48, 49, 53, 54, 55, 56, 57, 58, 59, 60] (by decide +kernel) (by decide +kernel)
set_option maxRecDepth 20000 in
theorem gX5_come_X0_buriedAt : GoodIn wsX5_come (wsV RX5 85 RX0 yX0_buriedAt wsX0_buriedAt) := goodIn_app (goodIn_of _ (by decide +kernel)) ggX5_come_X0_buriedAt
set_option maxRecDepth 20000 in
theorem ggX5_come_X0_welcome : GoodIn wsX5_come wsX0_welcome := goodIn_r _ [28, 23, 29, 24, 30, 31, 32, 15, 33, 17, 34, 35, 36, 37, 38, 39, 43, 44, 45, 46, 47, 48, 49, 53, 54, 55, 56, 57, 58, 59, 60, 50, 51, 52] (by decide +kernel) (by decide +kernel)
set_option maxRecDepth 20000 in
theorem gX5_come_X0_welcome : GoodIn wsX5_come (wsV RX5 96 RX0 yX0_welcome wsX0_welcome) := goodIn_app (goodIn_of _ (by decide +kernel)) ggX5_come_X0_welcome
theorem dX5_come_0 : decode cX5_come 0 = .ok (.iload_n 1, 1) := by decide +kernel
theorem dX5_come_1 : decode cX5_come 1 = .ok (.iload_n 2, 1) := by decide +kernel
theorem dX5_come_2 : decode cX5_come 2 = .ok (.invokestatic 26, 3) := by decide +kernel
theorem dX5_come_5 : decode cX5_come 5 = .ok (.istore 5, 2) := by decide +kernel
theorem dX5_come_7 : decode cX5_come 7 = .ok (.iload_n 3, 1) := by decide +kernel
theorem dX5_come_8 : decode cX5_come 8 = .ok (.ifCond .lt 9, 3) := by decide +kernel
theorem dX5_come_11 : decode cX5_come 11 = .ok (.iload_n 3, 1) := by decide +kernel
theorem dX5_come_12 : decode cX5_come 12 = .ok (.bipush 20, 2) := by decide +kernel
theorem dX5_come_14 : decode cX5_come 14 = .ok (.if_icmp .le 13, 3) := by decide +kernel
theorem dX5_come_17 : decode cX5_come 17 = .ok (.new 30, 3) := by decide +kernel
theorem dX5_come_20 : decode cX5_come 20 = .ok (.dup, 1) := by decide +kernel
theorem dX5_come_21 : decode cX5_come 21 = .ok (.ldc 81, 2) := by decide +kernel
theorem dX5_come_23 : decode cX5_come 23 = .ok (.invokespecial 34, 3) := by decide +kernel
theorem dX5_come_26 : decode cX5_come 26 = .ok (.athrow, 1) := by decide +kernel
theorem dX5_come_27 : decode cX5_come 27 = .ok (.iload 4, 2) := by decide +kernel
theorem dX5_come_29 : decode cX5_come 29 = .ok (.ifCond .lt 10, 3) := by decide +kernel
theorem dX5_come_32 : decode cX5_come 32 = .ok (.iload 4, 2) := by decide +kernel
theorem dX5_come_34 : decode cX5_come 34 = .ok (.bipush 9, 2) := by decide +kernel
theorem dX5_come_36 : decode cX5_come 36 = .ok (.if_icmp .le 13, 3) := by decide +kernel
theorem dX5_come_39 : decode cX5_come 39 = .ok (.new 30, 3) := by decide +kernel
theorem dX5_come_42 : decode cX5_come 42 = .ok (.dup, 1) := by decide +kernel
theorem dX5_come_43 : decode cX5_come 43 = .ok (.ldc 83, 2) := by decide +kernel
theorem dX5_come_45 : decode cX5_come 45 = .ok (.invokespecial 34, 3) := by decide +kernel
theorem dX5_come_48 : decode cX5_come 48 = .ok (.athrow, 1) := by decide +kernel
theorem dX5_come_49 : decode cX5_come 49 = .ok (.aload_n 0, 1) := by decide +kernel
theorem dX5_come_50 : decode cX5_come 50 = .ok (.getfield 12, 3) := by decide +kernel
theorem dX5_come_53 : decode cX5_come 53 = .ok (.getfield 46, 3) := by decide +kernel
theorem dX5_come_56 : decode cX5_come 56 = .ok (.iload 5, 2) := by decide +kernel
theorem dX5_come_58 : decode cX5_come 58 = .ok (.invokevirtual 50, 3) := by decide +kernel
theorem dX5_come_61 : decode cX5_come 61 = .ok (.bipush 10, 2) := by decide +kernel
theorem dX5_come_63 : decode cX5_come 63 = .ok (.if_icmp .eq 15, 3) := by decide +kernel
theorem dX5_come_66 : decode cX5_come 66 = .ok (.aload_n 0, 1) := by decide +kernel
theorem dX5_come_67 : decode cX5_come 67 = .ok (.getfield 12, 3) := by decide +kernel
theorem dX5_come_70 : decode cX5_come 70 = .ok (.iload 5, 2) := by decide +kernel
theorem dX5_come_72 : decode cX5_come 72 = .ok (.invokevirtual 85, 3) := by decide +kernel
theorem dX5_come_75 : decode cX5_come 75 = .ok (.ifCond .le 13, 3) := by decide +kernel
theorem dX5_come_78 : decode cX5_come 78 = .ok (.new 41, 3) := by decide +kernel
theorem dX5_come_81 : decode cX5_come 81 = .ok (.dup, 1) := by decide +kernel
theorem dX5_come_82 : decode cX5_come 82 = .ok (.ldc 88, 2) := by decide +kernel
theorem dX5_come_84 : decode cX5_come 84 = .ok (.invokespecial 45, 3) := by decide +kernel
theorem dX5_come_87 : decode cX5_come 87 = .ok (.athrow, 1) := by decide +kernel
theorem dX5_come_88 : decode cX5_come 88 = .ok (.aload_n 0, 1) := by decide +kernel
theorem dX5_come_89 : decode cX5_come 89 = .ok (.getfield 12, 3) := by decide +kernel
theorem dX5_come_92 : decode cX5_come 92 = .ok (.getfield 90, 3) := by decide +kernel
theorem dX5_come_95 : decode cX5_come 95 = .ok (.bipush 8, 2) := by decide +kernel
theorem dX5_come_97 : decode cX5_come 97 = .ok (.if_icmp .lt 13, 3) := by decide +kernel
theorem dX5_come_100 : decode cX5_come 100 = .ok (.new 41, 3) := by decide +kernel
theorem dX5_come_103 : decode cX5_come 103 = .ok (.dup, 1) := by decide +kernel
theorem dX5_come_104 : decode cX5_come 104 = .ok (.ldc 94, 2) := by decide +kernel
theorem dX5_come_106 : decode cX5_come 106 = .ok (.invokespecial 45, 3) := by decide +kernel
theorem dX5_come_109 : decode cX5_come 109 = .ok (.athrow, 1) := by decide +kernel
theorem dX5_come_110 : decode cX5_come 110 = .ok (.aload_n 0, 1) := by decide +kernel
theorem dX5_come_111 : decode cX5_come 111 = .ok (.getfield 12, 3) := by decide +kernel
theorem dX5_come_114 : decode cX5_come 114 = .ok (.iload 5, 2) := by decide +kernel
theorem dX5_come_116 : decode cX5_come 116 = .ok (.iload_n 3, 1) := by decide +kernel
theorem dX5_come_117 : decode cX5_come 117 = .ok (.iload 4, 2) := by decide +kernel
theorem dX5_come_119 : decode cX5_come 119 = .ok (.invokevirtual 96, 3) := by decide +kernel
theorem dX5_come_122 : decode cX5_come 122 = .ok (.ireturn, 1) := by decide +kernel
set_option maxRecDepth 20000 in
theorem ggX5_order_X5_member : GoodIn wsX5_order wsX5_member := goodIn_ca (goodIn_r _ [9, 10, 11, 12, 13, 14, 15, 16, 17, 18, 19, 35, 36, 37, 38, 39, 40, 41, 42, 43, 44] (by decide +kernel) (by decide +kernel)) (goodIn_sub (fun _ h => List.mem_cons_of_mem _ (List.mem_append_right _ h)) (by decide +kernel))
set_option maxRecDepth 20000 in
theorem gX5_order_X5_member : GoodIn wsX5_order (wsV RX5 100 RX5 yX5_member wsX5_member) := goodIn_app (goodIn_of _ (by decide +kernel)) ggX5_order_X5_member
set_option maxRecDepth 20000 in
theorem ggX5_order_X4_addOrders : GoodIn wsX5_order wsX4_addOrders := goodIn_r _ [24, 25, 26, 27, 28, 29, 30, 31, 32, 33, 34] (by decide +kernel) (by decide +kernel)
set_option maxRecDepth 20000 in
theorem gX5_order_X4_addOrders : GoodIn wsX5_order (wsV RX5 115 RX4 yX4_addOrders wsX4_addOrders) := goodIn_app (goodIn_of _ (by decide +kernel)) ggX5_order_X4_addOrders
theorem dX5_order_0 : decode cX5_order 0 = .ok (.aload_n 0, 1) := by decide +kernel
theorem dX5_order_1 : decode cX5_order 1 = .ok (.iload_n 1, 1) := by decide +kernel
theorem dX5_order_2 : decode cX5_order 2 = .ok (.invokevirtual 100, 3) := by decide +kernel
theorem dX5_order_5 : decode cX5_order 5 = .ok (.astore 4, 2) := by decide +kernel
theorem dX5_order_7 : decode cX5_order 7 = .ok (.iload_n 2, 1) := by decide +kernel
theorem dX5_order_8 : decode cX5_order 8 = .ok (.ifCond .lt 9, 3) := by decide +kernel
theorem dX5_order_11 : decode cX5_order 11 = .ok (.iload_n 2, 1) := by decide +kernel
theorem dX5_order_12 : decode cX5_order 12 = .ok (.bipush 6, 2) := by decide +kernel
theorem dX5_order_14 : decode cX5_order 14 = .ok (.if_icmp .le 13, 3) := by decide +kernel
theorem dX5_order_17 : decode cX5_order 17 = .ok (.new 30, 3) := by decide +kernel
theorem dX5_order_20 : decode cX5_order 20 = .ok (.dup, 1) := by decide +kernel
theorem dX5_order_21 : decode cX5_order 21 = .ok (.ldc 104, 2) := by decide +kernel
theorem dX5_order_23 : decode cX5_order 23 = .ok (.invokespecial 34, 3) := by decide +kernel
theorem dX5_order_26 : decode cX5_order 26 = .ok (.athrow, 1) := by decide +kernel
theorem dX5_order_27 : decode cX5_order 27 = .ok (.iload_n 3, 1) := by decide +kernel
theorem dX5_order_28 : decode cX5_order 28 = .ok (.iconst 1, 1) := by decide +kernel
theorem dX5_order_29 : decode cX5_order 29 = .ok (.if_icmp .lt 9, 3) := by decide +kernel
theorem dX5_order_32 : decode cX5_order 32 = .ok (.iload_n 3, 1) := by decide +kernel
theorem dX5_order_33 : decode cX5_order 33 = .ok (.bipush 9, 2) := by decide +kernel
theorem dX5_order_35 : decode cX5_order 35 = .ok (.if_icmp .le 13, 3) := by decide +kernel
theorem dX5_order_38 : decode cX5_order 38 = .ok (.new 30, 3) := by decide +kernel
theorem dX5_order_41 : decode cX5_order 41 = .ok (.dup, 1) := by decide +kernel
theorem dX5_order_42 : decode cX5_order 42 = .ok (.ldc 106, 2) := by decide +kernel
theorem dX5_order_44 : decode cX5_order 44 = .ok (.invokespecial 34, 3) := by decide +kernel
theorem dX5_order_47 : decode cX5_order 47 = .ok (.athrow, 1) := by decide +kernel
theorem dX5_order_48 : decode cX5_order 48 = .ok (.aload 4, 2) := by decide +kernel
theorem dX5_order_50 : decode cX5_order 50 = .ok (.getfield 108, 3) := by decide +kernel
theorem dX5_order_53 : decode cX5_order 53 = .ok (.iload_n 3, 1) := by decide +kernel
theorem dX5_order_54 : decode cX5_order 54 = .ok (.iadd, 1) := by decide +kernel
theorem dX5_order_55 : decode cX5_order 55 = .ok (.bipush 24, 2) := by decide +kernel
theorem dX5_order_57 : decode cX5_order 57 = .ok (.if_icmp .le 13, 3) := by decide +kernel
theorem dX5_order_60 : decode cX5_order 60 = .ok (.new 41, 3) := by decide +kernel
theorem dX5_order_63 : decode cX5_order 63 = .ok (.dup, 1) := by decide +kernel
theorem dX5_order_64 : decode cX5_order 64 = .ok (.ldc 113, 2) := by decide +kernel
theorem dX5_order_66 : decode cX5_order 66 = .ok (.invokespecial 45, 3) := by decide +kernel
theorem dX5_order_69 : decode cX5_order 69 = .ok (.athrow, 1) := by decide +kernel
theorem dX5_order_70 : decode cX5_order 70 = .ok (.aload 4, 2) := by decide +kernel
theorem dX5_order_72 : decode cX5_order 72 = .ok (.iload_n 2, 1) := by decide +kernel
theorem dX5_order_73 : decode cX5_order 73 = .ok (.iload_n 3, 1) := by decide +kernel
theorem dX5_order_74 : decode cX5_order 74 = .ok (.invokevirtual 115, 3) := by decide +kernel
theorem dX5_order_77 : decode cX5_order 77 = .ok (.aload 4, 2) := by decide +kernel
theorem dX5_order_79 : decode cX5_order 79 = .ok (.getfield 108, 3) := by decide +kernel
theorem dX5_order_82 : decode cX5_order 82 = .ok (.ireturn, 1) := by decide +kernel
set_option maxRecDepth 20000 in
theorem ggX5_call_X5_member : GoodIn wsX5_call wsX5_member := goodIn_ca (goodIn_r _ [5, 6, 7, 8, 9, 10, 11, 12, 13, 14, 15, 24, 25, 26, 27, 28, 29, 30, 31, 32, 33] (by decide +kernel) (by decide +kernel)) (goodIn_sub (fun _ h => List.mem_cons_of_mem _ (List.mem_append_right _ h)) (by decide +kernel))
set_option maxRecDepth 20000 in
theorem gX5_call_X5_member : GoodIn wsX5_call (wsV RX5 100 RX5 yX5_member wsX5_member) := goodIn_app (goodIn_of _ (by decide +kernel)) ggX5_call_X5_member
theorem dX5_call_0 : decode cX5_call 0 = .ok (.aload_n 0, 1) := by decide +kernel
theorem dX5_call_1 : decode cX5_call 1 = .ok (.iload_n 1, 1) := by decide +kernel
theorem dX5_call_2 : decode cX5_call 2 = .ok (.invokevirtual 100, 3) := by decide +kernel
theorem dX5_call_5 : decode cX5_call 5 = .ok (.astore_n 2, 1) := by decide +kernel
theorem dX5_call_6 : decode cX5_call 6 = .ok (.aload_n 2, 1) := by decide +kernel
theorem dX5_call_7 : decode cX5_call 7 = .ok (.getfield 108, 3) := by decide +kernel
theorem dX5_call_10 : decode cX5_call 10 = .ok (.istore_n 3, 1) := by decide +kernel
theorem dX5_call_11 : decode cX5_call 11 = .ok (.aload_n 2, 1) := by decide +kernel
theorem dX5_call_12 : decode cX5_call 12 = .ok (.iconst 0, 1) := by decide +kernel
theorem dX5_call_13 : decode cX5_call 13 = .ok (.putfield 108, 3) := by decide +kernel
theorem dX5_call_16 : decode cX5_call 16 = .ok (.iload_n 3, 1) := by decide +kernel
theorem dX5_call_17 : decode cX5_call 17 = .ok (.ireturn, 1) := by decide +kernel
set_option maxRecDepth 20000 in
theorem ggX5_tunneller_X5_member : GoodIn wsX5_tunneller wsX5_member := goodIn_ca (goodIn_r _ [7, 1, 2, 8, 9, 10, 11, 12, 13, 14, 15, 34, 35, 36, 37, 38, 39, 40, 41, 42, 43] (by decide +kernel) (by decide +kernel)) (goodIn_sub (fun _ h => List.mem_cons_of_mem _ (List.mem_append_right _ h)) (by decide +kernel))
set_option maxRecDepth 20000 in
theorem gX5_tunneller_X5_member : GoodIn wsX5_tunneller (wsV RX5 100 RX5 yX5_member wsX5_member) := goodIn_app (goodIn_of _ (by decide +kernel)) ggX5_tunneller_X5_member
set_option maxRecDepth 20000 in
theorem ggX5_tunneller_X4_firstOrder : GoodIn wsX5_tunneller wsX4_firstOrder := goodIn_r _ [20, 21, 22, 26, 27, 28, 29, 30, 31, 32, 33] (by decide +kernel) (by decide +kernel)
set_option maxRecDepth 20000 in
theorem gX5_tunneller_X4_firstOrder : GoodIn wsX5_tunneller (wsV RX5 130 RX4 yX4_firstOrder wsX4_firstOrder) := goodIn_app (goodIn_of _ (by decide +kernel)) ggX5_tunneller_X4_firstOrder
set_option maxRecDepth 20000 in
theorem ggX5_tunneller_X5_oneIf : GoodIn wsX5_tunneller wsX5_oneIf := goodIn_r _ [25] (by decide +kernel) (by decide +kernel)
set_option maxRecDepth 20000 in
theorem gX5_tunneller_X5_oneIf : GoodIn wsX5_tunneller (va_wsS RX5 69 yX5_oneIf wsX5_oneIf) := goodIn_app (goodIn_of _ (by decide +kernel)) ggX5_tunneller_X5_oneIf
theorem dX5_tunneller_0 : decode cX5_tunneller 0 = .ok (.aload_n 0, 1) := by decide +kernel
theorem dX5_tunneller_1 : decode cX5_tunneller 1 = .ok (.iload_n 1, 1) := by decide +kernel
theorem dX5_tunneller_2 : decode cX5_tunneller 2 = .ok (.invokevirtual 100, 3) := by decide +kernel
theorem dX5_tunneller_5 : decode cX5_tunneller 5 = .ok (.astore_n 3, 1) := by decide +kernel
theorem dX5_tunneller_6 : decode cX5_tunneller 6 = .ok (.iload_n 2, 1) := by decide +kernel
theorem dX5_tunneller_7 : decode cX5_tunneller 7 = .ok (.tableswitch 103 0 8 #[49, 57, 65, 70, 75, 80, 85, 90, 98], 49) := by decide +kernel
theorem dX5_tunneller_56 : decode cX5_tunneller 56 = .ok (.aload_n 3, 1) := by decide +kernel
theorem dX5_tunneller_57 : decode cX5_tunneller 57 = .ok (.getfield 118, 3) := by decide +kernel
theorem dX5_tunneller_60 : decode cX5_tunneller 60 = .ok (.bipush 16, 2) := by decide +kernel
theorem dX5_tunneller_62 : decode cX5_tunneller 62 = .ok (.irem, 1) := by decide +kernel
theorem dX5_tunneller_63 : decode cX5_tunneller 63 = .ok (.ireturn, 1) := by decide +kernel
theorem dX5_tunneller_64 : decode cX5_tunneller 64 = .ok (.aload_n 3, 1) := by decide +kernel
theorem dX5_tunneller_65 : decode cX5_tunneller 65 = .ok (.getfield 118, 3) := by decide +kernel
theorem dX5_tunneller_68 : decode cX5_tunneller 68 = .ok (.bipush 16, 2) := by decide +kernel
theorem dX5_tunneller_70 : decode cX5_tunneller 70 = .ok (.idiv, 1) := by decide +kernel
theorem dX5_tunneller_71 : decode cX5_tunneller 71 = .ok (.ireturn, 1) := by decide +kernel
theorem dX5_tunneller_72 : decode cX5_tunneller 72 = .ok (.aload_n 3, 1) := by decide +kernel
theorem dX5_tunneller_73 : decode cX5_tunneller 73 = .ok (.getfield 121, 3) := by decide +kernel
theorem dX5_tunneller_76 : decode cX5_tunneller 76 = .ok (.ireturn, 1) := by decide +kernel
theorem dX5_tunneller_77 : decode cX5_tunneller 77 = .ok (.aload_n 3, 1) := by decide +kernel
theorem dX5_tunneller_78 : decode cX5_tunneller 78 = .ok (.getfield 124, 3) := by decide +kernel
theorem dX5_tunneller_81 : decode cX5_tunneller 81 = .ok (.ireturn, 1) := by decide +kernel
theorem dX5_tunneller_82 : decode cX5_tunneller 82 = .ok (.aload_n 3, 1) := by decide +kernel
theorem dX5_tunneller_83 : decode cX5_tunneller 83 = .ok (.getfield 127, 3) := by decide +kernel
theorem dX5_tunneller_86 : decode cX5_tunneller 86 = .ok (.ireturn, 1) := by decide +kernel
theorem dX5_tunneller_87 : decode cX5_tunneller 87 = .ok (.aload_n 3, 1) := by decide +kernel
theorem dX5_tunneller_88 : decode cX5_tunneller 88 = .ok (.getfield 108, 3) := by decide +kernel
theorem dX5_tunneller_91 : decode cX5_tunneller 91 = .ok (.ireturn, 1) := by decide +kernel
theorem dX5_tunneller_92 : decode cX5_tunneller 92 = .ok (.aload_n 3, 1) := by decide +kernel
theorem dX5_tunneller_93 : decode cX5_tunneller 93 = .ok (.invokevirtual 130, 3) := by decide +kernel
theorem dX5_tunneller_96 : decode cX5_tunneller 96 = .ok (.ireturn, 1) := by decide +kernel
theorem dX5_tunneller_97 : decode cX5_tunneller 97 = .ok (.aload_n 3, 1) := by decide +kernel
theorem dX5_tunneller_98 : decode cX5_tunneller 98 = .ok (.getfield 134, 3) := by decide +kernel
theorem dX5_tunneller_101 : decode cX5_tunneller 101 = .ok (.invokestatic 69, 3) := by decide +kernel
theorem dX5_tunneller_104 : decode cX5_tunneller 104 = .ok (.ireturn, 1) := by decide +kernel
theorem dX5_tunneller_105 : decode cX5_tunneller 105 = .ok (.aload_n 3, 1) := by decide +kernel
theorem dX5_tunneller_106 : decode cX5_tunneller 106 = .ok (.getfield 138, 3) := by decide +kernel
theorem dX5_tunneller_109 : decode cX5_tunneller 109 = .ok (.ireturn, 1) := by decide +kernel
theorem dX5_tunneller_110 : decode cX5_tunneller 110 = .ok (.new 76, 3) := by decide +kernel
theorem dX5_tunneller_113 : decode cX5_tunneller 113 = .ok (.dup, 1) := by decide +kernel
theorem dX5_tunneller_114 : decode cX5_tunneller 114 = .ok (.ldc 141, 2) := by decide +kernel
theorem dX5_tunneller_116 : decode cX5_tunneller 116 = .ok (.invokespecial 80, 3) := by decide +kernel
theorem dX5_tunneller_119 : decode cX5_tunneller 119 = .ok (.athrow, 1) := by decide +kernel
set_option maxRecDepth 20000 in
theorem ggX5_pass_X5_requireTicks : GoodIn wsX5_pass wsX5_requireTicks := goodIn_ca (goodIn_r _ [5, 6, 7] (by decide +kernel) (by decide +kernel)) (goodIn_sub (fun _ h => List.mem_cons_of_mem _ (List.mem_append_right _ h)) (by decide +kernel))
set_option maxRecDepth 20000 in
theorem gX5_pass_X5_requireTicks : GoodIn wsX5_pass (va_wsS RX5 143 yX5_requireTicks wsX5_requireTicks) := goodIn_app (goodIn_of _ (by decide +kernel)) ggX5_pass_X5_requireTicks
set_option maxRecDepth 20000 in
theorem ggX5_pass_X0_openedByCrew : GoodIn wsX5_pass wsX0_openedByCrew := goodIn_r _ [12, 13, 14, 148, 149, 150, 151, 152, 153, 154, 155, 156, 157, 158, 159, 160, 161, 162] (by decide +kernel) (by decide +kernel)
set_option maxRecDepth 20000 in
theorem gX5_pass_X0_openedByCrew : GoodIn wsX5_pass (wsV RX5 147 RX0 yX0_openedByCrew wsX0_openedByCrew) := goodIn_app (goodIn_of _ (by decide +kernel)) ggX5_pass_X0_openedByCrew
set_option maxRecDepth 20000 in
theorem ggX5_pass_X0_tick : GoodIn wsX5_pass wsX0_tick := goodIn_r _ [18, 13, 14, 19, 20, 21, 22, 23, 24, 25, 26, 27, 28, 29, 11, 30, 31, 32, 33, 34, 35, 36, 37, 38, 39, 40, 41, 42, 43, 4, 44, 45, 46, 47, 48, 49, 50, 51, 52, 53, 54, 55, 56, 57, 58, 59, 60, 61, 62, 63, 64, 65, 66, 67, 68, 69, 70, 71, 72, 73, 74, 75, 76, 77, 78, 79, 80, 81, 82, 83, 84, 85, 86, 87, 88, 89, 90, 91, 92, 93, 94, 95, 96, 97, 98, 99, 100, 101, 102, 103, 104, 105, 106, 107, 108, 109, 110, 111, 112, 113, 114, 115, 116, 117, 118, 119, 120, 121, 122, 123, 124, 125, 126, 127, 128, 129, 130, 131, 132, 133, 134, 135, 136, 137, 138, 139, 140, 141, 142, 143, 144, 148, 149, 150, 151, 152, 153, 154, 155, 156, 157, 158, 159, 160, 161, 162, 163, 164, 165, 166, 167, 168, 169] (by decide +kernel) (by decide +kernel)
set_option maxRecDepth 20000 in
theorem gX5_pass_X0_tick : GoodIn wsX5_pass (wsV RX5 150 RX0 yX0_tick wsX0_tick) := goodIn_app (goodIn_of _ (by decide +kernel)) ggX5_pass_X0_tick
theorem dX5_pass_0 : decode cX5_pass 0 = .ok (.iload_n 1, 1) := by decide +kernel
theorem dX5_pass_1 : decode cX5_pass 1 = .ok (.invokestatic 143, 3) := by decide +kernel
theorem dX5_pass_4 : decode cX5_pass 4 = .ok (.aload_n 0, 1) := by decide +kernel
theorem dX5_pass_5 : decode cX5_pass 5 = .ok (.getfield 12, 3) := by decide +kernel
theorem dX5_pass_8 : decode cX5_pass 8 = .ok (.invokevirtual 147, 3) := by decide +kernel
theorem dX5_pass_11 : decode cX5_pass 11 = .ok (.istore_n 2, 1) := by decide +kernel
theorem dX5_pass_12 : decode cX5_pass 12 = .ok (.iconst 0, 1) := by decide +kernel
theorem dX5_pass_13 : decode cX5_pass 13 = .ok (.istore_n 3, 1) := by decide +kernel
theorem dX5_pass_14 : decode cX5_pass 14 = .ok (.iload_n 3, 1) := by decide +kernel
theorem dX5_pass_15 : decode cX5_pass 15 = .ok (.iload_n 1, 1) := by decide +kernel
theorem dX5_pass_16 : decode cX5_pass 16 = .ok (.if_icmp .ge 16, 3) := by decide +kernel
theorem dX5_pass_19 : decode cX5_pass 19 = .ok (.aload_n 0, 1) := by decide +kernel
theorem dX5_pass_20 : decode cX5_pass 20 = .ok (.getfield 12, 3) := by decide +kernel
theorem dX5_pass_23 : decode cX5_pass 23 = .ok (.invokevirtual 150, 3) := by decide +kernel
theorem dX5_pass_26 : decode cX5_pass 26 = .ok (.iinc 3 1, 3) := by decide +kernel
theorem dX5_pass_29 : decode cX5_pass 29 = .ok (.goto (-15), 3) := by decide +kernel
theorem dX5_pass_32 : decode cX5_pass 32 = .ok (.aload_n 0, 1) := by decide +kernel
theorem dX5_pass_33 : decode cX5_pass 33 = .ok (.getfield 12, 3) := by decide +kernel
theorem dX5_pass_36 : decode cX5_pass 36 = .ok (.invokevirtual 147, 3) := by decide +kernel
theorem dX5_pass_39 : decode cX5_pass 39 = .ok (.iload_n 2, 1) := by decide +kernel
theorem dX5_pass_40 : decode cX5_pass 40 = .ok (.isub, 1) := by decide +kernel
theorem dX5_pass_41 : decode cX5_pass 41 = .ok (.ireturn, 1) := by decide +kernel
set_option maxRecDepth 20000 in
theorem ggX5_count_X0_buriedCrew : GoodIn wsX5_count wsX0_buriedCrew := goodIn_r _ [8, 9, 10, 90, 91, 92, 93, 94, 95, 96, 97, 98, 99, 100, 101, 102, 103, 104] (by decide +kernel) (by decide +kernel)
set_option maxRecDepth 20000 in
theorem gX5_count_X0_buriedCrew : GoodIn wsX5_count (wsV RX5 156 RX0 yX0_buriedCrew wsX0_buriedCrew) := goodIn_app (goodIn_of _ (by decide +kernel)) ggX5_count_X0_buriedCrew
set_option maxRecDepth 20000 in
theorem ggX5_count_X3_openCells : GoodIn wsX5_count wsX3_openCells := goodIn_r _ [15, 16, 105, 106, 107] (by decide +kernel) (by decide +kernel)
set_option maxRecDepth 20000 in
theorem gX5_count_X3_openCells : GoodIn wsX5_count (wsV RX5 159 RX3 yX3_openCells wsX3_openCells) := goodIn_app (goodIn_of _ (by decide +kernel)) ggX5_count_X3_openCells
set_option maxRecDepth 20000 in
theorem ggX5_count_X3_postsSet : GoodIn wsX5_count wsX3_postsSet := goodIn_r _ [20, 21, 105, 106, 107] (by decide +kernel) (by decide +kernel)
set_option maxRecDepth 20000 in
theorem gX5_count_X3_postsSet : GoodIn wsX5_count (wsV RX5 162 RX3 yX3_postsSet wsX3_postsSet) := goodIn_app (goodIn_of _ (by decide +kernel)) ggX5_count_X3_postsSet
set_option maxRecDepth 20000 in
theorem ggX5_count_X0_litCells : GoodIn wsX5_count wsX0_litCells := goodIn_r _ [25, 26, 27, 28, 7, 29, 30, 9, 10, 31, 32, 33, 34, 35, 36, 37, 38, 39, 40, 41, 42, 43, 44, 45, 46, 47, 48, 49, 50, 51, 52, 53, 54, 55, 56, 57, 58, 14, 59, 16, 60, 61, 62, 63, 64, 65, 66, 67, 68, 69, 70, 71, 72, 73, 90, 91, 92, 93, 94, 95, 96, 97, 98, 99, 100, 101, 102, 103, 104, 108, 109, 110, 111, 105, 106, 107] (by decide +kernel) (by decide +kernel)
set_option maxRecDepth 20000 in
theorem gX5_count_X0_litCells : GoodIn wsX5_count (wsV RX5 168 RX0 yX0_litCells wsX0_litCells) := goodIn_app (goodIn_of _ (by decide +kernel)) ggX5_count_X0_litCells
set_option maxRecDepth 20000 in
theorem ggX5_count_X0_looseCells : GoodIn wsX5_count wsX0_looseCells := goodIn_r _ [77, 31, 30, 78, 79, 80, 7, 81, 32, 33, 34, 35, 36, 37, 38, 39, 40, 82, 83, 84, 14, 85, 21, 41, 42, 43, 44, 45, 46, 47, 48, 49, 50, 51, 52, 53, 54, 55, 56, 57, 58, 59, 16, 60, 86, 12, 13, 15, 90, 91, 92, 93, 94, 95, 96, 108, 109, 110, 111, 105, 106, 107] (by decide +kernel) (by decide +kernel)
set_option maxRecDepth 20000 in
theorem gX5_count_X0_looseCells : GoodIn wsX5_count (wsV RX5 171 RX0 yX0_looseCells wsX0_looseCells) := goodIn_app (goodIn_of _ (by decide +kernel)) ggX5_count_X0_looseCells
theorem dX5_count_0 : decode cX5_count 0 = .ok (.iload_n 1, 1) := by decide +kernel
theorem dX5_count_1 : decode cX5_count 1 = .ok (.tableswitch 129 0 8 #[51, 59, 67, 75, 86, 97, 105, 113, 121], 51) := by decide +kernel
theorem dX5_count_52 : decode cX5_count 52 = .ok (.aload_n 0, 1) := by decide +kernel
theorem dX5_count_53 : decode cX5_count 53 = .ok (.getfield 12, 3) := by decide +kernel
theorem dX5_count_56 : decode cX5_count 56 = .ok (.getfield 153, 3) := by decide +kernel
theorem dX5_count_59 : decode cX5_count 59 = .ok (.ireturn, 1) := by decide +kernel
theorem dX5_count_60 : decode cX5_count 60 = .ok (.aload_n 0, 1) := by decide +kernel
theorem dX5_count_61 : decode cX5_count 61 = .ok (.getfield 12, 3) := by decide +kernel
theorem dX5_count_64 : decode cX5_count 64 = .ok (.getfield 90, 3) := by decide +kernel
theorem dX5_count_67 : decode cX5_count 67 = .ok (.ireturn, 1) := by decide +kernel
theorem dX5_count_68 : decode cX5_count 68 = .ok (.aload_n 0, 1) := by decide +kernel
theorem dX5_count_69 : decode cX5_count 69 = .ok (.getfield 12, 3) := by decide +kernel
theorem dX5_count_72 : decode cX5_count 72 = .ok (.invokevirtual 156, 3) := by decide +kernel
theorem dX5_count_75 : decode cX5_count 75 = .ok (.ireturn, 1) := by decide +kernel
theorem dX5_count_76 : decode cX5_count 76 = .ok (.aload_n 0, 1) := by decide +kernel
theorem dX5_count_77 : decode cX5_count 77 = .ok (.getfield 12, 3) := by decide +kernel
theorem dX5_count_80 : decode cX5_count 80 = .ok (.getfield 46, 3) := by decide +kernel
theorem dX5_count_83 : decode cX5_count 83 = .ok (.invokevirtual 159, 3) := by decide +kernel
theorem dX5_count_86 : decode cX5_count 86 = .ok (.ireturn, 1) := by decide +kernel
theorem dX5_count_87 : decode cX5_count 87 = .ok (.aload_n 0, 1) := by decide +kernel
theorem dX5_count_88 : decode cX5_count 88 = .ok (.getfield 12, 3) := by decide +kernel
theorem dX5_count_91 : decode cX5_count 91 = .ok (.getfield 46, 3) := by decide +kernel
theorem dX5_count_94 : decode cX5_count 94 = .ok (.invokevirtual 162, 3) := by decide +kernel
theorem dX5_count_97 : decode cX5_count 97 = .ok (.ireturn, 1) := by decide +kernel
theorem dX5_count_98 : decode cX5_count 98 = .ok (.aload_n 0, 1) := by decide +kernel
theorem dX5_count_99 : decode cX5_count 99 = .ok (.getfield 12, 3) := by decide +kernel
theorem dX5_count_102 : decode cX5_count 102 = .ok (.getfield 165, 3) := by decide +kernel
theorem dX5_count_105 : decode cX5_count 105 = .ok (.ireturn, 1) := by decide +kernel
theorem dX5_count_106 : decode cX5_count 106 = .ok (.aload_n 0, 1) := by decide +kernel
theorem dX5_count_107 : decode cX5_count 107 = .ok (.getfield 12, 3) := by decide +kernel
theorem dX5_count_110 : decode cX5_count 110 = .ok (.invokevirtual 168, 3) := by decide +kernel
theorem dX5_count_113 : decode cX5_count 113 = .ok (.ireturn, 1) := by decide +kernel
theorem dX5_count_114 : decode cX5_count 114 = .ok (.aload_n 0, 1) := by decide +kernel
theorem dX5_count_115 : decode cX5_count 115 = .ok (.getfield 12, 3) := by decide +kernel
theorem dX5_count_118 : decode cX5_count 118 = .ok (.invokevirtual 171, 3) := by decide +kernel
theorem dX5_count_121 : decode cX5_count 121 = .ok (.ireturn, 1) := by decide +kernel
theorem dX5_count_122 : decode cX5_count 122 = .ok (.aload_n 0, 1) := by decide +kernel
theorem dX5_count_123 : decode cX5_count 123 = .ok (.getfield 12, 3) := by decide +kernel
theorem dX5_count_126 : decode cX5_count 126 = .ok (.getfield 174, 3) := by decide +kernel
theorem dX5_count_129 : decode cX5_count 129 = .ok (.ireturn, 1) := by decide +kernel
theorem dX5_count_130 : decode cX5_count 130 = .ok (.new 76, 3) := by decide +kernel
theorem dX5_count_133 : decode cX5_count 133 = .ok (.dup, 1) := by decide +kernel
theorem dX5_count_134 : decode cX5_count 134 = .ok (.ldc 177, 2) := by decide +kernel
theorem dX5_count_136 : decode cX5_count 136 = .ok (.invokespecial 80, 3) := by decide +kernel
theorem dX5_count_139 : decode cX5_count 139 = .ok (.athrow, 1) := by decide +kernel
set_option maxRecDepth 20000 in
theorem ggX5_way_X5_placeOf : GoodIn wsX5_way wsX5_placeOf := goodIn_ca (goodIn_r _ [5, 6, 7] (by decide +kernel) (by decide +kernel)) (goodIn_sub (fun _ h => List.mem_cons_of_mem _ (List.mem_append_right _ h)) (by decide +kernel))
set_option maxRecDepth 20000 in
theorem gX5_way_X5_placeOf : GoodIn wsX5_way (va_wsS RX5 26 yX5_placeOf wsX5_placeOf) := goodIn_app (goodIn_of _ (by decide +kernel)) ggX5_way_X5_placeOf
set_option maxRecDepth 20000 in
theorem ggX5_way_X0_stepsBetween : GoodIn wsX5_way wsX0_stepsBetween := goodIn_r _ [12, 13, 14, 15, 16, 17, 18, 19, 20, 21, 22, 23, 24, 25, 26, 27, 28, 29, 30, 31, 32, 33, 34, 35, 36, 37, 38, 39, 40, 41, 42, 4, 43, 44, 45, 46, 50, 51, 52, 53, 54, 55, 56, 57, 58, 59, 60, 61, 62, 63] (by decide +kernel) (by decide +kernel)
set_option maxRecDepth 20000 in
theorem gX5_way_X0_stepsBetween : GoodIn wsX5_way (wsV RX5 179 RX0 yX0_stepsBetween wsX0_stepsBetween) := goodIn_app (goodIn_of _ (by decide +kernel)) ggX5_way_X0_stepsBetween
theorem dX5_way_0 : decode cX5_way 0 = .ok (.iload_n 1, 1) := by decide +kernel
theorem dX5_way_1 : decode cX5_way 1 = .ok (.iload_n 2, 1) := by decide +kernel
theorem dX5_way_2 : decode cX5_way 2 = .ok (.invokestatic 26, 3) := by decide +kernel
theorem dX5_way_5 : decode cX5_way 5 = .ok (.istore 5, 2) := by decide +kernel
theorem dX5_way_7 : decode cX5_way 7 = .ok (.iload_n 3, 1) := by decide +kernel
theorem dX5_way_8 : decode cX5_way 8 = .ok (.iload 4, 2) := by decide +kernel
theorem dX5_way_10 : decode cX5_way 10 = .ok (.invokestatic 26, 3) := by decide +kernel
theorem dX5_way_13 : decode cX5_way 13 = .ok (.istore 6, 2) := by decide +kernel
theorem dX5_way_15 : decode cX5_way 15 = .ok (.aload_n 0, 1) := by decide +kernel
theorem dX5_way_16 : decode cX5_way 16 = .ok (.getfield 12, 3) := by decide +kernel
theorem dX5_way_19 : decode cX5_way 19 = .ok (.iload 5, 2) := by decide +kernel
theorem dX5_way_21 : decode cX5_way 21 = .ok (.iload 6, 2) := by decide +kernel
theorem dX5_way_23 : decode cX5_way 23 = .ok (.invokevirtual 179, 3) := by decide +kernel
theorem dX5_way_26 : decode cX5_way 26 = .ok (.ireturn, 1) := by decide +kernel
set_option maxRecDepth 20000 in
theorem ggX5_dig_X5_placeOf : GoodIn wsX5_dig wsX5_placeOf := goodIn_ca (goodIn_r _ [6, 7, 8] (by decide +kernel) (by decide +kernel)) (goodIn_sub (fun _ h => List.mem_cons_of_mem _ (List.mem_append_right _ h)) (by decide +kernel))
set_option maxRecDepth 20000 in
theorem gX5_dig_X5_placeOf : GoodIn wsX5_dig (va_wsS RX5 26 yX5_placeOf wsX5_placeOf) := goodIn_app (goodIn_of _ (by decide +kernel)) ggX5_dig_X5_placeOf
set_option maxRecDepth 20000 in
theorem ggX5_dig_X2_leastSum : GoodIn wsX5_dig wsX2_leastSum := goodIn_r _ [13, 14, 15, 16, 17, 18, 19, 20, 21, 22, 23, 12, 24, 25, 26, 27, 28, 29, 30, 31, 32, 33, 34, 35, 5, 36, 47, 48, 49, 50, 51, 52] (by decide +kernel) (by decide +kernel)
set_option maxRecDepth 20000 in
theorem gX5_dig_X2_leastSum : GoodIn wsX5_dig (wsV RX5 182 RX2 yX2_leastSum wsX2_leastSum) := goodIn_app (goodIn_of _ (by decide +kernel)) ggX5_dig_X2_leastSum
theorem dX5_dig_0 : decode cX5_dig 0 = .ok (.iload_n 1, 1) := by decide +kernel
theorem dX5_dig_1 : decode cX5_dig 1 = .ok (.iload_n 2, 1) := by decide +kernel
theorem dX5_dig_2 : decode cX5_dig 2 = .ok (.invokestatic 26, 3) := by decide +kernel
theorem dX5_dig_5 : decode cX5_dig 5 = .ok (.istore 5, 2) := by decide +kernel
theorem dX5_dig_7 : decode cX5_dig 7 = .ok (.iload_n 3, 1) := by decide +kernel
theorem dX5_dig_8 : decode cX5_dig 8 = .ok (.iload 4, 2) := by decide +kernel
theorem dX5_dig_10 : decode cX5_dig 10 = .ok (.invokestatic 26, 3) := by decide +kernel
theorem dX5_dig_13 : decode cX5_dig 13 = .ok (.istore 6, 2) := by decide +kernel
theorem dX5_dig_15 : decode cX5_dig 15 = .ok (.aload_n 0, 1) := by decide +kernel
theorem dX5_dig_16 : decode cX5_dig 16 = .ok (.getfield 22, 3) := by decide +kernel
theorem dX5_dig_19 : decode cX5_dig 19 = .ok (.aload_n 0, 1) := by decide +kernel
theorem dX5_dig_20 : decode cX5_dig 20 = .ok (.getfield 12, 3) := by decide +kernel
theorem dX5_dig_23 : decode cX5_dig 23 = .ok (.getfield 46, 3) := by decide +kernel
theorem dX5_dig_26 : decode cX5_dig 26 = .ok (.iload 5, 2) := by decide +kernel
theorem dX5_dig_28 : decode cX5_dig 28 = .ok (.iload 6, 2) := by decide +kernel
theorem dX5_dig_30 : decode cX5_dig 30 = .ok (.invokevirtual 182, 3) := by decide +kernel
theorem dX5_dig_33 : decode cX5_dig 33 = .ok (.ireturn, 1) := by decide +kernel
set_option maxRecDepth 20000 in
theorem ggX5_caves_X0_cavesWithout : GoodIn wsX5_caves wsX0_cavesWithout := goodIn_r _ [8, 9, 10, 11, 12, 13, 14, 15, 16, 17, 18, 19, 20, 21, 22, 23, 24, 25, 26, 27, 28, 29, 30, 31, 32, 33, 34, 35, 36, 37, 38, 39, 40, 41, 42, 43, 44, 45, 46, 47, 48, 49, 50, 68, 69, 70, 71, 72, 73, 74, 75, 76, 77, 78, 79, 80, 81] (by decide +kernel) (by decide +kernel)
set_option maxRecDepth 20000 in
theorem gX5_caves_X0_cavesWithout : GoodIn wsX5_caves (wsV RX5 186 RX0 yX0_cavesWithout wsX0_cavesWithout) := goodIn_app (goodIn_of _ (by decide +kernel)) ggX5_caves_X0_cavesWithout
set_option maxRecDepth 20000 in
theorem ggX5_caves_X0_largestCave : GoodIn wsX5_caves wsX0_largestCave := goodIn_r _ [54, 9, 10, 55, 56, 57, 58, 11, 12, 13, 14, 15, 16, 17, 18, 19, 28, 29, 30, 31, 32, 33, 42, 25, 26, 27, 43, 44, 45, 46, 38, 39, 40, 41, 47, 48, 49, 50, 24, 68, 69, 70, 71, 72, 73, 74, 75, 76, 77, 78, 79, 80, 81] (by decide +kernel) (by decide +kernel)
set_option maxRecDepth 20000 in
theorem gX5_caves_X0_largestCave : GoodIn wsX5_caves (wsV RX5 189 RX0 yX0_largestCave wsX0_largestCave) := goodIn_app (goodIn_of _ (by decide +kernel)) ggX5_caves_X0_largestCave
set_option maxRecDepth 20000 in
theorem ggX5_caves_X0_cavesWithCrew : GoodIn wsX5_caves wsX0_cavesWithCrew := goodIn_r _ [62, 9, 63, 64, 10, 11, 12, 13, 14, 15, 16, 17, 18, 19, 34, 35, 36, 37, 38, 39, 40, 41, 42, 25, 26, 27, 43, 44, 45, 46, 47, 48, 49, 50, 29, 30, 31, 32, 33, 24, 68, 69, 70, 71, 72, 73, 74, 82, 83, 84, 85, 86, 87, 88, 89, 75, 76, 77, 78, 79, 80, 81] (by decide +kernel) (by decide +kernel)
set_option maxRecDepth 20000 in
theorem gX5_caves_X0_cavesWithCrew : GoodIn wsX5_caves (wsV RX5 192 RX0 yX0_cavesWithCrew wsX0_cavesWithCrew) := goodIn_app (goodIn_of _ (by decide +kernel)) ggX5_caves_X0_cavesWithCrew
theorem dX5_caves_0 : decode cX5_caves 0 = .ok (.iload_n 1, 1) := by decide +kernel
theorem dX5_caves_1 : decode cX5_caves 1 = .ok (.tableswitch 52 0 2 #[27, 36, 44], 27) := by decide +kernel
theorem dX5_caves_28 : decode cX5_caves 28 = .ok (.aload_n 0, 1) := by decide +kernel
theorem dX5_caves_29 : decode cX5_caves 29 = .ok (.getfield 12, 3) := by decide +kernel
theorem dX5_caves_32 : decode cX5_caves 32 = .ok (.iconst (-1), 1) := by decide +kernel
theorem dX5_caves_33 : decode cX5_caves 33 = .ok (.invokevirtual 186, 3) := by decide +kernel
theorem dX5_caves_36 : decode cX5_caves 36 = .ok (.ireturn, 1) := by decide +kernel
theorem dX5_caves_37 : decode cX5_caves 37 = .ok (.aload_n 0, 1) := by decide +kernel
theorem dX5_caves_38 : decode cX5_caves 38 = .ok (.getfield 12, 3) := by decide +kernel
theorem dX5_caves_41 : decode cX5_caves 41 = .ok (.invokevirtual 189, 3) := by decide +kernel
theorem dX5_caves_44 : decode cX5_caves 44 = .ok (.ireturn, 1) := by decide +kernel
theorem dX5_caves_45 : decode cX5_caves 45 = .ok (.aload_n 0, 1) := by decide +kernel
theorem dX5_caves_46 : decode cX5_caves 46 = .ok (.getfield 12, 3) := by decide +kernel
theorem dX5_caves_49 : decode cX5_caves 49 = .ok (.invokevirtual 192, 3) := by decide +kernel
theorem dX5_caves_52 : decode cX5_caves 52 = .ok (.ireturn, 1) := by decide +kernel
theorem dX5_caves_53 : decode cX5_caves 53 = .ok (.new 76, 3) := by decide +kernel
theorem dX5_caves_56 : decode cX5_caves 56 = .ok (.dup, 1) := by decide +kernel
theorem dX5_caves_57 : decode cX5_caves 57 = .ok (.ldc 195, 2) := by decide +kernel
theorem dX5_caves_59 : decode cX5_caves 59 = .ok (.invokespecial 80, 3) := by decide +kernel
theorem dX5_caves_62 : decode cX5_caves 62 = .ok (.athrow, 1) := by decide +kernel
set_option maxRecDepth 20000 in
theorem ggX5_meet_X5_member : GoodIn wsX5_meet wsX5_member := goodIn_ca (goodIn_r _ [9, 10, 11, 4, 12, 13, 14, 15, 16, 17, 18, 178, 179, 180, 181, 182, 183, 184, 185, 186, 187] (by decide +kernel) (by decide +kernel)) (goodIn_sub (fun _ h => List.mem_cons_of_mem _ (List.mem_append_right _ h)) (by decide +kernel))
set_option maxRecDepth 20000 in
theorem gX5_meet_X5_member : GoodIn wsX5_meet (wsV RX5 100 RX5 yX5_member wsX5_member) := goodIn_app (goodIn_of _ (by decide +kernel)) ggX5_meet_X5_member
set_option maxRecDepth 20000 in
theorem ggX5_meet_X5_requireTicks : GoodIn wsX5_meet wsX5_requireTicks := goodIn_ca (goodIn_r _ [21, 1, 2] (by decide +kernel) (by decide +kernel)) (goodIn_sub (fun _ h => List.mem_cons_of_mem _ (List.mem_append_left _ (List.mem_append_right _ h))) (by decide +kernel))
set_option maxRecDepth 20000 in
theorem gX5_meet_X5_requireTicks : GoodIn wsX5_meet (va_wsS RX5 143 yX5_requireTicks wsX5_requireTicks) := goodIn_app (goodIn_of _ (by decide +kernel)) ggX5_meet_X5_requireTicks
set_option maxRecDepth 20000 in
theorem ggX5_meet_X0_becomeLike : GoodIn wsX5_meet wsX0_becomeLike := goodIn_r _ [25, 26, 18, 17, 27, 28, 29, 30, 31, 32, 33, 34, 35, 36, 37, 38, 39, 40, 41, 42, 43, 44, 45, 46, 47, 48, 49, 50, 51, 52, 53, 54, 55, 181, 182, 183, 184, 185, 186, 187, 188, 189, 190, 191, 192, 193, 194, 195, 196, 197, 198] (by decide +kernel) (by decide +kernel)
set_option maxRecDepth 20000 in
theorem gX5_meet_X0_becomeLike : GoodIn wsX5_meet (wsV RX5 199 RX0 yX0_becomeLike wsX0_becomeLike) := goodIn_app (goodIn_of _ (by decide +kernel)) ggX5_meet_X0_becomeLike
set_option maxRecDepth 20000 in
theorem ggX5_meet_X0_areTogether : GoodIn wsX5_meet wsX0_areTogether := goodIn_r _ [59, 60, 13, 14, 15, 16, 17, 18, 61, 8, 62, 63, 64, 65, 191, 192, 193, 194, 195, 196, 197, 198, 181, 182, 183, 184, 185, 186, 187] (by decide +kernel) (by decide +kernel)
set_option maxRecDepth 20000 in
theorem gX5_meet_X0_areTogether : GoodIn wsX5_meet (wsV RX5 203 RX0 yX0_areTogether wsX0_areTogether) := goodIn_app (goodIn_of _ (by decide +kernel)) ggX5_meet_X0_areTogether
set_option maxRecDepth 20000 in
theorem ggX5_meet_X0_tick : GoodIn wsX5_meet wsX0_tick := goodIn_r _ [69, 17, 18, 27, 70, 71, 72, 45, 73, 50, 49, 74, 75, 76, 15, 77, 78, 79, 80, 81, 55, 53, 82, 83, 84, 85, 26, 86, 64, 8, 65, 87, 88, 89, 33, 90, 35, 91, 92, 93, 94, 95, 96, 97, 98, 99, 100, 101, 102, 103, 104, 105, 106, 107, 108, 109, 110, 111, 112, 113, 114, 115, 116, 117, 118, 119, 120, 121, 122, 123, 124, 125, 126, 127, 128, 40, 41, 129, 130, 131, 132, 133, 134, 135, 136, 137, 138, 139, 140, 141, 142, 143, 144, 145, 146, 147, 148, 149, 150, 151, 152, 153, 61, 62, 63, 154, 155, 156, 157, 29, 158, 159, 160, 161, 162, 163, 164, 165, 28, 166, 167, 168, 169, 170, 171, 172, 173, 174, 175, 176, 177, 181, 182, 183, 184, 185, 186, 187, 191, 192, 193, 194, 195, 196, 197, 198, 188, 189, 190, 199, 200, 201, 202] (by decide +kernel) (by decide +kernel)
set_option maxRecDepth 20000 in
theorem gX5_meet_X0_tick : GoodIn wsX5_meet (wsV RX5 150 RX0 yX0_tick wsX0_tick) := goodIn_app (goodIn_of _ (by decide +kernel)) ggX5_meet_X0_tick
theorem dX5_meet_0 : decode cX5_meet 0 = .ok (.aload_n 0, 1) := by decide +kernel
theorem dX5_meet_1 : decode cX5_meet 1 = .ok (.iload_n 1, 1) := by decide +kernel
theorem dX5_meet_2 : decode cX5_meet 2 = .ok (.invokevirtual 100, 3) := by decide +kernel
theorem dX5_meet_5 : decode cX5_meet 5 = .ok (.astore 4, 2) := by decide +kernel
theorem dX5_meet_7 : decode cX5_meet 7 = .ok (.aload_n 0, 1) := by decide +kernel
theorem dX5_meet_8 : decode cX5_meet 8 = .ok (.iload_n 2, 1) := by decide +kernel
theorem dX5_meet_9 : decode cX5_meet 9 = .ok (.invokevirtual 100, 3) := by decide +kernel
theorem dX5_meet_12 : decode cX5_meet 12 = .ok (.astore 5, 2) := by decide +kernel
theorem dX5_meet_14 : decode cX5_meet 14 = .ok (.aload 4, 2) := by decide +kernel
theorem dX5_meet_16 : decode cX5_meet 16 = .ok (.aload 5, 2) := by decide +kernel
theorem dX5_meet_18 : decode cX5_meet 18 = .ok (.if_acmp .ne 13, 3) := by decide +kernel
theorem dX5_meet_21 : decode cX5_meet 21 = .ok (.new 30, 3) := by decide +kernel
theorem dX5_meet_24 : decode cX5_meet 24 = .ok (.dup, 1) := by decide +kernel
theorem dX5_meet_25 : decode cX5_meet 25 = .ok (.ldc 197, 2) := by decide +kernel
theorem dX5_meet_27 : decode cX5_meet 27 = .ok (.invokespecial 34, 3) := by decide +kernel
theorem dX5_meet_30 : decode cX5_meet 30 = .ok (.athrow, 1) := by decide +kernel
theorem dX5_meet_31 : decode cX5_meet 31 = .ok (.iload_n 3, 1) := by decide +kernel
theorem dX5_meet_32 : decode cX5_meet 32 = .ok (.invokestatic 143, 3) := by decide +kernel
theorem dX5_meet_35 : decode cX5_meet 35 = .ok (.aload_n 0, 1) := by decide +kernel
theorem dX5_meet_36 : decode cX5_meet 36 = .ok (.getfield 16, 3) := by decide +kernel
theorem dX5_meet_39 : decode cX5_meet 39 = .ok (.aload_n 0, 1) := by decide +kernel
theorem dX5_meet_40 : decode cX5_meet 40 = .ok (.getfield 12, 3) := by decide +kernel
theorem dX5_meet_43 : decode cX5_meet 43 = .ok (.invokevirtual 199, 3) := by decide +kernel
theorem dX5_meet_46 : decode cX5_meet 46 = .ok (.iconst 0, 1) := by decide +kernel
theorem dX5_meet_47 : decode cX5_meet 47 = .ok (.istore 6, 2) := by decide +kernel
theorem dX5_meet_49 : decode cX5_meet 49 = .ok (.iload 6, 2) := by decide +kernel
theorem dX5_meet_51 : decode cX5_meet 51 = .ok (.iload_n 3, 1) := by decide +kernel
theorem dX5_meet_52 : decode cX5_meet 52 = .ok (.if_icmp .ge 31, 3) := by decide +kernel
theorem dX5_meet_55 : decode cX5_meet 55 = .ok (.aload_n 0, 1) := by decide +kernel
theorem dX5_meet_56 : decode cX5_meet 56 = .ok (.getfield 16, 3) := by decide +kernel
theorem dX5_meet_59 : decode cX5_meet 59 = .ok (.iload_n 1, 1) := by decide +kernel
theorem dX5_meet_60 : decode cX5_meet 60 = .ok (.iload_n 2, 1) := by decide +kernel
theorem dX5_meet_61 : decode cX5_meet 61 = .ok (.invokevirtual 203, 3) := by decide +kernel
theorem dX5_meet_64 : decode cX5_meet 64 = .ok (.ifCond .eq 6, 3) := by decide +kernel
theorem dX5_meet_67 : decode cX5_meet 67 = .ok (.iload 6, 2) := by decide +kernel
theorem dX5_meet_69 : decode cX5_meet 69 = .ok (.ireturn, 1) := by decide +kernel
theorem dX5_meet_70 : decode cX5_meet 70 = .ok (.aload_n 0, 1) := by decide +kernel
theorem dX5_meet_71 : decode cX5_meet 71 = .ok (.getfield 16, 3) := by decide +kernel
theorem dX5_meet_74 : decode cX5_meet 74 = .ok (.invokevirtual 150, 3) := by decide +kernel
theorem dX5_meet_77 : decode cX5_meet 77 = .ok (.iinc 6 1, 3) := by decide +kernel
theorem dX5_meet_80 : decode cX5_meet 80 = .ok (.goto (-31), 3) := by decide +kernel
theorem dX5_meet_83 : decode cX5_meet 83 = .ok (.aload_n 0, 1) := by decide +kernel
theorem dX5_meet_84 : decode cX5_meet 84 = .ok (.getfield 16, 3) := by decide +kernel
theorem dX5_meet_87 : decode cX5_meet 87 = .ok (.iload_n 1, 1) := by decide +kernel
theorem dX5_meet_88 : decode cX5_meet 88 = .ok (.iload_n 2, 1) := by decide +kernel
theorem dX5_meet_89 : decode cX5_meet 89 = .ok (.invokevirtual 203, 3) := by decide +kernel
theorem dX5_meet_92 : decode cX5_meet 92 = .ok (.ifCond .eq 7, 3) := by decide +kernel
theorem dX5_meet_95 : decode cX5_meet 95 = .ok (.iload_n 3, 1) := by decide +kernel
theorem dX5_meet_96 : decode cX5_meet 96 = .ok (.goto 4, 3) := by decide +kernel
theorem dX5_meet_99 : decode cX5_meet 99 = .ok (.iconst (-1), 1) := by decide +kernel
theorem dX5_meet_100 : decode cX5_meet 100 = .ok (.ireturn, 1) := by decide +kernel
set_option maxRecDepth 20000 in
theorem ggX5_foresee_X5_requireTicks : GoodIn wsX5_foresee wsX5_requireTicks := goodIn_ca (goodIn_r _ [8, 9, 10] (by decide +kernel) (by decide +kernel)) (goodIn_sub (fun _ h => List.mem_cons_of_mem _ (List.mem_append_right _ h)) (by decide +kernel))
set_option maxRecDepth 20000 in
theorem gX5_foresee_X5_requireTicks : GoodIn wsX5_foresee (va_wsS RX5 143 yX5_requireTicks wsX5_requireTicks) := goodIn_app (goodIn_of _ (by decide +kernel)) ggX5_foresee_X5_requireTicks
set_option maxRecDepth 20000 in
theorem ggX5_foresee_X0_becomeLike : GoodIn wsX5_foresee wsX0_becomeLike := goodIn_r _ [15, 16, 17, 18, 19, 20, 21, 22, 23, 24, 25, 26, 27, 28, 29, 30, 31, 32, 33, 34, 35, 36, 37, 38, 39, 40, 41, 42, 43, 44, 45, 46, 47, 184, 185, 186, 187, 188, 189, 190, 191, 192, 193, 194, 195, 196, 197, 198, 199, 200, 201] (by decide +kernel) (by decide +kernel)
set_option maxRecDepth 20000 in
theorem gX5_foresee_X0_becomeLike : GoodIn wsX5_foresee (wsV RX5 199 RX0 yX0_becomeLike wsX0_becomeLike) := goodIn_app (goodIn_of _ (by decide +kernel)) ggX5_foresee_X0_becomeLike
set_option maxRecDepth 20000 in
theorem ggX5_foresee_X0_tick : GoodIn wsX5_foresee wsX0_tick := goodIn_r _ [51, 18, 17, 19, 52, 53, 54, 37, 55, 42, 41, 56, 57, 58, 14, 59, 60, 61, 62, 63, 47, 45, 64, 65, 66, 67, 16, 68, 69, 7, 70, 71, 72, 73, 25, 74, 27, 75, 76, 77, 78, 79, 80, 81, 82, 83, 84, 85, 86, 87, 88, 89, 90, 91, 92, 93, 94, 95, 96, 97, 98, 99, 100, 101, 102, 103, 104, 105, 106, 107, 108, 109, 110, 111, 112, 32, 33, 113, 114, 115, 116, 117, 118, 119, 120, 121, 122, 123, 124, 125, 126, 127, 128, 129, 130, 131, 132, 133, 134, 135, 136, 137, 138, 139, 140, 141, 142, 143, 144, 21, 145, 146, 147, 148, 149, 150, 151, 152, 20, 153, 154, 155, 156, 157, 158, 159, 160, 161, 162, 163, 164, 184, 185, 186, 187, 188, 189, 190, 194, 195, 196, 197, 198, 199, 200, 201, 191, 192, 193, 202, 203, 204, 205] (by decide +kernel) (by decide +kernel)
set_option maxRecDepth 20000 in
theorem gX5_foresee_X0_tick : GoodIn wsX5_foresee (wsV RX5 150 RX0 yX0_tick wsX0_tick) := goodIn_app (goodIn_of _ (by decide +kernel)) ggX5_foresee_X0_tick
set_option maxRecDepth 20000 in
theorem ggX5_foresee_X0_buriedCrew : GoodIn wsX5_foresee wsX0_buriedCrew := goodIn_r _ [168, 18, 17, 184, 185, 186, 187, 188, 189, 190, 194, 195, 196, 197, 198, 199, 200, 201] (by decide +kernel) (by decide +kernel)
set_option maxRecDepth 20000 in
theorem gX5_foresee_X0_buriedCrew : GoodIn wsX5_foresee (wsV RX5 156 RX0 yX0_buriedCrew wsX0_buriedCrew) := goodIn_app (goodIn_of _ (by decide +kernel)) ggX5_foresee_X0_buriedCrew
set_option maxRecDepth 20000 in
theorem ggX5_foresee_X3_openCells : GoodIn wsX5_foresee wsX3_openCells := goodIn_r _ [172, 27, 191, 192, 193] (by decide +kernel) (by decide +kernel)
set_option maxRecDepth 20000 in
theorem gX5_foresee_X3_openCells : GoodIn wsX5_foresee (wsV RX5 159 RX3 yX3_openCells wsX3_openCells) := goodIn_app (goodIn_of _ (by decide +kernel)) ggX5_foresee_X3_openCells
set_option maxRecDepth 20000 in
theorem ggX5_foresee_X0_oilOfCrew : GoodIn wsX5_foresee wsX0_oilOfCrew := goodIn_r _ [176, 18, 17, 184, 185, 186, 187, 188, 189, 190, 194, 195, 196, 197, 198, 199, 200, 201] (by decide +kernel) (by decide +kernel)
set_option maxRecDepth 20000 in
theorem gX5_foresee_X0_oilOfCrew : GoodIn wsX5_foresee (wsV RX5 209 RX0 yX0_oilOfCrew wsX0_oilOfCrew) := goodIn_app (goodIn_of _ (by decide +kernel)) ggX5_foresee_X0_oilOfCrew
set_option maxRecDepth 20000 in
theorem ggX5_foresee_X0_ordersOfCrew : GoodIn wsX5_foresee wsX0_ordersOfCrew := goodIn_r _ [180, 18, 17, 184, 185, 186, 187, 188, 189, 190, 194, 195, 196, 197, 198, 199, 200, 201] (by decide +kernel) (by decide +kernel)
set_option maxRecDepth 20000 in
theorem gX5_foresee_X0_ordersOfCrew : GoodIn wsX5_foresee (wsV RX5 212 RX0 yX0_ordersOfCrew wsX0_ordersOfCrew) := goodIn_app (goodIn_of _ (by decide +kernel)) ggX5_foresee_X0_ordersOfCrew
theorem dX5_foresee_0 : decode cX5_foresee 0 = .ok (.iload_n 1, 1) := by decide +kernel
theorem dX5_foresee_1 : decode cX5_foresee 1 = .ok (.invokestatic 143, 3) := by decide +kernel
theorem dX5_foresee_4 : decode cX5_foresee 4 = .ok (.iload_n 2, 1) := by decide +kernel
theorem dX5_foresee_5 : decode cX5_foresee 5 = .ok (.ifCond .lt 8, 3) := by decide +kernel
theorem dX5_foresee_8 : decode cX5_foresee 8 = .ok (.iload_n 2, 1) := by decide +kernel
theorem dX5_foresee_9 : decode cX5_foresee 9 = .ok (.iconst 3, 1) := by decide +kernel
theorem dX5_foresee_10 : decode cX5_foresee 10 = .ok (.if_icmp .le 13, 3) := by decide +kernel
theorem dX5_foresee_13 : decode cX5_foresee 13 = .ok (.new 76, 3) := by decide +kernel
theorem dX5_foresee_16 : decode cX5_foresee 16 = .ok (.dup, 1) := by decide +kernel
theorem dX5_foresee_17 : decode cX5_foresee 17 = .ok (.ldc 207, 2) := by decide +kernel
theorem dX5_foresee_19 : decode cX5_foresee 19 = .ok (.invokespecial 80, 3) := by decide +kernel
theorem dX5_foresee_22 : decode cX5_foresee 22 = .ok (.athrow, 1) := by decide +kernel
theorem dX5_foresee_23 : decode cX5_foresee 23 = .ok (.aload_n 0, 1) := by decide +kernel
theorem dX5_foresee_24 : decode cX5_foresee 24 = .ok (.getfield 16, 3) := by decide +kernel
theorem dX5_foresee_27 : decode cX5_foresee 27 = .ok (.aload_n 0, 1) := by decide +kernel
theorem dX5_foresee_28 : decode cX5_foresee 28 = .ok (.getfield 12, 3) := by decide +kernel
theorem dX5_foresee_31 : decode cX5_foresee 31 = .ok (.invokevirtual 199, 3) := by decide +kernel
theorem dX5_foresee_34 : decode cX5_foresee 34 = .ok (.iconst 0, 1) := by decide +kernel
theorem dX5_foresee_35 : decode cX5_foresee 35 = .ok (.istore_n 3, 1) := by decide +kernel
theorem dX5_foresee_36 : decode cX5_foresee 36 = .ok (.iload_n 3, 1) := by decide +kernel
theorem dX5_foresee_37 : decode cX5_foresee 37 = .ok (.iload_n 1, 1) := by decide +kernel
theorem dX5_foresee_38 : decode cX5_foresee 38 = .ok (.if_icmp .ge 16, 3) := by decide +kernel
theorem dX5_foresee_41 : decode cX5_foresee 41 = .ok (.aload_n 0, 1) := by decide +kernel
theorem dX5_foresee_42 : decode cX5_foresee 42 = .ok (.getfield 16, 3) := by decide +kernel
theorem dX5_foresee_45 : decode cX5_foresee 45 = .ok (.invokevirtual 150, 3) := by decide +kernel
theorem dX5_foresee_48 : decode cX5_foresee 48 = .ok (.iinc 3 1, 3) := by decide +kernel
theorem dX5_foresee_51 : decode cX5_foresee 51 = .ok (.goto (-15), 3) := by decide +kernel
theorem dX5_foresee_54 : decode cX5_foresee 54 = .ok (.iload_n 2, 1) := by decide +kernel
theorem dX5_foresee_55 : decode cX5_foresee 55 = .ok (.tableswitch 52 0 2 #[25, 33, 44], 25) := by decide +kernel
theorem dX5_foresee_80 : decode cX5_foresee 80 = .ok (.aload_n 0, 1) := by decide +kernel
theorem dX5_foresee_81 : decode cX5_foresee 81 = .ok (.getfield 16, 3) := by decide +kernel
theorem dX5_foresee_84 : decode cX5_foresee 84 = .ok (.invokevirtual 156, 3) := by decide +kernel
theorem dX5_foresee_87 : decode cX5_foresee 87 = .ok (.ireturn, 1) := by decide +kernel
theorem dX5_foresee_88 : decode cX5_foresee 88 = .ok (.aload_n 0, 1) := by decide +kernel
theorem dX5_foresee_89 : decode cX5_foresee 89 = .ok (.getfield 16, 3) := by decide +kernel
theorem dX5_foresee_92 : decode cX5_foresee 92 = .ok (.getfield 46, 3) := by decide +kernel
theorem dX5_foresee_95 : decode cX5_foresee 95 = .ok (.invokevirtual 159, 3) := by decide +kernel
theorem dX5_foresee_98 : decode cX5_foresee 98 = .ok (.ireturn, 1) := by decide +kernel
theorem dX5_foresee_99 : decode cX5_foresee 99 = .ok (.aload_n 0, 1) := by decide +kernel
theorem dX5_foresee_100 : decode cX5_foresee 100 = .ok (.getfield 16, 3) := by decide +kernel
theorem dX5_foresee_103 : decode cX5_foresee 103 = .ok (.invokevirtual 209, 3) := by decide +kernel
theorem dX5_foresee_106 : decode cX5_foresee 106 = .ok (.ireturn, 1) := by decide +kernel
theorem dX5_foresee_107 : decode cX5_foresee 107 = .ok (.aload_n 0, 1) := by decide +kernel
theorem dX5_foresee_108 : decode cX5_foresee 108 = .ok (.getfield 16, 3) := by decide +kernel
theorem dX5_foresee_111 : decode cX5_foresee 111 = .ok (.invokevirtual 212, 3) := by decide +kernel
theorem dX5_foresee_114 : decode cX5_foresee 114 = .ok (.ireturn, 1) := by decide +kernel
set_option maxRecDepth 20000 in
theorem ggX5_without_X5_placeOf : GoodIn wsX5_without wsX5_placeOf := goodIn_ca (goodIn_r _ [5, 6, 7] (by decide +kernel) (by decide +kernel)) (goodIn_sub (fun _ h => List.mem_cons_of_mem _ (List.mem_append_right _ h)) (by decide +kernel))
set_option maxRecDepth 20000 in
theorem gX5_without_X5_placeOf : GoodIn wsX5_without (va_wsS RX5 26 yX5_placeOf wsX5_placeOf) := goodIn_app (goodIn_of _ (by decide +kernel)) ggX5_without_X5_placeOf
set_option maxRecDepth 20000 in
theorem ggX5_without_X3_isOpen : GoodIn wsX5_without wsX3_isOpen := goodIn_r _ [12, 13, 65, 66, 67] (by decide +kernel) (by decide +kernel)
set_option maxRecDepth 20000 in
theorem gX5_without_X3_isOpen : GoodIn wsX5_without (wsV RX5 215 RX3 yX3_isOpen wsX3_isOpen) := goodIn_app (goodIn_of _ (by decide +kernel)) ggX5_without_X3_isOpen
set_option maxRecDepth 20000 in
theorem ggX5_without_X0_cavesWithout : GoodIn wsX5_without wsX0_cavesWithout := goodIn_r _ [18, 19, 20, 21, 22, 23, 24, 25, 26, 27, 28, 29, 30, 31, 32, 33, 34, 35, 36, 37, 38, 9, 10, 11, 12, 13, 39, 40, 41, 42, 43, 44, 45, 46, 47, 48, 49, 50, 51, 52, 4, 53, 54, 58, 59, 60, 61, 62, 63, 64, 68, 69, 70, 71, 65, 66, 67] (by decide +kernel) (by decide +kernel)
set_option maxRecDepth 20000 in
theorem gX5_without_X0_cavesWithout : GoodIn wsX5_without (wsV RX5 186 RX0 yX0_cavesWithout wsX0_cavesWithout) := goodIn_app (goodIn_of _ (by decide +kernel)) ggX5_without_X0_cavesWithout
theorem dX5_without_0 : decode cX5_without 0 = .ok (.iload_n 1, 1) := by decide +kernel
theorem dX5_without_1 : decode cX5_without 1 = .ok (.iload_n 2, 1) := by decide +kernel
theorem dX5_without_2 : decode cX5_without 2 = .ok (.invokestatic 26, 3) := by decide +kernel
theorem dX5_without_5 : decode cX5_without 5 = .ok (.istore_n 3, 1) := by decide +kernel
theorem dX5_without_6 : decode cX5_without 6 = .ok (.aload_n 0, 1) := by decide +kernel
theorem dX5_without_7 : decode cX5_without 7 = .ok (.getfield 12, 3) := by decide +kernel
theorem dX5_without_10 : decode cX5_without 10 = .ok (.getfield 46, 3) := by decide +kernel
theorem dX5_without_13 : decode cX5_without 13 = .ok (.iload_n 3, 1) := by decide +kernel
theorem dX5_without_14 : decode cX5_without 14 = .ok (.invokevirtual 215, 3) := by decide +kernel
theorem dX5_without_17 : decode cX5_without 17 = .ok (.ifCond .eq 14, 3) := by decide +kernel
theorem dX5_without_20 : decode cX5_without 20 = .ok (.aload_n 0, 1) := by decide +kernel
theorem dX5_without_21 : decode cX5_without 21 = .ok (.getfield 12, 3) := by decide +kernel
theorem dX5_without_24 : decode cX5_without 24 = .ok (.iload_n 3, 1) := by decide +kernel
theorem dX5_without_25 : decode cX5_without 25 = .ok (.invokevirtual 186, 3) := by decide +kernel
theorem dX5_without_28 : decode cX5_without 28 = .ok (.goto 4, 3) := by decide +kernel
theorem dX5_without_31 : decode cX5_without 31 = .ok (.iconst (-1), 1) := by decide +kernel
theorem dX5_without_32 : decode cX5_without 32 = .ok (.ireturn, 1) := by decide +kernel
set_option maxRecDepth 20000 in
theorem ggX5_light_X3_openCells : GoodIn wsX5_light wsX3_openCells := goodIn_r _ [6, 7, 60, 61, 62] (by decide +kernel) (by decide +kernel)
set_option maxRecDepth 20000 in
theorem gX5_light_X3_openCells : GoodIn wsX5_light (wsV RX5 159 RX3 yX3_openCells wsX3_openCells) := goodIn_app (goodIn_of _ (by decide +kernel)) ggX5_light_X3_openCells
set_option maxRecDepth 20000 in
theorem ggX5_light_X0_litOpenCells : GoodIn wsX5_light wsX0_litOpenCells := goodIn_r _ [12, 13, 14, 15, 16, 11, 17, 18, 19, 20, 21, 22, 23, 24, 25, 26, 27, 28, 29, 30, 31, 32, 33, 34, 35, 36, 37, 38, 39, 40, 41, 42, 43, 44, 45, 46, 47, 5, 48, 7, 49, 53, 54, 55, 56, 57, 58, 59, 63, 64, 65, 66, 67, 68, 69, 70, 71, 72, 73, 74, 60, 61, 62] (by decide +kernel) (by decide +kernel)
set_option maxRecDepth 20000 in
theorem gX5_light_X0_litOpenCells : GoodIn wsX5_light (wsV RX5 218 RX0 yX0_litOpenCells wsX0_litOpenCells) := goodIn_app (goodIn_of _ (by decide +kernel)) ggX5_light_X0_litOpenCells
theorem dX5_light_0 : decode cX5_light 0 = .ok (.aload_n 0, 1) := by decide +kernel
theorem dX5_light_1 : decode cX5_light 1 = .ok (.getfield 12, 3) := by decide +kernel
theorem dX5_light_4 : decode cX5_light 4 = .ok (.getfield 46, 3) := by decide +kernel
theorem dX5_light_7 : decode cX5_light 7 = .ok (.invokevirtual 159, 3) := by decide +kernel
theorem dX5_light_10 : decode cX5_light 10 = .ok (.istore_n 1, 1) := by decide +kernel
theorem dX5_light_11 : decode cX5_light 11 = .ok (.iload_n 1, 1) := by decide +kernel
theorem dX5_light_12 : decode cX5_light 12 = .ok (.ifCond .ne 5, 3) := by decide +kernel
theorem dX5_light_15 : decode cX5_light 15 = .ok (.dconst 0, 1) := by decide +kernel
theorem dX5_light_16 : decode cX5_light 16 = .ok (.dreturn, 1) := by decide +kernel
theorem dX5_light_17 : decode cX5_light 17 = .ok (.aload_n 0, 1) := by decide +kernel
theorem dX5_light_18 : decode cX5_light 18 = .ok (.getfield 12, 3) := by decide +kernel
theorem dX5_light_21 : decode cX5_light 21 = .ok (.invokevirtual 218, 3) := by decide +kernel
theorem dX5_light_24 : decode cX5_light 24 = .ok (.i2d, 1) := by decide +kernel
theorem dX5_light_25 : decode cX5_light 25 = .ok (.iload_n 1, 1) := by decide +kernel
theorem dX5_light_26 : decode cX5_light 26 = .ok (.i2d, 1) := by decide +kernel
theorem dX5_light_27 : decode cX5_light 27 = .ok (.ddiv, 1) := by decide +kernel
theorem dX5_light_28 : decode cX5_light 28 = .ok (.dreturn, 1) := by decide +kernel
set_option maxRecDepth 20000 in
theorem ggX5_digest_X5_count : GoodIn wsX5_digest wsX5_count := goodIn_ca (goodIn_r _ [8, 9, 10, 3, 11, 12, 13, 14, 15, 16, 17, 18, 19, 20, 21, 22, 23, 24, 25, 26, 27, 28, 29, 30, 31, 32, 33, 34, 35, 36, 37, 38, 39, 40, 41, 42, 43, 44, 45, 46, 47, 48, 49, 50, 51, 52, 53, 54, 55, 56, 57, 58, 59, 60, 7, 61, 62, 63, 64, 65, 66, 67, 68, 69, 70, 71, 72, 73, 74, 75, 76, 77, 78, 79, 80, 81, 82, 83, 84, 85, 86, 87, 88, 89, 90, 91, 92, 122, 123, 124, 125, 126, 127, 128, 129, 130, 131, 132, 133, 134, 135, 136, 137, 138, 139, 140, 141, 142, 143, 144, 145, 146] (by decide +kernel) (by decide +kernel)) (goodIn_sub (fun _ h => List.mem_cons_of_mem _ (List.mem_append_right _ h)) (by decide +kernel))
set_option maxRecDepth 20000 in
theorem gX5_digest_X5_count : GoodIn wsX5_digest (wsV RX5 225 RX5 yX5_count wsX5_count) := goodIn_app (goodIn_of _ (by decide +kernel)) ggX5_digest_X5_count
set_option maxRecDepth 20000 in
theorem ggX5_digest_X3_sortAt : GoodIn wsX5_digest wsX3_sortAt := goodIn_r _ [74, 23, 140, 141, 142] (by decide +kernel) (by decide +kernel)
set_option maxRecDepth 20000 in
theorem gX5_digest_X3_sortAt : GoodIn wsX5_digest (wsV RX5 50 RX3 yX3_sortAt wsX3_sortAt) := goodIn_app (goodIn_of _ (by decide +kernel)) ggX5_digest_X3_sortAt
set_option maxRecDepth 20000 in
theorem ggX5_digest_X3_ageAt : GoodIn wsX5_digest wsX3_ageAt := goodIn_r _ [97, 98, 140, 141, 142] (by decide +kernel) (by decide +kernel)
set_option maxRecDepth 20000 in
theorem gX5_digest_X3_ageAt : GoodIn wsX5_digest (wsV RX5 59 RX3 yX3_ageAt wsX3_ageAt) := goodIn_app (goodIn_of _ (by decide +kernel)) ggX5_digest_X3_ageAt
set_option maxRecDepth 20000 in
theorem ggX5_digest_X3_postsAt : GoodIn wsX5_digest wsX3_postsAt := goodIn_r _ [91, 28, 140, 141, 142] (by decide +kernel) (by decide +kernel)
set_option maxRecDepth 20000 in
theorem gX5_digest_X3_postsAt : GoodIn wsX5_digest (wsV RX5 62 RX3 yX3_postsAt wsX3_postsAt) := goodIn_app (goodIn_of _ (by decide +kernel)) ggX5_digest_X3_postsAt
set_option maxRecDepth 20000 in
theorem ggX5_digest_X5_tunneller : GoodIn wsX5_digest wsX5_tunneller := goodIn_ca (goodIn_r _ [103, 9, 10, 104, 105, 106, 7, 107, 3, 108, 109, 110, 14, 111, 16, 17, 112, 113, 114, 115, 116, 117, 118, 119, 120, 121, 132, 133, 134, 135, 136, 137, 138, 139, 122, 123, 124, 125, 126, 127, 128, 129, 130, 131] (by decide +kernel) (by decide +kernel)) (goodIn_sub (fun _ h => List.mem_cons_of_mem _ (List.mem_append_right _ h)) (by decide +kernel))
set_option maxRecDepth 20000 in
theorem gX5_digest_X5_tunneller : GoodIn wsX5_digest (wsV RX5 228 RX5 yX5_tunneller wsX5_tunneller) := goodIn_app (goodIn_of _ (by decide +kernel)) ggX5_digest_X5_tunneller
theorem dX5_digest_0 : decode cX5_digest 0 = .ok (.ldc2_w 221, 3) := by decide +kernel
theorem dX5_digest_3 : decode cX5_digest 3 = .ok (.lstore_n 1, 1) := by decide +kernel
theorem dX5_digest_4 : decode cX5_digest 4 = .ok (.iconst 0, 1) := by decide +kernel
theorem dX5_digest_5 : decode cX5_digest 5 = .ok (.istore_n 3, 1) := by decide +kernel
theorem dX5_digest_6 : decode cX5_digest 6 = .ok (.iload_n 3, 1) := by decide +kernel
theorem dX5_digest_7 : decode cX5_digest 7 = .ok (.bipush 9, 2) := by decide +kernel
theorem dX5_digest_9 : decode cX5_digest 9 = .ok (.if_icmp .ge 22, 3) := by decide +kernel
theorem dX5_digest_12 : decode cX5_digest 12 = .ok (.lload_n 1, 1) := by decide +kernel
theorem dX5_digest_13 : decode cX5_digest 13 = .ok (.ldc2_w 223, 3) := by decide +kernel
theorem dX5_digest_16 : decode cX5_digest 16 = .ok (.lmul, 1) := by decide +kernel
theorem dX5_digest_17 : decode cX5_digest 17 = .ok (.aload_n 0, 1) := by decide +kernel
theorem dX5_digest_18 : decode cX5_digest 18 = .ok (.iload_n 3, 1) := by decide +kernel
theorem dX5_digest_19 : decode cX5_digest 19 = .ok (.invokevirtual 225, 3) := by decide +kernel
theorem dX5_digest_22 : decode cX5_digest 22 = .ok (.i2l, 1) := by decide +kernel
theorem dX5_digest_23 : decode cX5_digest 23 = .ok (.ladd, 1) := by decide +kernel
theorem dX5_digest_24 : decode cX5_digest 24 = .ok (.lstore_n 1, 1) := by decide +kernel
theorem dX5_digest_25 : decode cX5_digest 25 = .ok (.iinc 3 1, 3) := by decide +kernel
theorem dX5_digest_28 : decode cX5_digest 28 = .ok (.goto (-22), 3) := by decide +kernel
theorem dX5_digest_31 : decode cX5_digest 31 = .ok (.iconst 0, 1) := by decide +kernel
theorem dX5_digest_32 : decode cX5_digest 32 = .ok (.istore_n 3, 1) := by decide +kernel
theorem dX5_digest_33 : decode cX5_digest 33 = .ok (.iload_n 3, 1) := by decide +kernel
theorem dX5_digest_34 : decode cX5_digest 34 = .ok (.sipush 256, 3) := by decide +kernel
theorem dX5_digest_37 : decode cX5_digest 37 = .ok (.if_icmp .ge 66, 3) := by decide +kernel
theorem dX5_digest_40 : decode cX5_digest 40 = .ok (.lload_n 1, 1) := by decide +kernel
theorem dX5_digest_41 : decode cX5_digest 41 = .ok (.ldc2_w 223, 3) := by decide +kernel
theorem dX5_digest_44 : decode cX5_digest 44 = .ok (.lmul, 1) := by decide +kernel
theorem dX5_digest_45 : decode cX5_digest 45 = .ok (.aload_n 0, 1) := by decide +kernel
theorem dX5_digest_46 : decode cX5_digest 46 = .ok (.getfield 12, 3) := by decide +kernel
theorem dX5_digest_49 : decode cX5_digest 49 = .ok (.getfield 46, 3) := by decide +kernel
theorem dX5_digest_52 : decode cX5_digest 52 = .ok (.iload_n 3, 1) := by decide +kernel
theorem dX5_digest_53 : decode cX5_digest 53 = .ok (.invokevirtual 50, 3) := by decide +kernel
theorem dX5_digest_56 : decode cX5_digest 56 = .ok (.i2l, 1) := by decide +kernel
theorem dX5_digest_57 : decode cX5_digest 57 = .ok (.ladd, 1) := by decide +kernel
theorem dX5_digest_58 : decode cX5_digest 58 = .ok (.lstore_n 1, 1) := by decide +kernel
theorem dX5_digest_59 : decode cX5_digest 59 = .ok (.lload_n 1, 1) := by decide +kernel
theorem dX5_digest_60 : decode cX5_digest 60 = .ok (.ldc2_w 223, 3) := by decide +kernel
theorem dX5_digest_63 : decode cX5_digest 63 = .ok (.lmul, 1) := by decide +kernel
theorem dX5_digest_64 : decode cX5_digest 64 = .ok (.aload_n 0, 1) := by decide +kernel
theorem dX5_digest_65 : decode cX5_digest 65 = .ok (.getfield 12, 3) := by decide +kernel
theorem dX5_digest_68 : decode cX5_digest 68 = .ok (.getfield 46, 3) := by decide +kernel
theorem dX5_digest_71 : decode cX5_digest 71 = .ok (.iload_n 3, 1) := by decide +kernel
theorem dX5_digest_72 : decode cX5_digest 72 = .ok (.invokevirtual 59, 3) := by decide +kernel
theorem dX5_digest_75 : decode cX5_digest 75 = .ok (.i2l, 1) := by decide +kernel
theorem dX5_digest_76 : decode cX5_digest 76 = .ok (.ladd, 1) := by decide +kernel
theorem dX5_digest_77 : decode cX5_digest 77 = .ok (.lstore_n 1, 1) := by decide +kernel
theorem dX5_digest_78 : decode cX5_digest 78 = .ok (.lload_n 1, 1) := by decide +kernel
theorem dX5_digest_79 : decode cX5_digest 79 = .ok (.ldc2_w 223, 3) := by decide +kernel
theorem dX5_digest_82 : decode cX5_digest 82 = .ok (.lmul, 1) := by decide +kernel
theorem dX5_digest_83 : decode cX5_digest 83 = .ok (.aload_n 0, 1) := by decide +kernel
theorem dX5_digest_84 : decode cX5_digest 84 = .ok (.getfield 12, 3) := by decide +kernel
theorem dX5_digest_87 : decode cX5_digest 87 = .ok (.getfield 46, 3) := by decide +kernel
theorem dX5_digest_90 : decode cX5_digest 90 = .ok (.iload_n 3, 1) := by decide +kernel
theorem dX5_digest_91 : decode cX5_digest 91 = .ok (.invokevirtual 62, 3) := by decide +kernel
theorem dX5_digest_94 : decode cX5_digest 94 = .ok (.i2l, 1) := by decide +kernel
theorem dX5_digest_95 : decode cX5_digest 95 = .ok (.ladd, 1) := by decide +kernel
theorem dX5_digest_96 : decode cX5_digest 96 = .ok (.lstore_n 1, 1) := by decide +kernel
theorem dX5_digest_97 : decode cX5_digest 97 = .ok (.iinc 3 1, 3) := by decide +kernel
theorem dX5_digest_100 : decode cX5_digest 100 = .ok (.goto (-67), 3) := by decide +kernel
theorem dX5_digest_103 : decode cX5_digest 103 = .ok (.iconst 0, 1) := by decide +kernel
theorem dX5_digest_104 : decode cX5_digest 104 = .ok (.istore_n 3, 1) := by decide +kernel
theorem dX5_digest_105 : decode cX5_digest 105 = .ok (.iload_n 3, 1) := by decide +kernel
theorem dX5_digest_106 : decode cX5_digest 106 = .ok (.aload_n 0, 1) := by decide +kernel
theorem dX5_digest_107 : decode cX5_digest 107 = .ok (.getfield 12, 3) := by decide +kernel
theorem dX5_digest_110 : decode cX5_digest 110 = .ok (.getfield 90, 3) := by decide +kernel
theorem dX5_digest_113 : decode cX5_digest 113 = .ok (.if_icmp .ge 40, 3) := by decide +kernel
theorem dX5_digest_116 : decode cX5_digest 116 = .ok (.iconst 0, 1) := by decide +kernel
theorem dX5_digest_117 : decode cX5_digest 117 = .ok (.istore 4, 2) := by decide +kernel
theorem dX5_digest_119 : decode cX5_digest 119 = .ok (.iload 4, 2) := by decide +kernel
theorem dX5_digest_121 : decode cX5_digest 121 = .ok (.bipush 9, 2) := by decide +kernel
theorem dX5_digest_123 : decode cX5_digest 123 = .ok (.if_icmp .ge 24, 3) := by decide +kernel
theorem dX5_digest_126 : decode cX5_digest 126 = .ok (.lload_n 1, 1) := by decide +kernel
theorem dX5_digest_127 : decode cX5_digest 127 = .ok (.ldc2_w 223, 3) := by decide +kernel
theorem dX5_digest_130 : decode cX5_digest 130 = .ok (.lmul, 1) := by decide +kernel
theorem dX5_digest_131 : decode cX5_digest 131 = .ok (.aload_n 0, 1) := by decide +kernel
theorem dX5_digest_132 : decode cX5_digest 132 = .ok (.iload_n 3, 1) := by decide +kernel
theorem dX5_digest_133 : decode cX5_digest 133 = .ok (.iload 4, 2) := by decide +kernel
theorem dX5_digest_135 : decode cX5_digest 135 = .ok (.invokevirtual 228, 3) := by decide +kernel
theorem dX5_digest_138 : decode cX5_digest 138 = .ok (.i2l, 1) := by decide +kernel
theorem dX5_digest_139 : decode cX5_digest 139 = .ok (.ladd, 1) := by decide +kernel
theorem dX5_digest_140 : decode cX5_digest 140 = .ok (.lstore_n 1, 1) := by decide +kernel
theorem dX5_digest_141 : decode cX5_digest 141 = .ok (.iinc 4 1, 3) := by decide +kernel
theorem dX5_digest_144 : decode cX5_digest 144 = .ok (.goto (-25), 3) := by decide +kernel
theorem dX5_digest_147 : decode cX5_digest 147 = .ok (.iinc 3 1, 3) := by decide +kernel
theorem dX5_digest_150 : decode cX5_digest 150 = .ok (.goto (-45), 3) := by decide +kernel
theorem dX5_digest_153 : decode cX5_digest 153 = .ok (.lload_n 1, 1) := by decide +kernel
theorem dX5_digest_154 : decode cX5_digest 154 = .ok (.lreturn, 1) := by decide +kernel
theorem dX5_placeOf_0 : decode cX5_placeOf 0 = .ok (.iload_n 0, 1) := by decide +kernel
theorem dX5_placeOf_1 : decode cX5_placeOf 1 = .ok (.ifCond .lt 19, 3) := by decide +kernel
theorem dX5_placeOf_4 : decode cX5_placeOf 4 = .ok (.iload_n 0, 1) := by decide +kernel
theorem dX5_placeOf_5 : decode cX5_placeOf 5 = .ok (.bipush 16, 2) := by decide +kernel
theorem dX5_placeOf_7 : decode cX5_placeOf 7 = .ok (.if_icmp .ge 13, 3) := by decide +kernel
theorem dX5_placeOf_10 : decode cX5_placeOf 10 = .ok (.iload_n 1, 1) := by decide +kernel
theorem dX5_placeOf_11 : decode cX5_placeOf 11 = .ok (.ifCond .lt 9, 3) := by decide +kernel
theorem dX5_placeOf_14 : decode cX5_placeOf 14 = .ok (.iload_n 1, 1) := by decide +kernel
theorem dX5_placeOf_15 : decode cX5_placeOf 15 = .ok (.bipush 16, 2) := by decide +kernel
theorem dX5_placeOf_17 : decode cX5_placeOf 17 = .ok (.if_icmp .lt 13, 3) := by decide +kernel
theorem dX5_placeOf_20 : decode cX5_placeOf 20 = .ok (.new 76, 3) := by decide +kernel
theorem dX5_placeOf_23 : decode cX5_placeOf 23 = .ok (.dup, 1) := by decide +kernel
theorem dX5_placeOf_24 : decode cX5_placeOf 24 = .ok (.ldc 231, 2) := by decide +kernel
theorem dX5_placeOf_26 : decode cX5_placeOf 26 = .ok (.invokespecial 80, 3) := by decide +kernel
theorem dX5_placeOf_29 : decode cX5_placeOf 29 = .ok (.athrow, 1) := by decide +kernel
theorem dX5_placeOf_30 : decode cX5_placeOf 30 = .ok (.iload_n 0, 1) := by decide +kernel
theorem dX5_placeOf_31 : decode cX5_placeOf 31 = .ok (.bipush 16, 2) := by decide +kernel
theorem dX5_placeOf_33 : decode cX5_placeOf 33 = .ok (.iload_n 1, 1) := by decide +kernel
theorem dX5_placeOf_34 : decode cX5_placeOf 34 = .ok (.imul, 1) := by decide +kernel
theorem dX5_placeOf_35 : decode cX5_placeOf 35 = .ok (.iadd, 1) := by decide +kernel
theorem dX5_placeOf_36 : decode cX5_placeOf 36 = .ok (.ireturn, 1) := by decide +kernel
theorem dX5_requireTicks_0 : decode cX5_requireTicks 0 = .ok (.iload_n 0, 1) := by decide +kernel
theorem dX5_requireTicks_1 : decode cX5_requireTicks 1 = .ok (.iconst 1, 1) := by decide +kernel
theorem dX5_requireTicks_2 : decode cX5_requireTicks 2 = .ok (.if_icmp .lt 9, 3) := by decide +kernel
theorem dX5_requireTicks_5 : decode cX5_requireTicks 5 = .ok (.iload_n 0, 1) := by decide +kernel
theorem dX5_requireTicks_6 : decode cX5_requireTicks 6 = .ok (.bipush 100, 2) := by decide +kernel
theorem dX5_requireTicks_8 : decode cX5_requireTicks 8 = .ok (.if_icmp .le 13, 3) := by decide +kernel
theorem dX5_requireTicks_11 : decode cX5_requireTicks 11 = .ok (.new 30, 3) := by decide +kernel
theorem dX5_requireTicks_14 : decode cX5_requireTicks 14 = .ok (.dup, 1) := by decide +kernel
theorem dX5_requireTicks_15 : decode cX5_requireTicks 15 = .ok (.ldc 233, 2) := by decide +kernel
theorem dX5_requireTicks_17 : decode cX5_requireTicks 17 = .ok (.invokespecial 34, 3) := by decide +kernel
theorem dX5_requireTicks_20 : decode cX5_requireTicks 20 = .ok (.athrow, 1) := by decide +kernel
theorem dX5_requireTicks_21 : decode cX5_requireTicks 21 = .ok (.return_, 1) := by decide +kernel
set_option maxRecDepth 20000 in
theorem ggX5_member_X0_member : GoodIn wsX5_member wsX0_member := goodIn_r _ [8, 9, 10, 14, 15, 16, 17, 18, 19, 20] (by decide +kernel) (by decide +kernel)
set_option maxRecDepth 20000 in
theorem gX5_member_X0_member : GoodIn wsX5_member (wsV RX5 235 RX0 yX0_member wsX0_member) := goodIn_app (goodIn_of _ (by decide +kernel)) ggX5_member_X0_member
theorem dX5_member_0 : decode cX5_member 0 = .ok (.aload_n 0, 1) := by decide +kernel
theorem dX5_member_1 : decode cX5_member 1 = .ok (.getfield 12, 3) := by decide +kernel
theorem dX5_member_4 : decode cX5_member 4 = .ok (.iload_n 1, 1) := by decide +kernel
theorem dX5_member_5 : decode cX5_member 5 = .ok (.invokevirtual 235, 3) := by decide +kernel
theorem dX5_member_8 : decode cX5_member 8 = .ok (.astore_n 2, 1) := by decide +kernel
theorem dX5_member_9 : decode cX5_member 9 = .ok (.aload_n 2, 1) := by decide +kernel
theorem dX5_member_10 : decode cX5_member 10 = .ok (.ifnonnull 13, 3) := by decide +kernel
theorem dX5_member_13 : decode cX5_member 13 = .ok (.new 76, 3) := by decide +kernel
theorem dX5_member_16 : decode cX5_member 16 = .ok (.dup, 1) := by decide +kernel
theorem dX5_member_17 : decode cX5_member 17 = .ok (.ldc 236, 2) := by decide +kernel
theorem dX5_member_19 : decode cX5_member 19 = .ok (.invokespecial 80, 3) := by decide +kernel
theorem dX5_member_22 : decode cX5_member 22 = .ok (.athrow, 1) := by decide +kernel
theorem dX5_member_23 : decode cX5_member 23 = .ok (.aload_n 2, 1) := by decide +kernel
theorem dX5_member_24 : decode cX5_member 24 = .ok (.areturn, 1) := by decide +kernel
theorem dX5_oneIf_0 : decode cX5_oneIf 0 = .ok (.iload_n 0, 1) := by decide +kernel
theorem dX5_oneIf_1 : decode cX5_oneIf 1 = .ok (.ifCond .eq 7, 3) := by decide +kernel
theorem dX5_oneIf_4 : decode cX5_oneIf 4 = .ok (.iconst 1, 1) := by decide +kernel
theorem dX5_oneIf_5 : decode cX5_oneIf 5 = .ok (.goto 4, 3) := by decide +kernel
theorem dX5_oneIf_8 : decode cX5_oneIf 8 = .ok (.iconst 0, 1) := by decide +kernel
theorem dX5_oneIf_9 : decode cX5_oneIf 9 = .ok (.ireturn, 1) := by decide +kernel
theorem dX5_beside_0 : decode cX5_beside 0 = .ok (.iload_n 0, 1) := by decide +kernel
theorem dX5_beside_1 : decode cX5_beside 1 = .ok (.bipush 16, 2) := by decide +kernel
theorem dX5_beside_3 : decode cX5_beside 3 = .ok (.irem, 1) := by decide +kernel
theorem dX5_beside_4 : decode cX5_beside 4 = .ok (.istore_n 2, 1) := by decide +kernel
theorem dX5_beside_5 : decode cX5_beside 5 = .ok (.iload_n 0, 1) := by decide +kernel
theorem dX5_beside_6 : decode cX5_beside 6 = .ok (.bipush 16, 2) := by decide +kernel
theorem dX5_beside_8 : decode cX5_beside 8 = .ok (.idiv, 1) := by decide +kernel
theorem dX5_beside_9 : decode cX5_beside 9 = .ok (.istore_n 3, 1) := by decide +kernel
theorem dX5_beside_10 : decode cX5_beside 10 = .ok (.iload_n 1, 1) := by decide +kernel
theorem dX5_beside_11 : decode cX5_beside 11 = .ok (.tableswitch 83 0 3 #[29, 42, 56, 71], 29) := by decide +kernel
theorem dX5_beside_40 : decode cX5_beside 40 = .ok (.iload_n 3, 1) := by decide +kernel
theorem dX5_beside_41 : decode cX5_beside 41 = .ok (.ifCond .le 10, 3) := by decide +kernel
theorem dX5_beside_44 : decode cX5_beside 44 = .ok (.iload_n 0, 1) := by decide +kernel
theorem dX5_beside_45 : decode cX5_beside 45 = .ok (.bipush 16, 2) := by decide +kernel
theorem dX5_beside_47 : decode cX5_beside 47 = .ok (.isub, 1) := by decide +kernel
theorem dX5_beside_48 : decode cX5_beside 48 = .ok (.goto 4, 3) := by decide +kernel
theorem dX5_beside_51 : decode cX5_beside 51 = .ok (.iconst (-1), 1) := by decide +kernel
theorem dX5_beside_52 : decode cX5_beside 52 = .ok (.ireturn, 1) := by decide +kernel
theorem dX5_beside_53 : decode cX5_beside 53 = .ok (.iload_n 2, 1) := by decide +kernel
theorem dX5_beside_54 : decode cX5_beside 54 = .ok (.bipush 15, 2) := by decide +kernel
theorem dX5_beside_56 : decode cX5_beside 56 = .ok (.if_icmp .ge 9, 3) := by decide +kernel
theorem dX5_beside_59 : decode cX5_beside 59 = .ok (.iload_n 0, 1) := by decide +kernel
theorem dX5_beside_60 : decode cX5_beside 60 = .ok (.iconst 1, 1) := by decide +kernel
theorem dX5_beside_61 : decode cX5_beside 61 = .ok (.iadd, 1) := by decide +kernel
theorem dX5_beside_62 : decode cX5_beside 62 = .ok (.goto 4, 3) := by decide +kernel
theorem dX5_beside_65 : decode cX5_beside 65 = .ok (.iconst (-1), 1) := by decide +kernel
theorem dX5_beside_66 : decode cX5_beside 66 = .ok (.ireturn, 1) := by decide +kernel
theorem dX5_beside_67 : decode cX5_beside 67 = .ok (.iload_n 3, 1) := by decide +kernel
theorem dX5_beside_68 : decode cX5_beside 68 = .ok (.bipush 15, 2) := by decide +kernel
theorem dX5_beside_70 : decode cX5_beside 70 = .ok (.if_icmp .ge 10, 3) := by decide +kernel
theorem dX5_beside_73 : decode cX5_beside 73 = .ok (.iload_n 0, 1) := by decide +kernel
theorem dX5_beside_74 : decode cX5_beside 74 = .ok (.bipush 16, 2) := by decide +kernel
theorem dX5_beside_76 : decode cX5_beside 76 = .ok (.iadd, 1) := by decide +kernel
theorem dX5_beside_77 : decode cX5_beside 77 = .ok (.goto 4, 3) := by decide +kernel
theorem dX5_beside_80 : decode cX5_beside 80 = .ok (.iconst (-1), 1) := by decide +kernel
theorem dX5_beside_81 : decode cX5_beside 81 = .ok (.ireturn, 1) := by decide +kernel
theorem dX5_beside_82 : decode cX5_beside 82 = .ok (.iload_n 2, 1) := by decide +kernel
theorem dX5_beside_83 : decode cX5_beside 83 = .ok (.ifCond .le 9, 3) := by decide +kernel
theorem dX5_beside_86 : decode cX5_beside 86 = .ok (.iload_n 0, 1) := by decide +kernel
theorem dX5_beside_87 : decode cX5_beside 87 = .ok (.iconst 1, 1) := by decide +kernel
theorem dX5_beside_88 : decode cX5_beside 88 = .ok (.isub, 1) := by decide +kernel
theorem dX5_beside_89 : decode cX5_beside 89 = .ok (.goto 4, 3) := by decide +kernel
theorem dX5_beside_92 : decode cX5_beside 92 = .ok (.iconst (-1), 1) := by decide +kernel
theorem dX5_beside_93 : decode cX5_beside 93 = .ok (.ireturn, 1) := by decide +kernel
theorem dX5_beside_94 : decode cX5_beside 94 = .ok (.iconst (-1), 1) := by decide +kernel
theorem dX5_beside_95 : decode cX5_beside 95 = .ok (.ireturn, 1) := by decide +kernel
set_option maxRecDepth 20000 in
theorem ggX5_isNear_X5_beside : GoodIn wsX5_isNear wsX5_beside := goodIn_r _ [4] (by decide +kernel) (by decide +kernel)
set_option maxRecDepth 20000 in
theorem gX5_isNear_X5_beside : GoodIn wsX5_isNear (va_wsS RX5 238 yX5_beside wsX5_beside) := goodIn_app (goodIn_of _ (by decide +kernel)) ggX5_isNear_X5_beside
theorem dX5_isNear_0 : decode cX5_isNear 0 = .ok (.iload_n 0, 1) := by decide +kernel
theorem dX5_isNear_1 : decode cX5_isNear 1 = .ok (.iload_n 1, 1) := by decide +kernel
theorem dX5_isNear_2 : decode cX5_isNear 2 = .ok (.if_icmp .ne 7, 3) := by decide +kernel
theorem dX5_isNear_5 : decode cX5_isNear 5 = .ok (.iconst 1, 1) := by decide +kernel
theorem dX5_isNear_6 : decode cX5_isNear 6 = .ok (.goto 4, 3) := by decide +kernel
theorem dX5_isNear_9 : decode cX5_isNear 9 = .ok (.iconst 0, 1) := by decide +kernel
theorem dX5_isNear_10 : decode cX5_isNear 10 = .ok (.istore_n 2, 1) := by decide +kernel
theorem dX5_isNear_11 : decode cX5_isNear 11 = .ok (.iconst 0, 1) := by decide +kernel
theorem dX5_isNear_12 : decode cX5_isNear 12 = .ok (.istore_n 3, 1) := by decide +kernel
theorem dX5_isNear_13 : decode cX5_isNear 13 = .ok (.iload_n 3, 1) := by decide +kernel
theorem dX5_isNear_14 : decode cX5_isNear 14 = .ok (.iconst 4, 1) := by decide +kernel
theorem dX5_isNear_15 : decode cX5_isNear 15 = .ok (.if_icmp .ge 28, 3) := by decide +kernel
theorem dX5_isNear_18 : decode cX5_isNear 18 = .ok (.iload_n 2, 1) := by decide +kernel
theorem dX5_isNear_19 : decode cX5_isNear 19 = .ok (.ifCond .ne 12, 3) := by decide +kernel
theorem dX5_isNear_22 : decode cX5_isNear 22 = .ok (.iload_n 0, 1) := by decide +kernel
theorem dX5_isNear_23 : decode cX5_isNear 23 = .ok (.iload_n 3, 1) := by decide +kernel
theorem dX5_isNear_24 : decode cX5_isNear 24 = .ok (.invokestatic 238, 3) := by decide +kernel
theorem dX5_isNear_27 : decode cX5_isNear 27 = .ok (.iload_n 1, 1) := by decide +kernel
theorem dX5_isNear_28 : decode cX5_isNear 28 = .ok (.if_icmp .ne 7, 3) := by decide +kernel
theorem dX5_isNear_31 : decode cX5_isNear 31 = .ok (.iconst 1, 1) := by decide +kernel
theorem dX5_isNear_32 : decode cX5_isNear 32 = .ok (.goto 4, 3) := by decide +kernel
theorem dX5_isNear_35 : decode cX5_isNear 35 = .ok (.iconst 0, 1) := by decide +kernel
theorem dX5_isNear_36 : decode cX5_isNear 36 = .ok (.istore_n 2, 1) := by decide +kernel
theorem dX5_isNear_37 : decode cX5_isNear 37 = .ok (.iinc 3 1, 3) := by decide +kernel
theorem dX5_isNear_40 : decode cX5_isNear 40 = .ok (.goto (-27), 3) := by decide +kernel
theorem dX5_isNear_43 : decode cX5_isNear 43 = .ok (.iload_n 2, 1) := by decide +kernel
theorem dX5_isNear_44 : decode cX5_isNear 44 = .ok (.ireturn, 1) := by decide +kernel
