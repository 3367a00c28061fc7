set_option maxRecDepth 20000 in
theorem ggX0_init_J7_fill_53178 : GoodIn wsX0_init wsJ7_fill_53178 := goodIn_r _ [10] (by decide +kernel) (by decide +kernel)
set_option maxRecDepth 20000 in
theorem gX0_init_J7_fill_53178 : GoodIn wsX0_init (va_wsS RX0 18 yJ7_fill_53178 wsJ7_fill_53178) := goodIn_app (goodIn_of _ (by decide +kernel)) ggX0_init_J7_fill_53178
set_option maxRecDepth 20000 in
theorem ggX0_init_X0_cellByFigures : GoodIn wsX0_init wsX0_cellByFigures := goodIn_r _ [14, 15, 16, 17, 18, 19, 20, 21, 13, 22] (by decide +kernel) (by decide +kernel)
set_option maxRecDepth 20000 in
theorem gX0_init_X0_cellByFigures : GoodIn wsX0_init (va_wsS RX0 24 yX0_cellByFigures wsX0_cellByFigures) := goodIn_app (goodIn_of _ (by decide +kernel)) ggX0_init_X0_cellByFigures
theorem dX0_init_0 : decode cX0_init 0 = .ok (.aload_n 0, 1) := by decide +kernel
theorem dX0_init_1 : decode cX0_init 1 = .ok (.invokespecial 3, 3) := by decide +kernel
theorem dX0_init_4 : decode cX0_init 4 = .ok (.aload_n 0, 1) := by decide +kernel
theorem dX0_init_5 : decode cX0_init 5 = .ok (.sipush 2401, 3) := by decide +kernel
theorem dX0_init_8 : decode cX0_init 8 = .ok (.newarray .int, 2) := by decide +kernel
theorem dX0_init_10 : decode cX0_init 10 = .ok (.putfield 9, 3) := by decide +kernel
theorem dX0_init_13 : decode cX0_init 13 = .ok (.aload_n 0, 1) := by decide +kernel
theorem dX0_init_14 : decode cX0_init 14 = .ok (.sipush 4225, 3) := by decide +kernel
theorem dX0_init_17 : decode cX0_init 17 = .ok (.newarray .int, 2) := by decide +kernel
theorem dX0_init_19 : decode cX0_init 19 = .ok (.putfield 15, 3) := by decide +kernel
theorem dX0_init_22 : decode cX0_init 22 = .ok (.aload_n 0, 1) := by decide +kernel
theorem dX0_init_23 : decode cX0_init 23 = .ok (.getfield 15, 3) := by decide +kernel
theorem dX0_init_26 : decode cX0_init 26 = .ok (.bipush (-6), 2) := by decide +kernel
theorem dX0_init_28 : decode cX0_init 28 = .ok (.invokestatic 18, 3) := by decide +kernel
theorem dX0_init_31 : decode cX0_init 31 = .ok (.iconst 0, 1) := by decide +kernel
theorem dX0_init_32 : decode cX0_init 32 = .ok (.istore_n 1, 1) := by decide +kernel
theorem dX0_init_33 : decode cX0_init 33 = .ok (.iload_n 1, 1) := by decide +kernel
theorem dX0_init_34 : decode cX0_init 34 = .ok (.aload_n 0, 1) := by decide +kernel
theorem dX0_init_35 : decode cX0_init 35 = .ok (.getfield 9, 3) := by decide +kernel
theorem dX0_init_38 : decode cX0_init 38 = .ok (.arraylength, 1) := by decide +kernel
theorem dX0_init_39 : decode cX0_init 39 = .ok (.if_icmp .ge 42, 3) := by decide +kernel
theorem dX0_init_42 : decode cX0_init 42 = .ok (.iload_n 1, 1) := by decide +kernel
theorem dX0_init_43 : decode cX0_init 43 = .ok (.invokestatic 24, 3) := by decide +kernel
theorem dX0_init_46 : decode cX0_init 46 = .ok (.istore_n 2, 1) := by decide +kernel
theorem dX0_init_47 : decode cX0_init 47 = .ok (.aload_n 0, 1) := by decide +kernel
theorem dX0_init_48 : decode cX0_init 48 = .ok (.getfield 9, 3) := by decide +kernel
theorem dX0_init_51 : decode cX0_init 51 = .ok (.iload_n 1, 1) := by decide +kernel
theorem dX0_init_52 : decode cX0_init 52 = .ok (.iload_n 2, 1) := by decide +kernel
theorem dX0_init_53 : decode cX0_init 53 = .ok (.iastore, 1) := by decide +kernel
theorem dX0_init_54 : decode cX0_init 54 = .ok (.iconst 0, 1) := by decide +kernel
theorem dX0_init_55 : decode cX0_init 55 = .ok (.iload_n 2, 1) := by decide +kernel
theorem dX0_init_56 : decode cX0_init 56 = .ok (.if_icmp .gt 19, 3) := by decide +kernel
theorem dX0_init_59 : decode cX0_init 59 = .ok (.iload_n 2, 1) := by decide +kernel
theorem dX0_init_60 : decode cX0_init 60 = .ok (.aload_n 0, 1) := by decide +kernel
theorem dX0_init_61 : decode cX0_init 61 = .ok (.getfield 15, 3) := by decide +kernel
theorem dX0_init_64 : decode cX0_init 64 = .ok (.arraylength, 1) := by decide +kernel
theorem dX0_init_65 : decode cX0_init 65 = .ok (.if_icmp .ge 10, 3) := by decide +kernel
theorem dX0_init_68 : decode cX0_init 68 = .ok (.aload_n 0, 1) := by decide +kernel
theorem dX0_init_69 : decode cX0_init 69 = .ok (.getfield 15, 3) := by decide +kernel
theorem dX0_init_72 : decode cX0_init 72 = .ok (.iload_n 2, 1) := by decide +kernel
theorem dX0_init_73 : decode cX0_init 73 = .ok (.iload_n 1, 1) := by decide +kernel
theorem dX0_init_74 : decode cX0_init 74 = .ok (.iastore, 1) := by decide +kernel
theorem dX0_init_75 : decode cX0_init 75 = .ok (.iinc 1 1, 3) := by decide +kernel
theorem dX0_init_78 : decode cX0_init 78 = .ok (.goto (-45), 3) := by decide +kernel
theorem dX0_init_81 : decode cX0_init 81 = .ok (.return_, 1) := by decide +kernel
set_option maxRecDepth 20000 in
theorem ggX0_cellByFigures_X1_valueAt : GoodIn wsX0_cellByFigures wsX1_valueAt := goodIn_r _ [5] (by decide +kernel) (by decide +kernel)
set_option maxRecDepth 20000 in
theorem gX0_cellByFigures_X1_valueAt_n31 : GoodIn wsX0_cellByFigures (wsX1_valueAt) := ggX0_cellByFigures_X1_valueAt
set_option maxRecDepth 20000 in
theorem ggX0_cellByFigures_X0_cellAt : GoodIn wsX0_cellByFigures wsX0_cellAt := goodIn_r _ [9] (by decide +kernel) (by decide +kernel)
set_option maxRecDepth 20000 in
theorem gX0_cellByFigures_X0_cellAt : GoodIn wsX0_cellByFigures (va_wsS RX0 38 yX0_cellAt wsX0_cellAt) := goodIn_app (goodIn_of _ (by decide +kernel)) ggX0_cellByFigures_X0_cellAt
theorem dX0_cellByFigures_0 : decode cX0_cellByFigures 0 = .ok (.iconst 0, 1) := by decide +kernel
theorem dX0_cellByFigures_1 : decode cX0_cellByFigures 1 = .ok (.istore_n 1, 1) := by decide +kernel
theorem dX0_cellByFigures_2 : decode cX0_cellByFigures 2 = .ok (.iconst 0, 1) := by decide +kernel
theorem dX0_cellByFigures_3 : decode cX0_cellByFigures 3 = .ok (.istore_n 2, 1) := by decide +kernel
theorem dX0_cellByFigures_4 : decode cX0_cellByFigures 4 = .ok (.sipush 343, 3) := by decide +kernel
theorem dX0_cellByFigures_7 : decode cX0_cellByFigures 7 = .ok (.istore_n 3, 1) := by decide +kernel
theorem dX0_cellByFigures_8 : decode cX0_cellByFigures 8 = .ok (.iload_n 3, 1) := by decide +kernel
theorem dX0_cellByFigures_9 : decode cX0_cellByFigures 9 = .ok (.ifCond .le 57, 3) := by decide +kernel
theorem dX0_cellByFigures_12 : decode cX0_cellByFigures 12 = .ok (.iload_n 0, 1) := by decide +kernel
theorem dX0_cellByFigures_13 : decode cX0_cellByFigures 13 = .ok (.iload_n 3, 1) := by decide +kernel
theorem dX0_cellByFigures_14 : decode cX0_cellByFigures 14 = .ok (.idiv, 1) := by decide +kernel
theorem dX0_cellByFigures_15 : decode cX0_cellByFigures 15 = .ok (.bipush 7, 2) := by decide +kernel
theorem dX0_cellByFigures_17 : decode cX0_cellByFigures 17 = .ok (.irem, 1) := by decide +kernel
theorem dX0_cellByFigures_18 : decode cX0_cellByFigures 18 = .ok (.istore 4, 2) := by decide +kernel
theorem dX0_cellByFigures_20 : decode cX0_cellByFigures 20 = .ok (.iconst 2, 1) := by decide +kernel
theorem dX0_cellByFigures_21 : decode cX0_cellByFigures 21 = .ok (.iload_n 1, 1) := by decide +kernel
theorem dX0_cellByFigures_22 : decode cX0_cellByFigures 22 = .ok (.imul, 1) := by decide +kernel
theorem dX0_cellByFigures_23 : decode cX0_cellByFigures 23 = .ok (.iload_n 2, 1) := by decide +kernel
theorem dX0_cellByFigures_24 : decode cX0_cellByFigures 24 = .ok (.isub, 1) := by decide +kernel
theorem dX0_cellByFigures_25 : decode cX0_cellByFigures 25 = .ok (.istore 5, 2) := by decide +kernel
theorem dX0_cellByFigures_27 : decode cX0_cellByFigures 27 = .ok (.iload_n 1, 1) := by decide +kernel
theorem dX0_cellByFigures_28 : decode cX0_cellByFigures 28 = .ok (.iconst 3, 1) := by decide +kernel
theorem dX0_cellByFigures_29 : decode cX0_cellByFigures 29 = .ok (.iload_n 2, 1) := by decide +kernel
theorem dX0_cellByFigures_30 : decode cX0_cellByFigures 30 = .ok (.imul, 1) := by decide +kernel
theorem dX0_cellByFigures_31 : decode cX0_cellByFigures 31 = .ok (.iadd, 1) := by decide +kernel
theorem dX0_cellByFigures_32 : decode cX0_cellByFigures 32 = .ok (.istore 6, 2) := by decide +kernel
theorem dX0_cellByFigures_34 : decode cX0_cellByFigures 34 = .ok (.iload 5, 2) := by decide +kernel
theorem dX0_cellByFigures_36 : decode cX0_cellByFigures 36 = .ok (.getstatic 28, 3) := by decide +kernel
theorem dX0_cellByFigures_39 : decode cX0_cellByFigures 39 = .ok (.iload 4, 2) := by decide +kernel
theorem dX0_cellByFigures_41 : decode cX0_cellByFigures 41 = .ok (.invokestatic 31, 3) := by decide +kernel
theorem dX0_cellByFigures_44 : decode cX0_cellByFigures 44 = .ok (.iadd, 1) := by decide +kernel
theorem dX0_cellByFigures_45 : decode cX0_cellByFigures 45 = .ok (.istore_n 1, 1) := by decide +kernel
theorem dX0_cellByFigures_46 : decode cX0_cellByFigures 46 = .ok (.iload 6, 2) := by decide +kernel
theorem dX0_cellByFigures_48 : decode cX0_cellByFigures 48 = .ok (.getstatic 35, 3) := by decide +kernel
theorem dX0_cellByFigures_51 : decode cX0_cellByFigures 51 = .ok (.iload 4, 2) := by decide +kernel
theorem dX0_cellByFigures_53 : decode cX0_cellByFigures 53 = .ok (.invokestatic 31, 3) := by decide +kernel
theorem dX0_cellByFigures_56 : decode cX0_cellByFigures 56 = .ok (.iadd, 1) := by decide +kernel
theorem dX0_cellByFigures_57 : decode cX0_cellByFigures 57 = .ok (.istore_n 2, 1) := by decide +kernel
theorem dX0_cellByFigures_58 : decode cX0_cellByFigures 58 = .ok (.iload_n 3, 1) := by decide +kernel
theorem dX0_cellByFigures_59 : decode cX0_cellByFigures 59 = .ok (.bipush 7, 2) := by decide +kernel
theorem dX0_cellByFigures_61 : decode cX0_cellByFigures 61 = .ok (.idiv, 1) := by decide +kernel
theorem dX0_cellByFigures_62 : decode cX0_cellByFigures 62 = .ok (.istore_n 3, 1) := by decide +kernel
theorem dX0_cellByFigures_63 : decode cX0_cellByFigures 63 = .ok (.goto (-55), 3) := by decide +kernel
theorem dX0_cellByFigures_66 : decode cX0_cellByFigures 66 = .ok (.iload_n 1, 1) := by decide +kernel
theorem dX0_cellByFigures_67 : decode cX0_cellByFigures 67 = .ok (.iload_n 2, 1) := by decide +kernel
theorem dX0_cellByFigures_68 : decode cX0_cellByFigures 68 = .ok (.invokestatic 38, 3) := by decide +kernel
theorem dX0_cellByFigures_71 : decode cX0_cellByFigures 71 = .ok (.ireturn, 1) := by decide +kernel
theorem dX0_cellAt_0 : decode cX0_cellAt 0 = .ok (.iload_n 0, 1) := by decide +kernel
theorem dX0_cellAt_1 : decode cX0_cellAt 1 = .ok (.bipush 32, 2) := by decide +kernel
theorem dX0_cellAt_3 : decode cX0_cellAt 3 = .ok (.iadd, 1) := by decide +kernel
theorem dX0_cellAt_4 : decode cX0_cellAt 4 = .ok (.bipush 65, 2) := by decide +kernel
theorem dX0_cellAt_6 : decode cX0_cellAt 6 = .ok (.imul, 1) := by decide +kernel
theorem dX0_cellAt_7 : decode cX0_cellAt 7 = .ok (.iload_n 1, 1) := by decide +kernel
theorem dX0_cellAt_8 : decode cX0_cellAt 8 = .ok (.iadd, 1) := by decide +kernel
theorem dX0_cellAt_9 : decode cX0_cellAt 9 = .ok (.bipush 32, 2) := by decide +kernel
theorem dX0_cellAt_11 : decode cX0_cellAt 11 = .ok (.iadd, 1) := by decide +kernel
theorem dX0_cellAt_12 : decode cX0_cellAt 12 = .ok (.ireturn, 1) := by decide +kernel
set_option maxRecDepth 20000 in
theorem ggX0_pointA_X1_valueAt : GoodIn wsX0_pointA wsX1_valueAt := goodIn_r _ [4] (by decide +kernel) (by decide +kernel)
set_option maxRecDepth 20000 in
theorem gX0_pointA_X1_valueAt_n31 : GoodIn wsX0_pointA (wsX1_valueAt) := ggX0_pointA_X1_valueAt
theorem dX0_pointA_0 : decode cX0_pointA 0 = .ok (.aload_n 0, 1) := by decide +kernel
theorem dX0_pointA_1 : decode cX0_pointA 1 = .ok (.getfield 9, 3) := by decide +kernel
theorem dX0_pointA_4 : decode cX0_pointA 4 = .ok (.iload_n 1, 1) := by decide +kernel
theorem dX0_pointA_5 : decode cX0_pointA 5 = .ok (.invokestatic 31, 3) := by decide +kernel
theorem dX0_pointA_8 : decode cX0_pointA 8 = .ok (.bipush 65, 2) := by decide +kernel
theorem dX0_pointA_10 : decode cX0_pointA 10 = .ok (.idiv, 1) := by decide +kernel
theorem dX0_pointA_11 : decode cX0_pointA 11 = .ok (.bipush 32, 2) := by decide +kernel
theorem dX0_pointA_13 : decode cX0_pointA 13 = .ok (.isub, 1) := by decide +kernel
theorem dX0_pointA_14 : decode cX0_pointA 14 = .ok (.ireturn, 1) := by decide +kernel
set_option maxRecDepth 20000 in
theorem ggX0_pointB_X1_valueAt : GoodIn wsX0_pointB wsX1_valueAt := goodIn_r _ [4] (by decide +kernel) (by decide +kernel)
set_option maxRecDepth 20000 in
theorem gX0_pointB_X1_valueAt_n31 : GoodIn wsX0_pointB (wsX1_valueAt) := ggX0_pointB_X1_valueAt
theorem dX0_pointB_0 : decode cX0_pointB 0 = .ok (.aload_n 0, 1) := by decide +kernel
theorem dX0_pointB_1 : decode cX0_pointB 1 = .ok (.getfield 9, 3) := by decide +kernel
theorem dX0_pointB_4 : decode cX0_pointB 4 = .ok (.iload_n 1, 1) := by decide +kernel
theorem dX0_pointB_5 : decode cX0_pointB 5 = .ok (.invokestatic 31, 3) := by decide +kernel
theorem dX0_pointB_8 : decode cX0_pointB 8 = .ok (.bipush 65, 2) := by decide +kernel
theorem dX0_pointB_10 : decode cX0_pointB 10 = .ok (.irem, 1) := by decide +kernel
theorem dX0_pointB_11 : decode cX0_pointB 11 = .ok (.bipush 32, 2) := by decide +kernel
theorem dX0_pointB_13 : decode cX0_pointB 13 = .ok (.isub, 1) := by decide +kernel
theorem dX0_pointB_14 : decode cX0_pointB 14 = .ok (.ireturn, 1) := by decide +kernel
set_option maxRecDepth 20000 in
theorem ggX0_keyOf_X1_within : GoodIn wsX0_keyOf wsX1_within := goodIn_r _ [4] (by decide +kernel) (by decide +kernel)
set_option maxRecDepth 20000 in
theorem gX0_keyOf_X1_within_n42 : GoodIn wsX0_keyOf (wsX1_within) := ggX0_keyOf_X1_within
set_option maxRecDepth 20000 in
theorem ggX0_keyOf_X0_cellAt : GoodIn wsX0_keyOf wsX0_cellAt := goodIn_r _ [8] (by decide +kernel) (by decide +kernel)
set_option maxRecDepth 20000 in
theorem gX0_keyOf_X0_cellAt : GoodIn wsX0_keyOf (va_wsS RX0 38 yX0_cellAt wsX0_cellAt) := goodIn_app (goodIn_of _ (by decide +kernel)) ggX0_keyOf_X0_cellAt
set_option maxRecDepth 20000 in
theorem ggX0_keyOf_X1_valueAt : GoodIn wsX0_keyOf wsX1_valueAt := goodIn_r _ [10] (by decide +kernel) (by decide +kernel)
set_option maxRecDepth 20000 in
theorem gX0_keyOf_X1_valueAt_n31 : GoodIn wsX0_keyOf (wsX1_valueAt) := ggX0_keyOf_X1_valueAt
theorem dX0_keyOf_0 : decode cX0_keyOf 0 = .ok (.iload_n 1, 1) := by decide +kernel
theorem dX0_keyOf_1 : decode cX0_keyOf 1 = .ok (.bipush (-32), 2) := by decide +kernel
theorem dX0_keyOf_3 : decode cX0_keyOf 3 = .ok (.bipush 32, 2) := by decide +kernel
theorem dX0_keyOf_5 : decode cX0_keyOf 5 = .ok (.invokestatic 42, 3) := by decide +kernel
theorem dX0_keyOf_8 : decode cX0_keyOf 8 = .ok (.ifCond .eq 14, 3) := by decide +kernel
theorem dX0_keyOf_11 : decode cX0_keyOf 11 = .ok (.iload_n 2, 1) := by decide +kernel
theorem dX0_keyOf_12 : decode cX0_keyOf 12 = .ok (.bipush (-32), 2) := by decide +kernel
theorem dX0_keyOf_14 : decode cX0_keyOf 14 = .ok (.bipush 32, 2) := by decide +kernel
theorem dX0_keyOf_16 : decode cX0_keyOf 16 = .ok (.invokestatic 42, 3) := by decide +kernel
theorem dX0_keyOf_19 : decode cX0_keyOf 19 = .ok (.ifCond .ne 6, 3) := by decide +kernel
theorem dX0_keyOf_22 : decode cX0_keyOf 22 = .ok (.bipush (-6), 2) := by decide +kernel
theorem dX0_keyOf_24 : decode cX0_keyOf 24 = .ok (.ireturn, 1) := by decide +kernel
theorem dX0_keyOf_25 : decode cX0_keyOf 25 = .ok (.aload_n 0, 1) := by decide +kernel
theorem dX0_keyOf_26 : decode cX0_keyOf 26 = .ok (.getfield 15, 3) := by decide +kernel
theorem dX0_keyOf_29 : decode cX0_keyOf 29 = .ok (.iload_n 1, 1) := by decide +kernel
theorem dX0_keyOf_30 : decode cX0_keyOf 30 = .ok (.iload_n 2, 1) := by decide +kernel
theorem dX0_keyOf_31 : decode cX0_keyOf 31 = .ok (.invokestatic 38, 3) := by decide +kernel
theorem dX0_keyOf_34 : decode cX0_keyOf 34 = .ok (.invokestatic 31, 3) := by decide +kernel
theorem dX0_keyOf_37 : decode cX0_keyOf 37 = .ok (.ireturn, 1) := by decide +kernel
set_option maxRecDepth 20000 in
theorem ggX0_neighbour_X1_valueAt : GoodIn wsX0_neighbour wsX1_valueAt := goodIn_r _ [6] (by decide +kernel) (by decide +kernel)
set_option maxRecDepth 20000 in
theorem gX0_neighbour_X1_valueAt_n31 : GoodIn wsX0_neighbour (wsX1_valueAt) := ggX0_neighbour_X1_valueAt
theorem dX0_neighbour_0 : decode cX0_neighbour 0 = .ok (.aload_n 0, 1) := by decide +kernel
theorem dX0_neighbour_1 : decode cX0_neighbour 1 = .ok (.getfield 15, 3) := by decide +kernel
theorem dX0_neighbour_4 : decode cX0_neighbour 4 = .ok (.aload_n 0, 1) := by decide +kernel
theorem dX0_neighbour_5 : decode cX0_neighbour 5 = .ok (.getfield 9, 3) := by decide +kernel
theorem dX0_neighbour_8 : decode cX0_neighbour 8 = .ok (.iload_n 1, 1) := by decide +kernel
theorem dX0_neighbour_9 : decode cX0_neighbour 9 = .ok (.invokestatic 31, 3) := by decide +kernel
theorem dX0_neighbour_12 : decode cX0_neighbour 12 = .ok (.getstatic 46, 3) := by decide +kernel
theorem dX0_neighbour_15 : decode cX0_neighbour 15 = .ok (.iload_n 2, 1) := by decide +kernel
theorem dX0_neighbour_16 : decode cX0_neighbour 16 = .ok (.invokestatic 31, 3) := by decide +kernel
theorem dX0_neighbour_19 : decode cX0_neighbour 19 = .ok (.iadd, 1) := by decide +kernel
theorem dX0_neighbour_20 : decode cX0_neighbour 20 = .ok (.invokestatic 31, 3) := by decide +kernel
theorem dX0_neighbour_23 : decode cX0_neighbour 23 = .ok (.ireturn, 1) := by decide +kernel
set_option maxRecDepth 20000 in
theorem ggX0_stepsApart_X0_pointA : GoodIn wsX0_stepsApart wsX0_pointA := goodIn_r _ [12, 13, 14, 15, 16, 21, 22] (by decide +kernel) (by decide +kernel)
set_option maxRecDepth 20000 in
theorem gX0_stepsApart_X0_pointA : GoodIn wsX0_stepsApart (wsV RX0 49 RX0 yX0_pointA wsX0_pointA) := goodIn_app (goodIn_of _ (by decide +kernel)) ggX0_stepsApart_X0_pointA
set_option maxRecDepth 20000 in
theorem ggX0_stepsApart_X0_pointB : GoodIn wsX0_stepsApart wsX0_pointB := goodIn_r _ [20, 13, 14, 15, 16, 21, 22] (by decide +kernel) (by decide +kernel)
set_option maxRecDepth 20000 in
theorem gX0_stepsApart_X0_pointB : GoodIn wsX0_stepsApart (wsV RX0 52 RX0 yX0_pointB wsX0_pointB) := goodIn_app (goodIn_of _ (by decide +kernel)) ggX0_stepsApart_X0_pointB
theorem dX0_stepsApart_0 : decode cX0_stepsApart 0 = .ok (.aload_n 0, 1) := by decide +kernel
theorem dX0_stepsApart_1 : decode cX0_stepsApart 1 = .ok (.iload_n 1, 1) := by decide +kernel
theorem dX0_stepsApart_2 : decode cX0_stepsApart 2 = .ok (.invokevirtual 49, 3) := by decide +kernel
theorem dX0_stepsApart_5 : decode cX0_stepsApart 5 = .ok (.aload_n 0, 1) := by decide +kernel
theorem dX0_stepsApart_6 : decode cX0_stepsApart 6 = .ok (.iload_n 2, 1) := by decide +kernel
theorem dX0_stepsApart_7 : decode cX0_stepsApart 7 = .ok (.invokevirtual 49, 3) := by decide +kernel
theorem dX0_stepsApart_10 : decode cX0_stepsApart 10 = .ok (.isub, 1) := by decide +kernel
theorem dX0_stepsApart_11 : decode cX0_stepsApart 11 = .ok (.istore_n 3, 1) := by decide +kernel
theorem dX0_stepsApart_12 : decode cX0_stepsApart 12 = .ok (.aload_n 0, 1) := by decide +kernel
theorem dX0_stepsApart_13 : decode cX0_stepsApart 13 = .ok (.iload_n 1, 1) := by decide +kernel
theorem dX0_stepsApart_14 : decode cX0_stepsApart 14 = .ok (.invokevirtual 52, 3) := by decide +kernel
theorem dX0_stepsApart_17 : decode cX0_stepsApart 17 = .ok (.aload_n 0, 1) := by decide +kernel
theorem dX0_stepsApart_18 : decode cX0_stepsApart 18 = .ok (.iload_n 2, 1) := by decide +kernel
theorem dX0_stepsApart_19 : decode cX0_stepsApart 19 = .ok (.invokevirtual 52, 3) := by decide +kernel
theorem dX0_stepsApart_22 : decode cX0_stepsApart 22 = .ok (.isub, 1) := by decide +kernel
theorem dX0_stepsApart_23 : decode cX0_stepsApart 23 = .ok (.istore 4, 2) := by decide +kernel
theorem dX0_stepsApart_25 : decode cX0_stepsApart 25 = .ok (.iload_n 3, 1) := by decide +kernel
theorem dX0_stepsApart_26 : decode cX0_stepsApart 26 = .ok (.invokestatic 55, 3) := by decide +kernel
theorem dX0_stepsApart_29 : decode cX0_stepsApart 29 = .ok (.iload 4, 2) := by decide +kernel
theorem dX0_stepsApart_31 : decode cX0_stepsApart 31 = .ok (.invokestatic 55, 3) := by decide +kernel
theorem dX0_stepsApart_34 : decode cX0_stepsApart 34 = .ok (.invokestatic 60, 3) := by decide +kernel
theorem dX0_stepsApart_37 : decode cX0_stepsApart 37 = .ok (.iload_n 3, 1) := by decide +kernel
theorem dX0_stepsApart_38 : decode cX0_stepsApart 38 = .ok (.iload 4, 2) := by decide +kernel
theorem dX0_stepsApart_40 : decode cX0_stepsApart 40 = .ok (.iadd, 1) := by decide +kernel
theorem dX0_stepsApart_41 : decode cX0_stepsApart 41 = .ok (.invokestatic 55, 3) := by decide +kernel
theorem dX0_stepsApart_44 : decode cX0_stepsApart 44 = .ok (.invokestatic 60, 3) := by decide +kernel
theorem dX0_stepsApart_47 : decode cX0_stepsApart 47 = .ok (.ireturn, 1) := by decide +kernel
set_option maxRecDepth 20000 in
theorem ggX1_init_X0_init : GoodIn wsX1_init wsX0_init := goodIn_r _ [15, 16, 2, 3, 8, 17, 18, 19, 20, 21, 22, 23, 24, 6, 25, 26, 27, 28, 29, 30, 31, 32, 33, 34, 35] (by decide +kernel) (by decide +kernel)
set_option maxRecDepth 20000 in
theorem gX1_init_X0_init : GoodIn wsX1_init (wsX0_init) := ggX1_init_X0_init
theorem dX1_init_0 : decode cX1_init 0 = .ok (.aload_n 0, 1) := by decide +kernel
theorem dX1_init_1 : decode cX1_init 1 = .ok (.invokespecial 1, 3) := by decide +kernel
theorem dX1_init_4 : decode cX1_init 4 = .ok (.aload_n 0, 1) := by decide +kernel
theorem dX1_init_5 : decode cX1_init 5 = .ok (.new 7, 3) := by decide +kernel
theorem dX1_init_8 : decode cX1_init 8 = .ok (.dup, 1) := by decide +kernel
theorem dX1_init_9 : decode cX1_init 9 = .ok (.invokespecial 9, 3) := by decide +kernel
theorem dX1_init_12 : decode cX1_init 12 = .ok (.putfield 10, 3) := by decide +kernel
theorem dX1_init_15 : decode cX1_init 15 = .ok (.aload_n 0, 1) := by decide +kernel
theorem dX1_init_16 : decode cX1_init 16 = .ok (.sipush 2401, 3) := by decide +kernel
theorem dX1_init_19 : decode cX1_init 19 = .ok (.newarray .int, 2) := by decide +kernel
theorem dX1_init_21 : decode cX1_init 21 = .ok (.putfield 16, 3) := by decide +kernel
theorem dX1_init_24 : decode cX1_init 24 = .ok (.aload_n 0, 1) := by decide +kernel
theorem dX1_init_25 : decode cX1_init 25 = .ok (.iconst 0, 1) := by decide +kernel
theorem dX1_init_26 : decode cX1_init 26 = .ok (.putfield 20, 3) := by decide +kernel
theorem dX1_init_29 : decode cX1_init 29 = .ok (.aload_n 0, 1) := by decide +kernel
theorem dX1_init_30 : decode cX1_init 30 = .ok (.sipush 2401, 3) := by decide +kernel
theorem dX1_init_33 : decode cX1_init 33 = .ok (.newarray .int, 2) := by decide +kernel
theorem dX1_init_35 : decode cX1_init 35 = .ok (.putfield 24, 3) := by decide +kernel
theorem dX1_init_38 : decode cX1_init 38 = .ok (.aload_n 0, 1) := by decide +kernel
theorem dX1_init_39 : decode cX1_init 39 = .ok (.sipush 2401, 3) := by decide +kernel
theorem dX1_init_42 : decode cX1_init 42 = .ok (.newarray .int, 2) := by decide +kernel
theorem dX1_init_44 : decode cX1_init 44 = .ok (.putfield 27, 3) := by decide +kernel
theorem dX1_init_47 : decode cX1_init 47 = .ok (.return_, 1) := by decide +kernel
set_option maxRecDepth 20000 in
theorem ggX1_point_X1_isKey : GoodIn wsX1_point wsX1_isKey := goodIn_r _ [5, 6, 7, 4, 8] (by decide +kernel) (by decide +kernel)
set_option maxRecDepth 20000 in
theorem gX1_point_X1_isKey : GoodIn wsX1_point (va_wsS RX1 30 yX1_isKey wsX1_isKey) := goodIn_app (goodIn_of _ (by decide +kernel)) ggX1_point_X1_isKey
set_option maxRecDepth 20000 in
theorem ggX1_point_X1_within : GoodIn wsX1_point wsX1_within := goodIn_r _ [8] (by decide +kernel) (by decide +kernel)
set_option maxRecDepth 20000 in
theorem gX1_point_X1_within : GoodIn wsX1_point (va_wsS RX1 34 yX1_within wsX1_within) := goodIn_app (goodIn_of _ (by decide +kernel)) ggX1_point_X1_within
set_option maxRecDepth 20000 in
theorem ggX1_point_X0_pointA : GoodIn wsX1_point wsX0_pointA := goodIn_r _ [13, 14, 15, 4, 16, 26, 27] (by decide +kernel) (by decide +kernel)
set_option maxRecDepth 20000 in
theorem gX1_point_X0_pointA : GoodIn wsX1_point (wsV RX1 38 RX0 yX0_pointA wsX0_pointA) := goodIn_app (goodIn_of _ (by decide +kernel)) ggX1_point_X0_pointA
set_option maxRecDepth 20000 in
theorem ggX1_point_X0_pointB : GoodIn wsX1_point wsX0_pointB := goodIn_r _ [20, 14, 15, 4, 16, 26, 27] (by decide +kernel) (by decide +kernel)
set_option maxRecDepth 20000 in
theorem gX1_point_X0_pointB : GoodIn wsX1_point (wsV RX1 42 RX0 yX0_pointB wsX0_pointB) := goodIn_app (goodIn_of _ (by decide +kernel)) ggX1_point_X0_pointB
theorem dX1_point_0 : decode cX1_point 0 = .ok (.iload_n 1, 1) := by decide +kernel
theorem dX1_point_1 : decode cX1_point 1 = .ok (.invokestatic 30, 3) := by decide +kernel
theorem dX1_point_4 : decode cX1_point 4 = .ok (.ifCond .eq 12, 3) := by decide +kernel
theorem dX1_point_7 : decode cX1_point 7 = .ok (.iload_n 2, 1) := by decide +kernel
theorem dX1_point_8 : decode cX1_point 8 = .ok (.iconst 0, 1) := by decide +kernel
theorem dX1_point_9 : decode cX1_point 9 = .ok (.iconst 1, 1) := by decide +kernel
theorem dX1_point_10 : decode cX1_point 10 = .ok (.invokestatic 34, 3) := by decide +kernel
theorem dX1_point_13 : decode cX1_point 13 = .ok (.ifCond .ne 6, 3) := by decide +kernel
theorem dX1_point_16 : decode cX1_point 16 = .ok (.bipush (-2), 2) := by decide +kernel
theorem dX1_point_18 : decode cX1_point 18 = .ok (.ireturn, 1) := by decide +kernel
theorem dX1_point_19 : decode cX1_point 19 = .ok (.sipush 1000, 3) := by decide +kernel
theorem dX1_point_22 : decode cX1_point 22 = .ok (.iload_n 2, 1) := by decide +kernel
theorem dX1_point_23 : decode cX1_point 23 = .ok (.ifCond .ne 14, 3) := by decide +kernel
theorem dX1_point_26 : decode cX1_point 26 = .ok (.aload_n 0, 1) := by decide +kernel
theorem dX1_point_27 : decode cX1_point 27 = .ok (.getfield 10, 3) := by decide +kernel
theorem dX1_point_30 : decode cX1_point 30 = .ok (.iload_n 1, 1) := by decide +kernel
theorem dX1_point_31 : decode cX1_point 31 = .ok (.invokevirtual 38, 3) := by decide +kernel
theorem dX1_point_34 : decode cX1_point 34 = .ok (.goto 11, 3) := by decide +kernel
theorem dX1_point_37 : decode cX1_point 37 = .ok (.aload_n 0, 1) := by decide +kernel
theorem dX1_point_38 : decode cX1_point 38 = .ok (.getfield 10, 3) := by decide +kernel
theorem dX1_point_41 : decode cX1_point 41 = .ok (.iload_n 1, 1) := by decide +kernel
theorem dX1_point_42 : decode cX1_point 42 = .ok (.invokevirtual 42, 3) := by decide +kernel
theorem dX1_point_45 : decode cX1_point 45 = .ok (.iadd, 1) := by decide +kernel
theorem dX1_point_46 : decode cX1_point 46 = .ok (.ireturn, 1) := by decide +kernel
set_option maxRecDepth 20000 in
theorem ggX1_key_X1_within : GoodIn wsX1_key wsX1_within := goodIn_r _ [5] (by decide +kernel) (by decide +kernel)
set_option maxRecDepth 20000 in
theorem gX1_key_X1_within : GoodIn wsX1_key (va_wsS RX1 34 yX1_within wsX1_within) := goodIn_app (goodIn_of _ (by decide +kernel)) ggX1_key_X1_within
set_option maxRecDepth 20000 in
theorem ggX1_key_X0_keyOf : GoodIn wsX1_key wsX0_keyOf := goodIn_r _ [10, 11, 3, 4, 5, 12, 13, 9, 14, 15, 16, 22, 23] (by decide +kernel) (by decide +kernel)
set_option maxRecDepth 20000 in
theorem gX1_key_X0_keyOf : GoodIn wsX1_key (wsV RX1 45 RX0 yX0_keyOf wsX0_keyOf) := goodIn_app (goodIn_of _ (by decide +kernel)) ggX1_key_X0_keyOf
theorem dX1_key_0 : decode cX1_key 0 = .ok (.iload_n 1, 1) := by decide +kernel
theorem dX1_key_1 : decode cX1_key 1 = .ok (.bipush (-100), 2) := by decide +kernel
theorem dX1_key_3 : decode cX1_key 3 = .ok (.bipush 100, 2) := by decide +kernel
theorem dX1_key_5 : decode cX1_key 5 = .ok (.invokestatic 34, 3) := by decide +kernel
theorem dX1_key_8 : decode cX1_key 8 = .ok (.ifCond .eq 14, 3) := by decide +kernel
theorem dX1_key_11 : decode cX1_key 11 = .ok (.iload_n 2, 1) := by decide +kernel
theorem dX1_key_12 : decode cX1_key 12 = .ok (.bipush (-100), 2) := by decide +kernel
theorem dX1_key_14 : decode cX1_key 14 = .ok (.bipush 100, 2) := by decide +kernel
theorem dX1_key_16 : decode cX1_key 16 = .ok (.invokestatic 34, 3) := by decide +kernel
theorem dX1_key_19 : decode cX1_key 19 = .ok (.ifCond .ne 6, 3) := by decide +kernel
theorem dX1_key_22 : decode cX1_key 22 = .ok (.bipush (-2), 2) := by decide +kernel
theorem dX1_key_24 : decode cX1_key 24 = .ok (.ireturn, 1) := by decide +kernel
theorem dX1_key_25 : decode cX1_key 25 = .ok (.aload_n 0, 1) := by decide +kernel
theorem dX1_key_26 : decode cX1_key 26 = .ok (.getfield 10, 3) := by decide +kernel
theorem dX1_key_29 : decode cX1_key 29 = .ok (.iload_n 1, 1) := by decide +kernel
theorem dX1_key_30 : decode cX1_key 30 = .ok (.iload_n 2, 1) := by decide +kernel
theorem dX1_key_31 : decode cX1_key 31 = .ok (.invokevirtual 45, 3) := by decide +kernel
theorem dX1_key_34 : decode cX1_key 34 = .ok (.ireturn, 1) := by decide +kernel
set_option maxRecDepth 20000 in
theorem ggX1_next_X1_isKey : GoodIn wsX1_next wsX1_isKey := goodIn_r _ [5, 6, 7, 4, 8] (by decide +kernel) (by decide +kernel)
set_option maxRecDepth 20000 in
theorem gX1_next_X1_isKey : GoodIn wsX1_next (va_wsS RX1 30 yX1_isKey wsX1_isKey) := goodIn_app (goodIn_of _ (by decide +kernel)) ggX1_next_X1_isKey
set_option maxRecDepth 20000 in
theorem ggX1_next_X1_within : GoodIn wsX1_next wsX1_within := goodIn_r _ [8] (by decide +kernel) (by decide +kernel)
set_option maxRecDepth 20000 in
theorem gX1_next_X1_within : GoodIn wsX1_next (va_wsS RX1 34 yX1_within wsX1_within) := goodIn_app (goodIn_of _ (by decide +kernel)) ggX1_next_X1_within
set_option maxRecDepth 20000 in
theorem ggX1_next_X0_neighbour : GoodIn wsX1_next wsX0_neighbour := goodIn_r _ [13, 14, 15, 16, 17, 4, 18, 24, 25] (by decide +kernel) (by decide +kernel)
set_option maxRecDepth 20000 in
theorem gX1_next_X0_neighbour : GoodIn wsX1_next (wsV RX1 49 RX0 yX0_neighbour wsX0_neighbour) := goodIn_app (goodIn_of _ (by decide +kernel)) ggX1_next_X0_neighbour
theorem dX1_next_0 : decode cX1_next 0 = .ok (.iload_n 1, 1) := by decide +kernel
theorem dX1_next_1 : decode cX1_next 1 = .ok (.invokestatic 30, 3) := by decide +kernel
theorem dX1_next_4 : decode cX1_next 4 = .ok (.ifCond .eq 13, 3) := by decide +kernel
theorem dX1_next_7 : decode cX1_next 7 = .ok (.iload_n 2, 1) := by decide +kernel
theorem dX1_next_8 : decode cX1_next 8 = .ok (.iconst 1, 1) := by decide +kernel
theorem dX1_next_9 : decode cX1_next 9 = .ok (.bipush 6, 2) := by decide +kernel
theorem dX1_next_11 : decode cX1_next 11 = .ok (.invokestatic 34, 3) := by decide +kernel
theorem dX1_next_14 : decode cX1_next 14 = .ok (.ifCond .ne 6, 3) := by decide +kernel
theorem dX1_next_17 : decode cX1_next 17 = .ok (.bipush (-2), 2) := by decide +kernel
theorem dX1_next_19 : decode cX1_next 19 = .ok (.ireturn, 1) := by decide +kernel
theorem dX1_next_20 : decode cX1_next 20 = .ok (.aload_n 0, 1) := by decide +kernel
theorem dX1_next_21 : decode cX1_next 21 = .ok (.getfield 10, 3) := by decide +kernel
theorem dX1_next_24 : decode cX1_next 24 = .ok (.iload_n 1, 1) := by decide +kernel
theorem dX1_next_25 : decode cX1_next 25 = .ok (.iload_n 2, 1) := by decide +kernel
theorem dX1_next_26 : decode cX1_next 26 = .ok (.invokevirtual 49, 3) := by decide +kernel
theorem dX1_next_29 : decode cX1_next 29 = .ok (.ireturn, 1) := by decide +kernel
set_option maxRecDepth 20000 in
theorem ggX1_far_X1_isKey : GoodIn wsX1_far wsX1_isKey := goodIn_r _ [5, 6, 7, 4, 8] (by decide +kernel) (by decide +kernel)
set_option maxRecDepth 20000 in
theorem gX1_far_X1_isKey : GoodIn wsX1_far (va_wsS RX1 30 yX1_isKey wsX1_isKey) := goodIn_app (goodIn_of _ (by decide +kernel)) ggX1_far_X1_isKey
set_option maxRecDepth 20000 in
theorem ggX1_far_X0_stepsApart : GoodIn wsX1_far wsX0_stepsApart := goodIn_r _ [13, 14, 15, 16, 17, 18, 19, 20, 21, 22, 23, 12, 24, 25, 26, 4, 27, 28, 29, 30, 31, 37, 38] (by decide +kernel) (by decide +kernel)
set_option maxRecDepth 20000 in
theorem gX1_far_X0_stepsApart : GoodIn wsX1_far (wsV RX1 52 RX0 yX0_stepsApart wsX0_stepsApart) := goodIn_app (goodIn_of _ (by decide +kernel)) ggX1_far_X0_stepsApart
theorem dX1_far_0 : decode cX1_far 0 = .ok (.iload_n 1, 1) := by decide +kernel
theorem dX1_far_1 : decode cX1_far 1 = .ok (.invokestatic 30, 3) := by decide +kernel
theorem dX1_far_4 : decode cX1_far 4 = .ok (.ifCond .eq 10, 3) := by decide +kernel
theorem dX1_far_7 : decode cX1_far 7 = .ok (.iload_n 2, 1) := by decide +kernel
theorem dX1_far_8 : decode cX1_far 8 = .ok (.invokestatic 30, 3) := by decide +kernel
theorem dX1_far_11 : decode cX1_far 11 = .ok (.ifCond .ne 6, 3) := by decide +kernel
theorem dX1_far_14 : decode cX1_far 14 = .ok (.bipush (-2), 2) := by decide +kernel
theorem dX1_far_16 : decode cX1_far 16 = .ok (.ireturn, 1) := by decide +kernel
theorem dX1_far_17 : decode cX1_far 17 = .ok (.aload_n 0, 1) := by decide +kernel
theorem dX1_far_18 : decode cX1_far 18 = .ok (.getfield 10, 3) := by decide +kernel
theorem dX1_far_21 : decode cX1_far 21 = .ok (.iload_n 1, 1) := by decide +kernel
theorem dX1_far_22 : decode cX1_far 22 = .ok (.iload_n 2, 1) := by decide +kernel
theorem dX1_far_23 : decode cX1_far 23 = .ok (.invokevirtual 52, 3) := by decide +kernel
theorem dX1_far_26 : decode cX1_far 26 = .ok (.ireturn, 1) := by decide +kernel
set_option maxRecDepth 20000 in
theorem ggX1_side_X1_isKey : GoodIn wsX1_side wsX1_isKey := goodIn_r _ [5, 6, 7, 4, 8] (by decide +kernel) (by decide +kernel)
set_option maxRecDepth 20000 in
theorem gX1_side_X1_isKey : GoodIn wsX1_side (va_wsS RX1 30 yX1_isKey wsX1_isKey) := goodIn_app (goodIn_of _ (by decide +kernel)) ggX1_side_X1_isKey
set_option maxRecDepth 20000 in
theorem ggX1_side_X0_neighbour : GoodIn wsX1_side wsX0_neighbour := goodIn_r _ [13, 14, 15, 16, 17, 4, 18, 24, 25] (by decide +kernel) (by decide +kernel)
set_option maxRecDepth 20000 in
theorem gX1_side_X0_neighbour : GoodIn wsX1_side (wsV RX1 49 RX0 yX0_neighbour wsX0_neighbour) := goodIn_app (goodIn_of _ (by decide +kernel)) ggX1_side_X0_neighbour
theorem dX1_side_0 : decode cX1_side 0 = .ok (.iload_n 1, 1) := by decide +kernel
theorem dX1_side_1 : decode cX1_side 1 = .ok (.invokestatic 30, 3) := by decide +kernel
theorem dX1_side_4 : decode cX1_side 4 = .ok (.ifCond .eq 10, 3) := by decide +kernel
theorem dX1_side_7 : decode cX1_side 7 = .ok (.iload_n 2, 1) := by decide +kernel
theorem dX1_side_8 : decode cX1_side 8 = .ok (.invokestatic 30, 3) := by decide +kernel
theorem dX1_side_11 : decode cX1_side 11 = .ok (.ifCond .ne 6, 3) := by decide +kernel
theorem dX1_side_14 : decode cX1_side 14 = .ok (.bipush (-2), 2) := by decide +kernel
theorem dX1_side_16 : decode cX1_side 16 = .ok (.ireturn, 1) := by decide +kernel
theorem dX1_side_17 : decode cX1_side 17 = .ok (.iconst 0, 1) := by decide +kernel
theorem dX1_side_18 : decode cX1_side 18 = .ok (.istore_n 3, 1) := by decide +kernel
theorem dX1_side_19 : decode cX1_side 19 = .ok (.iload_n 3, 1) := by decide +kernel
theorem dX1_side_20 : decode cX1_side 20 = .ok (.bipush 6, 2) := by decide +kernel
theorem dX1_side_22 : decode cX1_side 22 = .ok (.if_icmp .gt 24, 3) := by decide +kernel
theorem dX1_side_25 : decode cX1_side 25 = .ok (.aload_n 0, 1) := by decide +kernel
theorem dX1_side_26 : decode cX1_side 26 = .ok (.getfield 10, 3) := by decide +kernel
theorem dX1_side_29 : decode cX1_side 29 = .ok (.iload_n 1, 1) := by decide +kernel
theorem dX1_side_30 : decode cX1_side 30 = .ok (.iload_n 3, 1) := by decide +kernel
theorem dX1_side_31 : decode cX1_side 31 = .ok (.invokevirtual 49, 3) := by decide +kernel
theorem dX1_side_34 : decode cX1_side 34 = .ok (.iload_n 2, 1) := by decide +kernel
theorem dX1_side_35 : decode cX1_side 35 = .ok (.if_icmp .ne 5, 3) := by decide +kernel
theorem dX1_side_38 : decode cX1_side 38 = .ok (.iload_n 3, 1) := by decide +kernel
theorem dX1_side_39 : decode cX1_side 39 = .ok (.ireturn, 1) := by decide +kernel
theorem dX1_side_40 : decode cX1_side 40 = .ok (.iinc 3 1, 3) := by decide +kernel
theorem dX1_side_43 : decode cX1_side 43 = .ok (.goto (-24), 3) := by decide +kernel
theorem dX1_side_46 : decode cX1_side 46 = .ok (.bipush (-6), 2) := by decide +kernel
theorem dX1_side_48 : decode cX1_side 48 = .ok (.ireturn, 1) := by decide +kernel
set_option maxRecDepth 20000 in
theorem ggX1_patch_X1_isKey : GoodIn wsX1_patch wsX1_isKey := goodIn_r _ [4, 5, 6, 3, 7] (by decide +kernel) (by decide +kernel)
set_option maxRecDepth 20000 in
theorem gX1_patch_X1_isKey : GoodIn wsX1_patch (va_wsS RX1 30 yX1_isKey wsX1_isKey) := goodIn_app (goodIn_of _ (by decide +kernel)) ggX1_patch_X1_isKey
set_option maxRecDepth 20000 in
theorem ggX1_patch_X1_isLevel : GoodIn wsX1_patch wsX1_isLevel := goodIn_r _ [10, 5, 6, 3, 7] (by decide +kernel) (by decide +kernel)
set_option maxRecDepth 20000 in
theorem gX1_patch_X1_isLevel : GoodIn wsX1_patch (va_wsS RX1 55 yX1_isLevel wsX1_isLevel) := goodIn_app (goodIn_of _ (by decide +kernel)) ggX1_patch_X1_isLevel
set_option maxRecDepth 20000 in
theorem ggX1_patch_X1_patchOf : GoodIn wsX1_patch wsX1_patchOf := goodIn_r _ [13, 14, 15, 3, 16] (by decide +kernel) (by decide +kernel)
set_option maxRecDepth 20000 in
theorem gX1_patch_X1_patchOf : GoodIn wsX1_patch (va_wsS RX1 58 yX1_patchOf wsX1_patchOf) := goodIn_app (goodIn_of _ (by decide +kernel)) ggX1_patch_X1_patchOf
theorem dX1_patch_0 : decode cX1_patch 0 = .ok (.iload_n 1, 1) := by decide +kernel
theorem dX1_patch_1 : decode cX1_patch 1 = .ok (.invokestatic 30, 3) := by decide +kernel
theorem dX1_patch_4 : decode cX1_patch 4 = .ok (.ifCond .eq 10, 3) := by decide +kernel
theorem dX1_patch_7 : decode cX1_patch 7 = .ok (.iload_n 2, 1) := by decide +kernel
theorem dX1_patch_8 : decode cX1_patch 8 = .ok (.invokestatic 55, 3) := by decide +kernel
theorem dX1_patch_11 : decode cX1_patch 11 = .ok (.ifCond .ne 6, 3) := by decide +kernel
theorem dX1_patch_14 : decode cX1_patch 14 = .ok (.bipush (-2), 2) := by decide +kernel
theorem dX1_patch_16 : decode cX1_patch 16 = .ok (.ireturn, 1) := by decide +kernel
theorem dX1_patch_17 : decode cX1_patch 17 = .ok (.iload_n 1, 1) := by decide +kernel
theorem dX1_patch_18 : decode cX1_patch 18 = .ok (.iload_n 2, 1) := by decide +kernel
theorem dX1_patch_19 : decode cX1_patch 19 = .ok (.invokestatic 58, 3) := by decide +kernel
theorem dX1_patch_22 : decode cX1_patch 22 = .ok (.ireturn, 1) := by decide +kernel
set_option maxRecDepth 20000 in
theorem ggX1_around_X1_isKey : GoodIn wsX1_around wsX1_isKey := goodIn_r _ [5, 6, 7, 4, 8] (by decide +kernel) (by decide +kernel)
set_option maxRecDepth 20000 in
theorem gX1_around_X1_isKey : GoodIn wsX1_around (va_wsS RX1 30 yX1_isKey wsX1_isKey) := goodIn_app (goodIn_of _ (by decide +kernel)) ggX1_around_X1_isKey
set_option maxRecDepth 20000 in
theorem ggX1_around_X1_isLevel : GoodIn wsX1_around wsX1_isLevel := goodIn_r _ [11, 6, 7, 4, 8] (by decide +kernel) (by decide +kernel)
set_option maxRecDepth 20000 in
theorem gX1_around_X1_isLevel : GoodIn wsX1_around (va_wsS RX1 55 yX1_isLevel wsX1_isLevel) := goodIn_app (goodIn_of _ (by decide +kernel)) ggX1_around_X1_isLevel
set_option maxRecDepth 20000 in
theorem ggX1_around_J7_fill_53178 : GoodIn wsX1_around wsJ7_fill_53178 := goodIn_r _ [15] (by decide +kernel) (by decide +kernel)
set_option maxRecDepth 20000 in
theorem gX1_around_J7_fill_53178 : GoodIn wsX1_around (va_wsS RX1 61 yJ7_fill_53178 wsJ7_fill_53178) := goodIn_app (goodIn_of _ (by decide +kernel)) ggX1_around_J7_fill_53178
set_option maxRecDepth 20000 in
theorem ggX1_around_X1_patchOf : GoodIn wsX1_around wsX1_patchOf := goodIn_r _ [18, 19, 20, 4, 21] (by decide +kernel) (by decide +kernel)
set_option maxRecDepth 20000 in
theorem gX1_around_X1_patchOf : GoodIn wsX1_around (va_wsS RX1 58 yX1_patchOf wsX1_patchOf) := goodIn_app (goodIn_of _ (by decide +kernel)) ggX1_around_X1_patchOf
set_option maxRecDepth 20000 in
theorem ggX1_around_X1_patchSize : GoodIn wsX1_around wsX1_patchSize := goodIn_r _ [21] (by decide +kernel) (by decide +kernel)
set_option maxRecDepth 20000 in
theorem gX1_around_X1_patchSize : GoodIn wsX1_around (va_wsS RX1 67 yX1_patchSize wsX1_patchSize) := goodIn_app (goodIn_of _ (by decide +kernel)) ggX1_around_X1_patchSize
set_option maxRecDepth 20000 in
theorem ggX1_around_X1_markPatchesNextTo : GoodIn wsX1_around wsX1_markPatchesNextTo := goodIn_r _ [25, 26, 27, 28, 29, 30, 31, 32, 33, 34, 35, 4, 36, 16, 17, 18, 19, 20, 21, 37, 38, 39, 40, 1, 41, 42, 43, 44, 45, 46, 47, 48, 49, 50, 51, 52] (by decide +kernel) (by decide +kernel)
set_option maxRecDepth 20000 in
theorem gX1_around_X1_markPatchesNextTo : GoodIn wsX1_around (wsV RX1 70 RX1 yX1_markPatchesNextTo wsX1_markPatchesNextTo) := goodIn_app (goodIn_of _ (by decide +kernel)) ggX1_around_X1_markPatchesNextTo
theorem dX1_around_0 : decode cX1_around 0 = .ok (.iload_n 1, 1) := by decide +kernel
theorem dX1_around_1 : decode cX1_around 1 = .ok (.invokestatic 30, 3) := by decide +kernel
theorem dX1_around_4 : decode cX1_around 4 = .ok (.ifCond .eq 10, 3) := by decide +kernel
theorem dX1_around_7 : decode cX1_around 7 = .ok (.iload_n 2, 1) := by decide +kernel
theorem dX1_around_8 : decode cX1_around 8 = .ok (.invokestatic 55, 3) := by decide +kernel
theorem dX1_around_11 : decode cX1_around 11 = .ok (.ifCond .ne 6, 3) := by decide +kernel
theorem dX1_around_14 : decode cX1_around 14 = .ok (.bipush (-2), 2) := by decide +kernel
theorem dX1_around_16 : decode cX1_around 16 = .ok (.ireturn, 1) := by decide +kernel
theorem dX1_around_17 : decode cX1_around 17 = .ok (.aload_n 0, 1) := by decide +kernel
theorem dX1_around_18 : decode cX1_around 18 = .ok (.getfield 24, 3) := by decide +kernel
theorem dX1_around_21 : decode cX1_around 21 = .ok (.iconst 0, 1) := by decide +kernel
theorem dX1_around_22 : decode cX1_around 22 = .ok (.invokestatic 61, 3) := by decide +kernel
theorem dX1_around_25 : decode cX1_around 25 = .ok (.iload_n 1, 1) := by decide +kernel
theorem dX1_around_26 : decode cX1_around 26 = .ok (.iload_n 2, 1) := by decide +kernel
theorem dX1_around_27 : decode cX1_around 27 = .ok (.invokestatic 58, 3) := by decide +kernel
theorem dX1_around_30 : decode cX1_around 30 = .ok (.istore_n 3, 1) := by decide +kernel
theorem dX1_around_31 : decode cX1_around 31 = .ok (.iload_n 3, 1) := by decide +kernel
theorem dX1_around_32 : decode cX1_around 32 = .ok (.iload_n 2, 1) := by decide +kernel
theorem dX1_around_33 : decode cX1_around 33 = .ok (.invokestatic 67, 3) := by decide +kernel
theorem dX1_around_36 : decode cX1_around 36 = .ok (.iadd, 1) := by decide +kernel
theorem dX1_around_37 : decode cX1_around 37 = .ok (.istore 4, 2) := by decide +kernel
theorem dX1_around_39 : decode cX1_around 39 = .ok (.iconst 0, 1) := by decide +kernel
theorem dX1_around_40 : decode cX1_around 40 = .ok (.istore 5, 2) := by decide +kernel
theorem dX1_around_42 : decode cX1_around 42 = .ok (.iload_n 3, 1) := by decide +kernel
theorem dX1_around_43 : decode cX1_around 43 = .ok (.istore 6, 2) := by decide +kernel
theorem dX1_around_45 : decode cX1_around 45 = .ok (.iload 6, 2) := by decide +kernel
theorem dX1_around_47 : decode cX1_around 47 = .ok (.iload 4, 2) := by decide +kernel
theorem dX1_around_49 : decode cX1_around 49 = .ok (.if_icmp .ge 22, 3) := by decide +kernel
theorem dX1_around_52 : decode cX1_around 52 = .ok (.iload 5, 2) := by decide +kernel
theorem dX1_around_54 : decode cX1_around 54 = .ok (.aload_n 0, 1) := by decide +kernel
theorem dX1_around_55 : decode cX1_around 55 = .ok (.iload 6, 2) := by decide +kernel
theorem dX1_around_57 : decode cX1_around 57 = .ok (.iload_n 3, 1) := by decide +kernel
theorem dX1_around_58 : decode cX1_around 58 = .ok (.iload_n 2, 1) := by decide +kernel
theorem dX1_around_59 : decode cX1_around 59 = .ok (.invokevirtual 70, 3) := by decide +kernel
theorem dX1_around_62 : decode cX1_around 62 = .ok (.iadd, 1) := by decide +kernel
theorem dX1_around_63 : decode cX1_around 63 = .ok (.istore 5, 2) := by decide +kernel
theorem dX1_around_65 : decode cX1_around 65 = .ok (.iinc 6 1, 3) := by decide +kernel
theorem dX1_around_68 : decode cX1_around 68 = .ok (.goto (-23), 3) := by decide +kernel
theorem dX1_around_71 : decode cX1_around 71 = .ok (.iload 5, 2) := by decide +kernel
theorem dX1_around_73 : decode cX1_around 73 = .ok (.ireturn, 1) := by decide +kernel
set_option maxRecDepth 20000 in
theorem ggX1_ring_X1_isKey : GoodIn wsX1_ring wsX1_isKey := goodIn_r _ [5, 6, 7, 4, 8] (by decide +kernel) (by decide +kernel)
set_option maxRecDepth 20000 in
theorem gX1_ring_X1_isKey : GoodIn wsX1_ring (va_wsS RX1 30 yX1_isKey wsX1_isKey) := goodIn_app (goodIn_of _ (by decide +kernel)) ggX1_ring_X1_isKey
set_option maxRecDepth 20000 in
theorem ggX1_ring_X1_within : GoodIn wsX1_ring wsX1_within := goodIn_r _ [8] (by decide +kernel) (by decide +kernel)
set_option maxRecDepth 20000 in
theorem gX1_ring_X1_within : GoodIn wsX1_ring (va_wsS RX1 34 yX1_within wsX1_within) := goodIn_app (goodIn_of _ (by decide +kernel)) ggX1_ring_X1_within
set_option maxRecDepth 20000 in
theorem ggX1_ring_X0_stepsApart : GoodIn wsX1_ring wsX0_stepsApart := goodIn_r _ [13, 14, 15, 16, 17, 18, 19, 20, 21, 22, 23, 12, 24, 25, 26, 4, 27, 28, 29, 30, 31, 37, 38] (by decide +kernel) (by decide +kernel)
set_option maxRecDepth 20000 in
theorem gX1_ring_X0_stepsApart : GoodIn wsX1_ring (wsV RX1 52 RX0 yX0_stepsApart wsX0_stepsApart) := goodIn_app (goodIn_of _ (by decide +kernel)) ggX1_ring_X0_stepsApart
theorem dX1_ring_0 : decode cX1_ring 0 = .ok (.iload_n 1, 1) := by decide +kernel
theorem dX1_ring_1 : decode cX1_ring 1 = .ok (.invokestatic 30, 3) := by decide +kernel
theorem dX1_ring_4 : decode cX1_ring 4 = .ok (.ifCond .eq 13, 3) := by decide +kernel
theorem dX1_ring_7 : decode cX1_ring 7 = .ok (.iload_n 2, 1) := by decide +kernel
theorem dX1_ring_8 : decode cX1_ring 8 = .ok (.iconst 0, 1) := by decide +kernel
theorem dX1_ring_9 : decode cX1_ring 9 = .ok (.bipush 70, 2) := by decide +kernel
theorem dX1_ring_11 : decode cX1_ring 11 = .ok (.invokestatic 34, 3) := by decide +kernel
theorem dX1_ring_14 : decode cX1_ring 14 = .ok (.ifCond .ne 6, 3) := by decide +kernel
theorem dX1_ring_17 : decode cX1_ring 17 = .ok (.bipush (-2), 2) := by decide +kernel
theorem dX1_ring_19 : decode cX1_ring 19 = .ok (.ireturn, 1) := by decide +kernel
theorem dX1_ring_20 : decode cX1_ring 20 = .ok (.iconst 0, 1) := by decide +kernel
theorem dX1_ring_21 : decode cX1_ring 21 = .ok (.istore_n 3, 1) := by decide +kernel
theorem dX1_ring_22 : decode cX1_ring 22 = .ok (.iconst 0, 1) := by decide +kernel
theorem dX1_ring_23 : decode cX1_ring 23 = .ok (.istore 4, 2) := by decide +kernel
theorem dX1_ring_25 : decode cX1_ring 25 = .ok (.iload 4, 2) := by decide +kernel
theorem dX1_ring_27 : decode cX1_ring 27 = .ok (.sipush 2401, 3) := by decide +kernel
theorem dX1_ring_30 : decode cX1_ring 30 = .ok (.if_icmp .ge 26, 3) := by decide +kernel
theorem dX1_ring_33 : decode cX1_ring 33 = .ok (.aload_n 0, 1) := by decide +kernel
theorem dX1_ring_34 : decode cX1_ring 34 = .ok (.getfield 10, 3) := by decide +kernel
theorem dX1_ring_37 : decode cX1_ring 37 = .ok (.iload_n 1, 1) := by decide +kernel
theorem dX1_ring_38 : decode cX1_ring 38 = .ok (.iload 4, 2) := by decide +kernel
theorem dX1_ring_40 : decode cX1_ring 40 = .ok (.invokevirtual 52, 3) := by decide +kernel
theorem dX1_ring_43 : decode cX1_ring 43 = .ok (.iload_n 2, 1) := by decide +kernel
theorem dX1_ring_44 : decode cX1_ring 44 = .ok (.if_icmp .ne 6, 3) := by decide +kernel
theorem dX1_ring_47 : decode cX1_ring 47 = .ok (.iinc 3 1, 3) := by decide +kernel
theorem dX1_ring_50 : decode cX1_ring 50 = .ok (.iinc 4 1, 3) := by decide +kernel
theorem dX1_ring_53 : decode cX1_ring 53 = .ok (.goto (-28), 3) := by decide +kernel
theorem dX1_ring_56 : decode cX1_ring 56 = .ok (.iload_n 3, 1) := by decide +kernel
theorem dX1_ring_57 : decode cX1_ring 57 = .ok (.ireturn, 1) := by decide +kernel
set_option maxRecDepth 20000 in
theorem ggX1_put_X1_isSlot : GoodIn wsX1_put wsX1_isSlot := goodIn_r _ [4, 5, 6, 3, 7] (by decide +kernel) (by decide +kernel)
set_option maxRecDepth 20000 in
theorem gX1_put_X1_isSlot : GoodIn wsX1_put (va_wsS RX1 74 yX1_isSlot wsX1_isSlot) := goodIn_app (goodIn_of _ (by decide +kernel)) ggX1_put_X1_isSlot
set_option maxRecDepth 20000 in
theorem ggX1_put_X1_isKey : GoodIn wsX1_put wsX1_isKey := goodIn_r _ [10, 5, 6, 3, 7] (by decide +kernel) (by decide +kernel)
set_option maxRecDepth 20000 in
theorem gX1_put_X1_isKey : GoodIn wsX1_put (va_wsS RX1 30 yX1_isKey wsX1_isKey) := goodIn_app (goodIn_of _ (by decide +kernel)) ggX1_put_X1_isKey
set_option maxRecDepth 20000 in
theorem ggX1_put_X1_isLevel : GoodIn wsX1_put wsX1_isLevel := goodIn_r _ [13, 5, 6, 3, 7] (by decide +kernel) (by decide +kernel)
set_option maxRecDepth 20000 in
theorem gX1_put_X1_isLevel : GoodIn wsX1_put (va_wsS RX1 55 yX1_isLevel wsX1_isLevel) := goodIn_app (goodIn_of _ (by decide +kernel)) ggX1_put_X1_isLevel
set_option maxRecDepth 20000 in
theorem ggX1_put_X1_within : GoodIn wsX1_put wsX1_within := goodIn_r _ [7] (by decide +kernel) (by decide +kernel)
set_option maxRecDepth 20000 in
theorem gX1_put_X1_within : GoodIn wsX1_put (va_wsS RX1 34 yX1_within wsX1_within) := goodIn_app (goodIn_of _ (by decide +kernel)) ggX1_put_X1_within
set_option maxRecDepth 20000 in
theorem ggX1_put_X1_patchOf : GoodIn wsX1_put wsX1_patchOf := goodIn_r _ [16, 17, 18, 3, 19] (by decide +kernel) (by decide +kernel)
set_option maxRecDepth 20000 in
theorem gX1_put_X1_patchOf : GoodIn wsX1_put (va_wsS RX1 58 yX1_patchOf wsX1_patchOf) := goodIn_app (goodIn_of _ (by decide +kernel)) ggX1_put_X1_patchOf
set_option maxRecDepth 20000 in
theorem ggX1_put_X1_patchSize : GoodIn wsX1_put wsX1_patchSize := goodIn_r _ [19] (by decide +kernel) (by decide +kernel)
set_option maxRecDepth 20000 in
theorem gX1_put_X1_patchSize : GoodIn wsX1_put (va_wsS RX1 67 yX1_patchSize wsX1_patchSize) := goodIn_app (goodIn_of _ (by decide +kernel)) ggX1_put_X1_patchSize
set_option maxRecDepth 20000 in
theorem ggX1_put_X1_place : GoodIn wsX1_put wsX1_place := goodIn_r _ [23, 24, 33, 34, 35, 36, 37] (by decide +kernel) (by decide +kernel)
set_option maxRecDepth 20000 in
theorem gX1_put_X1_place : GoodIn wsX1_put (wsV RX1 77 RX1 yX1_place wsX1_place) := goodIn_app (goodIn_of _ (by decide +kernel)) ggX1_put_X1_place
set_option maxRecDepth 20000 in
theorem ggX1_put_X1_sizeOf : GoodIn wsX1_put wsX1_sizeOf := goodIn_r _ [28, 29, 30, 31, 3, 32, 24, 33, 34, 35, 36, 37] (by decide +kernel) (by decide +kernel)
set_option maxRecDepth 20000 in
theorem gX1_put_X1_sizeOf : GoodIn wsX1_put (wsV RX1 81 RX1 yX1_sizeOf wsX1_sizeOf) := goodIn_app (goodIn_of _ (by decide +kernel)) ggX1_put_X1_sizeOf
theorem dX1_put_0 : decode cX1_put 0 = .ok (.iload_n 1, 1) := by decide +kernel
theorem dX1_put_1 : decode cX1_put 1 = .ok (.invokestatic 74, 3) := by decide +kernel
theorem dX1_put_4 : decode cX1_put 4 = .ok (.ifCond .ne 5, 3) := by decide +kernel
theorem dX1_put_7 : decode cX1_put 7 = .ok (.iconst (-1), 1) := by decide +kernel
theorem dX1_put_8 : decode cX1_put 8 = .ok (.ireturn, 1) := by decide +kernel
theorem dX1_put_9 : decode cX1_put 9 = .ok (.iload_n 2, 1) := by decide +kernel
theorem dX1_put_10 : decode cX1_put 10 = .ok (.invokestatic 30, 3) := by decide +kernel
theorem dX1_put_13 : decode cX1_put 13 = .ok (.ifCond .eq 20, 3) := by decide +kernel
theorem dX1_put_16 : decode cX1_put 16 = .ok (.iload_n 3, 1) := by decide +kernel
theorem dX1_put_17 : decode cX1_put 17 = .ok (.invokestatic 55, 3) := by decide +kernel
theorem dX1_put_20 : decode cX1_put 20 = .ok (.ifCond .eq 13, 3) := by decide +kernel
theorem dX1_put_23 : decode cX1_put 23 = .ok (.iload 4, 2) := by decide +kernel
theorem dX1_put_25 : decode cX1_put 25 = .ok (.iconst 0, 1) := by decide +kernel
theorem dX1_put_26 : decode cX1_put 26 = .ok (.iconst 1, 1) := by decide +kernel
theorem dX1_put_27 : decode cX1_put 27 = .ok (.invokestatic 34, 3) := by decide +kernel
theorem dX1_put_30 : decode cX1_put 30 = .ok (.ifCond .ne 6, 3) := by decide +kernel
theorem dX1_put_33 : decode cX1_put 33 = .ok (.bipush (-2), 2) := by decide +kernel
theorem dX1_put_35 : decode cX1_put 35 = .ok (.ireturn, 1) := by decide +kernel
theorem dX1_put_36 : decode cX1_put 36 = .ok (.iload_n 2, 1) := by decide +kernel
theorem dX1_put_37 : decode cX1_put 37 = .ok (.iload_n 3, 1) := by decide +kernel
theorem dX1_put_38 : decode cX1_put 38 = .ok (.invokestatic 58, 3) := by decide +kernel
theorem dX1_put_41 : decode cX1_put 41 = .ok (.istore 5, 2) := by decide +kernel
theorem dX1_put_43 : decode cX1_put 43 = .ok (.iload 5, 2) := by decide +kernel
theorem dX1_put_45 : decode cX1_put 45 = .ok (.iload_n 3, 1) := by decide +kernel
theorem dX1_put_46 : decode cX1_put 46 = .ok (.invokestatic 67, 3) := by decide +kernel
theorem dX1_put_49 : decode cX1_put 49 = .ok (.iadd, 1) := by decide +kernel
theorem dX1_put_50 : decode cX1_put 50 = .ok (.istore 6, 2) := by decide +kernel
theorem dX1_put_52 : decode cX1_put 52 = .ok (.iload 5, 2) := by decide +kernel
theorem dX1_put_54 : decode cX1_put 54 = .ok (.istore 7, 2) := by decide +kernel
theorem dX1_put_56 : decode cX1_put 56 = .ok (.iload 7, 2) := by decide +kernel
theorem dX1_put_58 : decode cX1_put 58 = .ok (.iload 6, 2) := by decide +kernel
theorem dX1_put_60 : decode cX1_put 60 = .ok (.if_icmp .ge 27, 3) := by decide +kernel
theorem dX1_put_63 : decode cX1_put 63 = .ok (.aload_n 0, 1) := by decide +kernel
theorem dX1_put_64 : decode cX1_put 64 = .ok (.iload_n 1, 1) := by decide +kernel
theorem dX1_put_65 : decode cX1_put 65 = .ok (.iload 7, 2) := by decide +kernel
theorem dX1_put_67 : decode cX1_put 67 = .ok (.iload 4, 2) := by decide +kernel
theorem dX1_put_69 : decode cX1_put 69 = .ok (.iconst 1, 1) := by decide +kernel
theorem dX1_put_70 : decode cX1_put 70 = .ok (.if_icmp .ne 7, 3) := by decide +kernel
theorem dX1_put_73 : decode cX1_put 73 = .ok (.iconst 1, 1) := by decide +kernel
theorem dX1_put_74 : decode cX1_put 74 = .ok (.goto 4, 3) := by decide +kernel
theorem dX1_put_77 : decode cX1_put 77 = .ok (.iconst 0, 1) := by decide +kernel
theorem dX1_put_78 : decode cX1_put 78 = .ok (.invokevirtual 77, 3) := by decide +kernel
theorem dX1_put_81 : decode cX1_put 81 = .ok (.iinc 7 1, 3) := by decide +kernel
theorem dX1_put_84 : decode cX1_put 84 = .ok (.goto (-28), 3) := by decide +kernel
theorem dX1_put_87 : decode cX1_put 87 = .ok (.aload_n 0, 1) := by decide +kernel
theorem dX1_put_88 : decode cX1_put 88 = .ok (.iload_n 1, 1) := by decide +kernel
theorem dX1_put_89 : decode cX1_put 89 = .ok (.invokevirtual 81, 3) := by decide +kernel
theorem dX1_put_92 : decode cX1_put 92 = .ok (.ireturn, 1) := by decide +kernel
set_option maxRecDepth 20000 in
theorem ggX1_disk_X1_isSlot : GoodIn wsX1_disk wsX1_isSlot := goodIn_r _ [5, 6, 7, 4, 8] (by decide +kernel) (by decide +kernel)
set_option maxRecDepth 20000 in
theorem gX1_disk_X1_isSlot : GoodIn wsX1_disk (va_wsS RX1 74 yX1_isSlot wsX1_isSlot) := goodIn_app (goodIn_of _ (by decide +kernel)) ggX1_disk_X1_isSlot
set_option maxRecDepth 20000 in
theorem ggX1_disk_X1_isKey : GoodIn wsX1_disk wsX1_isKey := goodIn_r _ [11, 6, 7, 4, 8] (by decide +kernel) (by decide +kernel)
set_option maxRecDepth 20000 in
theorem gX1_disk_X1_isKey : GoodIn wsX1_disk (va_wsS RX1 30 yX1_isKey wsX1_isKey) := goodIn_app (goodIn_of _ (by decide +kernel)) ggX1_disk_X1_isKey
set_option maxRecDepth 20000 in
theorem ggX1_disk_X1_within : GoodIn wsX1_disk wsX1_within := goodIn_r _ [8] (by decide +kernel) (by decide +kernel)
set_option maxRecDepth 20000 in
theorem gX1_disk_X1_within : GoodIn wsX1_disk (va_wsS RX1 34 yX1_within wsX1_within) := goodIn_app (goodIn_of _ (by decide +kernel)) ggX1_disk_X1_within
set_option maxRecDepth 20000 in
theorem ggX1_disk_X0_stepsApart : GoodIn wsX1_disk wsX0_stepsApart := goodIn_r _ [16, 17, 18, 19, 20, 21, 22, 23, 24, 25, 26, 15, 27, 28, 29, 4, 30, 31, 32, 33, 34, 53, 54] (by decide +kernel) (by decide +kernel)
set_option maxRecDepth 20000 in
theorem gX1_disk_X0_stepsApart : GoodIn wsX1_disk (wsV RX1 52 RX0 yX0_stepsApart wsX0_stepsApart) := goodIn_app (goodIn_of _ (by decide +kernel)) ggX1_disk_X0_stepsApart
set_option maxRecDepth 20000 in
theorem ggX1_disk_X1_place : GoodIn wsX1_disk wsX1_place := goodIn_r _ [38, 39, 48, 49, 50, 51, 52] (by decide +kernel) (by decide +kernel)
set_option maxRecDepth 20000 in
theorem gX1_disk_X1_place : GoodIn wsX1_disk (wsV RX1 77 RX1 yX1_place wsX1_place) := goodIn_app (goodIn_of _ (by decide +kernel)) ggX1_disk_X1_place
set_option maxRecDepth 20000 in
theorem ggX1_disk_X1_sizeOf : GoodIn wsX1_disk wsX1_sizeOf := goodIn_r _ [43, 44, 45, 46, 4, 47, 39, 48, 49, 50, 51, 52] (by decide +kernel) (by decide +kernel)
set_option maxRecDepth 20000 in
theorem gX1_disk_X1_sizeOf : GoodIn wsX1_disk (wsV RX1 81 RX1 yX1_sizeOf wsX1_sizeOf) := goodIn_app (goodIn_of _ (by decide +kernel)) ggX1_disk_X1_sizeOf
theorem dX1_disk_0 : decode cX1_disk 0 = .ok (.iload_n 1, 1) := by decide +kernel
theorem dX1_disk_1 : decode cX1_disk 1 = .ok (.invokestatic 74, 3) := by decide +kernel
theorem dX1_disk_4 : decode cX1_disk 4 = .ok (.ifCond .ne 5, 3) := by decide +kernel
theorem dX1_disk_7 : decode cX1_disk 7 = .ok (.iconst (-1), 1) := by decide +kernel
theorem dX1_disk_8 : decode cX1_disk 8 = .ok (.ireturn, 1) := by decide +kernel
theorem dX1_disk_9 : decode cX1_disk 9 = .ok (.iload_n 2, 1) := by decide +kernel
theorem dX1_disk_10 : decode cX1_disk 10 = .ok (.invokestatic 30, 3) := by decide +kernel
theorem dX1_disk_13 : decode cX1_disk 13 = .ok (.ifCond .eq 13, 3) := by decide +kernel
theorem dX1_disk_16 : decode cX1_disk 16 = .ok (.iload_n 3, 1) := by decide +kernel
theorem dX1_disk_17 : decode cX1_disk 17 = .ok (.iconst 0, 1) := by decide +kernel
theorem dX1_disk_18 : decode cX1_disk 18 = .ok (.bipush 70, 2) := by decide +kernel
theorem dX1_disk_20 : decode cX1_disk 20 = .ok (.invokestatic 34, 3) := by decide +kernel
theorem dX1_disk_23 : decode cX1_disk 23 = .ok (.ifCond .ne 6, 3) := by decide +kernel
theorem dX1_disk_26 : decode cX1_disk 26 = .ok (.bipush (-2), 2) := by decide +kernel
theorem dX1_disk_28 : decode cX1_disk 28 = .ok (.ireturn, 1) := by decide +kernel
theorem dX1_disk_29 : decode cX1_disk 29 = .ok (.iconst 0, 1) := by decide +kernel
theorem dX1_disk_30 : decode cX1_disk 30 = .ok (.istore 4, 2) := by decide +kernel
theorem dX1_disk_32 : decode cX1_disk 32 = .ok (.iload 4, 2) := by decide +kernel
theorem dX1_disk_34 : decode cX1_disk 34 = .ok (.sipush 2401, 3) := by decide +kernel
theorem dX1_disk_37 : decode cX1_disk 37 = .ok (.if_icmp .ge 35, 3) := by decide +kernel
theorem dX1_disk_40 : decode cX1_disk 40 = .ok (.aload_n 0, 1) := by decide +kernel
theorem dX1_disk_41 : decode cX1_disk 41 = .ok (.iload_n 1, 1) := by decide +kernel
theorem dX1_disk_42 : decode cX1_disk 42 = .ok (.iload 4, 2) := by decide +kernel
theorem dX1_disk_44 : decode cX1_disk 44 = .ok (.aload_n 0, 1) := by decide +kernel
theorem dX1_disk_45 : decode cX1_disk 45 = .ok (.getfield 10, 3) := by decide +kernel
theorem dX1_disk_48 : decode cX1_disk 48 = .ok (.iload_n 2, 1) := by decide +kernel
theorem dX1_disk_49 : decode cX1_disk 49 = .ok (.iload 4, 2) := by decide +kernel
theorem dX1_disk_51 : decode cX1_disk 51 = .ok (.invokevirtual 52, 3) := by decide +kernel
theorem dX1_disk_54 : decode cX1_disk 54 = .ok (.iload_n 3, 1) := by decide +kernel
theorem dX1_disk_55 : decode cX1_disk 55 = .ok (.if_icmp .gt 7, 3) := by decide +kernel
theorem dX1_disk_58 : decode cX1_disk 58 = .ok (.iconst 1, 1) := by decide +kernel
theorem dX1_disk_59 : decode cX1_disk 59 = .ok (.goto 4, 3) := by decide +kernel
theorem dX1_disk_62 : decode cX1_disk 62 = .ok (.iconst 0, 1) := by decide +kernel
theorem dX1_disk_63 : decode cX1_disk 63 = .ok (.invokevirtual 77, 3) := by decide +kernel
theorem dX1_disk_66 : decode cX1_disk 66 = .ok (.iinc 4 1, 3) := by decide +kernel
theorem dX1_disk_69 : decode cX1_disk 69 = .ok (.goto (-37), 3) := by decide +kernel
theorem dX1_disk_72 : decode cX1_disk 72 = .ok (.aload_n 0, 1) := by decide +kernel
theorem dX1_disk_73 : decode cX1_disk 73 = .ok (.iload_n 1, 1) := by decide +kernel
theorem dX1_disk_74 : decode cX1_disk 74 = .ok (.invokevirtual 81, 3) := by decide +kernel
theorem dX1_disk_77 : decode cX1_disk 77 = .ok (.ireturn, 1) := by decide +kernel
set_option maxRecDepth 20000 in
theorem ggX1_join_X1_isSlot : GoodIn wsX1_join wsX1_isSlot := goodIn_r _ [4, 5, 6, 3, 7] (by decide +kernel) (by decide +kernel)
set_option maxRecDepth 20000 in
theorem gX1_join_X1_isSlot : GoodIn wsX1_join (va_wsS RX1 74 yX1_isSlot wsX1_isSlot) := goodIn_app (goodIn_of _ (by decide +kernel)) ggX1_join_X1_isSlot
set_option maxRecDepth 20000 in
theorem ggX1_join_X1_within : GoodIn wsX1_join wsX1_within := goodIn_r _ [7] (by decide +kernel) (by decide +kernel)
set_option maxRecDepth 20000 in
theorem gX1_join_X1_within : GoodIn wsX1_join (va_wsS RX1 34 yX1_within wsX1_within) := goodIn_app (goodIn_of _ (by decide +kernel)) ggX1_join_X1_within
set_option maxRecDepth 20000 in
theorem ggX1_join_X1_holds : GoodIn wsX1_join wsX1_holds := goodIn_r _ [11, 12, 24, 25, 26, 27, 28] (by decide +kernel) (by decide +kernel)
set_option maxRecDepth 20000 in
theorem gX1_join_X1_holds : GoodIn wsX1_join (wsV RX1 84 RX1 yX1_holds wsX1_holds) := goodIn_app (goodIn_of _ (by decide +kernel)) ggX1_join_X1_holds
set_option maxRecDepth 20000 in
theorem ggX1_join_X1_joined : GoodIn wsX1_join wsX1_joined := goodIn_r _ [15] (by decide +kernel) (by decide +kernel)
set_option maxRecDepth 20000 in
theorem gX1_join_X1_joined : GoodIn wsX1_join (va_wsS RX1 88 yX1_joined wsX1_joined) := goodIn_app (goodIn_of _ (by decide +kernel)) ggX1_join_X1_joined
set_option maxRecDepth 20000 in
theorem ggX1_join_X1_place : GoodIn wsX1_join wsX1_place := goodIn_r _ [19, 12, 24, 25, 26, 27, 28] (by decide +kernel) (by decide +kernel)
set_option maxRecDepth 20000 in
theorem gX1_join_X1_place : GoodIn wsX1_join (wsV RX1 77 RX1 yX1_place wsX1_place) := goodIn_app (goodIn_of _ (by decide +kernel)) ggX1_join_X1_place
set_option maxRecDepth 20000 in
theorem ggX1_join_X1_sizeOf : GoodIn wsX1_join wsX1_sizeOf := goodIn_r _ [23, 8, 9, 10, 3, 11, 12, 24, 25, 26, 27, 28] (by decide +kernel) (by decide +kernel)
set_option maxRecDepth 20000 in
theorem gX1_join_X1_sizeOf : GoodIn wsX1_join (wsV RX1 81 RX1 yX1_sizeOf wsX1_sizeOf) := goodIn_app (goodIn_of _ (by decide +kernel)) ggX1_join_X1_sizeOf
theorem dX1_join_0 : decode cX1_join 0 = .ok (.iload_n 1, 1) := by decide +kernel
theorem dX1_join_1 : decode cX1_join 1 = .ok (.invokestatic 74, 3) := by decide +kernel
theorem dX1_join_4 : decode cX1_join 4 = .ok (.ifCond .eq 17, 3) := by decide +kernel
theorem dX1_join_7 : decode cX1_join 7 = .ok (.iload_n 2, 1) := by decide +kernel
theorem dX1_join_8 : decode cX1_join 8 = .ok (.invokestatic 74, 3) := by decide +kernel
theorem dX1_join_11 : decode cX1_join 11 = .ok (.ifCond .eq 10, 3) := by decide +kernel
theorem dX1_join_14 : decode cX1_join 14 = .ok (.iload_n 3, 1) := by decide +kernel
theorem dX1_join_15 : decode cX1_join 15 = .ok (.invokestatic 74, 3) := by decide +kernel
theorem dX1_join_18 : decode cX1_join 18 = .ok (.ifCond .ne 5, 3) := by decide +kernel
theorem dX1_join_21 : decode cX1_join 21 = .ok (.iconst (-1), 1) := by decide +kernel
theorem dX1_join_22 : decode cX1_join 22 = .ok (.ireturn, 1) := by decide +kernel
theorem dX1_join_23 : decode cX1_join 23 = .ok (.iload 4, 2) := by decide +kernel
theorem dX1_join_25 : decode cX1_join 25 = .ok (.iconst 0, 1) := by decide +kernel
theorem dX1_join_26 : decode cX1_join 26 = .ok (.iconst 3, 1) := by decide +kernel
theorem dX1_join_27 : decode cX1_join 27 = .ok (.invokestatic 34, 3) := by decide +kernel
theorem dX1_join_30 : decode cX1_join 30 = .ok (.ifCond .ne 6, 3) := by decide +kernel
theorem dX1_join_33 : decode cX1_join 33 = .ok (.bipush (-2), 2) := by decide +kernel
theorem dX1_join_35 : decode cX1_join 35 = .ok (.ireturn, 1) := by decide +kernel
theorem dX1_join_36 : decode cX1_join 36 = .ok (.iconst 0, 1) := by decide +kernel
theorem dX1_join_37 : decode cX1_join 37 = .ok (.istore 5, 2) := by decide +kernel
theorem dX1_join_39 : decode cX1_join 39 = .ok (.iload 5, 2) := by decide +kernel
theorem dX1_join_41 : decode cX1_join 41 = .ok (.sipush 2401, 3) := by decide +kernel
theorem dX1_join_44 : decode cX1_join 44 = .ok (.if_icmp .ge 35, 3) := by decide +kernel
theorem dX1_join_47 : decode cX1_join 47 = .ok (.aload_n 0, 1) := by decide +kernel
theorem dX1_join_48 : decode cX1_join 48 = .ok (.iload_n 1, 1) := by decide +kernel
theorem dX1_join_49 : decode cX1_join 49 = .ok (.iload 5, 2) := by decide +kernel
theorem dX1_join_51 : decode cX1_join 51 = .ok (.aload_n 0, 1) := by decide +kernel
theorem dX1_join_52 : decode cX1_join 52 = .ok (.iload_n 2, 1) := by decide +kernel
theorem dX1_join_53 : decode cX1_join 53 = .ok (.iload 5, 2) := by decide +kernel
theorem dX1_join_55 : decode cX1_join 55 = .ok (.invokevirtual 84, 3) := by decide +kernel
theorem dX1_join_58 : decode cX1_join 58 = .ok (.aload_n 0, 1) := by decide +kernel
theorem dX1_join_59 : decode cX1_join 59 = .ok (.iload_n 3, 1) := by decide +kernel
theorem dX1_join_60 : decode cX1_join 60 = .ok (.iload 5, 2) := by decide +kernel
theorem dX1_join_62 : decode cX1_join 62 = .ok (.invokevirtual 84, 3) := by decide +kernel
theorem dX1_join_65 : decode cX1_join 65 = .ok (.iload 4, 2) := by decide +kernel
theorem dX1_join_67 : decode cX1_join 67 = .ok (.invokestatic 88, 3) := by decide +kernel
theorem dX1_join_70 : decode cX1_join 70 = .ok (.invokevirtual 77, 3) := by decide +kernel
theorem dX1_join_73 : decode cX1_join 73 = .ok (.iinc 5 1, 3) := by decide +kernel
theorem dX1_join_76 : decode cX1_join 76 = .ok (.goto (-37), 3) := by decide +kernel
theorem dX1_join_79 : decode cX1_join 79 = .ok (.aload_n 0, 1) := by decide +kernel
theorem dX1_join_80 : decode cX1_join 80 = .ok (.iload_n 1, 1) := by decide +kernel
theorem dX1_join_81 : decode cX1_join 81 = .ok (.invokevirtual 81, 3) := by decide +kernel
theorem dX1_join_84 : decode cX1_join 84 = .ok (.ireturn, 1) := by decide +kernel
set_option maxRecDepth 20000 in
theorem ggX1_grow_X1_isSlot : GoodIn wsX1_grow wsX1_isSlot := goodIn_r _ [5, 6, 7, 4, 8] (by decide +kernel) (by decide +kernel)
set_option maxRecDepth 20000 in
theorem gX1_grow_X1_isSlot : GoodIn wsX1_grow (va_wsS RX1 74 yX1_isSlot wsX1_isSlot) := goodIn_app (goodIn_of _ (by decide +kernel)) ggX1_grow_X1_isSlot
set_option maxRecDepth 20000 in
theorem ggX1_grow_X1_isOfOrNextTo : GoodIn wsX1_grow wsX1_isOfOrNextTo := goodIn_r _ [12, 13, 14, 15, 4, 16, 17, 18, 19, 20, 21, 22, 23, 24, 25, 26, 27, 28, 29, 30, 31, 32, 45, 46, 47, 48, 49, 50, 51] (by decide +kernel) (by decide +kernel)
set_option maxRecDepth 20000 in
theorem gX1_grow_X1_isOfOrNextTo : GoodIn wsX1_grow (wsV RX1 92 RX1 yX1_isOfOrNextTo wsX1_isOfOrNextTo) := goodIn_app (goodIn_of _ (by decide +kernel)) ggX1_grow_X1_isOfOrNextTo
set_option maxRecDepth 20000 in
theorem ggX1_grow_X1_isDeepIn : GoodIn wsX1_grow wsX1_isDeepIn := goodIn_r _ [36, 13, 14, 15, 4, 16, 17, 18, 19, 20, 21, 22, 23, 24, 25, 26, 27, 28, 29, 30, 31, 32, 45, 46, 47, 48, 49, 50, 51] (by decide +kernel) (by decide +kernel)
set_option maxRecDepth 20000 in
theorem gX1_grow_X1_isDeepIn : GoodIn wsX1_grow (wsV RX1 95 RX1 yX1_isDeepIn wsX1_isDeepIn) := goodIn_app (goodIn_of _ (by decide +kernel)) ggX1_grow_X1_isDeepIn
set_option maxRecDepth 20000 in
theorem ggX1_grow_X1_place : GoodIn wsX1_grow wsX1_place := goodIn_r _ [40, 17, 45, 46, 47, 48, 49] (by decide +kernel) (by decide +kernel)
set_option maxRecDepth 20000 in
theorem gX1_grow_X1_place : GoodIn wsX1_grow (wsV RX1 77 RX1 yX1_place wsX1_place) := goodIn_app (goodIn_of _ (by decide +kernel)) ggX1_grow_X1_place
set_option maxRecDepth 20000 in
theorem ggX1_grow_X1_sizeOf : GoodIn wsX1_grow wsX1_sizeOf := goodIn_r _ [44, 13, 14, 15, 4, 16, 17, 45, 46, 47, 48, 49] (by decide +kernel) (by decide +kernel)
set_option maxRecDepth 20000 in
theorem gX1_grow_X1_sizeOf : GoodIn wsX1_grow (wsV RX1 81 RX1 yX1_sizeOf wsX1_sizeOf) := goodIn_app (goodIn_of _ (by decide +kernel)) ggX1_grow_X1_sizeOf
theorem dX1_grow_0 : decode cX1_grow 0 = .ok (.iload_n 1, 1) := by decide +kernel
theorem dX1_grow_1 : decode cX1_grow 1 = .ok (.invokestatic 74, 3) := by decide +kernel
theorem dX1_grow_4 : decode cX1_grow 4 = .ok (.ifCond .eq 10, 3) := by decide +kernel
theorem dX1_grow_7 : decode cX1_grow 7 = .ok (.iload_n 2, 1) := by decide +kernel
theorem dX1_grow_8 : decode cX1_grow 8 = .ok (.invokestatic 74, 3) := by decide +kernel
theorem dX1_grow_11 : decode cX1_grow 11 = .ok (.ifCond .ne 5, 3) := by decide +kernel
theorem dX1_grow_14 : decode cX1_grow 14 = .ok (.iconst (-1), 1) := by decide +kernel
theorem dX1_grow_15 : decode cX1_grow 15 = .ok (.ireturn, 1) := by decide +kernel
theorem dX1_grow_16 : decode cX1_grow 16 = .ok (.iload_n 3, 1) := by decide +kernel
theorem dX1_grow_17 : decode cX1_grow 17 = .ok (.iconst 1, 1) := by decide +kernel
theorem dX1_grow_18 : decode cX1_grow 18 = .ok (.if_icmp .eq 11, 3) := by decide +kernel
theorem dX1_grow_21 : decode cX1_grow 21 = .ok (.iload_n 3, 1) := by decide +kernel
theorem dX1_grow_22 : decode cX1_grow 22 = .ok (.iconst (-1), 1) := by decide +kernel
theorem dX1_grow_23 : decode cX1_grow 23 = .ok (.if_icmp .eq 6, 3) := by decide +kernel
theorem dX1_grow_26 : decode cX1_grow 26 = .ok (.bipush (-2), 2) := by decide +kernel
theorem dX1_grow_28 : decode cX1_grow 28 = .ok (.ireturn, 1) := by decide +kernel
theorem dX1_grow_29 : decode cX1_grow 29 = .ok (.iconst 0, 1) := by decide +kernel
theorem dX1_grow_30 : decode cX1_grow 30 = .ok (.istore 4, 2) := by decide +kernel
theorem dX1_grow_32 : decode cX1_grow 32 = .ok (.iload 4, 2) := by decide +kernel
theorem dX1_grow_34 : decode cX1_grow 34 = .ok (.aload_n 0, 1) := by decide +kernel
theorem dX1_grow_35 : decode cX1_grow 35 = .ok (.getfield 24, 3) := by decide +kernel
theorem dX1_grow_38 : decode cX1_grow 38 = .ok (.arraylength, 1) := by decide +kernel
theorem dX1_grow_39 : decode cX1_grow 39 = .ok (.if_icmp .ge 50, 3) := by decide +kernel
theorem dX1_grow_42 : decode cX1_grow 42 = .ok (.iload_n 3, 1) := by decide +kernel
theorem dX1_grow_43 : decode cX1_grow 43 = .ok (.iconst 1, 1) := by decide +kernel
theorem dX1_grow_44 : decode cX1_grow 44 = .ok (.if_icmp .ne 13, 3) := by decide +kernel
theorem dX1_grow_47 : decode cX1_grow 47 = .ok (.aload_n 0, 1) := by decide +kernel
theorem dX1_grow_48 : decode cX1_grow 48 = .ok (.iload_n 2, 1) := by decide +kernel
theorem dX1_grow_49 : decode cX1_grow 49 = .ok (.iload 4, 2) := by decide +kernel
theorem dX1_grow_51 : decode cX1_grow 51 = .ok (.invokevirtual 92, 3) := by decide +kernel
theorem dX1_grow_54 : decode cX1_grow 54 = .ok (.goto 10, 3) := by decide +kernel
theorem dX1_grow_57 : decode cX1_grow 57 = .ok (.aload_n 0, 1) := by decide +kernel
theorem dX1_grow_58 : decode cX1_grow 58 = .ok (.iload_n 2, 1) := by decide +kernel
theorem dX1_grow_59 : decode cX1_grow 59 = .ok (.iload 4, 2) := by decide +kernel
theorem dX1_grow_61 : decode cX1_grow 61 = .ok (.invokevirtual 95, 3) := by decide +kernel
theorem dX1_grow_64 : decode cX1_grow 64 = .ok (.istore 5, 2) := by decide +kernel
theorem dX1_grow_66 : decode cX1_grow 66 = .ok (.aload_n 0, 1) := by decide +kernel
theorem dX1_grow_67 : decode cX1_grow 67 = .ok (.getfield 24, 3) := by decide +kernel
theorem dX1_grow_70 : decode cX1_grow 70 = .ok (.iload 4, 2) := by decide +kernel
theorem dX1_grow_72 : decode cX1_grow 72 = .ok (.iload 5, 2) := by decide +kernel
theorem dX1_grow_74 : decode cX1_grow 74 = .ok (.ifCond .eq 7, 3) := by decide +kernel
theorem dX1_grow_77 : decode cX1_grow 77 = .ok (.iconst 1, 1) := by decide +kernel
theorem dX1_grow_78 : decode cX1_grow 78 = .ok (.goto 4, 3) := by decide +kernel
theorem dX1_grow_81 : decode cX1_grow 81 = .ok (.iconst 0, 1) := by decide +kernel
theorem dX1_grow_82 : decode cX1_grow 82 = .ok (.iastore, 1) := by decide +kernel
theorem dX1_grow_83 : decode cX1_grow 83 = .ok (.iinc 4 1, 3) := by decide +kernel
theorem dX1_grow_86 : decode cX1_grow 86 = .ok (.goto (-54), 3) := by decide +kernel
theorem dX1_grow_89 : decode cX1_grow 89 = .ok (.iconst 0, 1) := by decide +kernel
theorem dX1_grow_90 : decode cX1_grow 90 = .ok (.istore 4, 2) := by decide +kernel
theorem dX1_grow_92 : decode cX1_grow 92 = .ok (.iload 4, 2) := by decide +kernel
theorem dX1_grow_94 : decode cX1_grow 94 = .ok (.aload_n 0, 1) := by decide +kernel
theorem dX1_grow_95 : decode cX1_grow 95 = .ok (.getfield 24, 3) := by decide +kernel
theorem dX1_grow_98 : decode cX1_grow 98 = .ok (.arraylength, 1) := by decide +kernel
theorem dX1_grow_99 : decode cX1_grow 99 = .ok (.if_icmp .ge 32, 3) := by decide +kernel
theorem dX1_grow_102 : decode cX1_grow 102 = .ok (.aload_n 0, 1) := by decide +kernel
theorem dX1_grow_103 : decode cX1_grow 103 = .ok (.iload_n 1, 1) := by decide +kernel
theorem dX1_grow_104 : decode cX1_grow 104 = .ok (.iload 4, 2) := by decide +kernel
theorem dX1_grow_106 : decode cX1_grow 106 = .ok (.aload_n 0, 1) := by decide +kernel
theorem dX1_grow_107 : decode cX1_grow 107 = .ok (.getfield 24, 3) := by decide +kernel
theorem dX1_grow_110 : decode cX1_grow 110 = .ok (.iload 4, 2) := by decide +kernel
theorem dX1_grow_112 : decode cX1_grow 112 = .ok (.iaload, 1) := by decide +kernel
theorem dX1_grow_113 : decode cX1_grow 113 = .ok (.iconst 1, 1) := by decide +kernel
theorem dX1_grow_114 : decode cX1_grow 114 = .ok (.if_icmp .ne 7, 3) := by decide +kernel
theorem dX1_grow_117 : decode cX1_grow 117 = .ok (.iconst 1, 1) := by decide +kernel
theorem dX1_grow_118 : decode cX1_grow 118 = .ok (.goto 4, 3) := by decide +kernel
theorem dX1_grow_121 : decode cX1_grow 121 = .ok (.iconst 0, 1) := by decide +kernel
theorem dX1_grow_122 : decode cX1_grow 122 = .ok (.invokevirtual 77, 3) := by decide +kernel
theorem dX1_grow_125 : decode cX1_grow 125 = .ok (.iinc 4 1, 3) := by decide +kernel
theorem dX1_grow_128 : decode cX1_grow 128 = .ok (.goto (-36), 3) := by decide +kernel
theorem dX1_grow_131 : decode cX1_grow 131 = .ok (.aload_n 0, 1) := by decide +kernel
theorem dX1_grow_132 : decode cX1_grow 132 = .ok (.iload_n 1, 1) := by decide +kernel
theorem dX1_grow_133 : decode cX1_grow 133 = .ok (.invokevirtual 81, 3) := by decide +kernel
theorem dX1_grow_136 : decode cX1_grow 136 = .ok (.ireturn, 1) := by decide +kernel
set_option maxRecDepth 20000 in
theorem ggX1_has_X1_isSlot : GoodIn wsX1_has wsX1_isSlot := goodIn_r _ [4, 5, 6, 3, 7] (by decide +kernel) (by decide +kernel)
set_option maxRecDepth 20000 in
theorem gX1_has_X1_isSlot : GoodIn wsX1_has (va_wsS RX1 74 yX1_isSlot wsX1_isSlot) := goodIn_app (goodIn_of _ (by decide +kernel)) ggX1_has_X1_isSlot
set_option maxRecDepth 20000 in
theorem ggX1_has_X1_isKey : GoodIn wsX1_has wsX1_isKey := goodIn_r _ [10, 5, 6, 3, 7] (by decide +kernel) (by decide +kernel)
set_option maxRecDepth 20000 in
theorem gX1_has_X1_isKey : GoodIn wsX1_has (va_wsS RX1 30 yX1_isKey wsX1_isKey) := goodIn_app (goodIn_of _ (by decide +kernel)) ggX1_has_X1_isKey
set_option maxRecDepth 20000 in
theorem ggX1_has_X1_holds : GoodIn wsX1_has wsX1_holds := goodIn_r _ [14, 15, 16, 17, 18, 19, 20] (by decide +kernel) (by decide +kernel)
set_option maxRecDepth 20000 in
theorem gX1_has_X1_holds : GoodIn wsX1_has (wsV RX1 84 RX1 yX1_holds wsX1_holds) := goodIn_app (goodIn_of _ (by decide +kernel)) ggX1_has_X1_holds
theorem dX1_has_0 : decode cX1_has 0 = .ok (.iload_n 1, 1) := by decide +kernel
theorem dX1_has_1 : decode cX1_has 1 = .ok (.invokestatic 74, 3) := by decide +kernel
theorem dX1_has_4 : decode cX1_has 4 = .ok (.ifCond .ne 5, 3) := by decide +kernel
theorem dX1_has_7 : decode cX1_has 7 = .ok (.iconst (-1), 1) := by decide +kernel
theorem dX1_has_8 : decode cX1_has 8 = .ok (.ireturn, 1) := by decide +kernel
theorem dX1_has_9 : decode cX1_has 9 = .ok (.iload_n 2, 1) := by decide +kernel
theorem dX1_has_10 : decode cX1_has 10 = .ok (.invokestatic 30, 3) := by decide +kernel
theorem dX1_has_13 : decode cX1_has 13 = .ok (.ifCond .ne 6, 3) := by decide +kernel
theorem dX1_has_16 : decode cX1_has 16 = .ok (.bipush (-2), 2) := by decide +kernel
theorem dX1_has_18 : decode cX1_has 18 = .ok (.ireturn, 1) := by decide +kernel
theorem dX1_has_19 : decode cX1_has 19 = .ok (.aload_n 0, 1) := by decide +kernel
theorem dX1_has_20 : decode cX1_has 20 = .ok (.iload_n 1, 1) := by decide +kernel
theorem dX1_has_21 : decode cX1_has 21 = .ok (.iload_n 2, 1) := by decide +kernel
theorem dX1_has_22 : decode cX1_has 22 = .ok (.invokevirtual 84, 3) := by decide +kernel
theorem dX1_has_25 : decode cX1_has 25 = .ok (.ifCond .eq 7, 3) := by decide +kernel
theorem dX1_has_28 : decode cX1_has 28 = .ok (.iconst 1, 1) := by decide +kernel
theorem dX1_has_29 : decode cX1_has 29 = .ok (.goto 4, 3) := by decide +kernel
theorem dX1_has_32 : decode cX1_has 32 = .ok (.iconst 0, 1) := by decide +kernel
theorem dX1_has_33 : decode cX1_has 33 = .ok (.ireturn, 1) := by decide +kernel
set_option maxRecDepth 20000 in
theorem ggX1_about_X1_isSlot : GoodIn wsX1_about wsX1_isSlot := goodIn_r _ [4, 5, 6, 3, 7] (by decide +kernel) (by decide +kernel)
set_option maxRecDepth 20000 in
theorem gX1_about_X1_isSlot : GoodIn wsX1_about (va_wsS RX1 74 yX1_isSlot wsX1_isSlot) := goodIn_app (goodIn_of _ (by decide +kernel)) ggX1_about_X1_isSlot
set_option maxRecDepth 20000 in
theorem ggX1_about_X1_sizeOf : GoodIn wsX1_about wsX1_sizeOf := goodIn_r _ [11, 12, 13, 14, 3, 15, 16, 105, 106, 107, 108, 109] (by decide +kernel) (by decide +kernel)
set_option maxRecDepth 20000 in
theorem gX1_about_X1_sizeOf : GoodIn wsX1_about (wsV RX1 81 RX1 yX1_sizeOf wsX1_sizeOf) := goodIn_app (goodIn_of _ (by decide +kernel)) ggX1_about_X1_sizeOf
set_option maxRecDepth 20000 in
theorem ggX1_about_X1_countPacked : GoodIn wsX1_about wsX1_countPacked := goodIn_r _ [20, 12, 13, 14, 3, 15, 16, 21, 22, 23, 24, 25, 26, 27, 28, 29, 30, 31, 32, 33, 34, 105, 106, 107, 108, 109] (by decide +kernel) (by decide +kernel)
set_option maxRecDepth 20000 in
theorem gX1_about_X1_countPacked : GoodIn wsX1_about (wsV RX1 98 RX1 yX1_countPacked wsX1_countPacked) := goodIn_app (goodIn_of _ (by decide +kernel)) ggX1_about_X1_countPacked
set_option maxRecDepth 20000 in
theorem ggX1_about_X1_borderOf : GoodIn wsX1_about wsX1_borderOf := goodIn_r _ [38, 12, 13, 14, 3, 15, 16, 39, 40, 41, 42, 43, 44, 45, 46, 47, 48, 49, 50, 51, 52, 53, 105, 106, 107, 108, 109, 110, 111] (by decide +kernel) (by decide +kernel)
set_option maxRecDepth 20000 in
theorem gX1_about_X1_borderOf : GoodIn wsX1_about (wsV RX1 101 RX1 yX1_borderOf wsX1_borderOf) := goodIn_app (goodIn_of _ (by decide +kernel)) ggX1_about_X1_borderOf
set_option maxRecDepth 20000 in
theorem ggX1_about_X1_countPieces : GoodIn wsX1_about wsX1_countPieces := goodIn_r _ [57, 58, 59, 60, 61, 62, 63, 64, 65, 3, 66, 12, 13, 14, 15, 16, 67, 68, 69, 70, 71, 52, 53, 72, 73, 74, 75, 76, 77, 78, 79, 80, 81, 82, 83, 84, 85, 86, 87, 88, 43, 44, 45, 46, 47, 48, 49, 50, 51, 105, 106, 107, 108, 109, 110, 111] (by decide +kernel) (by decide +kernel)
set_option maxRecDepth 20000 in
theorem gX1_about_X1_countPieces : GoodIn wsX1_about (wsV RX1 104 RX1 yX1_countPieces wsX1_countPieces) := goodIn_app (goodIn_of _ (by decide +kernel)) ggX1_about_X1_countPieces
set_option maxRecDepth 20000 in
theorem ggX1_about_X1_greatestPiece : GoodIn wsX1_about wsX1_greatestPiece := goodIn_r _ [92, 58, 93, 94, 95, 96, 59, 60, 61, 62, 63, 64, 65, 3, 66, 12, 13, 14, 15, 16, 67, 68, 69, 70, 71, 52, 53, 72, 73, 74, 75, 76, 77, 78, 79, 80, 81, 82, 83, 84, 85, 86, 87, 88, 43, 44, 45, 46, 47, 48, 49, 50, 51, 105, 106, 107, 108, 109, 110, 111] (by decide +kernel) (by decide +kernel)
set_option maxRecDepth 20000 in
theorem gX1_about_X1_greatestPiece : GoodIn wsX1_about (wsV RX1 107 RX1 yX1_greatestPiece wsX1_greatestPiece) := goodIn_app (goodIn_of _ (by decide +kernel)) ggX1_about_X1_greatestPiece
set_option maxRecDepth 20000 in
theorem ggX1_about_X1_leastKey : GoodIn wsX1_about wsX1_leastKey := goodIn_r _ [100, 12, 13, 14, 3, 15, 16, 105, 106, 107, 108, 109] (by decide +kernel) (by decide +kernel)
set_option maxRecDepth 20000 in
theorem gX1_about_X1_leastKey : GoodIn wsX1_about (wsV RX1 110 RX1 yX1_leastKey wsX1_leastKey) := goodIn_app (goodIn_of _ (by decide +kernel)) ggX1_about_X1_leastKey
set_option maxRecDepth 20000 in
theorem ggX1_about_X1_greatestKey : GoodIn wsX1_about wsX1_greatestKey := goodIn_r _ [104, 12, 13, 14, 3, 15, 16, 105, 106, 107, 108, 109] (by decide +kernel) (by decide +kernel)
set_option maxRecDepth 20000 in
theorem gX1_about_X1_greatestKey : GoodIn wsX1_about (wsV RX1 113 RX1 yX1_greatestKey wsX1_greatestKey) := goodIn_app (goodIn_of _ (by decide +kernel)) ggX1_about_X1_greatestKey
theorem dX1_about_0 : decode cX1_about 0 = .ok (.iload_n 1, 1) := by decide +kernel
theorem dX1_about_1 : decode cX1_about 1 = .ok (.invokestatic 74, 3) := by decide +kernel
theorem dX1_about_4 : decode cX1_about 4 = .ok (.ifCond .ne 5, 3) := by decide +kernel
theorem dX1_about_7 : decode cX1_about 7 = .ok (.iconst (-1), 1) := by decide +kernel
theorem dX1_about_8 : decode cX1_about 8 = .ok (.ireturn, 1) := by decide +kernel
theorem dX1_about_9 : decode cX1_about 9 = .ok (.iload_n 2, 1) := by decide +kernel
theorem dX1_about_10 : decode cX1_about 10 = .ok (.tableswitch 84 0 6 #[42, 48, 54, 60, 66, 72, 78], 42) := by decide +kernel
theorem dX1_about_52 : decode cX1_about 52 = .ok (.aload_n 0, 1) := by decide +kernel
theorem dX1_about_53 : decode cX1_about 53 = .ok (.iload_n 1, 1) := by decide +kernel
theorem dX1_about_54 : decode cX1_about 54 = .ok (.invokevirtual 81, 3) := by decide +kernel
theorem dX1_about_57 : decode cX1_about 57 = .ok (.ireturn, 1) := by decide +kernel
theorem dX1_about_58 : decode cX1_about 58 = .ok (.aload_n 0, 1) := by decide +kernel
theorem dX1_about_59 : decode cX1_about 59 = .ok (.iload_n 1, 1) := by decide +kernel
theorem dX1_about_60 : decode cX1_about 60 = .ok (.invokevirtual 98, 3) := by decide +kernel
theorem dX1_about_63 : decode cX1_about 63 = .ok (.ireturn, 1) := by decide +kernel
theorem dX1_about_64 : decode cX1_about 64 = .ok (.aload_n 0, 1) := by decide +kernel
theorem dX1_about_65 : decode cX1_about 65 = .ok (.iload_n 1, 1) := by decide +kernel
theorem dX1_about_66 : decode cX1_about 66 = .ok (.invokevirtual 101, 3) := by decide +kernel
theorem dX1_about_69 : decode cX1_about 69 = .ok (.ireturn, 1) := by decide +kernel
theorem dX1_about_70 : decode cX1_about 70 = .ok (.aload_n 0, 1) := by decide +kernel
theorem dX1_about_71 : decode cX1_about 71 = .ok (.iload_n 1, 1) := by decide +kernel
theorem dX1_about_72 : decode cX1_about 72 = .ok (.invokevirtual 104, 3) := by decide +kernel
theorem dX1_about_75 : decode cX1_about 75 = .ok (.ireturn, 1) := by decide +kernel
theorem dX1_about_76 : decode cX1_about 76 = .ok (.aload_n 0, 1) := by decide +kernel
theorem dX1_about_77 : decode cX1_about 77 = .ok (.iload_n 1, 1) := by decide +kernel
theorem dX1_about_78 : decode cX1_about 78 = .ok (.invokevirtual 107, 3) := by decide +kernel
theorem dX1_about_81 : decode cX1_about 81 = .ok (.ireturn, 1) := by decide +kernel
theorem dX1_about_82 : decode cX1_about 82 = .ok (.aload_n 0, 1) := by decide +kernel
theorem dX1_about_83 : decode cX1_about 83 = .ok (.iload_n 1, 1) := by decide +kernel
theorem dX1_about_84 : decode cX1_about 84 = .ok (.invokevirtual 110, 3) := by decide +kernel
theorem dX1_about_87 : decode cX1_about 87 = .ok (.ireturn, 1) := by decide +kernel
theorem dX1_about_88 : decode cX1_about 88 = .ok (.aload_n 0, 1) := by decide +kernel
theorem dX1_about_89 : decode cX1_about 89 = .ok (.iload_n 1, 1) := by decide +kernel
theorem dX1_about_90 : decode cX1_about 90 = .ok (.invokevirtual 113, 3) := by decide +kernel
theorem dX1_about_93 : decode cX1_about 93 = .ok (.ireturn, 1) := by decide +kernel
theorem dX1_about_94 : decode cX1_about 94 = .ok (.bipush (-2), 2) := by decide +kernel
theorem dX1_about_96 : decode cX1_about 96 = .ok (.ireturn, 1) := by decide +kernel
set_option maxRecDepth 20000 in
theorem ggX1_packed_X1_isSlot : GoodIn wsX1_packed wsX1_isSlot := goodIn_r _ [4, 5, 6, 3, 7] (by decide +kernel) (by decide +kernel)
set_option maxRecDepth 20000 in
theorem gX1_packed_X1_isSlot : GoodIn wsX1_packed (va_wsS RX1 74 yX1_isSlot wsX1_isSlot) := goodIn_app (goodIn_of _ (by decide +kernel)) ggX1_packed_X1_isSlot
set_option maxRecDepth 20000 in
theorem ggX1_packed_X1_within : GoodIn wsX1_packed wsX1_within := goodIn_r _ [7] (by decide +kernel) (by decide +kernel)
set_option maxRecDepth 20000 in
theorem gX1_packed_X1_within : GoodIn wsX1_packed (va_wsS RX1 34 yX1_within wsX1_within) := goodIn_app (goodIn_of _ (by decide +kernel)) ggX1_packed_X1_within
set_option maxRecDepth 20000 in
theorem ggX1_packed_X1_packedKey : GoodIn wsX1_packed wsX1_packedKey := goodIn_r _ [11, 12, 13, 14, 3, 15, 16, 17, 18, 19, 20, 21, 22, 23, 24, 25, 26, 27, 28, 29, 30, 31, 32, 33, 34, 35] (by decide +kernel) (by decide +kernel)
set_option maxRecDepth 20000 in
theorem gX1_packed_X1_packedKey : GoodIn wsX1_packed (wsV RX1 116 RX1 yX1_packedKey wsX1_packedKey) := goodIn_app (goodIn_of _ (by decide +kernel)) ggX1_packed_X1_packedKey
set_option maxRecDepth 20000 in
theorem ggX1_packed_X1_packedLevel : GoodIn wsX1_packed wsX1_packedLevel := goodIn_r _ [20, 21, 22, 23, 3, 24, 25, 26, 27, 28, 29, 30, 12, 13, 14, 15, 16, 31, 32, 33, 34, 35] (by decide +kernel) (by decide +kernel)
set_option maxRecDepth 20000 in
theorem gX1_packed_X1_packedLevel : GoodIn wsX1_packed (wsV RX1 119 RX1 yX1_packedLevel wsX1_packedLevel) := goodIn_app (goodIn_of _ (by decide +kernel)) ggX1_packed_X1_packedLevel
theorem dX1_packed_0 : decode cX1_packed 0 = .ok (.iload_n 1, 1) := by decide +kernel
theorem dX1_packed_1 : decode cX1_packed 1 = .ok (.invokestatic 74, 3) := by decide +kernel
theorem dX1_packed_4 : decode cX1_packed 4 = .ok (.ifCond .ne 5, 3) := by decide +kernel
theorem dX1_packed_7 : decode cX1_packed 7 = .ok (.iconst (-1), 1) := by decide +kernel
theorem dX1_packed_8 : decode cX1_packed 8 = .ok (.ireturn, 1) := by decide +kernel
theorem dX1_packed_9 : decode cX1_packed 9 = .ok (.iload_n 3, 1) := by decide +kernel
theorem dX1_packed_10 : decode cX1_packed 10 = .ok (.iconst 0, 1) := by decide +kernel
theorem dX1_packed_11 : decode cX1_packed 11 = .ok (.iconst 1, 1) := by decide +kernel
theorem dX1_packed_12 : decode cX1_packed 12 = .ok (.invokestatic 34, 3) := by decide +kernel
theorem dX1_packed_15 : decode cX1_packed 15 = .ok (.ifCond .ne 6, 3) := by decide +kernel
theorem dX1_packed_18 : decode cX1_packed 18 = .ok (.bipush (-2), 2) := by decide +kernel
theorem dX1_packed_20 : decode cX1_packed 20 = .ok (.ireturn, 1) := by decide +kernel
theorem dX1_packed_21 : decode cX1_packed 21 = .ok (.aload_n 0, 1) := by decide +kernel
theorem dX1_packed_22 : decode cX1_packed 22 = .ok (.iload_n 1, 1) := by decide +kernel
theorem dX1_packed_23 : decode cX1_packed 23 = .ok (.iload_n 2, 1) := by decide +kernel
theorem dX1_packed_24 : decode cX1_packed 24 = .ok (.invokevirtual 116, 3) := by decide +kernel
theorem dX1_packed_27 : decode cX1_packed 27 = .ok (.istore 4, 2) := by decide +kernel
theorem dX1_packed_29 : decode cX1_packed 29 = .ok (.iload 4, 2) := by decide +kernel
theorem dX1_packed_31 : decode cX1_packed 31 = .ok (.bipush (-6), 2) := by decide +kernel
theorem dX1_packed_33 : decode cX1_packed 33 = .ok (.if_icmp .eq 7, 3) := by decide +kernel
theorem dX1_packed_36 : decode cX1_packed 36 = .ok (.iload_n 3, 1) := by decide +kernel
theorem dX1_packed_37 : decode cX1_packed 37 = .ok (.ifCond .ne 6, 3) := by decide +kernel
theorem dX1_packed_40 : decode cX1_packed 40 = .ok (.iload 4, 2) := by decide +kernel
theorem dX1_packed_42 : decode cX1_packed 42 = .ok (.ireturn, 1) := by decide +kernel
theorem dX1_packed_43 : decode cX1_packed 43 = .ok (.aload_n 0, 1) := by decide +kernel
theorem dX1_packed_44 : decode cX1_packed 44 = .ok (.iload_n 1, 1) := by decide +kernel
theorem dX1_packed_45 : decode cX1_packed 45 = .ok (.iload 4, 2) := by decide +kernel
theorem dX1_packed_47 : decode cX1_packed 47 = .ok (.invokevirtual 119, 3) := by decide +kernel
theorem dX1_packed_50 : decode cX1_packed 50 = .ok (.ireturn, 1) := by decide +kernel
set_option maxRecDepth 20000 in
theorem ggX1_piece_X1_isSlot : GoodIn wsX1_piece wsX1_isSlot := goodIn_r _ [5, 6, 7, 4, 8] (by decide +kernel) (by decide +kernel)
set_option maxRecDepth 20000 in
theorem gX1_piece_X1_isSlot : GoodIn wsX1_piece (va_wsS RX1 74 yX1_isSlot wsX1_isSlot) := goodIn_app (goodIn_of _ (by decide +kernel)) ggX1_piece_X1_isSlot
set_option maxRecDepth 20000 in
theorem ggX1_piece_X1_isKey : GoodIn wsX1_piece wsX1_isKey := goodIn_r _ [11, 6, 7, 4, 8] (by decide +kernel) (by decide +kernel)
set_option maxRecDepth 20000 in
theorem gX1_piece_X1_isKey : GoodIn wsX1_piece (va_wsS RX1 30 yX1_isKey wsX1_isKey) := goodIn_app (goodIn_of _ (by decide +kernel)) ggX1_piece_X1_isKey
set_option maxRecDepth 20000 in
theorem ggX1_piece_X1_holds : GoodIn wsX1_piece wsX1_holds := goodIn_r _ [15, 16, 58, 59, 60, 61, 62] (by decide +kernel) (by decide +kernel)
set_option maxRecDepth 20000 in
theorem gX1_piece_X1_holds : GoodIn wsX1_piece (wsV RX1 84 RX1 yX1_holds wsX1_holds) := goodIn_app (goodIn_of _ (by decide +kernel)) ggX1_piece_X1_holds
set_option maxRecDepth 20000 in
theorem ggX1_piece_J7_fill_53178 : GoodIn wsX1_piece wsJ7_fill_53178 := goodIn_r _ [20] (by decide +kernel) (by decide +kernel)
set_option maxRecDepth 20000 in
theorem gX1_piece_J7_fill_53178 : GoodIn wsX1_piece (va_wsS RX1 61 yJ7_fill_53178 wsJ7_fill_53178) := goodIn_app (goodIn_of _ (by decide +kernel)) ggX1_piece_J7_fill_53178
set_option maxRecDepth 20000 in
theorem ggX1_piece_X1_startsPiece : GoodIn wsX1_piece wsX1_startsPiece := goodIn_r _ [24, 12, 13, 14, 4, 15, 16, 25, 26, 27, 28, 1, 29, 30, 31, 58, 59, 60, 61, 62] (by decide +kernel) (by decide +kernel)
set_option maxRecDepth 20000 in
theorem gX1_piece_X1_startsPiece : GoodIn wsX1_piece (wsV RX1 122 RX1 yX1_startsPiece wsX1_startsPiece) := goodIn_app (goodIn_of _ (by decide +kernel)) ggX1_piece_X1_startsPiece
set_option maxRecDepth 20000 in
theorem ggX1_piece_X1_flood : GoodIn wsX1_piece wsX1_flood := goodIn_r _ [35, 36, 37, 38, 39, 4, 40, 1, 41, 42, 43, 44, 45, 46, 47, 48, 49, 29, 30, 31, 50, 51, 52, 53, 54, 55, 56, 57, 21, 22, 23, 24, 12, 13, 14, 15, 16, 25, 26, 27, 28, 58, 59, 60, 61, 62, 63, 64] (by decide +kernel) (by decide +kernel)
set_option maxRecDepth 20000 in
theorem gX1_piece_X1_flood : GoodIn wsX1_piece (wsV RX1 125 RX1 yX1_flood wsX1_flood) := goodIn_app (goodIn_of _ (by decide +kernel)) ggX1_piece_X1_flood
set_option maxRecDepth 20000 in
theorem ggX1_piece_X1_isMarked : GoodIn wsX1_piece wsX1_isMarked := goodIn_r _ [28, 1, 29, 30, 4, 31, 58, 59, 60, 61, 62] (by decide +kernel) (by decide +kernel)
set_option maxRecDepth 20000 in
theorem gX1_piece_X1_isMarked : GoodIn wsX1_piece (wsV RX1 128 RX1 yX1_isMarked wsX1_isMarked) := goodIn_app (goodIn_of _ (by decide +kernel)) ggX1_piece_X1_isMarked
theorem dX1_piece_0 : decode cX1_piece 0 = .ok (.iload_n 1, 1) := by decide +kernel
theorem dX1_piece_1 : decode cX1_piece 1 = .ok (.invokestatic 74, 3) := by decide +kernel
theorem dX1_piece_4 : decode cX1_piece 4 = .ok (.ifCond .ne 5, 3) := by decide +kernel
theorem dX1_piece_7 : decode cX1_piece 7 = .ok (.iconst (-1), 1) := by decide +kernel
theorem dX1_piece_8 : decode cX1_piece 8 = .ok (.ireturn, 1) := by decide +kernel
theorem dX1_piece_9 : decode cX1_piece 9 = .ok (.iload_n 2, 1) := by decide +kernel
theorem dX1_piece_10 : decode cX1_piece 10 = .ok (.invokestatic 30, 3) := by decide +kernel
theorem dX1_piece_13 : decode cX1_piece 13 = .ok (.ifCond .ne 6, 3) := by decide +kernel
theorem dX1_piece_16 : decode cX1_piece 16 = .ok (.bipush (-2), 2) := by decide +kernel
theorem dX1_piece_18 : decode cX1_piece 18 = .ok (.ireturn, 1) := by decide +kernel
theorem dX1_piece_19 : decode cX1_piece 19 = .ok (.aload_n 0, 1) := by decide +kernel
theorem dX1_piece_20 : decode cX1_piece 20 = .ok (.iload_n 1, 1) := by decide +kernel
theorem dX1_piece_21 : decode cX1_piece 21 = .ok (.iload_n 2, 1) := by decide +kernel
theorem dX1_piece_22 : decode cX1_piece 22 = .ok (.invokevirtual 84, 3) := by decide +kernel
theorem dX1_piece_25 : decode cX1_piece 25 = .ok (.ifCond .ne 6, 3) := by decide +kernel
theorem dX1_piece_28 : decode cX1_piece 28 = .ok (.bipush (-6), 2) := by decide +kernel
theorem dX1_piece_30 : decode cX1_piece 30 = .ok (.ireturn, 1) := by decide +kernel
theorem dX1_piece_31 : decode cX1_piece 31 = .ok (.aload_n 0, 1) := by decide +kernel
theorem dX1_piece_32 : decode cX1_piece 32 = .ok (.getfield 24, 3) := by decide +kernel
theorem dX1_piece_35 : decode cX1_piece 35 = .ok (.iconst 0, 1) := by decide +kernel
theorem dX1_piece_36 : decode cX1_piece 36 = .ok (.invokestatic 61, 3) := by decide +kernel
theorem dX1_piece_39 : decode cX1_piece 39 = .ok (.iconst 0, 1) := by decide +kernel
theorem dX1_piece_40 : decode cX1_piece 40 = .ok (.istore_n 3, 1) := by decide +kernel
theorem dX1_piece_41 : decode cX1_piece 41 = .ok (.iconst 0, 1) := by decide +kernel
theorem dX1_piece_42 : decode cX1_piece 42 = .ok (.istore 4, 2) := by decide +kernel
theorem dX1_piece_44 : decode cX1_piece 44 = .ok (.iload 4, 2) := by decide +kernel
theorem dX1_piece_46 : decode cX1_piece 46 = .ok (.iload_n 2, 1) := by decide +kernel
theorem dX1_piece_47 : decode cX1_piece 47 = .ok (.if_icmp .ge 40, 3) := by decide +kernel
theorem dX1_piece_50 : decode cX1_piece 50 = .ok (.aload_n 0, 1) := by decide +kernel
theorem dX1_piece_51 : decode cX1_piece 51 = .ok (.iload_n 1, 1) := by decide +kernel
theorem dX1_piece_52 : decode cX1_piece 52 = .ok (.iload 4, 2) := by decide +kernel
theorem dX1_piece_54 : decode cX1_piece 54 = .ok (.invokevirtual 122, 3) := by decide +kernel
theorem dX1_piece_57 : decode cX1_piece 57 = .ok (.ifCond .eq 24, 3) := by decide +kernel
theorem dX1_piece_60 : decode cX1_piece 60 = .ok (.aload_n 0, 1) := by decide +kernel
theorem dX1_piece_61 : decode cX1_piece 61 = .ok (.iload_n 1, 1) := by decide +kernel
theorem dX1_piece_62 : decode cX1_piece 62 = .ok (.iload 4, 2) := by decide +kernel
theorem dX1_piece_64 : decode cX1_piece 64 = .ok (.invokevirtual 125, 3) := by decide +kernel
theorem dX1_piece_67 : decode cX1_piece 67 = .ok (.pop, 1) := by decide +kernel
theorem dX1_piece_68 : decode cX1_piece 68 = .ok (.aload_n 0, 1) := by decide +kernel
theorem dX1_piece_69 : decode cX1_piece 69 = .ok (.iload_n 2, 1) := by decide +kernel
theorem dX1_piece_70 : decode cX1_piece 70 = .ok (.invokevirtual 128, 3) := by decide +kernel
theorem dX1_piece_73 : decode cX1_piece 73 = .ok (.ifCond .eq 5, 3) := by decide +kernel
theorem dX1_piece_76 : decode cX1_piece 76 = .ok (.iload_n 3, 1) := by decide +kernel
theorem dX1_piece_77 : decode cX1_piece 77 = .ok (.ireturn, 1) := by decide +kernel
theorem dX1_piece_78 : decode cX1_piece 78 = .ok (.iinc 3 1, 3) := by decide +kernel
theorem dX1_piece_81 : decode cX1_piece 81 = .ok (.iinc 4 1, 3) := by decide +kernel
theorem dX1_piece_84 : decode cX1_piece 84 = .ok (.goto (-40), 3) := by decide +kernel
theorem dX1_piece_87 : decode cX1_piece 87 = .ok (.iload_n 3, 1) := by decide +kernel
theorem dX1_piece_88 : decode cX1_piece 88 = .ok (.ireturn, 1) := by decide +kernel
set_option maxRecDepth 20000 in
theorem ggX1_way_X1_isSlot : GoodIn wsX1_way wsX1_isSlot := goodIn_r _ [5, 6, 7, 4, 8] (by decide +kernel) (by decide +kernel)
set_option maxRecDepth 20000 in
theorem gX1_way_X1_isSlot : GoodIn wsX1_way (va_wsS RX1 74 yX1_isSlot wsX1_isSlot) := goodIn_app (goodIn_of _ (by decide +kernel)) ggX1_way_X1_isSlot
set_option maxRecDepth 20000 in
theorem ggX1_way_X1_isKey : GoodIn wsX1_way wsX1_isKey := goodIn_r _ [11, 6, 7, 4, 8] (by decide +kernel) (by decide +kernel)
set_option maxRecDepth 20000 in
theorem gX1_way_X1_isKey : GoodIn wsX1_way (va_wsS RX1 30 yX1_isKey wsX1_isKey) := goodIn_app (goodIn_of _ (by decide +kernel)) ggX1_way_X1_isKey
set_option maxRecDepth 20000 in
theorem ggX1_way_X1_holds : GoodIn wsX1_way wsX1_holds := goodIn_r _ [15, 16, 58, 59, 60, 61, 62] (by decide +kernel) (by decide +kernel)
set_option maxRecDepth 20000 in
theorem gX1_way_X1_holds : GoodIn wsX1_way (wsV RX1 84 RX1 yX1_holds wsX1_holds) := goodIn_app (goodIn_of _ (by decide +kernel)) ggX1_way_X1_holds
set_option maxRecDepth 20000 in
theorem ggX1_way_J7_fill_53178 : GoodIn wsX1_way wsJ7_fill_53178 := goodIn_r _ [20] (by decide +kernel) (by decide +kernel)
set_option maxRecDepth 20000 in
theorem gX1_way_J7_fill_53178 : GoodIn wsX1_way (va_wsS RX1 61 yJ7_fill_53178 wsJ7_fill_53178) := goodIn_app (goodIn_of _ (by decide +kernel)) ggX1_way_J7_fill_53178
set_option maxRecDepth 20000 in
theorem ggX1_way_X1_flood : GoodIn wsX1_way wsX1_flood := goodIn_r _ [24, 25, 26, 27, 28, 4, 29, 1, 30, 31, 32, 33, 34, 35, 36, 37, 38, 39, 40, 41, 42, 43, 44, 45, 46, 47, 48, 49, 50, 51, 52, 53, 12, 13, 14, 15, 16, 54, 55, 56, 57, 58, 59, 60, 61, 62, 63, 64] (by decide +kernel) (by decide +kernel)
set_option maxRecDepth 20000 in
theorem gX1_way_X1_flood : GoodIn wsX1_way (wsV RX1 125 RX1 yX1_flood wsX1_flood) := goodIn_app (goodIn_of _ (by decide +kernel)) ggX1_way_X1_flood
set_option maxRecDepth 20000 in
theorem ggX1_way_X1_isMarked : GoodIn wsX1_way wsX1_isMarked := goodIn_r _ [57, 1, 39, 40, 4, 41, 58, 59, 60, 61, 62] (by decide +kernel) (by decide +kernel)
set_option maxRecDepth 20000 in
theorem gX1_way_X1_isMarked : GoodIn wsX1_way (wsV RX1 128 RX1 yX1_isMarked wsX1_isMarked) := goodIn_app (goodIn_of _ (by decide +kernel)) ggX1_way_X1_isMarked
set_option maxRecDepth 20000 in
theorem ggX1_way_X1_valueAt : GoodIn wsX1_way wsX1_valueAt := goodIn_r _ [41] (by decide +kernel) (by decide +kernel)
set_option maxRecDepth 20000 in
theorem gX1_way_X1_valueAt : GoodIn wsX1_way (va_wsS RX1 131 yX1_valueAt wsX1_valueAt) := goodIn_app (goodIn_of _ (by decide +kernel)) ggX1_way_X1_valueAt
theorem dX1_way_0 : decode cX1_way 0 = .ok (.iload_n 1, 1) := by decide +kernel
theorem dX1_way_1 : decode cX1_way 1 = .ok (.invokestatic 74, 3) := by decide +kernel
theorem dX1_way_4 : decode cX1_way 4 = .ok (.ifCond .ne 5, 3) := by decide +kernel
theorem dX1_way_7 : decode cX1_way 7 = .ok (.iconst (-1), 1) := by decide +kernel
theorem dX1_way_8 : decode cX1_way 8 = .ok (.ireturn, 1) := by decide +kernel
theorem dX1_way_9 : decode cX1_way 9 = .ok (.iload_n 2, 1) := by decide +kernel
theorem dX1_way_10 : decode cX1_way 10 = .ok (.invokestatic 30, 3) := by decide +kernel
theorem dX1_way_13 : decode cX1_way 13 = .ok (.ifCond .eq 10, 3) := by decide +kernel
theorem dX1_way_16 : decode cX1_way 16 = .ok (.iload_n 3, 1) := by decide +kernel
theorem dX1_way_17 : decode cX1_way 17 = .ok (.invokestatic 30, 3) := by decide +kernel
theorem dX1_way_20 : decode cX1_way 20 = .ok (.ifCond .ne 6, 3) := by decide +kernel
theorem dX1_way_23 : decode cX1_way 23 = .ok (.bipush (-2), 2) := by decide +kernel
theorem dX1_way_25 : decode cX1_way 25 = .ok (.ireturn, 1) := by decide +kernel
theorem dX1_way_26 : decode cX1_way 26 = .ok (.aload_n 0, 1) := by decide +kernel
theorem dX1_way_27 : decode cX1_way 27 = .ok (.iload_n 1, 1) := by decide +kernel
theorem dX1_way_28 : decode cX1_way 28 = .ok (.iload_n 2, 1) := by decide +kernel
theorem dX1_way_29 : decode cX1_way 29 = .ok (.invokevirtual 84, 3) := by decide +kernel
theorem dX1_way_32 : decode cX1_way 32 = .ok (.ifCond .eq 12, 3) := by decide +kernel
theorem dX1_way_35 : decode cX1_way 35 = .ok (.aload_n 0, 1) := by decide +kernel
theorem dX1_way_36 : decode cX1_way 36 = .ok (.iload_n 1, 1) := by decide +kernel
theorem dX1_way_37 : decode cX1_way 37 = .ok (.iload_n 3, 1) := by decide +kernel
theorem dX1_way_38 : decode cX1_way 38 = .ok (.invokevirtual 84, 3) := by decide +kernel
theorem dX1_way_41 : decode cX1_way 41 = .ok (.ifCond .ne 6, 3) := by decide +kernel
theorem dX1_way_44 : decode cX1_way 44 = .ok (.bipush (-6), 2) := by decide +kernel
theorem dX1_way_46 : decode cX1_way 46 = .ok (.ireturn, 1) := by decide +kernel
theorem dX1_way_47 : decode cX1_way 47 = .ok (.aload_n 0, 1) := by decide +kernel
theorem dX1_way_48 : decode cX1_way 48 = .ok (.getfield 24, 3) := by decide +kernel
theorem dX1_way_51 : decode cX1_way 51 = .ok (.iconst 0, 1) := by decide +kernel
theorem dX1_way_52 : decode cX1_way 52 = .ok (.invokestatic 61, 3) := by decide +kernel
theorem dX1_way_55 : decode cX1_way 55 = .ok (.aload_n 0, 1) := by decide +kernel
theorem dX1_way_56 : decode cX1_way 56 = .ok (.iload_n 1, 1) := by decide +kernel
theorem dX1_way_57 : decode cX1_way 57 = .ok (.iload_n 2, 1) := by decide +kernel
theorem dX1_way_58 : decode cX1_way 58 = .ok (.invokevirtual 125, 3) := by decide +kernel
theorem dX1_way_61 : decode cX1_way 61 = .ok (.pop, 1) := by decide +kernel
theorem dX1_way_62 : decode cX1_way 62 = .ok (.aload_n 0, 1) := by decide +kernel
theorem dX1_way_63 : decode cX1_way 63 = .ok (.iload_n 3, 1) := by decide +kernel
theorem dX1_way_64 : decode cX1_way 64 = .ok (.invokevirtual 128, 3) := by decide +kernel
theorem dX1_way_67 : decode cX1_way 67 = .ok (.ifCond .eq 16, 3) := by decide +kernel
theorem dX1_way_70 : decode cX1_way 70 = .ok (.aload_n 0, 1) := by decide +kernel
theorem dX1_way_71 : decode cX1_way 71 = .ok (.getfield 24, 3) := by decide +kernel
theorem dX1_way_74 : decode cX1_way 74 = .ok (.iload_n 3, 1) := by decide +kernel
theorem dX1_way_75 : decode cX1_way 75 = .ok (.invokestatic 131, 3) := by decide +kernel
theorem dX1_way_78 : decode cX1_way 78 = .ok (.iconst 1, 1) := by decide +kernel
theorem dX1_way_79 : decode cX1_way 79 = .ok (.isub, 1) := by decide +kernel
theorem dX1_way_80 : decode cX1_way 80 = .ok (.goto 5, 3) := by decide +kernel
theorem dX1_way_83 : decode cX1_way 83 = .ok (.bipush (-6), 2) := by decide +kernel
theorem dX1_way_85 : decode cX1_way 85 = .ok (.ireturn, 1) := by decide +kernel
set_option maxRecDepth 20000 in
theorem ggX1_alike_X1_isSlot : GoodIn wsX1_alike wsX1_isSlot := goodIn_r _ [4, 5, 6, 3, 7] (by decide +kernel) (by decide +kernel)
set_option maxRecDepth 20000 in
theorem gX1_alike_X1_isSlot : GoodIn wsX1_alike (va_wsS RX1 74 yX1_isSlot wsX1_isSlot) := goodIn_app (goodIn_of _ (by decide +kernel)) ggX1_alike_X1_isSlot
set_option maxRecDepth 20000 in
theorem ggX1_alike_X1_holds : GoodIn wsX1_alike wsX1_holds := goodIn_r _ [11, 12, 13, 14, 15, 16, 17] (by decide +kernel) (by decide +kernel)
set_option maxRecDepth 20000 in
theorem gX1_alike_X1_holds : GoodIn wsX1_alike (wsV RX1 84 RX1 yX1_holds wsX1_holds) := goodIn_app (goodIn_of _ (by decide +kernel)) ggX1_alike_X1_holds
theorem dX1_alike_0 : decode cX1_alike 0 = .ok (.iload_n 1, 1) := by decide +kernel
theorem dX1_alike_1 : decode cX1_alike 1 = .ok (.invokestatic 74, 3) := by decide +kernel
theorem dX1_alike_4 : decode cX1_alike 4 = .ok (.ifCond .eq 10, 3) := by decide +kernel
theorem dX1_alike_7 : decode cX1_alike 7 = .ok (.iload_n 2, 1) := by decide +kernel
theorem dX1_alike_8 : decode cX1_alike 8 = .ok (.invokestatic 74, 3) := by decide +kernel
theorem dX1_alike_11 : decode cX1_alike 11 = .ok (.ifCond .ne 5, 3) := by decide +kernel
theorem dX1_alike_14 : decode cX1_alike 14 = .ok (.iconst (-1), 1) := by decide +kernel
theorem dX1_alike_15 : decode cX1_alike 15 = .ok (.ireturn, 1) := by decide +kernel
theorem dX1_alike_16 : decode cX1_alike 16 = .ok (.iconst 0, 1) := by decide +kernel
theorem dX1_alike_17 : decode cX1_alike 17 = .ok (.istore_n 3, 1) := by decide +kernel
theorem dX1_alike_18 : decode cX1_alike 18 = .ok (.iconst 0, 1) := by decide +kernel
theorem dX1_alike_19 : decode cX1_alike 19 = .ok (.istore 4, 2) := by decide +kernel
theorem dX1_alike_21 : decode cX1_alike 21 = .ok (.iconst 0, 1) := by decide +kernel
theorem dX1_alike_22 : decode cX1_alike 22 = .ok (.istore 5, 2) := by decide +kernel
theorem dX1_alike_24 : decode cX1_alike 24 = .ok (.iconst 0, 1) := by decide +kernel
theorem dX1_alike_25 : decode cX1_alike 25 = .ok (.istore 6, 2) := by decide +kernel
theorem dX1_alike_27 : decode cX1_alike 27 = .ok (.iload 6, 2) := by decide +kernel
theorem dX1_alike_29 : decode cX1_alike 29 = .ok (.sipush 2401, 3) := by decide +kernel
theorem dX1_alike_32 : decode cX1_alike 32 = .ok (.if_icmp .ge 91, 3) := by decide +kernel
theorem dX1_alike_35 : decode cX1_alike 35 = .ok (.aload_n 0, 1) := by decide +kernel
theorem dX1_alike_36 : decode cX1_alike 36 = .ok (.iload_n 1, 1) := by decide +kernel
theorem dX1_alike_37 : decode cX1_alike 37 = .ok (.iload 6, 2) := by decide +kernel
theorem dX1_alike_39 : decode cX1_alike 39 = .ok (.invokevirtual 84, 3) := by decide +kernel
theorem dX1_alike_42 : decode cX1_alike 42 = .ok (.istore 7, 2) := by decide +kernel
theorem dX1_alike_44 : decode cX1_alike 44 = .ok (.aload_n 0, 1) := by decide +kernel
theorem dX1_alike_45 : decode cX1_alike 45 = .ok (.iload_n 2, 1) := by decide +kernel
theorem dX1_alike_46 : decode cX1_alike 46 = .ok (.iload 6, 2) := by decide +kernel
theorem dX1_alike_48 : decode cX1_alike 48 = .ok (.invokevirtual 84, 3) := by decide +kernel
theorem dX1_alike_51 : decode cX1_alike 51 = .ok (.istore 8, 2) := by decide +kernel
theorem dX1_alike_53 : decode cX1_alike 53 = .ok (.iload_n 3, 1) := by decide +kernel
theorem dX1_alike_54 : decode cX1_alike 54 = .ok (.ifCond .ne 13, 3) := by decide +kernel
theorem dX1_alike_57 : decode cX1_alike 57 = .ok (.iload 7, 2) := by decide +kernel
theorem dX1_alike_59 : decode cX1_alike 59 = .ok (.ifCond .eq 12, 3) := by decide +kernel
theorem dX1_alike_62 : decode cX1_alike 62 = .ok (.iload 8, 2) := by decide +kernel
theorem dX1_alike_64 : decode cX1_alike 64 = .ok (.ifCond .ne 7, 3) := by decide +kernel
theorem dX1_alike_67 : decode cX1_alike 67 = .ok (.iconst 1, 1) := by decide +kernel
theorem dX1_alike_68 : decode cX1_alike 68 = .ok (.goto 4, 3) := by decide +kernel
theorem dX1_alike_71 : decode cX1_alike 71 = .ok (.iconst 0, 1) := by decide +kernel
theorem dX1_alike_72 : decode cX1_alike 72 = .ok (.istore_n 3, 1) := by decide +kernel
theorem dX1_alike_73 : decode cX1_alike 73 = .ok (.iload 4, 2) := by decide +kernel
theorem dX1_alike_75 : decode cX1_alike 75 = .ok (.ifCond .ne 13, 3) := by decide +kernel
theorem dX1_alike_78 : decode cX1_alike 78 = .ok (.iload 8, 2) := by decide +kernel
theorem dX1_alike_80 : decode cX1_alike 80 = .ok (.ifCond .eq 12, 3) := by decide +kernel
theorem dX1_alike_83 : decode cX1_alike 83 = .ok (.iload 7, 2) := by decide +kernel
theorem dX1_alike_85 : decode cX1_alike 85 = .ok (.ifCond .ne 7, 3) := by decide +kernel
theorem dX1_alike_88 : decode cX1_alike 88 = .ok (.iconst 1, 1) := by decide +kernel
theorem dX1_alike_89 : decode cX1_alike 89 = .ok (.goto 4, 3) := by decide +kernel
theorem dX1_alike_92 : decode cX1_alike 92 = .ok (.iconst 0, 1) := by decide +kernel
theorem dX1_alike_93 : decode cX1_alike 93 = .ok (.istore 4, 2) := by decide +kernel
theorem dX1_alike_95 : decode cX1_alike 95 = .ok (.iload 5, 2) := by decide +kernel
theorem dX1_alike_97 : decode cX1_alike 97 = .ok (.ifCond .ne 13, 3) := by decide +kernel
theorem dX1_alike_100 : decode cX1_alike 100 = .ok (.iload 7, 2) := by decide +kernel
theorem dX1_alike_102 : decode cX1_alike 102 = .ok (.ifCond .eq 12, 3) := by decide +kernel
theorem dX1_alike_105 : decode cX1_alike 105 = .ok (.iload 8, 2) := by decide +kernel
theorem dX1_alike_107 : decode cX1_alike 107 = .ok (.ifCond .eq 7, 3) := by decide +kernel
theorem dX1_alike_110 : decode cX1_alike 110 = .ok (.iconst 1, 1) := by decide +kernel
theorem dX1_alike_111 : decode cX1_alike 111 = .ok (.goto 4, 3) := by decide +kernel
theorem dX1_alike_114 : decode cX1_alike 114 = .ok (.iconst 0, 1) := by decide +kernel
theorem dX1_alike_115 : decode cX1_alike 115 = .ok (.istore 5, 2) := by decide +kernel
theorem dX1_alike_117 : decode cX1_alike 117 = .ok (.iinc 6 1, 3) := by decide +kernel
theorem dX1_alike_120 : decode cX1_alike 120 = .ok (.goto (-93), 3) := by decide +kernel
theorem dX1_alike_123 : decode cX1_alike 123 = .ok (.iload_n 3, 1) := by decide +kernel
theorem dX1_alike_124 : decode cX1_alike 124 = .ok (.ifCond .ne 14, 3) := by decide +kernel
theorem dX1_alike_127 : decode cX1_alike 127 = .ok (.iload 4, 2) := by decide +kernel
theorem dX1_alike_129 : decode cX1_alike 129 = .ok (.ifCond .eq 7, 3) := by decide +kernel
theorem dX1_alike_132 : decode cX1_alike 132 = .ok (.iconst 1, 1) := by decide +kernel
theorem dX1_alike_133 : decode cX1_alike 133 = .ok (.goto 4, 3) := by decide +kernel
theorem dX1_alike_136 : decode cX1_alike 136 = .ok (.iconst 0, 1) := by decide +kernel
theorem dX1_alike_137 : decode cX1_alike 137 = .ok (.ireturn, 1) := by decide +kernel
theorem dX1_alike_138 : decode cX1_alike 138 = .ok (.iload 4, 2) := by decide +kernel
theorem dX1_alike_140 : decode cX1_alike 140 = .ok (.ifCond .ne 5, 3) := by decide +kernel
theorem dX1_alike_143 : decode cX1_alike 143 = .ok (.iconst 2, 1) := by decide +kernel
theorem dX1_alike_144 : decode cX1_alike 144 = .ok (.ireturn, 1) := by decide +kernel
theorem dX1_alike_145 : decode cX1_alike 145 = .ok (.iload 5, 2) := by decide +kernel
theorem dX1_alike_147 : decode cX1_alike 147 = .ok (.ifCond .eq 7, 3) := by decide +kernel
theorem dX1_alike_150 : decode cX1_alike 150 = .ok (.iconst 4, 1) := by decide +kernel
theorem dX1_alike_151 : decode cX1_alike 151 = .ok (.goto 4, 3) := by decide +kernel
theorem dX1_alike_154 : decode cX1_alike 154 = .ok (.iconst 3, 1) := by decide +kernel
theorem dX1_alike_155 : decode cX1_alike 155 = .ok (.ireturn, 1) := by decide +kernel
set_option maxRecDepth 20000 in
theorem ggX1_image_X1_within : GoodIn wsX1_image wsX1_within := goodIn_r _ [6] (by decide +kernel) (by decide +kernel)
set_option maxRecDepth 20000 in
theorem gX1_image_X1_within : GoodIn wsX1_image (va_wsS RX1 34 yX1_within wsX1_within) := goodIn_app (goodIn_of _ (by decide +kernel)) ggX1_image_X1_within
set_option maxRecDepth 20000 in
theorem ggX1_image_X1_imageShift : GoodIn wsX1_image wsX1_imageShift := goodIn_r _ [9] (by decide +kernel) (by decide +kernel)
set_option maxRecDepth 20000 in
theorem gX1_image_X1_imageShift : GoodIn wsX1_image (va_wsS RX1 135 yX1_imageShift wsX1_imageShift) := goodIn_app (goodIn_of _ (by decide +kernel)) ggX1_image_X1_imageShift
theorem dX1_image_0 : decode cX1_image 0 = .ok (.iload_n 1, 1) := by decide +kernel
theorem dX1_image_1 : decode cX1_image 1 = .ok (.iconst 0, 1) := by decide +kernel
theorem dX1_image_2 : decode cX1_image 2 = .ok (.iconst 1, 1) := by decide +kernel
theorem dX1_image_3 : decode cX1_image 3 = .ok (.invokestatic 34, 3) := by decide +kernel
theorem dX1_image_6 : decode cX1_image 6 = .ok (.ifCond .ne 6, 3) := by decide +kernel
theorem dX1_image_9 : decode cX1_image 9 = .ok (.bipush (-2), 2) := by decide +kernel
theorem dX1_image_11 : decode cX1_image 11 = .ok (.ireturn, 1) := by decide +kernel
theorem dX1_image_12 : decode cX1_image 12 = .ok (.iload_n 1, 1) := by decide +kernel
theorem dX1_image_13 : decode cX1_image 13 = .ok (.invokestatic 135, 3) := by decide +kernel
theorem dX1_image_16 : decode cX1_image 16 = .ok (.istore_n 2, 1) := by decide +kernel
theorem dX1_image_17 : decode cX1_image 17 = .ok (.iconst 0, 1) := by decide +kernel
theorem dX1_image_18 : decode cX1_image 18 = .ok (.istore_n 3, 1) := by decide +kernel
theorem dX1_image_19 : decode cX1_image 19 = .ok (.iload_n 3, 1) := by decide +kernel
theorem dX1_image_20 : decode cX1_image 20 = .ok (.aload_n 0, 1) := by decide +kernel
theorem dX1_image_21 : decode cX1_image 21 = .ok (.getfield 16, 3) := by decide +kernel
theorem dX1_image_24 : decode cX1_image 24 = .ok (.arraylength, 1) := by decide +kernel
theorem dX1_image_25 : decode cX1_image 25 = .ok (.if_icmp .ge 44, 3) := by decide +kernel
theorem dX1_image_28 : decode cX1_image 28 = .ok (.aload_n 0, 1) := by decide +kernel
theorem dX1_image_29 : decode cX1_image 29 = .ok (.getfield 16, 3) := by decide +kernel
theorem dX1_image_32 : decode cX1_image 32 = .ok (.iload_n 3, 1) := by decide +kernel
theorem dX1_image_33 : decode cX1_image 33 = .ok (.iaload, 1) := by decide +kernel
theorem dX1_image_34 : decode cX1_image 34 = .ok (.bipush 15, 2) := by decide +kernel
theorem dX1_image_36 : decode cX1_image 36 = .ok (.iload_n 2, 1) := by decide +kernel
theorem dX1_image_37 : decode cX1_image 37 = .ok (.ishl, 1) := by decide +kernel
theorem dX1_image_38 : decode cX1_image 38 = .ok (.iconst (-1), 1) := by decide +kernel
theorem dX1_image_39 : decode cX1_image 39 = .ok (.ixor, 1) := by decide +kernel
theorem dX1_image_40 : decode cX1_image 40 = .ok (.iand, 1) := by decide +kernel
theorem dX1_image_41 : decode cX1_image 41 = .ok (.istore 4, 2) := by decide +kernel
theorem dX1_image_43 : decode cX1_image 43 = .ok (.aload_n 0, 1) := by decide +kernel
theorem dX1_image_44 : decode cX1_image 44 = .ok (.getfield 16, 3) := by decide +kernel
theorem dX1_image_47 : decode cX1_image 47 = .ok (.iload_n 3, 1) := by decide +kernel
theorem dX1_image_48 : decode cX1_image 48 = .ok (.iload 4, 2) := by decide +kernel
theorem dX1_image_50 : decode cX1_image 50 = .ok (.aload_n 0, 1) := by decide +kernel
theorem dX1_image_51 : decode cX1_image 51 = .ok (.getfield 16, 3) := by decide +kernel
theorem dX1_image_54 : decode cX1_image 54 = .ok (.iload_n 3, 1) := by decide +kernel
theorem dX1_image_55 : decode cX1_image 55 = .ok (.iaload, 1) := by decide +kernel
theorem dX1_image_56 : decode cX1_image 56 = .ok (.bipush 15, 2) := by decide +kernel
theorem dX1_image_58 : decode cX1_image 58 = .ok (.iand, 1) := by decide +kernel
theorem dX1_image_59 : decode cX1_image 59 = .ok (.iload_n 2, 1) := by decide +kernel
theorem dX1_image_60 : decode cX1_image 60 = .ok (.ishl, 1) := by decide +kernel
theorem dX1_image_61 : decode cX1_image 61 = .ok (.ior, 1) := by decide +kernel
theorem dX1_image_62 : decode cX1_image 62 = .ok (.iastore, 1) := by decide +kernel
theorem dX1_image_63 : decode cX1_image 63 = .ok (.iinc 3 1, 3) := by decide +kernel
theorem dX1_image_66 : decode cX1_image 66 = .ok (.goto (-47), 3) := by decide +kernel
theorem dX1_image_69 : decode cX1_image 69 = .ok (.aload_n 0, 1) := by decide +kernel
theorem dX1_image_70 : decode cX1_image 70 = .ok (.aload_n 0, 1) := by decide +kernel
theorem dX1_image_71 : decode cX1_image 71 = .ok (.getfield 20, 3) := by decide +kernel
theorem dX1_image_74 : decode cX1_image 74 = .ok (.iconst 1, 1) := by decide +kernel
theorem dX1_image_75 : decode cX1_image 75 = .ok (.iload_n 1, 1) := by decide +kernel
theorem dX1_image_76 : decode cX1_image 76 = .ok (.ishl, 1) := by decide +kernel
theorem dX1_image_77 : decode cX1_image 77 = .ok (.ior, 1) := by decide +kernel
theorem dX1_image_78 : decode cX1_image 78 = .ok (.putfield 20, 3) := by decide +kernel
theorem dX1_image_81 : decode cX1_image 81 = .ok (.iconst 1, 1) := by decide +kernel
theorem dX1_image_82 : decode cX1_image 82 = .ok (.ireturn, 1) := by decide +kernel
set_option maxRecDepth 20000 in
theorem ggX1_restore_X1_within : GoodIn wsX1_restore wsX1_within := goodIn_r _ [6] (by decide +kernel) (by decide +kernel)
set_option maxRecDepth 20000 in
theorem gX1_restore_X1_within : GoodIn wsX1_restore (va_wsS RX1 34 yX1_within wsX1_within) := goodIn_app (goodIn_of _ (by decide +kernel)) ggX1_restore_X1_within
set_option maxRecDepth 20000 in
theorem ggX1_restore_X1_imageShift : GoodIn wsX1_restore wsX1_imageShift := goodIn_r _ [9] (by decide +kernel) (by decide +kernel)
set_option maxRecDepth 20000 in
theorem gX1_restore_X1_imageShift : GoodIn wsX1_restore (va_wsS RX1 135 yX1_imageShift wsX1_imageShift) := goodIn_app (goodIn_of _ (by decide +kernel)) ggX1_restore_X1_imageShift
theorem dX1_restore_0 : decode cX1_restore 0 = .ok (.iload_n 1, 1) := by decide +kernel
theorem dX1_restore_1 : decode cX1_restore 1 = .ok (.iconst 0, 1) := by decide +kernel
theorem dX1_restore_2 : decode cX1_restore 2 = .ok (.iconst 1, 1) := by decide +kernel
theorem dX1_restore_3 : decode cX1_restore 3 = .ok (.invokestatic 34, 3) := by decide +kernel
theorem dX1_restore_6 : decode cX1_restore 6 = .ok (.ifCond .ne 6, 3) := by decide +kernel
theorem dX1_restore_9 : decode cX1_restore 9 = .ok (.bipush (-2), 2) := by decide +kernel
theorem dX1_restore_11 : decode cX1_restore 11 = .ok (.ireturn, 1) := by decide +kernel
theorem dX1_restore_12 : decode cX1_restore 12 = .ok (.aload_n 0, 1) := by decide +kernel
theorem dX1_restore_13 : decode cX1_restore 13 = .ok (.getfield 20, 3) := by decide +kernel
theorem dX1_restore_16 : decode cX1_restore 16 = .ok (.iload_n 1, 1) := by decide +kernel
theorem dX1_restore_17 : decode cX1_restore 17 = .ok (.ishr, 1) := by decide +kernel
theorem dX1_restore_18 : decode cX1_restore 18 = .ok (.iconst 1, 1) := by decide +kernel
theorem dX1_restore_19 : decode cX1_restore 19 = .ok (.iand, 1) := by decide +kernel
theorem dX1_restore_20 : decode cX1_restore 20 = .ok (.ifCond .ne 6, 3) := by decide +kernel
theorem dX1_restore_23 : decode cX1_restore 23 = .ok (.bipush (-3), 2) := by decide +kernel
theorem dX1_restore_25 : decode cX1_restore 25 = .ok (.ireturn, 1) := by decide +kernel
theorem dX1_restore_26 : decode cX1_restore 26 = .ok (.iload_n 1, 1) := by decide +kernel
theorem dX1_restore_27 : decode cX1_restore 27 = .ok (.invokestatic 135, 3) := by decide +kernel
theorem dX1_restore_30 : decode cX1_restore 30 = .ok (.istore_n 2, 1) := by decide +kernel
theorem dX1_restore_31 : decode cX1_restore 31 = .ok (.iconst 0, 1) := by decide +kernel
theorem dX1_restore_32 : decode cX1_restore 32 = .ok (.istore_n 3, 1) := by decide +kernel
theorem dX1_restore_33 : decode cX1_restore 33 = .ok (.iload_n 3, 1) := by decide +kernel
theorem dX1_restore_34 : decode cX1_restore 34 = .ok (.aload_n 0, 1) := by decide +kernel
theorem dX1_restore_35 : decode cX1_restore 35 = .ok (.getfield 16, 3) := by decide +kernel
theorem dX1_restore_38 : decode cX1_restore 38 = .ok (.arraylength, 1) := by decide +kernel
theorem dX1_restore_39 : decode cX1_restore 39 = .ok (.if_icmp .ge 36, 3) := by decide +kernel
theorem dX1_restore_42 : decode cX1_restore 42 = .ok (.aload_n 0, 1) := by decide +kernel
theorem dX1_restore_43 : decode cX1_restore 43 = .ok (.getfield 16, 3) := by decide +kernel
theorem dX1_restore_46 : decode cX1_restore 46 = .ok (.iload_n 3, 1) := by decide +kernel
theorem dX1_restore_47 : decode cX1_restore 47 = .ok (.aload_n 0, 1) := by decide +kernel
theorem dX1_restore_48 : decode cX1_restore 48 = .ok (.getfield 16, 3) := by decide +kernel
theorem dX1_restore_51 : decode cX1_restore 51 = .ok (.iload_n 3, 1) := by decide +kernel
theorem dX1_restore_52 : decode cX1_restore 52 = .ok (.iaload, 1) := by decide +kernel
theorem dX1_restore_53 : decode cX1_restore 53 = .ok (.bipush (-16), 2) := by decide +kernel
theorem dX1_restore_55 : decode cX1_restore 55 = .ok (.iand, 1) := by decide +kernel
theorem dX1_restore_56 : decode cX1_restore 56 = .ok (.aload_n 0, 1) := by decide +kernel
theorem dX1_restore_57 : decode cX1_restore 57 = .ok (.getfield 16, 3) := by decide +kernel
theorem dX1_restore_60 : decode cX1_restore 60 = .ok (.iload_n 3, 1) := by decide +kernel
theorem dX1_restore_61 : decode cX1_restore 61 = .ok (.iaload, 1) := by decide +kernel
theorem dX1_restore_62 : decode cX1_restore 62 = .ok (.iload_n 2, 1) := by decide +kernel
theorem dX1_restore_63 : decode cX1_restore 63 = .ok (.ishr, 1) := by decide +kernel
theorem dX1_restore_64 : decode cX1_restore 64 = .ok (.bipush 15, 2) := by decide +kernel
theorem dX1_restore_66 : decode cX1_restore 66 = .ok (.iand, 1) := by decide +kernel
theorem dX1_restore_67 : decode cX1_restore 67 = .ok (.ior, 1) := by decide +kernel
theorem dX1_restore_68 : decode cX1_restore 68 = .ok (.iastore, 1) := by decide +kernel
theorem dX1_restore_69 : decode cX1_restore 69 = .ok (.iinc 3 1, 3) := by decide +kernel
theorem dX1_restore_72 : decode cX1_restore 72 = .ok (.goto (-39), 3) := by decide +kernel
theorem dX1_restore_75 : decode cX1_restore 75 = .ok (.iconst 1, 1) := by decide +kernel
theorem dX1_restore_76 : decode cX1_restore 76 = .ok (.ireturn, 1) := by decide +kernel
set_option maxRecDepth 20000 in
theorem ggX1_count_X1_countHeldByAny : GoodIn wsX1_count wsX1_countHeldByAny := goodIn_r _ [6, 7, 34, 35, 36, 37, 38] (by decide +kernel) (by decide +kernel)
set_option maxRecDepth 20000 in
theorem gX1_count_X1_countHeldByAny : GoodIn wsX1_count (wsV RX1 138 RX1 yX1_countHeldByAny wsX1_countHeldByAny) := goodIn_app (goodIn_of _ (by decide +kernel)) ggX1_count_X1_countHeldByAny
set_option maxRecDepth 20000 in
theorem ggX1_count_X1_countPackedOfAll : GoodIn wsX1_count wsX1_countPackedOfAll := goodIn_r _ [11, 12, 13, 14, 5, 15, 16, 17, 18, 19, 7, 20, 21, 22, 23, 24, 25, 26, 27, 28, 29, 30, 31, 32, 33, 34, 35, 36, 37, 38] (by decide +kernel) (by decide +kernel)
set_option maxRecDepth 20000 in
theorem gX1_count_X1_countPackedOfAll : GoodIn wsX1_count (wsV RX1 142 RX1 yX1_countPackedOfAll wsX1_countPackedOfAll) := goodIn_app (goodIn_of _ (by decide +kernel)) ggX1_count_X1_countPackedOfAll
theorem dX1_count_0 : decode cX1_count 0 = .ok (.iload_n 1, 1) := by decide +kernel
theorem dX1_count_1 : decode cX1_count 1 = .ok (.tableswitch 42 0 2 #[27, 32, 37], 27) := by decide +kernel
theorem dX1_count_28 : decode cX1_count 28 = .ok (.aload_n 0, 1) := by decide +kernel
theorem dX1_count_29 : decode cX1_count 29 = .ok (.invokevirtual 138, 3) := by decide +kernel
theorem dX1_count_32 : decode cX1_count 32 = .ok (.ireturn, 1) := by decide +kernel
theorem dX1_count_33 : decode cX1_count 33 = .ok (.aload_n 0, 1) := by decide +kernel
theorem dX1_count_34 : decode cX1_count 34 = .ok (.invokevirtual 142, 3) := by decide +kernel
theorem dX1_count_37 : decode cX1_count 37 = .ok (.ireturn, 1) := by decide +kernel
theorem dX1_count_38 : decode cX1_count 38 = .ok (.aload_n 0, 1) := by decide +kernel
theorem dX1_count_39 : decode cX1_count 39 = .ok (.getfield 20, 3) := by decide +kernel
theorem dX1_count_42 : decode cX1_count 42 = .ok (.ireturn, 1) := by decide +kernel
theorem dX1_count_43 : decode cX1_count 43 = .ok (.bipush (-2), 2) := by decide +kernel
theorem dX1_count_45 : decode cX1_count 45 = .ok (.ireturn, 1) := by decide +kernel
theorem dX1_within_0 : decode cX1_within 0 = .ok (.iload_n 1, 1) := by decide +kernel
theorem dX1_within_1 : decode cX1_within 1 = .ok (.iload_n 0, 1) := by decide +kernel
theorem dX1_within_2 : decode cX1_within 2 = .ok (.if_icmp .gt 12, 3) := by decide +kernel
theorem dX1_within_5 : decode cX1_within 5 = .ok (.iload_n 0, 1) := by decide +kernel
theorem dX1_within_6 : decode cX1_within 6 = .ok (.iload_n 2, 1) := by decide +kernel
theorem dX1_within_7 : decode cX1_within 7 = .ok (.if_icmp .gt 7, 3) := by decide +kernel
theorem dX1_within_10 : decode cX1_within 10 = .ok (.iconst 1, 1) := by decide +kernel
theorem dX1_within_11 : decode cX1_within 11 = .ok (.goto 4, 3) := by decide +kernel
theorem dX1_within_14 : decode cX1_within 14 = .ok (.iconst 0, 1) := by decide +kernel
theorem dX1_within_15 : decode cX1_within 15 = .ok (.ireturn, 1) := by decide +kernel
set_option maxRecDepth 20000 in
theorem ggX1_isKey_X1_within : GoodIn wsX1_isKey wsX1_within := goodIn_r _ [4] (by decide +kernel) (by decide +kernel)
set_option maxRecDepth 20000 in
theorem gX1_isKey_X1_within : GoodIn wsX1_isKey (va_wsS RX1 34 yX1_within wsX1_within) := goodIn_app (goodIn_of _ (by decide +kernel)) ggX1_isKey_X1_within
theorem dX1_isKey_0 : decode cX1_isKey 0 = .ok (.iload_n 0, 1) := by decide +kernel
theorem dX1_isKey_1 : decode cX1_isKey 1 = .ok (.iconst 0, 1) := by decide +kernel
theorem dX1_isKey_2 : decode cX1_isKey 2 = .ok (.sipush 2400, 3) := by decide +kernel
theorem dX1_isKey_5 : decode cX1_isKey 5 = .ok (.invokestatic 34, 3) := by decide +kernel
theorem dX1_isKey_8 : decode cX1_isKey 8 = .ok (.ireturn, 1) := by decide +kernel
set_option maxRecDepth 20000 in
theorem ggX1_isLevel_X1_within : GoodIn wsX1_isLevel wsX1_within := goodIn_r _ [4] (by decide +kernel) (by decide +kernel)
set_option maxRecDepth 20000 in
theorem gX1_isLevel_X1_within : GoodIn wsX1_isLevel (va_wsS RX1 34 yX1_within wsX1_within) := goodIn_app (goodIn_of _ (by decide +kernel)) ggX1_isLevel_X1_within
theorem dX1_isLevel_0 : decode cX1_isLevel 0 = .ok (.iload_n 0, 1) := by decide +kernel
theorem dX1_isLevel_1 : decode cX1_isLevel 1 = .ok (.iconst 0, 1) := by decide +kernel
theorem dX1_isLevel_2 : decode cX1_isLevel 2 = .ok (.iconst 4, 1) := by decide +kernel
theorem dX1_isLevel_3 : decode cX1_isLevel 3 = .ok (.invokestatic 34, 3) := by decide +kernel
theorem dX1_isLevel_6 : decode cX1_isLevel 6 = .ok (.ireturn, 1) := by decide +kernel
set_option maxRecDepth 20000 in
theorem ggX1_isSlot_X1_within : GoodIn wsX1_isSlot wsX1_within := goodIn_r _ [4] (by decide +kernel) (by decide +kernel)
set_option maxRecDepth 20000 in
theorem gX1_isSlot_X1_within : GoodIn wsX1_isSlot (va_wsS RX1 34 yX1_within wsX1_within) := goodIn_app (goodIn_of _ (by decide +kernel)) ggX1_isSlot_X1_within
theorem dX1_isSlot_0 : decode cX1_isSlot 0 = .ok (.iload_n 0, 1) := by decide +kernel
theorem dX1_isSlot_1 : decode cX1_isSlot 1 = .ok (.iconst 0, 1) := by decide +kernel
theorem dX1_isSlot_2 : decode cX1_isSlot 2 = .ok (.iconst 3, 1) := by decide +kernel
theorem dX1_isSlot_3 : decode cX1_isSlot 3 = .ok (.invokestatic 34, 3) := by decide +kernel
theorem dX1_isSlot_6 : decode cX1_isSlot 6 = .ok (.ireturn, 1) := by decide +kernel
theorem dX1_valueAt_0 : decode cX1_valueAt 0 = .ok (.iconst 0, 1) := by decide +kernel
theorem dX1_valueAt_1 : decode cX1_valueAt 1 = .ok (.iload_n 1, 1) := by decide +kernel
theorem dX1_valueAt_2 : decode cX1_valueAt 2 = .ok (.if_icmp .gt 15, 3) := by decide +kernel
theorem dX1_valueAt_5 : decode cX1_valueAt 5 = .ok (.iload_n 1, 1) := by decide +kernel
theorem dX1_valueAt_6 : decode cX1_valueAt 6 = .ok (.aload_n 0, 1) := by decide +kernel
theorem dX1_valueAt_7 : decode cX1_valueAt 7 = .ok (.arraylength, 1) := by decide +kernel
theorem dX1_valueAt_8 : decode cX1_valueAt 8 = .ok (.if_icmp .ge 9, 3) := by decide +kernel
theorem dX1_valueAt_11 : decode cX1_valueAt 11 = .ok (.aload_n 0, 1) := by decide +kernel
theorem dX1_valueAt_12 : decode cX1_valueAt 12 = .ok (.iload_n 1, 1) := by decide +kernel
theorem dX1_valueAt_13 : decode cX1_valueAt 13 = .ok (.iaload, 1) := by decide +kernel
theorem dX1_valueAt_14 : decode cX1_valueAt 14 = .ok (.goto 5, 3) := by decide +kernel
theorem dX1_valueAt_17 : decode cX1_valueAt 17 = .ok (.bipush (-6), 2) := by decide +kernel
theorem dX1_valueAt_19 : decode cX1_valueAt 19 = .ok (.ireturn, 1) := by decide +kernel
theorem dX1_patchSize_0 : decode cX1_patchSize 0 = .ok (.iconst 1, 1) := by decide +kernel
theorem dX1_patchSize_1 : decode cX1_patchSize 1 = .ok (.istore_n 1, 1) := by decide +kernel
theorem dX1_patchSize_2 : decode cX1_patchSize 2 = .ok (.iconst 0, 1) := by decide +kernel
theorem dX1_patchSize_3 : decode cX1_patchSize 3 = .ok (.istore_n 2, 1) := by decide +kernel
theorem dX1_patchSize_4 : decode cX1_patchSize 4 = .ok (.iload_n 2, 1) := by decide +kernel
theorem dX1_patchSize_5 : decode cX1_patchSize 5 = .ok (.iload_n 0, 1) := by decide +kernel
theorem dX1_patchSize_6 : decode cX1_patchSize 6 = .ok (.if_icmp .ge 14, 3) := by decide +kernel
theorem dX1_patchSize_9 : decode cX1_patchSize 9 = .ok (.iload_n 1, 1) := by decide +kernel
theorem dX1_patchSize_10 : decode cX1_patchSize 10 = .ok (.bipush 7, 2) := by decide +kernel
theorem dX1_patchSize_12 : decode cX1_patchSize 12 = .ok (.imul, 1) := by decide +kernel
theorem dX1_patchSize_13 : decode cX1_patchSize 13 = .ok (.istore_n 1, 1) := by decide +kernel
theorem dX1_patchSize_14 : decode cX1_patchSize 14 = .ok (.iinc 2 1, 3) := by decide +kernel
theorem dX1_patchSize_17 : decode cX1_patchSize 17 = .ok (.goto (-13), 3) := by decide +kernel
theorem dX1_patchSize_20 : decode cX1_patchSize 20 = .ok (.iload_n 1, 1) := by decide +kernel
theorem dX1_patchSize_21 : decode cX1_patchSize 21 = .ok (.ireturn, 1) := by decide +kernel
set_option maxRecDepth 20000 in
theorem ggX1_patchOf_X1_patchSize : GoodIn wsX1_patchOf wsX1_patchSize := goodIn_r _ [4] (by decide +kernel) (by decide +kernel)
set_option maxRecDepth 20000 in
theorem gX1_patchOf_X1_patchSize : GoodIn wsX1_patchOf (va_wsS RX1 67 yX1_patchSize wsX1_patchSize) := goodIn_app (goodIn_of _ (by decide +kernel)) ggX1_patchOf_X1_patchSize
theorem dX1_patchOf_0 : decode cX1_patchOf 0 = .ok (.iload_n 0, 1) := by decide +kernel
theorem dX1_patchOf_1 : decode cX1_patchOf 1 = .ok (.istore_n 2, 1) := by decide +kernel
theorem dX1_patchOf_2 : decode cX1_patchOf 2 = .ok (.iconst 0, 1) := by decide +kernel
theorem dX1_patchOf_3 : decode cX1_patchOf 3 = .ok (.istore_n 3, 1) := by decide +kernel
theorem dX1_patchOf_4 : decode cX1_patchOf 4 = .ok (.iload_n 3, 1) := by decide +kernel
theorem dX1_patchOf_5 : decode cX1_patchOf 5 = .ok (.iload_n 1, 1) := by decide +kernel
theorem dX1_patchOf_6 : decode cX1_patchOf 6 = .ok (.if_icmp .ge 14, 3) := by decide +kernel
theorem dX1_patchOf_9 : decode cX1_patchOf 9 = .ok (.iload_n 2, 1) := by decide +kernel
theorem dX1_patchOf_10 : decode cX1_patchOf 10 = .ok (.bipush 7, 2) := by decide +kernel
theorem dX1_patchOf_12 : decode cX1_patchOf 12 = .ok (.idiv, 1) := by decide +kernel
theorem dX1_patchOf_13 : decode cX1_patchOf 13 = .ok (.istore_n 2, 1) := by decide +kernel
theorem dX1_patchOf_14 : decode cX1_patchOf 14 = .ok (.iinc 3 1, 3) := by decide +kernel
theorem dX1_patchOf_17 : decode cX1_patchOf 17 = .ok (.goto (-13), 3) := by decide +kernel
theorem dX1_patchOf_20 : decode cX1_patchOf 20 = .ok (.iload_n 2, 1) := by decide +kernel
theorem dX1_patchOf_21 : decode cX1_patchOf 21 = .ok (.iload_n 1, 1) := by decide +kernel
theorem dX1_patchOf_22 : decode cX1_patchOf 22 = .ok (.invokestatic 67, 3) := by decide +kernel
theorem dX1_patchOf_25 : decode cX1_patchOf 25 = .ok (.imul, 1) := by decide +kernel
theorem dX1_patchOf_26 : decode cX1_patchOf 26 = .ok (.ireturn, 1) := by decide +kernel
set_option maxRecDepth 20000 in
theorem ggX1_markPatchesNextTo_X0_neighbour : GoodIn wsX1_markPatchesNextTo wsX0_neighbour := goodIn_r _ [6, 7, 8, 9, 10, 11, 12, 34, 35] (by decide +kernel) (by decide +kernel)
set_option maxRecDepth 20000 in
theorem gX1_markPatchesNextTo_X0_neighbour : GoodIn wsX1_markPatchesNextTo (wsV RX1 49 RX0 yX0_neighbour wsX0_neighbour) := goodIn_app (goodIn_of _ (by decide +kernel)) ggX1_markPatchesNextTo_X0_neighbour
set_option maxRecDepth 20000 in
theorem ggX1_markPatchesNextTo_X1_patchOf : GoodIn wsX1_markPatchesNextTo wsX1_patchOf := goodIn_r _ [15, 16, 17, 11, 18] (by decide +kernel) (by decide +kernel)
set_option maxRecDepth 20000 in
theorem gX1_markPatchesNextTo_X1_patchOf : GoodIn wsX1_markPatchesNextTo (va_wsS RX1 58 yX1_patchOf wsX1_patchOf) := goodIn_app (goodIn_of _ (by decide +kernel)) ggX1_markPatchesNextTo_X1_patchOf
set_option maxRecDepth 20000 in
theorem ggX1_markPatchesNextTo_X1_isMarked : GoodIn wsX1_markPatchesNextTo wsX1_isMarked := goodIn_r _ [22, 23, 24, 10, 11, 12, 29, 30, 31, 32, 33] (by decide +kernel) (by decide +kernel)
set_option maxRecDepth 20000 in
theorem gX1_markPatchesNextTo_X1_isMarked : GoodIn wsX1_markPatchesNextTo (wsV RX1 128 RX1 yX1_isMarked wsX1_isMarked) := goodIn_app (goodIn_of _ (by decide +kernel)) ggX1_markPatchesNextTo_X1_isMarked
set_option maxRecDepth 20000 in
theorem ggX1_markPatchesNextTo_X1_mark : GoodIn wsX1_markPatchesNextTo wsX1_mark := goodIn_r _ [28, 23, 29, 30, 31, 32, 33] (by decide +kernel) (by decide +kernel)
set_option maxRecDepth 20000 in
theorem gX1_markPatchesNextTo_X1_mark : GoodIn wsX1_markPatchesNextTo (wsV RX1 145 RX1 yX1_mark wsX1_mark) := goodIn_app (goodIn_of _ (by decide +kernel)) ggX1_markPatchesNextTo_X1_mark
theorem dX1_markPatchesNextTo_0 : decode cX1_markPatchesNextTo 0 = .ok (.iconst 0, 1) := by decide +kernel
theorem dX1_markPatchesNextTo_1 : decode cX1_markPatchesNextTo 1 = .ok (.istore 4, 2) := by decide +kernel
theorem dX1_markPatchesNextTo_3 : decode cX1_markPatchesNextTo 3 = .ok (.iconst 1, 1) := by decide +kernel
theorem dX1_markPatchesNextTo_4 : decode cX1_markPatchesNextTo 4 = .ok (.istore 5, 2) := by decide +kernel
theorem dX1_markPatchesNextTo_6 : decode cX1_markPatchesNextTo 6 = .ok (.iload 5, 2) := by decide +kernel
theorem dX1_markPatchesNextTo_8 : decode cX1_markPatchesNextTo 8 = .ok (.bipush 6, 2) := by decide +kernel
theorem dX1_markPatchesNextTo_10 : decode cX1_markPatchesNextTo 10 = .ok (.if_icmp .gt 65, 3) := by decide +kernel
theorem dX1_markPatchesNextTo_13 : decode cX1_markPatchesNextTo 13 = .ok (.aload_n 0, 1) := by decide +kernel
theorem dX1_markPatchesNextTo_14 : decode cX1_markPatchesNextTo 14 = .ok (.getfield 10, 3) := by decide +kernel
theorem dX1_markPatchesNextTo_17 : decode cX1_markPatchesNextTo 17 = .ok (.iload_n 1, 1) := by decide +kernel
theorem dX1_markPatchesNextTo_18 : decode cX1_markPatchesNextTo 18 = .ok (.iload 5, 2) := by decide +kernel
theorem dX1_markPatchesNextTo_20 : decode cX1_markPatchesNextTo 20 = .ok (.invokevirtual 49, 3) := by decide +kernel
theorem dX1_markPatchesNextTo_23 : decode cX1_markPatchesNextTo 23 = .ok (.istore 6, 2) := by decide +kernel
theorem dX1_markPatchesNextTo_25 : decode cX1_markPatchesNextTo 25 = .ok (.iload 6, 2) := by decide +kernel
theorem dX1_markPatchesNextTo_27 : decode cX1_markPatchesNextTo 27 = .ok (.bipush (-6), 2) := by decide +kernel
theorem dX1_markPatchesNextTo_29 : decode cX1_markPatchesNextTo 29 = .ok (.if_icmp .ne 7, 3) := by decide +kernel
theorem dX1_markPatchesNextTo_32 : decode cX1_markPatchesNextTo 32 = .ok (.iload_n 2, 1) := by decide +kernel
theorem dX1_markPatchesNextTo_33 : decode cX1_markPatchesNextTo 33 = .ok (.goto 9, 3) := by decide +kernel
theorem dX1_markPatchesNextTo_36 : decode cX1_markPatchesNextTo 36 = .ok (.iload 6, 2) := by decide +kernel
theorem dX1_markPatchesNextTo_38 : decode cX1_markPatchesNextTo 38 = .ok (.iload_n 3, 1) := by decide +kernel
theorem dX1_markPatchesNextTo_39 : decode cX1_markPatchesNextTo 39 = .ok (.invokestatic 58, 3) := by decide +kernel
theorem dX1_markPatchesNextTo_42 : decode cX1_markPatchesNextTo 42 = .ok (.istore 7, 2) := by decide +kernel
theorem dX1_markPatchesNextTo_44 : decode cX1_markPatchesNextTo 44 = .ok (.iload 7, 2) := by decide +kernel
theorem dX1_markPatchesNextTo_46 : decode cX1_markPatchesNextTo 46 = .ok (.iload_n 2, 1) := by decide +kernel
theorem dX1_markPatchesNextTo_47 : decode cX1_markPatchesNextTo 47 = .ok (.if_icmp .eq 22, 3) := by decide +kernel
theorem dX1_markPatchesNextTo_50 : decode cX1_markPatchesNextTo 50 = .ok (.aload_n 0, 1) := by decide +kernel
theorem dX1_markPatchesNextTo_51 : decode cX1_markPatchesNextTo 51 = .ok (.iload 7, 2) := by decide +kernel
theorem dX1_markPatchesNextTo_53 : decode cX1_markPatchesNextTo 53 = .ok (.invokevirtual 128, 3) := by decide +kernel
theorem dX1_markPatchesNextTo_56 : decode cX1_markPatchesNextTo 56 = .ok (.ifCond .ne 13, 3) := by decide +kernel
theorem dX1_markPatchesNextTo_59 : decode cX1_markPatchesNextTo 59 = .ok (.aload_n 0, 1) := by decide +kernel
theorem dX1_markPatchesNextTo_60 : decode cX1_markPatchesNextTo 60 = .ok (.iload 7, 2) := by decide +kernel
theorem dX1_markPatchesNextTo_62 : decode cX1_markPatchesNextTo 62 = .ok (.iconst 1, 1) := by decide +kernel
theorem dX1_markPatchesNextTo_63 : decode cX1_markPatchesNextTo 63 = .ok (.invokevirtual 145, 3) := by decide +kernel
theorem dX1_markPatchesNextTo_66 : decode cX1_markPatchesNextTo 66 = .ok (.iinc 4 1, 3) := by decide +kernel
theorem dX1_markPatchesNextTo_69 : decode cX1_markPatchesNextTo 69 = .ok (.iinc 5 1, 3) := by decide +kernel
theorem dX1_markPatchesNextTo_72 : decode cX1_markPatchesNextTo 72 = .ok (.goto (-66), 3) := by decide +kernel
theorem dX1_markPatchesNextTo_75 : decode cX1_markPatchesNextTo 75 = .ok (.iload 4, 2) := by decide +kernel
theorem dX1_markPatchesNextTo_77 : decode cX1_markPatchesNextTo 77 = .ok (.ireturn, 1) := by decide +kernel
theorem dX1_holds_0 : decode cX1_holds 0 = .ok (.iconst 0, 1) := by decide +kernel
theorem dX1_holds_1 : decode cX1_holds 1 = .ok (.iload_n 2, 1) := by decide +kernel
theorem dX1_holds_2 : decode cX1_holds 2 = .ok (.if_icmp .gt 30, 3) := by decide +kernel
theorem dX1_holds_5 : decode cX1_holds 5 = .ok (.iload_n 2, 1) := by decide +kernel
theorem dX1_holds_6 : decode cX1_holds 6 = .ok (.aload_n 0, 1) := by decide +kernel
theorem dX1_holds_7 : decode cX1_holds 7 = .ok (.getfield 16, 3) := by decide +kernel
theorem dX1_holds_10 : decode cX1_holds 10 = .ok (.arraylength, 1) := by decide +kernel
theorem dX1_holds_11 : decode cX1_holds 11 = .ok (.if_icmp .ge 21, 3) := by decide +kernel
theorem dX1_holds_14 : decode cX1_holds 14 = .ok (.aload_n 0, 1) := by decide +kernel
theorem dX1_holds_15 : decode cX1_holds 15 = .ok (.getfield 16, 3) := by decide +kernel
theorem dX1_holds_18 : decode cX1_holds 18 = .ok (.iload_n 2, 1) := by decide +kernel
theorem dX1_holds_19 : decode cX1_holds 19 = .ok (.iaload, 1) := by decide +kernel
theorem dX1_holds_20 : decode cX1_holds 20 = .ok (.iload_n 1, 1) := by decide +kernel
theorem dX1_holds_21 : decode cX1_holds 21 = .ok (.ishr, 1) := by decide +kernel
theorem dX1_holds_22 : decode cX1_holds 22 = .ok (.iconst 1, 1) := by decide +kernel
theorem dX1_holds_23 : decode cX1_holds 23 = .ok (.iand, 1) := by decide +kernel
theorem dX1_holds_24 : decode cX1_holds 24 = .ok (.iconst 1, 1) := by decide +kernel
theorem dX1_holds_25 : decode cX1_holds 25 = .ok (.if_icmp .ne 7, 3) := by decide +kernel
theorem dX1_holds_28 : decode cX1_holds 28 = .ok (.iconst 1, 1) := by decide +kernel
theorem dX1_holds_29 : decode cX1_holds 29 = .ok (.goto 4, 3) := by decide +kernel
theorem dX1_holds_32 : decode cX1_holds 32 = .ok (.iconst 0, 1) := by decide +kernel
theorem dX1_holds_33 : decode cX1_holds 33 = .ok (.ireturn, 1) := by decide +kernel
theorem dX1_place_0 : decode cX1_place 0 = .ok (.iconst 0, 1) := by decide +kernel
theorem dX1_place_1 : decode cX1_place 1 = .ok (.iload_n 2, 1) := by decide +kernel
theorem dX1_place_2 : decode cX1_place 2 = .ok (.if_icmp .gt 47, 3) := by decide +kernel
theorem dX1_place_5 : decode cX1_place 5 = .ok (.iload_n 2, 1) := by decide +kernel
theorem dX1_place_6 : decode cX1_place 6 = .ok (.aload_n 0, 1) := by decide +kernel
theorem dX1_place_7 : decode cX1_place 7 = .ok (.getfield 16, 3) := by decide +kernel
theorem dX1_place_10 : decode cX1_place 10 = .ok (.arraylength, 1) := by decide +kernel
theorem dX1_place_11 : decode cX1_place 11 = .ok (.if_icmp .ge 38, 3) := by decide +kernel
theorem dX1_place_14 : decode cX1_place 14 = .ok (.aload_n 0, 1) := by decide +kernel
theorem dX1_place_15 : decode cX1_place 15 = .ok (.getfield 16, 3) := by decide +kernel
theorem dX1_place_18 : decode cX1_place 18 = .ok (.iload_n 2, 1) := by decide +kernel
theorem dX1_place_19 : decode cX1_place 19 = .ok (.iaload, 1) := by decide +kernel
theorem dX1_place_20 : decode cX1_place 20 = .ok (.iconst 1, 1) := by decide +kernel
theorem dX1_place_21 : decode cX1_place 21 = .ok (.iload_n 1, 1) := by decide +kernel
theorem dX1_place_22 : decode cX1_place 22 = .ok (.ishl, 1) := by decide +kernel
theorem dX1_place_23 : decode cX1_place 23 = .ok (.iconst (-1), 1) := by decide +kernel
theorem dX1_place_24 : decode cX1_place 24 = .ok (.ixor, 1) := by decide +kernel
theorem dX1_place_25 : decode cX1_place 25 = .ok (.iand, 1) := by decide +kernel
theorem dX1_place_26 : decode cX1_place 26 = .ok (.istore 4, 2) := by decide +kernel
theorem dX1_place_28 : decode cX1_place 28 = .ok (.aload_n 0, 1) := by decide +kernel
theorem dX1_place_29 : decode cX1_place 29 = .ok (.getfield 16, 3) := by decide +kernel
theorem dX1_place_32 : decode cX1_place 32 = .ok (.iload_n 2, 1) := by decide +kernel
theorem dX1_place_33 : decode cX1_place 33 = .ok (.iload_n 3, 1) := by decide +kernel
theorem dX1_place_34 : decode cX1_place 34 = .ok (.ifCond .eq 12, 3) := by decide +kernel
theorem dX1_place_37 : decode cX1_place 37 = .ok (.iload 4, 2) := by decide +kernel
theorem dX1_place_39 : decode cX1_place 39 = .ok (.iconst 1, 1) := by decide +kernel
theorem dX1_place_40 : decode cX1_place 40 = .ok (.iload_n 1, 1) := by decide +kernel
theorem dX1_place_41 : decode cX1_place 41 = .ok (.ishl, 1) := by decide +kernel
theorem dX1_place_42 : decode cX1_place 42 = .ok (.ior, 1) := by decide +kernel
theorem dX1_place_43 : decode cX1_place 43 = .ok (.goto 5, 3) := by decide +kernel
theorem dX1_place_46 : decode cX1_place 46 = .ok (.iload 4, 2) := by decide +kernel
theorem dX1_place_48 : decode cX1_place 48 = .ok (.iastore, 1) := by decide +kernel
theorem dX1_place_49 : decode cX1_place 49 = .ok (.return_, 1) := by decide +kernel
set_option maxRecDepth 20000 in
theorem ggX1_sizeOf_X1_holds : GoodIn wsX1_sizeOf wsX1_holds := goodIn_r _ [5, 6, 7, 8, 9, 10, 11] (by decide +kernel) (by decide +kernel)
set_option maxRecDepth 20000 in
theorem gX1_sizeOf_X1_holds : GoodIn wsX1_sizeOf (wsV RX1 84 RX1 yX1_holds wsX1_holds) := goodIn_app (goodIn_of _ (by decide +kernel)) ggX1_sizeOf_X1_holds
theorem dX1_sizeOf_0 : decode cX1_sizeOf 0 = .ok (.iconst 0, 1) := by decide +kernel
theorem dX1_sizeOf_1 : decode cX1_sizeOf 1 = .ok (.istore_n 2, 1) := by decide +kernel
theorem dX1_sizeOf_2 : decode cX1_sizeOf 2 = .ok (.iconst 0, 1) := by decide +kernel
theorem dX1_sizeOf_3 : decode cX1_sizeOf 3 = .ok (.istore_n 3, 1) := by decide +kernel
theorem dX1_sizeOf_4 : decode cX1_sizeOf 4 = .ok (.iload_n 3, 1) := by decide +kernel
theorem dX1_sizeOf_5 : decode cX1_sizeOf 5 = .ok (.sipush 2401, 3) := by decide +kernel
theorem dX1_sizeOf_8 : decode cX1_sizeOf 8 = .ok (.if_icmp .ge 21, 3) := by decide +kernel
theorem dX1_sizeOf_11 : decode cX1_sizeOf 11 = .ok (.aload_n 0, 1) := by decide +kernel
theorem dX1_sizeOf_12 : decode cX1_sizeOf 12 = .ok (.iload_n 1, 1) := by decide +kernel
theorem dX1_sizeOf_13 : decode cX1_sizeOf 13 = .ok (.iload_n 3, 1) := by decide +kernel
theorem dX1_sizeOf_14 : decode cX1_sizeOf 14 = .ok (.invokevirtual 84, 3) := by decide +kernel
theorem dX1_sizeOf_17 : decode cX1_sizeOf 17 = .ok (.ifCond .eq 6, 3) := by decide +kernel
theorem dX1_sizeOf_20 : decode cX1_sizeOf 20 = .ok (.iinc 2 1, 3) := by decide +kernel
theorem dX1_sizeOf_23 : decode cX1_sizeOf 23 = .ok (.iinc 3 1, 3) := by decide +kernel
theorem dX1_sizeOf_26 : decode cX1_sizeOf 26 = .ok (.goto (-22), 3) := by decide +kernel
theorem dX1_sizeOf_29 : decode cX1_sizeOf 29 = .ok (.iload_n 2, 1) := by decide +kernel
theorem dX1_sizeOf_30 : decode cX1_sizeOf 30 = .ok (.ireturn, 1) := by decide +kernel
set_option maxRecDepth 20000 in
theorem ggX1_leastKey_X1_holds : GoodIn wsX1_leastKey wsX1_holds := goodIn_r _ [5, 6, 7, 8, 9, 10, 11] (by decide +kernel) (by decide +kernel)
set_option maxRecDepth 20000 in
theorem gX1_leastKey_X1_holds : GoodIn wsX1_leastKey (wsV RX1 84 RX1 yX1_holds wsX1_holds) := goodIn_app (goodIn_of _ (by decide +kernel)) ggX1_leastKey_X1_holds
theorem dX1_leastKey_0 : decode cX1_leastKey 0 = .ok (.iconst 0, 1) := by decide +kernel
theorem dX1_leastKey_1 : decode cX1_leastKey 1 = .ok (.istore_n 2, 1) := by decide +kernel
theorem dX1_leastKey_2 : decode cX1_leastKey 2 = .ok (.iload_n 2, 1) := by decide +kernel
theorem dX1_leastKey_3 : decode cX1_leastKey 3 = .ok (.sipush 2401, 3) := by decide +kernel
theorem dX1_leastKey_6 : decode cX1_leastKey 6 = .ok (.if_icmp .ge 20, 3) := by decide +kernel
theorem dX1_leastKey_9 : decode cX1_leastKey 9 = .ok (.aload_n 0, 1) := by decide +kernel
theorem dX1_leastKey_10 : decode cX1_leastKey 10 = .ok (.iload_n 1, 1) := by decide +kernel
theorem dX1_leastKey_11 : decode cX1_leastKey 11 = .ok (.iload_n 2, 1) := by decide +kernel
theorem dX1_leastKey_12 : decode cX1_leastKey 12 = .ok (.invokevirtual 84, 3) := by decide +kernel
theorem dX1_leastKey_15 : decode cX1_leastKey 15 = .ok (.ifCond .eq 5, 3) := by decide +kernel
theorem dX1_leastKey_18 : decode cX1_leastKey 18 = .ok (.iload_n 2, 1) := by decide +kernel
theorem dX1_leastKey_19 : decode cX1_leastKey 19 = .ok (.ireturn, 1) := by decide +kernel
theorem dX1_leastKey_20 : decode cX1_leastKey 20 = .ok (.iinc 2 1, 3) := by decide +kernel
theorem dX1_leastKey_23 : decode cX1_leastKey 23 = .ok (.goto (-21), 3) := by decide +kernel
theorem dX1_leastKey_26 : decode cX1_leastKey 26 = .ok (.bipush (-6), 2) := by decide +kernel
theorem dX1_leastKey_28 : decode cX1_leastKey 28 = .ok (.ireturn, 1) := by decide +kernel
set_option maxRecDepth 20000 in
theorem ggX1_greatestKey_X1_holds : GoodIn wsX1_greatestKey wsX1_holds := goodIn_r _ [5, 6, 7, 8, 9, 10, 11] (by decide +kernel) (by decide +kernel)
set_option maxRecDepth 20000 in
theorem gX1_greatestKey_X1_holds : GoodIn wsX1_greatestKey (wsV RX1 84 RX1 yX1_holds wsX1_holds) := goodIn_app (goodIn_of _ (by decide +kernel)) ggX1_greatestKey_X1_holds
theorem dX1_greatestKey_0 : decode cX1_greatestKey 0 = .ok (.sipush 2400, 3) := by decide +kernel
theorem dX1_greatestKey_3 : decode cX1_greatestKey 3 = .ok (.istore_n 2, 1) := by decide +kernel
theorem dX1_greatestKey_4 : decode cX1_greatestKey 4 = .ok (.iload_n 2, 1) := by decide +kernel
theorem dX1_greatestKey_5 : decode cX1_greatestKey 5 = .ok (.ifCond .lt 20, 3) := by decide +kernel
theorem dX1_greatestKey_8 : decode cX1_greatestKey 8 = .ok (.aload_n 0, 1) := by decide +kernel
theorem dX1_greatestKey_9 : decode cX1_greatestKey 9 = .ok (.iload_n 1, 1) := by decide +kernel
theorem dX1_greatestKey_10 : decode cX1_greatestKey 10 = .ok (.iload_n 2, 1) := by decide +kernel
theorem dX1_greatestKey_11 : decode cX1_greatestKey 11 = .ok (.invokevirtual 84, 3) := by decide +kernel
theorem dX1_greatestKey_14 : decode cX1_greatestKey 14 = .ok (.ifCond .eq 5, 3) := by decide +kernel
theorem dX1_greatestKey_17 : decode cX1_greatestKey 17 = .ok (.iload_n 2, 1) := by decide +kernel
theorem dX1_greatestKey_18 : decode cX1_greatestKey 18 = .ok (.ireturn, 1) := by decide +kernel
theorem dX1_greatestKey_19 : decode cX1_greatestKey 19 = .ok (.iinc 2 (-1), 3) := by decide +kernel
theorem dX1_greatestKey_22 : decode cX1_greatestKey 22 = .ok (.goto (-18), 3) := by decide +kernel
theorem dX1_greatestKey_25 : decode cX1_greatestKey 25 = .ok (.bipush (-6), 2) := by decide +kernel
theorem dX1_greatestKey_27 : decode cX1_greatestKey 27 = .ok (.ireturn, 1) := by decide +kernel
theorem dX1_countHeldByAny_0 : decode cX1_countHeldByAny 0 = .ok (.iconst 0, 1) := by decide +kernel
theorem dX1_countHeldByAny_1 : decode cX1_countHeldByAny 1 = .ok (.istore_n 1, 1) := by decide +kernel
theorem dX1_countHeldByAny_2 : decode cX1_countHeldByAny 2 = .ok (.iconst 0, 1) := by decide +kernel
theorem dX1_countHeldByAny_3 : decode cX1_countHeldByAny 3 = .ok (.istore_n 2, 1) := by decide +kernel
theorem dX1_countHeldByAny_4 : decode cX1_countHeldByAny 4 = .ok (.iload_n 2, 1) := by decide +kernel
theorem dX1_countHeldByAny_5 : decode cX1_countHeldByAny 5 = .ok (.aload_n 0, 1) := by decide +kernel
theorem dX1_countHeldByAny_6 : decode cX1_countHeldByAny 6 = .ok (.getfield 16, 3) := by decide +kernel
theorem dX1_countHeldByAny_9 : decode cX1_countHeldByAny 9 = .ok (.arraylength, 1) := by decide +kernel
theorem dX1_countHeldByAny_10 : decode cX1_countHeldByAny 10 = .ok (.if_icmp .ge 24, 3) := by decide +kernel
theorem dX1_countHeldByAny_13 : decode cX1_countHeldByAny 13 = .ok (.aload_n 0, 1) := by decide +kernel
theorem dX1_countHeldByAny_14 : decode cX1_countHeldByAny 14 = .ok (.getfield 16, 3) := by decide +kernel
theorem dX1_countHeldByAny_17 : decode cX1_countHeldByAny 17 = .ok (.iload_n 2, 1) := by decide +kernel
theorem dX1_countHeldByAny_18 : decode cX1_countHeldByAny 18 = .ok (.iaload, 1) := by decide +kernel
theorem dX1_countHeldByAny_19 : decode cX1_countHeldByAny 19 = .ok (.bipush 15, 2) := by decide +kernel
theorem dX1_countHeldByAny_21 : decode cX1_countHeldByAny 21 = .ok (.iand, 1) := by decide +kernel
theorem dX1_countHeldByAny_22 : decode cX1_countHeldByAny 22 = .ok (.ifCond .eq 6, 3) := by decide +kernel
theorem dX1_countHeldByAny_25 : decode cX1_countHeldByAny 25 = .ok (.iinc 1 1, 3) := by decide +kernel
theorem dX1_countHeldByAny_28 : decode cX1_countHeldByAny 28 = .ok (.iinc 2 1, 3) := by decide +kernel
theorem dX1_countHeldByAny_31 : decode cX1_countHeldByAny 31 = .ok (.goto (-27), 3) := by decide +kernel
theorem dX1_countHeldByAny_34 : decode cX1_countHeldByAny 34 = .ok (.iload_n 1, 1) := by decide +kernel
theorem dX1_countHeldByAny_35 : decode cX1_countHeldByAny 35 = .ok (.ireturn, 1) := by decide +kernel
theorem dX1_joined_0 : decode cX1_joined 0 = .ok (.iload_n 2, 1) := by decide +kernel
theorem dX1_joined_1 : decode cX1_joined 1 = .ok (.tableswitch 69 0 2 #[27, 41, 55], 27) := by decide +kernel
theorem dX1_joined_28 : decode cX1_joined 28 = .ok (.iload_n 0, 1) := by decide +kernel
theorem dX1_joined_29 : decode cX1_joined 29 = .ok (.ifCond .ne 7, 3) := by decide +kernel
theorem dX1_joined_32 : decode cX1_joined 32 = .ok (.iload_n 1, 1) := by decide +kernel
theorem dX1_joined_33 : decode cX1_joined 33 = .ok (.ifCond .eq 7, 3) := by decide +kernel
theorem dX1_joined_36 : decode cX1_joined 36 = .ok (.iconst 1, 1) := by decide +kernel
theorem dX1_joined_37 : decode cX1_joined 37 = .ok (.goto 4, 3) := by decide +kernel
theorem dX1_joined_40 : decode cX1_joined 40 = .ok (.iconst 0, 1) := by decide +kernel
theorem dX1_joined_41 : decode cX1_joined 41 = .ok (.ireturn, 1) := by decide +kernel
theorem dX1_joined_42 : decode cX1_joined 42 = .ok (.iload_n 0, 1) := by decide +kernel
theorem dX1_joined_43 : decode cX1_joined 43 = .ok (.ifCond .eq 11, 3) := by decide +kernel
theorem dX1_joined_46 : decode cX1_joined 46 = .ok (.iload_n 1, 1) := by decide +kernel
theorem dX1_joined_47 : decode cX1_joined 47 = .ok (.ifCond .eq 7, 3) := by decide +kernel
theorem dX1_joined_50 : decode cX1_joined 50 = .ok (.iconst 1, 1) := by decide +kernel
theorem dX1_joined_51 : decode cX1_joined 51 = .ok (.goto 4, 3) := by decide +kernel
theorem dX1_joined_54 : decode cX1_joined 54 = .ok (.iconst 0, 1) := by decide +kernel
theorem dX1_joined_55 : decode cX1_joined 55 = .ok (.ireturn, 1) := by decide +kernel
theorem dX1_joined_56 : decode cX1_joined 56 = .ok (.iload_n 0, 1) := by decide +kernel
theorem dX1_joined_57 : decode cX1_joined 57 = .ok (.ifCond .eq 11, 3) := by decide +kernel
theorem dX1_joined_60 : decode cX1_joined 60 = .ok (.iload_n 1, 1) := by decide +kernel
theorem dX1_joined_61 : decode cX1_joined 61 = .ok (.ifCond .ne 7, 3) := by decide +kernel
theorem dX1_joined_64 : decode cX1_joined 64 = .ok (.iconst 1, 1) := by decide +kernel
theorem dX1_joined_65 : decode cX1_joined 65 = .ok (.goto 4, 3) := by decide +kernel
theorem dX1_joined_68 : decode cX1_joined 68 = .ok (.iconst 0, 1) := by decide +kernel
theorem dX1_joined_69 : decode cX1_joined 69 = .ok (.ireturn, 1) := by decide +kernel
theorem dX1_joined_70 : decode cX1_joined 70 = .ok (.iload_n 0, 1) := by decide +kernel
theorem dX1_joined_71 : decode cX1_joined 71 = .ok (.iload_n 1, 1) := by decide +kernel
theorem dX1_joined_72 : decode cX1_joined 72 = .ok (.if_icmp .eq 7, 3) := by decide +kernel
theorem dX1_joined_75 : decode cX1_joined 75 = .ok (.iconst 1, 1) := by decide +kernel
theorem dX1_joined_76 : decode cX1_joined 76 = .ok (.goto 4, 3) := by decide +kernel
theorem dX1_joined_79 : decode cX1_joined 79 = .ok (.iconst 0, 1) := by decide +kernel
theorem dX1_joined_80 : decode cX1_joined 80 = .ok (.ireturn, 1) := by decide +kernel
set_option maxRecDepth 20000 in
theorem ggX1_countNeighbours_X0_neighbour : GoodIn wsX1_countNeighbours wsX0_neighbour := goodIn_r _ [6, 7, 8, 9, 10, 11, 12, 23, 24] (by decide +kernel) (by decide +kernel)
set_option maxRecDepth 20000 in
theorem gX1_countNeighbours_X0_neighbour : GoodIn wsX1_countNeighbours (wsV RX1 49 RX0 yX0_neighbour wsX0_neighbour) := goodIn_app (goodIn_of _ (by decide +kernel)) ggX1_countNeighbours_X0_neighbour
set_option maxRecDepth 20000 in
theorem ggX1_countNeighbours_X1_holds : GoodIn wsX1_countNeighbours wsX1_holds := goodIn_r _ [16, 17, 18, 19, 20, 21, 22] (by decide +kernel) (by decide +kernel)
set_option maxRecDepth 20000 in
theorem gX1_countNeighbours_X1_holds : GoodIn wsX1_countNeighbours (wsV RX1 84 RX1 yX1_holds wsX1_holds) := goodIn_app (goodIn_of _ (by decide +kernel)) ggX1_countNeighbours_X1_holds
theorem dX1_countNeighbours_0 : decode cX1_countNeighbours 0 = .ok (.iconst 0, 1) := by decide +kernel
theorem dX1_countNeighbours_1 : decode cX1_countNeighbours 1 = .ok (.istore_n 3, 1) := by decide +kernel
theorem dX1_countNeighbours_2 : decode cX1_countNeighbours 2 = .ok (.iconst 1, 1) := by decide +kernel
theorem dX1_countNeighbours_3 : decode cX1_countNeighbours 3 = .ok (.istore 4, 2) := by decide +kernel
theorem dX1_countNeighbours_5 : decode cX1_countNeighbours 5 = .ok (.iload 4, 2) := by decide +kernel
theorem dX1_countNeighbours_7 : decode cX1_countNeighbours 7 = .ok (.bipush 6, 2) := by decide +kernel
theorem dX1_countNeighbours_9 : decode cX1_countNeighbours 9 = .ok (.if_icmp .gt 30, 3) := by decide +kernel
theorem dX1_countNeighbours_12 : decode cX1_countNeighbours 12 = .ok (.aload_n 0, 1) := by decide +kernel
theorem dX1_countNeighbours_13 : decode cX1_countNeighbours 13 = .ok (.iload_n 1, 1) := by decide +kernel
theorem dX1_countNeighbours_14 : decode cX1_countNeighbours 14 = .ok (.aload_n 0, 1) := by decide +kernel
theorem dX1_countNeighbours_15 : decode cX1_countNeighbours 15 = .ok (.getfield 10, 3) := by decide +kernel
theorem dX1_countNeighbours_18 : decode cX1_countNeighbours 18 = .ok (.iload_n 2, 1) := by decide +kernel
theorem dX1_countNeighbours_19 : decode cX1_countNeighbours 19 = .ok (.iload 4, 2) := by decide +kernel
theorem dX1_countNeighbours_21 : decode cX1_countNeighbours 21 = .ok (.invokevirtual 49, 3) := by decide +kernel
theorem dX1_countNeighbours_24 : decode cX1_countNeighbours 24 = .ok (.invokevirtual 84, 3) := by decide +kernel
theorem dX1_countNeighbours_27 : decode cX1_countNeighbours 27 = .ok (.ifCond .eq 6, 3) := by decide +kernel
theorem dX1_countNeighbours_30 : decode cX1_countNeighbours 30 = .ok (.iinc 3 1, 3) := by decide +kernel
theorem dX1_countNeighbours_33 : decode cX1_countNeighbours 33 = .ok (.iinc 4 1, 3) := by decide +kernel
theorem dX1_countNeighbours_36 : decode cX1_countNeighbours 36 = .ok (.goto (-31), 3) := by decide +kernel
theorem dX1_countNeighbours_39 : decode cX1_countNeighbours 39 = .ok (.iload_n 3, 1) := by decide +kernel
theorem dX1_countNeighbours_40 : decode cX1_countNeighbours 40 = .ok (.ireturn, 1) := by decide +kernel
set_option maxRecDepth 20000 in
theorem ggX1_isOfOrNextTo_X1_holds : GoodIn wsX1_isOfOrNextTo wsX1_holds := goodIn_r _ [5, 6, 22, 23, 24, 25, 26] (by decide +kernel) (by decide +kernel)
set_option maxRecDepth 20000 in
theorem gX1_isOfOrNextTo_X1_holds : GoodIn wsX1_isOfOrNextTo (wsV RX1 84 RX1 yX1_holds wsX1_holds) := goodIn_app (goodIn_of _ (by decide +kernel)) ggX1_isOfOrNextTo_X1_holds
set_option maxRecDepth 20000 in
theorem ggX1_isOfOrNextTo_X1_countNeighbours : GoodIn wsX1_isOfOrNextTo wsX1_countNeighbours := goodIn_r _ [10, 11, 12, 13, 14, 15, 16, 17, 18, 19, 20, 4, 21, 1, 2, 3, 5, 6, 22, 23, 24, 25, 26, 27, 28] (by decide +kernel) (by decide +kernel)
set_option maxRecDepth 20000 in
theorem gX1_isOfOrNextTo_X1_countNeighbours : GoodIn wsX1_isOfOrNextTo (wsV RX1 149 RX1 yX1_countNeighbours wsX1_countNeighbours) := goodIn_app (goodIn_of _ (by decide +kernel)) ggX1_isOfOrNextTo_X1_countNeighbours
theorem dX1_isOfOrNextTo_0 : decode cX1_isOfOrNextTo 0 = .ok (.aload_n 0, 1) := by decide +kernel
theorem dX1_isOfOrNextTo_1 : decode cX1_isOfOrNextTo 1 = .ok (.iload_n 1, 1) := by decide +kernel
theorem dX1_isOfOrNextTo_2 : decode cX1_isOfOrNextTo 2 = .ok (.iload_n 2, 1) := by decide +kernel
theorem dX1_isOfOrNextTo_3 : decode cX1_isOfOrNextTo 3 = .ok (.invokevirtual 84, 3) := by decide +kernel
theorem dX1_isOfOrNextTo_6 : decode cX1_isOfOrNextTo 6 = .ok (.ifCond .ne 12, 3) := by decide +kernel
theorem dX1_isOfOrNextTo_9 : decode cX1_isOfOrNextTo 9 = .ok (.aload_n 0, 1) := by decide +kernel
theorem dX1_isOfOrNextTo_10 : decode cX1_isOfOrNextTo 10 = .ok (.iload_n 1, 1) := by decide +kernel
theorem dX1_isOfOrNextTo_11 : decode cX1_isOfOrNextTo 11 = .ok (.iload_n 2, 1) := by decide +kernel
theorem dX1_isOfOrNextTo_12 : decode cX1_isOfOrNextTo 12 = .ok (.invokevirtual 149, 3) := by decide +kernel
theorem dX1_isOfOrNextTo_15 : decode cX1_isOfOrNextTo 15 = .ok (.ifCond .le 7, 3) := by decide +kernel
theorem dX1_isOfOrNextTo_18 : decode cX1_isOfOrNextTo 18 = .ok (.iconst 1, 1) := by decide +kernel
theorem dX1_isOfOrNextTo_19 : decode cX1_isOfOrNextTo 19 = .ok (.goto 4, 3) := by decide +kernel
theorem dX1_isOfOrNextTo_22 : decode cX1_isOfOrNextTo 22 = .ok (.iconst 0, 1) := by decide +kernel
theorem dX1_isOfOrNextTo_23 : decode cX1_isOfOrNextTo 23 = .ok (.ireturn, 1) := by decide +kernel
set_option maxRecDepth 20000 in
theorem ggX1_isDeepIn_X1_holds : GoodIn wsX1_isDeepIn wsX1_holds := goodIn_r _ [5, 6, 22, 23, 24, 25, 26] (by decide +kernel) (by decide +kernel)
set_option maxRecDepth 20000 in
theorem gX1_isDeepIn_X1_holds : GoodIn wsX1_isDeepIn (wsV RX1 84 RX1 yX1_holds wsX1_holds) := goodIn_app (goodIn_of _ (by decide +kernel)) ggX1_isDeepIn_X1_holds
set_option maxRecDepth 20000 in
theorem ggX1_isDeepIn_X1_countNeighbours : GoodIn wsX1_isDeepIn wsX1_countNeighbours := goodIn_r _ [10, 11, 12, 13, 14, 15, 16, 17, 18, 19, 20, 4, 21, 1, 2, 3, 5, 6, 22, 23, 24, 25, 26, 27, 28] (by decide +kernel) (by decide +kernel)
set_option maxRecDepth 20000 in
theorem gX1_isDeepIn_X1_countNeighbours : GoodIn wsX1_isDeepIn (wsV RX1 149 RX1 yX1_countNeighbours wsX1_countNeighbours) := goodIn_app (goodIn_of _ (by decide +kernel)) ggX1_isDeepIn_X1_countNeighbours
theorem dX1_isDeepIn_0 : decode cX1_isDeepIn 0 = .ok (.aload_n 0, 1) := by decide +kernel
theorem dX1_isDeepIn_1 : decode cX1_isDeepIn 1 = .ok (.iload_n 1, 1) := by decide +kernel
theorem dX1_isDeepIn_2 : decode cX1_isDeepIn 2 = .ok (.iload_n 2, 1) := by decide +kernel
theorem dX1_isDeepIn_3 : decode cX1_isDeepIn 3 = .ok (.invokevirtual 84, 3) := by decide +kernel
theorem dX1_isDeepIn_6 : decode cX1_isDeepIn 6 = .ok (.ifCond .eq 18, 3) := by decide +kernel
theorem dX1_isDeepIn_9 : decode cX1_isDeepIn 9 = .ok (.aload_n 0, 1) := by decide +kernel
theorem dX1_isDeepIn_10 : decode cX1_isDeepIn 10 = .ok (.iload_n 1, 1) := by decide +kernel
theorem dX1_isDeepIn_11 : decode cX1_isDeepIn 11 = .ok (.iload_n 2, 1) := by decide +kernel
theorem dX1_isDeepIn_12 : decode cX1_isDeepIn 12 = .ok (.invokevirtual 149, 3) := by decide +kernel
theorem dX1_isDeepIn_15 : decode cX1_isDeepIn 15 = .ok (.bipush 6, 2) := by decide +kernel
theorem dX1_isDeepIn_17 : decode cX1_isDeepIn 17 = .ok (.if_icmp .ne 7, 3) := by decide +kernel
theorem dX1_isDeepIn_20 : decode cX1_isDeepIn 20 = .ok (.iconst 1, 1) := by decide +kernel
theorem dX1_isDeepIn_21 : decode cX1_isDeepIn 21 = .ok (.goto 4, 3) := by decide +kernel
theorem dX1_isDeepIn_24 : decode cX1_isDeepIn 24 = .ok (.iconst 0, 1) := by decide +kernel
theorem dX1_isDeepIn_25 : decode cX1_isDeepIn 25 = .ok (.ireturn, 1) := by decide +kernel
set_option maxRecDepth 20000 in
theorem ggX1_borderOf_X1_holds : GoodIn wsX1_borderOf wsX1_holds := goodIn_r _ [5, 6, 22, 23, 24, 25, 26] (by decide +kernel) (by decide +kernel)
set_option maxRecDepth 20000 in
theorem gX1_borderOf_X1_holds : GoodIn wsX1_borderOf (wsV RX1 84 RX1 yX1_holds wsX1_holds) := goodIn_app (goodIn_of _ (by decide +kernel)) ggX1_borderOf_X1_holds
set_option maxRecDepth 20000 in
theorem ggX1_borderOf_X1_countNeighbours : GoodIn wsX1_borderOf wsX1_countNeighbours := goodIn_r _ [10, 11, 12, 13, 14, 15, 16, 17, 18, 19, 20, 4, 21, 1, 2, 3, 5, 6, 22, 23, 24, 25, 26, 27, 28] (by decide +kernel) (by decide +kernel)
set_option maxRecDepth 20000 in
theorem gX1_borderOf_X1_countNeighbours : GoodIn wsX1_borderOf (wsV RX1 149 RX1 yX1_countNeighbours wsX1_countNeighbours) := goodIn_app (goodIn_of _ (by decide +kernel)) ggX1_borderOf_X1_countNeighbours
theorem dX1_borderOf_0 : decode cX1_borderOf 0 = .ok (.iconst 0, 1) := by decide +kernel
theorem dX1_borderOf_1 : decode cX1_borderOf 1 = .ok (.istore_n 2, 1) := by decide +kernel
theorem dX1_borderOf_2 : decode cX1_borderOf 2 = .ok (.iconst 0, 1) := by decide +kernel
theorem dX1_borderOf_3 : decode cX1_borderOf 3 = .ok (.istore_n 3, 1) := by decide +kernel
theorem dX1_borderOf_4 : decode cX1_borderOf 4 = .ok (.iload_n 3, 1) := by decide +kernel
theorem dX1_borderOf_5 : decode cX1_borderOf 5 = .ok (.sipush 2401, 3) := by decide +kernel
theorem dX1_borderOf_8 : decode cX1_borderOf 8 = .ok (.if_icmp .ge 30, 3) := by decide +kernel
theorem dX1_borderOf_11 : decode cX1_borderOf 11 = .ok (.aload_n 0, 1) := by decide +kernel
theorem dX1_borderOf_12 : decode cX1_borderOf 12 = .ok (.iload_n 1, 1) := by decide +kernel
theorem dX1_borderOf_13 : decode cX1_borderOf 13 = .ok (.iload_n 3, 1) := by decide +kernel
theorem dX1_borderOf_14 : decode cX1_borderOf 14 = .ok (.invokevirtual 84, 3) := by decide +kernel
theorem dX1_borderOf_17 : decode cX1_borderOf 17 = .ok (.ifCond .eq 15, 3) := by decide +kernel
theorem dX1_borderOf_20 : decode cX1_borderOf 20 = .ok (.iload_n 2, 1) := by decide +kernel
theorem dX1_borderOf_21 : decode cX1_borderOf 21 = .ok (.bipush 6, 2) := by decide +kernel
theorem dX1_borderOf_23 : decode cX1_borderOf 23 = .ok (.aload_n 0, 1) := by decide +kernel
theorem dX1_borderOf_24 : decode cX1_borderOf 24 = .ok (.iload_n 1, 1) := by decide +kernel
theorem dX1_borderOf_25 : decode cX1_borderOf 25 = .ok (.iload_n 3, 1) := by decide +kernel
theorem dX1_borderOf_26 : decode cX1_borderOf 26 = .ok (.invokevirtual 149, 3) := by decide +kernel
theorem dX1_borderOf_29 : decode cX1_borderOf 29 = .ok (.isub, 1) := by decide +kernel
theorem dX1_borderOf_30 : decode cX1_borderOf 30 = .ok (.iadd, 1) := by decide +kernel
theorem dX1_borderOf_31 : decode cX1_borderOf 31 = .ok (.istore_n 2, 1) := by decide +kernel
theorem dX1_borderOf_32 : decode cX1_borderOf 32 = .ok (.iinc 3 1, 3) := by decide +kernel
theorem dX1_borderOf_35 : decode cX1_borderOf 35 = .ok (.goto (-31), 3) := by decide +kernel
theorem dX1_borderOf_38 : decode cX1_borderOf 38 = .ok (.iload_n 2, 1) := by decide +kernel
theorem dX1_borderOf_39 : decode cX1_borderOf 39 = .ok (.ireturn, 1) := by decide +kernel
theorem dX1_imageShift_0 : decode cX1_imageShift 0 = .ok (.iconst 4, 1) := by decide +kernel
theorem dX1_imageShift_1 : decode cX1_imageShift 1 = .ok (.iload_n 0, 1) := by decide +kernel
theorem dX1_imageShift_2 : decode cX1_imageShift 2 = .ok (.iconst 1, 1) := by decide +kernel
theorem dX1_imageShift_3 : decode cX1_imageShift 3 = .ok (.iadd, 1) := by decide +kernel
theorem dX1_imageShift_4 : decode cX1_imageShift 4 = .ok (.imul, 1) := by decide +kernel
theorem dX1_imageShift_5 : decode cX1_imageShift 5 = .ok (.ireturn, 1) := by decide +kernel
set_option maxRecDepth 20000 in
theorem ggX1_countPacked_X1_holds : GoodIn wsX1_countPacked wsX1_holds := goodIn_r _ [5, 6, 21, 22, 23, 24, 25] (by decide +kernel) (by decide +kernel)
set_option maxRecDepth 20000 in
theorem gX1_countPacked_X1_holds : GoodIn wsX1_countPacked (wsV RX1 84 RX1 yX1_holds wsX1_holds) := goodIn_app (goodIn_of _ (by decide +kernel)) ggX1_countPacked_X1_holds
set_option maxRecDepth 20000 in
theorem ggX1_countPacked_X1_packedLevel : GoodIn wsX1_countPacked wsX1_packedLevel := goodIn_r _ [10, 11, 12, 13, 4, 14, 15, 16, 17, 18, 19, 20, 1, 2, 3, 5, 6, 21, 22, 23, 24, 25] (by decide +kernel) (by decide +kernel)
set_option maxRecDepth 20000 in
theorem gX1_countPacked_X1_packedLevel : GoodIn wsX1_countPacked (wsV RX1 119 RX1 yX1_packedLevel wsX1_packedLevel) := goodIn_app (goodIn_of _ (by decide +kernel)) ggX1_countPacked_X1_packedLevel
set_option maxRecDepth 20000 in
theorem ggX1_countPacked_X1_patchSize : GoodIn wsX1_countPacked wsX1_patchSize := goodIn_r _ [20] (by decide +kernel) (by decide +kernel)
set_option maxRecDepth 20000 in
theorem gX1_countPacked_X1_patchSize : GoodIn wsX1_countPacked (va_wsS RX1 67 yX1_patchSize wsX1_patchSize) := goodIn_app (goodIn_of _ (by decide +kernel)) ggX1_countPacked_X1_patchSize
theorem dX1_countPacked_0 : decode cX1_countPacked 0 = .ok (.iconst 0, 1) := by decide +kernel
theorem dX1_countPacked_1 : decode cX1_countPacked 1 = .ok (.istore_n 2, 1) := by decide +kernel
theorem dX1_countPacked_2 : decode cX1_countPacked 2 = .ok (.iconst 0, 1) := by decide +kernel
theorem dX1_countPacked_3 : decode cX1_countPacked 3 = .ok (.istore_n 3, 1) := by decide +kernel
theorem dX1_countPacked_4 : decode cX1_countPacked 4 = .ok (.iconst 0, 1) := by decide +kernel
theorem dX1_countPacked_5 : decode cX1_countPacked 5 = .ok (.istore 4, 2) := by decide +kernel
theorem dX1_countPacked_7 : decode cX1_countPacked 7 = .ok (.iload 4, 2) := by decide +kernel
theorem dX1_countPacked_9 : decode cX1_countPacked 9 = .ok (.sipush 2401, 3) := by decide +kernel
theorem dX1_countPacked_12 : decode cX1_countPacked 12 = .ok (.if_icmp .ge 42, 3) := by decide +kernel
theorem dX1_countPacked_15 : decode cX1_countPacked 15 = .ok (.iload 4, 2) := by decide +kernel
theorem dX1_countPacked_17 : decode cX1_countPacked 17 = .ok (.iload_n 3, 1) := by decide +kernel
theorem dX1_countPacked_18 : decode cX1_countPacked 18 = .ok (.if_icmp .lt 30, 3) := by decide +kernel
theorem dX1_countPacked_21 : decode cX1_countPacked 21 = .ok (.aload_n 0, 1) := by decide +kernel
theorem dX1_countPacked_22 : decode cX1_countPacked 22 = .ok (.iload_n 1, 1) := by decide +kernel
theorem dX1_countPacked_23 : decode cX1_countPacked 23 = .ok (.iload 4, 2) := by decide +kernel
theorem dX1_countPacked_25 : decode cX1_countPacked 25 = .ok (.invokevirtual 84, 3) := by decide +kernel
theorem dX1_countPacked_28 : decode cX1_countPacked 28 = .ok (.ifCond .eq 20, 3) := by decide +kernel
theorem dX1_countPacked_31 : decode cX1_countPacked 31 = .ok (.iload 4, 2) := by decide +kernel
theorem dX1_countPacked_33 : decode cX1_countPacked 33 = .ok (.aload_n 0, 1) := by decide +kernel
theorem dX1_countPacked_34 : decode cX1_countPacked 34 = .ok (.iload_n 1, 1) := by decide +kernel
theorem dX1_countPacked_35 : decode cX1_countPacked 35 = .ok (.iload 4, 2) := by decide +kernel
theorem dX1_countPacked_37 : decode cX1_countPacked 37 = .ok (.invokevirtual 119, 3) := by decide +kernel
theorem dX1_countPacked_40 : decode cX1_countPacked 40 = .ok (.invokestatic 67, 3) := by decide +kernel
theorem dX1_countPacked_43 : decode cX1_countPacked 43 = .ok (.iadd, 1) := by decide +kernel
theorem dX1_countPacked_44 : decode cX1_countPacked 44 = .ok (.istore_n 3, 1) := by decide +kernel
theorem dX1_countPacked_45 : decode cX1_countPacked 45 = .ok (.iinc 2 1, 3) := by decide +kernel
theorem dX1_countPacked_48 : decode cX1_countPacked 48 = .ok (.iinc 4 1, 3) := by decide +kernel
theorem dX1_countPacked_51 : decode cX1_countPacked 51 = .ok (.goto (-44), 3) := by decide +kernel
theorem dX1_countPacked_54 : decode cX1_countPacked 54 = .ok (.iload_n 2, 1) := by decide +kernel
theorem dX1_countPacked_55 : decode cX1_countPacked 55 = .ok (.ireturn, 1) := by decide +kernel
set_option maxRecDepth 20000 in
theorem ggX1_countPackedOfAll_X1_countPacked : GoodIn wsX1_countPackedOfAll wsX1_countPacked := goodIn_r _ [5, 6, 7, 8, 4, 9, 10, 11, 12, 13, 14, 15, 16, 17, 18, 19, 20, 21, 22, 23, 24, 25, 26, 27, 28, 29] (by decide +kernel) (by decide +kernel)
set_option maxRecDepth 20000 in
theorem gX1_countPackedOfAll_X1_countPacked : GoodIn wsX1_countPackedOfAll (wsV RX1 98 RX1 yX1_countPacked wsX1_countPacked) := goodIn_app (goodIn_of _ (by decide +kernel)) ggX1_countPackedOfAll_X1_countPacked
theorem dX1_countPackedOfAll_0 : decode cX1_countPackedOfAll 0 = .ok (.iconst 0, 1) := by decide +kernel
theorem dX1_countPackedOfAll_1 : decode cX1_countPackedOfAll 1 = .ok (.istore_n 1, 1) := by decide +kernel
theorem dX1_countPackedOfAll_2 : decode cX1_countPackedOfAll 2 = .ok (.iconst 0, 1) := by decide +kernel
theorem dX1_countPackedOfAll_3 : decode cX1_countPackedOfAll 3 = .ok (.istore_n 2, 1) := by decide +kernel
theorem dX1_countPackedOfAll_4 : decode cX1_countPackedOfAll 4 = .ok (.iload_n 2, 1) := by decide +kernel
theorem dX1_countPackedOfAll_5 : decode cX1_countPackedOfAll 5 = .ok (.iconst 4, 1) := by decide +kernel
theorem dX1_countPackedOfAll_6 : decode cX1_countPackedOfAll 6 = .ok (.if_icmp .ge 17, 3) := by decide +kernel
theorem dX1_countPackedOfAll_9 : decode cX1_countPackedOfAll 9 = .ok (.iload_n 1, 1) := by decide +kernel
theorem dX1_countPackedOfAll_10 : decode cX1_countPackedOfAll 10 = .ok (.aload_n 0, 1) := by decide +kernel
theorem dX1_countPackedOfAll_11 : decode cX1_countPackedOfAll 11 = .ok (.iload_n 2, 1) := by decide +kernel
theorem dX1_countPackedOfAll_12 : decode cX1_countPackedOfAll 12 = .ok (.invokevirtual 98, 3) := by decide +kernel
theorem dX1_countPackedOfAll_15 : decode cX1_countPackedOfAll 15 = .ok (.iadd, 1) := by decide +kernel
theorem dX1_countPackedOfAll_16 : decode cX1_countPackedOfAll 16 = .ok (.istore_n 1, 1) := by decide +kernel
theorem dX1_countPackedOfAll_17 : decode cX1_countPackedOfAll 17 = .ok (.iinc 2 1, 3) := by decide +kernel
theorem dX1_countPackedOfAll_20 : decode cX1_countPackedOfAll 20 = .ok (.goto (-16), 3) := by decide +kernel
theorem dX1_countPackedOfAll_23 : decode cX1_countPackedOfAll 23 = .ok (.iload_n 1, 1) := by decide +kernel
theorem dX1_countPackedOfAll_24 : decode cX1_countPackedOfAll 24 = .ok (.ireturn, 1) := by decide +kernel
set_option maxRecDepth 20000 in
theorem ggX1_packedKey_X1_holds : GoodIn wsX1_packedKey wsX1_holds := goodIn_r _ [5, 6, 21, 22, 23, 24, 25] (by decide +kernel) (by decide +kernel)
set_option maxRecDepth 20000 in
theorem gX1_packedKey_X1_holds : GoodIn wsX1_packedKey (wsV RX1 84 RX1 yX1_holds wsX1_holds) := goodIn_app (goodIn_of _ (by decide +kernel)) ggX1_packedKey_X1_holds
set_option maxRecDepth 20000 in
theorem ggX1_packedKey_X1_packedLevel : GoodIn wsX1_packedKey wsX1_packedLevel := goodIn_r _ [10, 11, 12, 13, 4, 14, 15, 16, 17, 18, 19, 20, 1, 2, 3, 5, 6, 21, 22, 23, 24, 25] (by decide +kernel) (by decide +kernel)
set_option maxRecDepth 20000 in
theorem gX1_packedKey_X1_packedLevel : GoodIn wsX1_packedKey (wsV RX1 119 RX1 yX1_packedLevel wsX1_packedLevel) := goodIn_app (goodIn_of _ (by decide +kernel)) ggX1_packedKey_X1_packedLevel
set_option maxRecDepth 20000 in
theorem ggX1_packedKey_X1_patchSize : GoodIn wsX1_packedKey wsX1_patchSize := goodIn_r _ [20] (by decide +kernel) (by decide +kernel)
set_option maxRecDepth 20000 in
theorem gX1_packedKey_X1_patchSize : GoodIn wsX1_packedKey (va_wsS RX1 67 yX1_patchSize wsX1_patchSize) := goodIn_app (goodIn_of _ (by decide +kernel)) ggX1_packedKey_X1_patchSize
theorem dX1_packedKey_0 : decode cX1_packedKey 0 = .ok (.iconst 0, 1) := by decide +kernel
theorem dX1_packedKey_1 : decode cX1_packedKey 1 = .ok (.istore_n 3, 1) := by decide +kernel
theorem dX1_packedKey_2 : decode cX1_packedKey 2 = .ok (.iconst 0, 1) := by decide +kernel
theorem dX1_packedKey_3 : decode cX1_packedKey 3 = .ok (.istore 4, 2) := by decide +kernel
theorem dX1_packedKey_5 : decode cX1_packedKey 5 = .ok (.iconst 0, 1) := by decide +kernel
theorem dX1_packedKey_6 : decode cX1_packedKey 6 = .ok (.istore 5, 2) := by decide +kernel
theorem dX1_packedKey_8 : decode cX1_packedKey 8 = .ok (.iload 5, 2) := by decide +kernel
theorem dX1_packedKey_10 : decode cX1_packedKey 10 = .ok (.sipush 2401, 3) := by decide +kernel
theorem dX1_packedKey_13 : decode cX1_packedKey 13 = .ok (.if_icmp .ge 52, 3) := by decide +kernel
theorem dX1_packedKey_16 : decode cX1_packedKey 16 = .ok (.iload 5, 2) := by decide +kernel
theorem dX1_packedKey_18 : decode cX1_packedKey 18 = .ok (.iload 4, 2) := by decide +kernel
theorem dX1_packedKey_20 : decode cX1_packedKey 20 = .ok (.if_icmp .lt 39, 3) := by decide +kernel
theorem dX1_packedKey_23 : decode cX1_packedKey 23 = .ok (.aload_n 0, 1) := by decide +kernel
theorem dX1_packedKey_24 : decode cX1_packedKey 24 = .ok (.iload_n 1, 1) := by decide +kernel
theorem dX1_packedKey_25 : decode cX1_packedKey 25 = .ok (.iload 5, 2) := by decide +kernel
theorem dX1_packedKey_27 : decode cX1_packedKey 27 = .ok (.invokevirtual 84, 3) := by decide +kernel
theorem dX1_packedKey_30 : decode cX1_packedKey 30 = .ok (.ifCond .eq 29, 3) := by decide +kernel
theorem dX1_packedKey_33 : decode cX1_packedKey 33 = .ok (.iload_n 3, 1) := by decide +kernel
theorem dX1_packedKey_34 : decode cX1_packedKey 34 = .ok (.iload_n 2, 1) := by decide +kernel
theorem dX1_packedKey_35 : decode cX1_packedKey 35 = .ok (.if_icmp .ne 6, 3) := by decide +kernel
theorem dX1_packedKey_38 : decode cX1_packedKey 38 = .ok (.iload 5, 2) := by decide +kernel
theorem dX1_packedKey_40 : decode cX1_packedKey 40 = .ok (.ireturn, 1) := by decide +kernel
theorem dX1_packedKey_41 : decode cX1_packedKey 41 = .ok (.iload 5, 2) := by decide +kernel
theorem dX1_packedKey_43 : decode cX1_packedKey 43 = .ok (.aload_n 0, 1) := by decide +kernel
theorem dX1_packedKey_44 : decode cX1_packedKey 44 = .ok (.iload_n 1, 1) := by decide +kernel
theorem dX1_packedKey_45 : decode cX1_packedKey 45 = .ok (.iload 5, 2) := by decide +kernel
theorem dX1_packedKey_47 : decode cX1_packedKey 47 = .ok (.invokevirtual 119, 3) := by decide +kernel
theorem dX1_packedKey_50 : decode cX1_packedKey 50 = .ok (.invokestatic 67, 3) := by decide +kernel
theorem dX1_packedKey_53 : decode cX1_packedKey 53 = .ok (.iadd, 1) := by decide +kernel
theorem dX1_packedKey_54 : decode cX1_packedKey 54 = .ok (.istore 4, 2) := by decide +kernel
theorem dX1_packedKey_56 : decode cX1_packedKey 56 = .ok (.iinc 3 1, 3) := by decide +kernel
theorem dX1_packedKey_59 : decode cX1_packedKey 59 = .ok (.iinc 5 1, 3) := by decide +kernel
theorem dX1_packedKey_62 : decode cX1_packedKey 62 = .ok (.goto (-54), 3) := by decide +kernel
theorem dX1_packedKey_65 : decode cX1_packedKey 65 = .ok (.bipush (-6), 2) := by decide +kernel
theorem dX1_packedKey_67 : decode cX1_packedKey 67 = .ok (.ireturn, 1) := by decide +kernel
set_option maxRecDepth 20000 in
theorem ggX1_packedLevel_X1_patchLiesIn : GoodIn wsX1_packedLevel wsX1_patchLiesIn := goodIn_r _ [5, 6, 7, 4, 8, 9, 10, 11, 12, 13, 14, 15, 16, 17, 18, 19, 20, 21] (by decide +kernel) (by decide +kernel)
set_option maxRecDepth 20000 in
theorem gX1_packedLevel_X1_patchLiesIn : GoodIn wsX1_packedLevel (wsV RX1 152 RX1 yX1_patchLiesIn wsX1_patchLiesIn) := goodIn_app (goodIn_of _ (by decide +kernel)) ggX1_packedLevel_X1_patchLiesIn
theorem dX1_packedLevel_0 : decode cX1_packedLevel 0 = .ok (.iconst 0, 1) := by decide +kernel
theorem dX1_packedLevel_1 : decode cX1_packedLevel 1 = .ok (.istore_n 3, 1) := by decide +kernel
theorem dX1_packedLevel_2 : decode cX1_packedLevel 2 = .ok (.iload_n 3, 1) := by decide +kernel
theorem dX1_packedLevel_3 : decode cX1_packedLevel 3 = .ok (.iconst 4, 1) := by decide +kernel
theorem dX1_packedLevel_4 : decode cX1_packedLevel 4 = .ok (.if_icmp .ge 21, 3) := by decide +kernel
theorem dX1_packedLevel_7 : decode cX1_packedLevel 7 = .ok (.aload_n 0, 1) := by decide +kernel
theorem dX1_packedLevel_8 : decode cX1_packedLevel 8 = .ok (.iload_n 1, 1) := by decide +kernel
theorem dX1_packedLevel_9 : decode cX1_packedLevel 9 = .ok (.iload_n 2, 1) := by decide +kernel
theorem dX1_packedLevel_10 : decode cX1_packedLevel 10 = .ok (.iload_n 3, 1) := by decide +kernel
theorem dX1_packedLevel_11 : decode cX1_packedLevel 11 = .ok (.iconst 1, 1) := by decide +kernel
theorem dX1_packedLevel_12 : decode cX1_packedLevel 12 = .ok (.iadd, 1) := by decide +kernel
theorem dX1_packedLevel_13 : decode cX1_packedLevel 13 = .ok (.invokevirtual 152, 3) := by decide +kernel
theorem dX1_packedLevel_16 : decode cX1_packedLevel 16 = .ok (.ifCond .eq 9, 3) := by decide +kernel
theorem dX1_packedLevel_19 : decode cX1_packedLevel 19 = .ok (.iinc 3 1, 3) := by decide +kernel
theorem dX1_packedLevel_22 : decode cX1_packedLevel 22 = .ok (.goto (-20), 3) := by decide +kernel
theorem dX1_packedLevel_25 : decode cX1_packedLevel 25 = .ok (.iload_n 3, 1) := by decide +kernel
theorem dX1_packedLevel_26 : decode cX1_packedLevel 26 = .ok (.ireturn, 1) := by decide +kernel
set_option maxRecDepth 20000 in
theorem ggX1_patchLiesIn_X1_patchOf : GoodIn wsX1_patchLiesIn wsX1_patchOf := goodIn_r _ [4, 5, 6, 3, 7] (by decide +kernel) (by decide +kernel)
set_option maxRecDepth 20000 in
theorem gX1_patchLiesIn_X1_patchOf : GoodIn wsX1_patchLiesIn (va_wsS RX1 58 yX1_patchOf wsX1_patchOf) := goodIn_app (goodIn_of _ (by decide +kernel)) ggX1_patchLiesIn_X1_patchOf
set_option maxRecDepth 20000 in
theorem ggX1_patchLiesIn_X1_patchSize : GoodIn wsX1_patchLiesIn wsX1_patchSize := goodIn_r _ [7] (by decide +kernel) (by decide +kernel)
set_option maxRecDepth 20000 in
theorem gX1_patchLiesIn_X1_patchSize : GoodIn wsX1_patchLiesIn (va_wsS RX1 67 yX1_patchSize wsX1_patchSize) := goodIn_app (goodIn_of _ (by decide +kernel)) ggX1_patchLiesIn_X1_patchSize
set_option maxRecDepth 20000 in
theorem ggX1_patchLiesIn_X1_holds : GoodIn wsX1_patchLiesIn wsX1_holds := goodIn_r _ [11, 12, 13, 14, 15, 16, 17] (by decide +kernel) (by decide +kernel)
set_option maxRecDepth 20000 in
theorem gX1_patchLiesIn_X1_holds : GoodIn wsX1_patchLiesIn (wsV RX1 84 RX1 yX1_holds wsX1_holds) := goodIn_app (goodIn_of _ (by decide +kernel)) ggX1_patchLiesIn_X1_holds
theorem dX1_patchLiesIn_0 : decode cX1_patchLiesIn 0 = .ok (.iload_n 2, 1) := by decide +kernel
theorem dX1_patchLiesIn_1 : decode cX1_patchLiesIn 1 = .ok (.iload_n 3, 1) := by decide +kernel
theorem dX1_patchLiesIn_2 : decode cX1_patchLiesIn 2 = .ok (.invokestatic 58, 3) := by decide +kernel
theorem dX1_patchLiesIn_5 : decode cX1_patchLiesIn 5 = .ok (.iload_n 2, 1) := by decide +kernel
theorem dX1_patchLiesIn_6 : decode cX1_patchLiesIn 6 = .ok (.if_icmp .eq 5, 3) := by decide +kernel
theorem dX1_patchLiesIn_9 : decode cX1_patchLiesIn 9 = .ok (.iconst 0, 1) := by decide +kernel
theorem dX1_patchLiesIn_10 : decode cX1_patchLiesIn 10 = .ok (.ireturn, 1) := by decide +kernel
theorem dX1_patchLiesIn_11 : decode cX1_patchLiesIn 11 = .ok (.iload_n 2, 1) := by decide +kernel
theorem dX1_patchLiesIn_12 : decode cX1_patchLiesIn 12 = .ok (.iload_n 3, 1) := by decide +kernel
theorem dX1_patchLiesIn_13 : decode cX1_patchLiesIn 13 = .ok (.invokestatic 67, 3) := by decide +kernel
theorem dX1_patchLiesIn_16 : decode cX1_patchLiesIn 16 = .ok (.iadd, 1) := by decide +kernel
theorem dX1_patchLiesIn_17 : decode cX1_patchLiesIn 17 = .ok (.istore 4, 2) := by decide +kernel
theorem dX1_patchLiesIn_19 : decode cX1_patchLiesIn 19 = .ok (.iload_n 2, 1) := by decide +kernel
theorem dX1_patchLiesIn_20 : decode cX1_patchLiesIn 20 = .ok (.istore 5, 2) := by decide +kernel
theorem dX1_patchLiesIn_22 : decode cX1_patchLiesIn 22 = .ok (.iload 5, 2) := by decide +kernel
theorem dX1_patchLiesIn_24 : decode cX1_patchLiesIn 24 = .ok (.iload 4, 2) := by decide +kernel
theorem dX1_patchLiesIn_26 : decode cX1_patchLiesIn 26 = .ok (.if_icmp .ge 21, 3) := by decide +kernel
theorem dX1_patchLiesIn_29 : decode cX1_patchLiesIn 29 = .ok (.aload_n 0, 1) := by decide +kernel
theorem dX1_patchLiesIn_30 : decode cX1_patchLiesIn 30 = .ok (.iload_n 1, 1) := by decide +kernel
theorem dX1_patchLiesIn_31 : decode cX1_patchLiesIn 31 = .ok (.iload 5, 2) := by decide +kernel
theorem dX1_patchLiesIn_33 : decode cX1_patchLiesIn 33 = .ok (.invokevirtual 84, 3) := by decide +kernel
theorem dX1_patchLiesIn_36 : decode cX1_patchLiesIn 36 = .ok (.ifCond .ne 5, 3) := by decide +kernel
theorem dX1_patchLiesIn_39 : decode cX1_patchLiesIn 39 = .ok (.iconst 0, 1) := by decide +kernel
theorem dX1_patchLiesIn_40 : decode cX1_patchLiesIn 40 = .ok (.ireturn, 1) := by decide +kernel
theorem dX1_patchLiesIn_41 : decode cX1_patchLiesIn 41 = .ok (.iinc 5 1, 3) := by decide +kernel
theorem dX1_patchLiesIn_44 : decode cX1_patchLiesIn 44 = .ok (.goto (-22), 3) := by decide +kernel
theorem dX1_patchLiesIn_47 : decode cX1_patchLiesIn 47 = .ok (.iconst 1, 1) := by decide +kernel
theorem dX1_patchLiesIn_48 : decode cX1_patchLiesIn 48 = .ok (.ireturn, 1) := by decide +kernel
set_option maxRecDepth 20000 in
theorem ggX1_isMarked_X1_valueAt : GoodIn wsX1_isMarked wsX1_valueAt := goodIn_r _ [5] (by decide +kernel) (by decide +kernel)
set_option maxRecDepth 20000 in
theorem gX1_isMarked_X1_valueAt : GoodIn wsX1_isMarked (va_wsS RX1 131 yX1_valueAt wsX1_valueAt) := goodIn_app (goodIn_of _ (by decide +kernel)) ggX1_isMarked_X1_valueAt
theorem dX1_isMarked_0 : decode cX1_isMarked 0 = .ok (.aload_n 0, 1) := by decide +kernel
theorem dX1_isMarked_1 : decode cX1_isMarked 1 = .ok (.getfield 24, 3) := by decide +kernel
theorem dX1_isMarked_4 : decode cX1_isMarked 4 = .ok (.iload_n 1, 1) := by decide +kernel
theorem dX1_isMarked_5 : decode cX1_isMarked 5 = .ok (.invokestatic 131, 3) := by decide +kernel
theorem dX1_isMarked_8 : decode cX1_isMarked 8 = .ok (.ifCond .le 7, 3) := by decide +kernel
theorem dX1_isMarked_11 : decode cX1_isMarked 11 = .ok (.iconst 1, 1) := by decide +kernel
theorem dX1_isMarked_12 : decode cX1_isMarked 12 = .ok (.goto 4, 3) := by decide +kernel
theorem dX1_isMarked_15 : decode cX1_isMarked 15 = .ok (.iconst 0, 1) := by decide +kernel
theorem dX1_isMarked_16 : decode cX1_isMarked 16 = .ok (.ireturn, 1) := by decide +kernel
theorem dX1_mark_0 : decode cX1_mark 0 = .ok (.iconst 0, 1) := by decide +kernel
theorem dX1_mark_1 : decode cX1_mark 1 = .ok (.iload_n 1, 1) := by decide +kernel
theorem dX1_mark_2 : decode cX1_mark 2 = .ok (.if_icmp .gt 19, 3) := by decide +kernel
theorem dX1_mark_5 : decode cX1_mark 5 = .ok (.iload_n 1, 1) := by decide +kernel
theorem dX1_mark_6 : decode cX1_mark 6 = .ok (.aload_n 0, 1) := by decide +kernel
theorem dX1_mark_7 : decode cX1_mark 7 = .ok (.getfield 24, 3) := by decide +kernel
theorem dX1_mark_10 : decode cX1_mark 10 = .ok (.arraylength, 1) := by decide +kernel
theorem dX1_mark_11 : decode cX1_mark 11 = .ok (.if_icmp .ge 10, 3) := by decide +kernel
theorem dX1_mark_14 : decode cX1_mark 14 = .ok (.aload_n 0, 1) := by decide +kernel
theorem dX1_mark_15 : decode cX1_mark 15 = .ok (.getfield 24, 3) := by decide +kernel
theorem dX1_mark_18 : decode cX1_mark 18 = .ok (.iload_n 1, 1) := by decide +kernel
theorem dX1_mark_19 : decode cX1_mark 19 = .ok (.iload_n 2, 1) := by decide +kernel
theorem dX1_mark_20 : decode cX1_mark 20 = .ok (.iastore, 1) := by decide +kernel
theorem dX1_mark_21 : decode cX1_mark 21 = .ok (.return_, 1) := by decide +kernel
set_option maxRecDepth 20000 in
theorem ggX1_startsPiece_X1_holds : GoodIn wsX1_startsPiece wsX1_holds := goodIn_r _ [5, 6, 15, 16, 17, 18, 19] (by decide +kernel) (by decide +kernel)
set_option maxRecDepth 20000 in
theorem gX1_startsPiece_X1_holds : GoodIn wsX1_startsPiece (wsV RX1 84 RX1 yX1_holds wsX1_holds) := goodIn_app (goodIn_of _ (by decide +kernel)) ggX1_startsPiece_X1_holds
set_option maxRecDepth 20000 in
theorem ggX1_startsPiece_X1_isMarked : GoodIn wsX1_startsPiece wsX1_isMarked := goodIn_r _ [10, 11, 12, 13, 4, 14, 15, 16, 17, 18, 19] (by decide +kernel) (by decide +kernel)
set_option maxRecDepth 20000 in
theorem gX1_startsPiece_X1_isMarked : GoodIn wsX1_startsPiece (wsV RX1 128 RX1 yX1_isMarked wsX1_isMarked) := goodIn_app (goodIn_of _ (by decide +kernel)) ggX1_startsPiece_X1_isMarked
theorem dX1_startsPiece_0 : decode cX1_startsPiece 0 = .ok (.aload_n 0, 1) := by decide +kernel
theorem dX1_startsPiece_1 : decode cX1_startsPiece 1 = .ok (.iload_n 1, 1) := by decide +kernel
theorem dX1_startsPiece_2 : decode cX1_startsPiece 2 = .ok (.iload_n 2, 1) := by decide +kernel
theorem dX1_startsPiece_3 : decode cX1_startsPiece 3 = .ok (.invokevirtual 84, 3) := by decide +kernel
theorem dX1_startsPiece_6 : decode cX1_startsPiece 6 = .ok (.ifCond .eq 15, 3) := by decide +kernel
theorem dX1_startsPiece_9 : decode cX1_startsPiece 9 = .ok (.aload_n 0, 1) := by decide +kernel
theorem dX1_startsPiece_10 : decode cX1_startsPiece 10 = .ok (.iload_n 2, 1) := by decide +kernel
theorem dX1_startsPiece_11 : decode cX1_startsPiece 11 = .ok (.invokevirtual 128, 3) := by decide +kernel
theorem dX1_startsPiece_14 : decode cX1_startsPiece 14 = .ok (.ifCond .ne 7, 3) := by decide +kernel
theorem dX1_startsPiece_17 : decode cX1_startsPiece 17 = .ok (.iconst 1, 1) := by decide +kernel
theorem dX1_startsPiece_18 : decode cX1_startsPiece 18 = .ok (.goto 4, 3) := by decide +kernel
theorem dX1_startsPiece_21 : decode cX1_startsPiece 21 = .ok (.iconst 0, 1) := by decide +kernel
theorem dX1_startsPiece_22 : decode cX1_startsPiece 22 = .ok (.ireturn, 1) := by decide +kernel
set_option maxRecDepth 20000 in
theorem ggX1_countPieces_J7_fill_53178 : GoodIn wsX1_countPieces wsJ7_fill_53178 := goodIn_r _ [5] (by decide +kernel) (by decide +kernel)
set_option maxRecDepth 20000 in
theorem gX1_countPieces_J7_fill_53178 : GoodIn wsX1_countPieces (va_wsS RX1 61 yJ7_fill_53178 wsJ7_fill_53178) := goodIn_app (goodIn_of _ (by decide +kernel)) ggX1_countPieces_J7_fill_53178
set_option maxRecDepth 20000 in
theorem ggX1_countPieces_X1_startsPiece : GoodIn wsX1_countPieces wsX1_startsPiece := goodIn_r _ [10, 11, 12, 13, 9, 14, 15, 16, 17, 18, 19, 1, 20, 21, 22, 49, 50, 51, 52, 53] (by decide +kernel) (by decide +kernel)
set_option maxRecDepth 20000 in
theorem gX1_countPieces_X1_startsPiece : GoodIn wsX1_countPieces (wsV RX1 122 RX1 yX1_startsPiece wsX1_startsPiece) := goodIn_app (goodIn_of _ (by decide +kernel)) ggX1_countPieces_X1_startsPiece
set_option maxRecDepth 20000 in
theorem ggX1_countPieces_X1_flood : GoodIn wsX1_countPieces wsX1_flood := goodIn_r _ [26, 27, 28, 29, 30, 9, 31, 1, 32, 33, 34, 35, 36, 37, 38, 39, 40, 20, 21, 22, 41, 42, 43, 44, 45, 46, 47, 48, 6, 7, 8, 10, 11, 12, 13, 14, 15, 16, 17, 18, 19, 49, 50, 51, 52, 53, 54, 55] (by decide +kernel) (by decide +kernel)
set_option maxRecDepth 20000 in
theorem gX1_countPieces_X1_flood : GoodIn wsX1_countPieces (wsV RX1 125 RX1 yX1_flood wsX1_flood) := goodIn_app (goodIn_of _ (by decide +kernel)) ggX1_countPieces_X1_flood
theorem dX1_countPieces_0 : decode cX1_countPieces 0 = .ok (.aload_n 0, 1) := by decide +kernel
theorem dX1_countPieces_1 : decode cX1_countPieces 1 = .ok (.getfield 24, 3) := by decide +kernel
theorem dX1_countPieces_4 : decode cX1_countPieces 4 = .ok (.iconst 0, 1) := by decide +kernel
theorem dX1_countPieces_5 : decode cX1_countPieces 5 = .ok (.invokestatic 61, 3) := by decide +kernel
theorem dX1_countPieces_8 : decode cX1_countPieces 8 = .ok (.iconst 0, 1) := by decide +kernel
theorem dX1_countPieces_9 : decode cX1_countPieces 9 = .ok (.istore_n 2, 1) := by decide +kernel
theorem dX1_countPieces_10 : decode cX1_countPieces 10 = .ok (.iconst 0, 1) := by decide +kernel
theorem dX1_countPieces_11 : decode cX1_countPieces 11 = .ok (.istore_n 3, 1) := by decide +kernel
theorem dX1_countPieces_12 : decode cX1_countPieces 12 = .ok (.iload_n 3, 1) := by decide +kernel
theorem dX1_countPieces_13 : decode cX1_countPieces 13 = .ok (.sipush 2401, 3) := by decide +kernel
theorem dX1_countPieces_16 : decode cX1_countPieces 16 = .ok (.if_icmp .ge 28, 3) := by decide +kernel
theorem dX1_countPieces_19 : decode cX1_countPieces 19 = .ok (.aload_n 0, 1) := by decide +kernel
theorem dX1_countPieces_20 : decode cX1_countPieces 20 = .ok (.iload_n 1, 1) := by decide +kernel
theorem dX1_countPieces_21 : decode cX1_countPieces 21 = .ok (.iload_n 3, 1) := by decide +kernel
theorem dX1_countPieces_22 : decode cX1_countPieces 22 = .ok (.invokevirtual 122, 3) := by decide +kernel
theorem dX1_countPieces_25 : decode cX1_countPieces 25 = .ok (.ifCond .eq 13, 3) := by decide +kernel
theorem dX1_countPieces_28 : decode cX1_countPieces 28 = .ok (.aload_n 0, 1) := by decide +kernel
theorem dX1_countPieces_29 : decode cX1_countPieces 29 = .ok (.iload_n 1, 1) := by decide +kernel
theorem dX1_countPieces_30 : decode cX1_countPieces 30 = .ok (.iload_n 3, 1) := by decide +kernel
theorem dX1_countPieces_31 : decode cX1_countPieces 31 = .ok (.invokevirtual 125, 3) := by decide +kernel
theorem dX1_countPieces_34 : decode cX1_countPieces 34 = .ok (.pop, 1) := by decide +kernel
theorem dX1_countPieces_35 : decode cX1_countPieces 35 = .ok (.iinc 2 1, 3) := by decide +kernel
theorem dX1_countPieces_38 : decode cX1_countPieces 38 = .ok (.iinc 3 1, 3) := by decide +kernel
theorem dX1_countPieces_41 : decode cX1_countPieces 41 = .ok (.goto (-29), 3) := by decide +kernel
theorem dX1_countPieces_44 : decode cX1_countPieces 44 = .ok (.iload_n 2, 1) := by decide +kernel
theorem dX1_countPieces_45 : decode cX1_countPieces 45 = .ok (.ireturn, 1) := by decide +kernel
set_option maxRecDepth 20000 in
theorem ggX1_greatestPiece_J7_fill_53178 : GoodIn wsX1_greatestPiece wsJ7_fill_53178 := goodIn_r _ [9] (by decide +kernel) (by decide +kernel)
set_option maxRecDepth 20000 in
theorem gX1_greatestPiece_J7_fill_53178 : GoodIn wsX1_greatestPiece (va_wsS RX1 61 yJ7_fill_53178 wsJ7_fill_53178) := goodIn_app (goodIn_of _ (by decide +kernel)) ggX1_greatestPiece_J7_fill_53178
set_option maxRecDepth 20000 in
theorem ggX1_greatestPiece_X1_startsPiece : GoodIn wsX1_greatestPiece wsX1_startsPiece := goodIn_r _ [14, 15, 16, 17, 13, 18, 19, 20, 21, 22, 23, 1, 24, 25, 26, 53, 54, 55, 56, 57] (by decide +kernel) (by decide +kernel)
set_option maxRecDepth 20000 in
theorem gX1_greatestPiece_X1_startsPiece : GoodIn wsX1_greatestPiece (wsV RX1 122 RX1 yX1_startsPiece wsX1_startsPiece) := goodIn_app (goodIn_of _ (by decide +kernel)) ggX1_greatestPiece_X1_startsPiece
set_option maxRecDepth 20000 in
theorem ggX1_greatestPiece_X1_flood : GoodIn wsX1_greatestPiece wsX1_flood := goodIn_r _ [30, 31, 32, 33, 34, 13, 35, 1, 36, 37, 38, 39, 40, 41, 42, 43, 44, 24, 25, 26, 45, 46, 47, 48, 49, 50, 51, 52, 10, 11, 12, 14, 15, 16, 17, 18, 19, 20, 21, 22, 23, 53, 54, 55, 56, 57, 58, 59] (by decide +kernel) (by decide +kernel)
set_option maxRecDepth 20000 in
theorem gX1_greatestPiece_X1_flood : GoodIn wsX1_greatestPiece (wsV RX1 125 RX1 yX1_flood wsX1_flood) := goodIn_app (goodIn_of _ (by decide +kernel)) ggX1_greatestPiece_X1_flood
theorem dX1_greatestPiece_0 : decode cX1_greatestPiece 0 = .ok (.aload_n 0, 1) := by decide +kernel
theorem dX1_greatestPiece_1 : decode cX1_greatestPiece 1 = .ok (.getfield 24, 3) := by decide +kernel
theorem dX1_greatestPiece_4 : decode cX1_greatestPiece 4 = .ok (.iconst 0, 1) := by decide +kernel
theorem dX1_greatestPiece_5 : decode cX1_greatestPiece 5 = .ok (.invokestatic 61, 3) := by decide +kernel
theorem dX1_greatestPiece_8 : decode cX1_greatestPiece 8 = .ok (.iconst 0, 1) := by decide +kernel
theorem dX1_greatestPiece_9 : decode cX1_greatestPiece 9 = .ok (.istore_n 2, 1) := by decide +kernel
theorem dX1_greatestPiece_10 : decode cX1_greatestPiece 10 = .ok (.iconst 0, 1) := by decide +kernel
theorem dX1_greatestPiece_11 : decode cX1_greatestPiece 11 = .ok (.istore_n 3, 1) := by decide +kernel
theorem dX1_greatestPiece_12 : decode cX1_greatestPiece 12 = .ok (.iload_n 3, 1) := by decide +kernel
theorem dX1_greatestPiece_13 : decode cX1_greatestPiece 13 = .ok (.sipush 2401, 3) := by decide +kernel
theorem dX1_greatestPiece_16 : decode cX1_greatestPiece 16 = .ok (.if_icmp .ge 29, 3) := by decide +kernel
theorem dX1_greatestPiece_19 : decode cX1_greatestPiece 19 = .ok (.aload_n 0, 1) := by decide +kernel
theorem dX1_greatestPiece_20 : decode cX1_greatestPiece 20 = .ok (.iload_n 1, 1) := by decide +kernel
theorem dX1_greatestPiece_21 : decode cX1_greatestPiece 21 = .ok (.iload_n 3, 1) := by decide +kernel
theorem dX1_greatestPiece_22 : decode cX1_greatestPiece 22 = .ok (.invokevirtual 122, 3) := by decide +kernel
theorem dX1_greatestPiece_25 : decode cX1_greatestPiece 25 = .ok (.ifCond .eq 14, 3) := by decide +kernel
theorem dX1_greatestPiece_28 : decode cX1_greatestPiece 28 = .ok (.iload_n 2, 1) := by decide +kernel
theorem dX1_greatestPiece_29 : decode cX1_greatestPiece 29 = .ok (.aload_n 0, 1) := by decide +kernel
theorem dX1_greatestPiece_30 : decode cX1_greatestPiece 30 = .ok (.iload_n 1, 1) := by decide +kernel
theorem dX1_greatestPiece_31 : decode cX1_greatestPiece 31 = .ok (.iload_n 3, 1) := by decide +kernel
theorem dX1_greatestPiece_32 : decode cX1_greatestPiece 32 = .ok (.invokevirtual 125, 3) := by decide +kernel
theorem dX1_greatestPiece_35 : decode cX1_greatestPiece 35 = .ok (.invokestatic 155, 3) := by decide +kernel
theorem dX1_greatestPiece_38 : decode cX1_greatestPiece 38 = .ok (.istore_n 2, 1) := by decide +kernel
theorem dX1_greatestPiece_39 : decode cX1_greatestPiece 39 = .ok (.iinc 3 1, 3) := by decide +kernel
theorem dX1_greatestPiece_42 : decode cX1_greatestPiece 42 = .ok (.goto (-30), 3) := by decide +kernel
theorem dX1_greatestPiece_45 : decode cX1_greatestPiece 45 = .ok (.iload_n 2, 1) := by decide +kernel
theorem dX1_greatestPiece_46 : decode cX1_greatestPiece 46 = .ok (.ireturn, 1) := by decide +kernel
set_option maxRecDepth 20000 in
theorem ggX1_flood_X1_mark : GoodIn wsX1_flood wsX1_mark := goodIn_r _ [6, 7, 41, 42, 43, 44, 45] (by decide +kernel) (by decide +kernel)
set_option maxRecDepth 20000 in
theorem gX1_flood_X1_mark : GoodIn wsX1_flood (wsV RX1 145 RX1 yX1_mark wsX1_mark) := goodIn_app (goodIn_of _ (by decide +kernel)) ggX1_flood_X1_mark
set_option maxRecDepth 20000 in
theorem ggX1_flood_X1_enqueue : GoodIn wsX1_flood wsX1_enqueue := goodIn_r _ [11, 1, 41, 42, 43, 44, 45] (by decide +kernel) (by decide +kernel)
set_option maxRecDepth 20000 in
theorem gX1_flood_X1_enqueue : GoodIn wsX1_flood (wsV RX1 160 RX1 yX1_enqueue wsX1_enqueue) := goodIn_app (goodIn_of _ (by decide +kernel)) ggX1_flood_X1_enqueue
set_option maxRecDepth 20000 in
theorem ggX1_flood_X1_floodOn : GoodIn wsX1_flood wsX1_floodOn := goodIn_r _ [15, 7, 16, 17, 18, 5, 19, 20, 21, 22, 23, 24, 25, 26, 27, 28, 29, 30, 31, 32, 33, 34, 35, 36, 37, 38, 39, 40, 2, 3, 4, 6, 8, 9, 10, 11, 1, 41, 42, 43, 44, 45, 46, 47] (by decide +kernel) (by decide +kernel)
set_option maxRecDepth 20000 in
theorem gX1_flood_X1_floodOn : GoodIn wsX1_flood (wsV RX1 163 RX1 yX1_floodOn wsX1_floodOn) := goodIn_app (goodIn_of _ (by decide +kernel)) ggX1_flood_X1_floodOn
theorem dX1_flood_0 : decode cX1_flood 0 = .ok (.aload_n 0, 1) := by decide +kernel
theorem dX1_flood_1 : decode cX1_flood 1 = .ok (.iload_n 2, 1) := by decide +kernel
theorem dX1_flood_2 : decode cX1_flood 2 = .ok (.iconst 1, 1) := by decide +kernel
theorem dX1_flood_3 : decode cX1_flood 3 = .ok (.invokevirtual 145, 3) := by decide +kernel
theorem dX1_flood_6 : decode cX1_flood 6 = .ok (.aload_n 0, 1) := by decide +kernel
theorem dX1_flood_7 : decode cX1_flood 7 = .ok (.iload_n 2, 1) := by decide +kernel
theorem dX1_flood_8 : decode cX1_flood 8 = .ok (.iconst 0, 1) := by decide +kernel
theorem dX1_flood_9 : decode cX1_flood 9 = .ok (.invokevirtual 160, 3) := by decide +kernel
theorem dX1_flood_12 : decode cX1_flood 12 = .ok (.istore_n 3, 1) := by decide +kernel
theorem dX1_flood_13 : decode cX1_flood 13 = .ok (.iconst 0, 1) := by decide +kernel
theorem dX1_flood_14 : decode cX1_flood 14 = .ok (.istore 4, 2) := by decide +kernel
theorem dX1_flood_16 : decode cX1_flood 16 = .ok (.iload 4, 2) := by decide +kernel
theorem dX1_flood_18 : decode cX1_flood 18 = .ok (.aload_n 0, 1) := by decide +kernel
theorem dX1_flood_19 : decode cX1_flood 19 = .ok (.getfield 27, 3) := by decide +kernel
theorem dX1_flood_22 : decode cX1_flood 22 = .ok (.arraylength, 1) := by decide +kernel
theorem dX1_flood_23 : decode cX1_flood 23 = .ok (.if_icmp .ge 29, 3) := by decide +kernel
theorem dX1_flood_26 : decode cX1_flood 26 = .ok (.iload 4, 2) := by decide +kernel
theorem dX1_flood_28 : decode cX1_flood 28 = .ok (.iload_n 3, 1) := by decide +kernel
theorem dX1_flood_29 : decode cX1_flood 29 = .ok (.if_icmp .ge 23, 3) := by decide +kernel
theorem dX1_flood_32 : decode cX1_flood 32 = .ok (.aload_n 0, 1) := by decide +kernel
theorem dX1_flood_33 : decode cX1_flood 33 = .ok (.iload_n 1, 1) := by decide +kernel
theorem dX1_flood_34 : decode cX1_flood 34 = .ok (.aload_n 0, 1) := by decide +kernel
theorem dX1_flood_35 : decode cX1_flood 35 = .ok (.getfield 27, 3) := by decide +kernel
theorem dX1_flood_38 : decode cX1_flood 38 = .ok (.iload 4, 2) := by decide +kernel
theorem dX1_flood_40 : decode cX1_flood 40 = .ok (.iaload, 1) := by decide +kernel
theorem dX1_flood_41 : decode cX1_flood 41 = .ok (.iload_n 3, 1) := by decide +kernel
theorem dX1_flood_42 : decode cX1_flood 42 = .ok (.invokevirtual 163, 3) := by decide +kernel
theorem dX1_flood_45 : decode cX1_flood 45 = .ok (.istore_n 3, 1) := by decide +kernel
theorem dX1_flood_46 : decode cX1_flood 46 = .ok (.iinc 4 1, 3) := by decide +kernel
theorem dX1_flood_49 : decode cX1_flood 49 = .ok (.goto (-33), 3) := by decide +kernel
theorem dX1_flood_52 : decode cX1_flood 52 = .ok (.iload_n 3, 1) := by decide +kernel
theorem dX1_flood_53 : decode cX1_flood 53 = .ok (.ireturn, 1) := by decide +kernel
set_option maxRecDepth 20000 in
theorem ggX1_floodOn_X1_valueAt : GoodIn wsX1_floodOn wsX1_valueAt := goodIn_r _ [6] (by decide +kernel) (by decide +kernel)
set_option maxRecDepth 20000 in
theorem gX1_floodOn_X1_valueAt : GoodIn wsX1_floodOn (va_wsS RX1 131 yX1_valueAt wsX1_valueAt) := goodIn_app (goodIn_of _ (by decide +kernel)) ggX1_floodOn_X1_valueAt
set_option maxRecDepth 20000 in
theorem ggX1_floodOn_X0_neighbour : GoodIn wsX1_floodOn wsX0_neighbour := goodIn_r _ [11, 12, 13, 14, 4, 5, 6, 42, 43] (by decide +kernel) (by decide +kernel)
set_option maxRecDepth 20000 in
theorem gX1_floodOn_X0_neighbour : GoodIn wsX1_floodOn (wsV RX1 49 RX0 yX0_neighbour wsX0_neighbour) := goodIn_app (goodIn_of _ (by decide +kernel)) ggX1_floodOn_X0_neighbour
set_option maxRecDepth 20000 in
theorem ggX1_floodOn_X1_startsPiece : GoodIn wsX1_floodOn wsX1_startsPiece := goodIn_r _ [18, 19, 20, 21, 5, 22, 23, 24, 25, 26, 27, 1, 3, 4, 6, 37, 38, 39, 40, 41] (by decide +kernel) (by decide +kernel)
set_option maxRecDepth 20000 in
theorem gX1_floodOn_X1_startsPiece : GoodIn wsX1_floodOn (wsV RX1 122 RX1 yX1_startsPiece wsX1_startsPiece) := goodIn_app (goodIn_of _ (by decide +kernel)) ggX1_floodOn_X1_startsPiece
set_option maxRecDepth 20000 in
theorem ggX1_floodOn_X1_mark : GoodIn wsX1_floodOn wsX1_mark := goodIn_r _ [31, 1, 37, 38, 39, 40, 41] (by decide +kernel) (by decide +kernel)
set_option maxRecDepth 20000 in
theorem gX1_floodOn_X1_mark : GoodIn wsX1_floodOn (wsV RX1 145 RX1 yX1_mark wsX1_mark) := goodIn_app (goodIn_of _ (by decide +kernel)) ggX1_floodOn_X1_mark
set_option maxRecDepth 20000 in
theorem ggX1_floodOn_X1_enqueue : GoodIn wsX1_floodOn wsX1_enqueue := goodIn_r _ [35, 36, 37, 38, 39, 40, 41] (by decide +kernel) (by decide +kernel)
set_option maxRecDepth 20000 in
theorem gX1_floodOn_X1_enqueue : GoodIn wsX1_floodOn (wsV RX1 160 RX1 yX1_enqueue wsX1_enqueue) := goodIn_app (goodIn_of _ (by decide +kernel)) ggX1_floodOn_X1_enqueue
theorem dX1_floodOn_0 : decode cX1_floodOn 0 = .ok (.iload_n 3, 1) := by decide +kernel
theorem dX1_floodOn_1 : decode cX1_floodOn 1 = .ok (.istore 4, 2) := by decide +kernel
theorem dX1_floodOn_3 : decode cX1_floodOn 3 = .ok (.aload_n 0, 1) := by decide +kernel
theorem dX1_floodOn_4 : decode cX1_floodOn 4 = .ok (.getfield 24, 3) := by decide +kernel
theorem dX1_floodOn_7 : decode cX1_floodOn 7 = .ok (.iload_n 2, 1) := by decide +kernel
theorem dX1_floodOn_8 : decode cX1_floodOn 8 = .ok (.invokestatic 131, 3) := by decide +kernel
theorem dX1_floodOn_11 : decode cX1_floodOn 11 = .ok (.iconst 1, 1) := by decide +kernel
theorem dX1_floodOn_12 : decode cX1_floodOn 12 = .ok (.iadd, 1) := by decide +kernel
theorem dX1_floodOn_13 : decode cX1_floodOn 13 = .ok (.istore 5, 2) := by decide +kernel
theorem dX1_floodOn_15 : decode cX1_floodOn 15 = .ok (.iconst 1, 1) := by decide +kernel
theorem dX1_floodOn_16 : decode cX1_floodOn 16 = .ok (.istore 6, 2) := by decide +kernel
theorem dX1_floodOn_18 : decode cX1_floodOn 18 = .ok (.iload 6, 2) := by decide +kernel
theorem dX1_floodOn_20 : decode cX1_floodOn 20 = .ok (.bipush 6, 2) := by decide +kernel
theorem dX1_floodOn_22 : decode cX1_floodOn 22 = .ok (.if_icmp .gt 49, 3) := by decide +kernel
theorem dX1_floodOn_25 : decode cX1_floodOn 25 = .ok (.aload_n 0, 1) := by decide +kernel
theorem dX1_floodOn_26 : decode cX1_floodOn 26 = .ok (.getfield 10, 3) := by decide +kernel
theorem dX1_floodOn_29 : decode cX1_floodOn 29 = .ok (.iload_n 2, 1) := by decide +kernel
theorem dX1_floodOn_30 : decode cX1_floodOn 30 = .ok (.iload 6, 2) := by decide +kernel
theorem dX1_floodOn_32 : decode cX1_floodOn 32 = .ok (.invokevirtual 49, 3) := by decide +kernel
theorem dX1_floodOn_35 : decode cX1_floodOn 35 = .ok (.istore 7, 2) := by decide +kernel
theorem dX1_floodOn_37 : decode cX1_floodOn 37 = .ok (.aload_n 0, 1) := by decide +kernel
theorem dX1_floodOn_38 : decode cX1_floodOn 38 = .ok (.iload_n 1, 1) := by decide +kernel
theorem dX1_floodOn_39 : decode cX1_floodOn 39 = .ok (.iload 7, 2) := by decide +kernel
theorem dX1_floodOn_41 : decode cX1_floodOn 41 = .ok (.invokevirtual 122, 3) := by decide +kernel
theorem dX1_floodOn_44 : decode cX1_floodOn 44 = .ok (.ifCond .eq 21, 3) := by decide +kernel
theorem dX1_floodOn_47 : decode cX1_floodOn 47 = .ok (.aload_n 0, 1) := by decide +kernel
theorem dX1_floodOn_48 : decode cX1_floodOn 48 = .ok (.iload 7, 2) := by decide +kernel
theorem dX1_floodOn_50 : decode cX1_floodOn 50 = .ok (.iload 5, 2) := by decide +kernel
theorem dX1_floodOn_52 : decode cX1_floodOn 52 = .ok (.invokevirtual 145, 3) := by decide +kernel
theorem dX1_floodOn_55 : decode cX1_floodOn 55 = .ok (.aload_n 0, 1) := by decide +kernel
theorem dX1_floodOn_56 : decode cX1_floodOn 56 = .ok (.iload 7, 2) := by decide +kernel
theorem dX1_floodOn_58 : decode cX1_floodOn 58 = .ok (.iload 4, 2) := by decide +kernel
theorem dX1_floodOn_60 : decode cX1_floodOn 60 = .ok (.invokevirtual 160, 3) := by decide +kernel
theorem dX1_floodOn_63 : decode cX1_floodOn 63 = .ok (.istore 4, 2) := by decide +kernel
theorem dX1_floodOn_65 : decode cX1_floodOn 65 = .ok (.iinc 6 1, 3) := by decide +kernel
theorem dX1_floodOn_68 : decode cX1_floodOn 68 = .ok (.goto (-50), 3) := by decide +kernel
theorem dX1_floodOn_71 : decode cX1_floodOn 71 = .ok (.iload 4, 2) := by decide +kernel
theorem dX1_floodOn_73 : decode cX1_floodOn 73 = .ok (.ireturn, 1) := by decide +kernel
theorem dX1_enqueue_0 : decode cX1_enqueue 0 = .ok (.iload_n 2, 1) := by decide +kernel
theorem dX1_enqueue_1 : decode cX1_enqueue 1 = .ok (.ifCond .lt 12, 3) := by decide +kernel
theorem dX1_enqueue_4 : decode cX1_enqueue 4 = .ok (.iload_n 2, 1) := by decide +kernel
theorem dX1_enqueue_5 : decode cX1_enqueue 5 = .ok (.aload_n 0, 1) := by decide +kernel
theorem dX1_enqueue_6 : decode cX1_enqueue 6 = .ok (.getfield 27, 3) := by decide +kernel
theorem dX1_enqueue_9 : decode cX1_enqueue 9 = .ok (.arraylength, 1) := by decide +kernel
theorem dX1_enqueue_10 : decode cX1_enqueue 10 = .ok (.if_icmp .lt 5, 3) := by decide +kernel
theorem dX1_enqueue_13 : decode cX1_enqueue 13 = .ok (.iload_n 2, 1) := by decide +kernel
theorem dX1_enqueue_14 : decode cX1_enqueue 14 = .ok (.ireturn, 1) := by decide +kernel
theorem dX1_enqueue_15 : decode cX1_enqueue 15 = .ok (.aload_n 0, 1) := by decide +kernel
theorem dX1_enqueue_16 : decode cX1_enqueue 16 = .ok (.getfield 27, 3) := by decide +kernel
theorem dX1_enqueue_19 : decode cX1_enqueue 19 = .ok (.iload_n 2, 1) := by decide +kernel
theorem dX1_enqueue_20 : decode cX1_enqueue 20 = .ok (.iload_n 1, 1) := by decide +kernel
theorem dX1_enqueue_21 : decode cX1_enqueue 21 = .ok (.iastore, 1) := by decide +kernel
theorem dX1_enqueue_22 : decode cX1_enqueue 22 = .ok (.iload_n 2, 1) := by decide +kernel
theorem dX1_enqueue_23 : decode cX1_enqueue 23 = .ok (.iconst 1, 1) := by decide +kernel
theorem dX1_enqueue_24 : decode cX1_enqueue 24 = .ok (.iadd, 1) := by decide +kernel
theorem dX1_enqueue_25 : decode cX1_enqueue 25 = .ok (.ireturn, 1) := by decide +kernel
theorem dJ9_abs_0f7a4_0 : decode cJ9_abs_0f7a4 0 = .ok (.iload_n 0, 1) := by decide +kernel
theorem dJ9_abs_0f7a4_1 : decode cJ9_abs_0f7a4 1 = .ok (.ifCond .ge 8, 3) := by decide +kernel
theorem dJ9_abs_0f7a4_4 : decode cJ9_abs_0f7a4 4 = .ok (.iload_n 0, 1) := by decide +kernel
theorem dJ9_abs_0f7a4_5 : decode cJ9_abs_0f7a4 5 = .ok (.ineg, 1) := by decide +kernel
theorem dJ9_abs_0f7a4_6 : decode cJ9_abs_0f7a4 6 = .ok (.goto 4, 3) := by decide +kernel
theorem dJ9_abs_0f7a4_9 : decode cJ9_abs_0f7a4 9 = .ok (.iload_n 0, 1) := by decide +kernel
theorem dJ9_abs_0f7a4_10 : decode cJ9_abs_0f7a4 10 = .ok (.ireturn, 1) := by decide +kernel
theorem dJ9_max_7cf53_0 : decode cJ9_max_7cf53 0 = .ok (.iload_n 0, 1) := by decide +kernel
theorem dJ9_max_7cf53_1 : decode cJ9_max_7cf53 1 = .ok (.iload_n 1, 1) := by decide +kernel
theorem dJ9_max_7cf53_2 : decode cJ9_max_7cf53 2 = .ok (.if_icmp .lt 7, 3) := by decide +kernel
theorem dJ9_max_7cf53_5 : decode cJ9_max_7cf53 5 = .ok (.iload_n 0, 1) := by decide +kernel
theorem dJ9_max_7cf53_6 : decode cJ9_max_7cf53 6 = .ok (.goto 4, 3) := by decide +kernel
theorem dJ9_max_7cf53_9 : decode cJ9_max_7cf53 9 = .ok (.iload_n 1, 1) := by decide +kernel
theorem dJ9_max_7cf53_10 : decode cJ9_max_7cf53 10 = .ok (.ireturn, 1) := by decide +kernel
theorem dJ7_fill_53178_0 : decode cJ7_fill_53178 0 = .ok (.iconst 0, 1) := by decide +kernel
theorem dJ7_fill_53178_1 : decode cJ7_fill_53178 1 = .ok (.istore_n 2, 1) := by decide +kernel
theorem dJ7_fill_53178_2 : decode cJ7_fill_53178 2 = .ok (.aload_n 0, 1) := by decide +kernel
theorem dJ7_fill_53178_3 : decode cJ7_fill_53178 3 = .ok (.arraylength, 1) := by decide +kernel
theorem dJ7_fill_53178_4 : decode cJ7_fill_53178 4 = .ok (.istore_n 3, 1) := by decide +kernel
theorem dJ7_fill_53178_5 : decode cJ7_fill_53178 5 = .ok (.iload_n 2, 1) := by decide +kernel
theorem dJ7_fill_53178_6 : decode cJ7_fill_53178 6 = .ok (.iload_n 3, 1) := by decide +kernel
theorem dJ7_fill_53178_7 : decode cJ7_fill_53178 7 = .ok (.if_icmp .ge 13, 3) := by decide +kernel
theorem dJ7_fill_53178_10 : decode cJ7_fill_53178 10 = .ok (.aload_n 0, 1) := by decide +kernel
theorem dJ7_fill_53178_11 : decode cJ7_fill_53178 11 = .ok (.iload_n 2, 1) := by decide +kernel
theorem dJ7_fill_53178_12 : decode cJ7_fill_53178 12 = .ok (.iload_n 1, 1) := by decide +kernel
theorem dJ7_fill_53178_13 : decode cJ7_fill_53178 13 = .ok (.iastore, 1) := by decide +kernel
theorem dJ7_fill_53178_14 : decode cJ7_fill_53178 14 = .ok (.iinc 2 1, 3) := by decide +kernel
theorem dJ7_fill_53178_17 : decode cJ7_fill_53178 17 = .ok (.goto (-12), 3) := by decide +kernel
theorem dJ7_fill_53178_20 : decode cJ7_fill_53178 20 = .ok (.return_, 1) := by decide +kernel
