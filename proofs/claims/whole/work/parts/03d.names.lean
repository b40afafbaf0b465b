theorem dX6_remove_1 : decode cX6_remove 1 = .ok (.getfield 11, 3) := by decide +kernel
theorem dX6_remove_4 : decode cX6_remove 4 = .ok (.iload_n 1, 1) := by decide +kernel
theorem dX6_remove_5 : decode cX6_remove 5 = .ok (.aaload, 1) := by decide +kernel
theorem dX6_remove_6 : decode cX6_remove 6 = .ok (.astore_n 2, 1) := by decide +kernel
theorem dX6_remove_7 : decode cX6_remove 7 = .ok (.iload_n 1, 1) := by decide +kernel
theorem dX6_remove_8 : decode cX6_remove 8 = .ok (.iconst 1, 1) := by decide +kernel
theorem dX6_remove_9 : decode cX6_remove 9 = .ok (.iadd, 1) := by decide +kernel
theorem dX6_remove_10 : decode cX6_remove 10 = .ok (.istore_n 3, 1) := by decide +kernel
theorem dX6_remove_11 : decode cX6_remove 11 = .ok (.iload_n 3, 1) := by decide +kernel
theorem dX6_remove_12 : decode cX6_remove 12 = .ok (.aload_n 0, 1) := by decide +kernel
theorem dX6_remove_13 : decode cX6_remove 13 = .ok (.getfield 17, 3) := by decide +kernel
theorem dX6_remove_16 : decode cX6_remove 16 = .ok (.if_icmp .ge 23, 3) := by decide +kernel
theorem dX6_remove_19 : decode cX6_remove 19 = .ok (.aload_n 0, 1) := by decide +kernel
theorem dX6_remove_20 : decode cX6_remove 20 = .ok (.getfield 11, 3) := by decide +kernel
theorem dX6_remove_23 : decode cX6_remove 23 = .ok (.iload_n 3, 1) := by decide +kernel
theorem dX6_remove_24 : decode cX6_remove 24 = .ok (.iconst 1, 1) := by decide +kernel
theorem dX6_remove_25 : decode cX6_remove 25 = .ok (.isub, 1) := by decide +kernel
theorem dX6_remove_26 : decode cX6_remove 26 = .ok (.aload_n 0, 1) := by decide +kernel
theorem dX6_remove_27 : decode cX6_remove 27 = .ok (.getfield 11, 3) := by decide +kernel
theorem dX6_remove_30 : decode cX6_remove 30 = .ok (.iload_n 3, 1) := by decide +kernel
theorem dX6_remove_31 : decode cX6_remove 31 = .ok (.aaload, 1) := by decide +kernel
theorem dX6_remove_32 : decode cX6_remove 32 = .ok (.aastore, 1) := by decide +kernel
theorem dX6_remove_33 : decode cX6_remove 33 = .ok (.iinc 3 1, 3) := by decide +kernel
theorem dX6_remove_36 : decode cX6_remove 36 = .ok (.goto (-25), 3) := by decide +kernel
theorem dX6_remove_39 : decode cX6_remove 39 = .ok (.aload_n 0, 1) := by decide +kernel
theorem dX6_remove_40 : decode cX6_remove 40 = .ok (.dup, 1) := by decide +kernel
theorem dX6_remove_41 : decode cX6_remove 41 = .ok (.getfield 17, 3) := by decide +kernel
theorem dX6_remove_44 : decode cX6_remove 44 = .ok (.iconst 1, 1) := by decide +kernel
theorem dX6_remove_45 : decode cX6_remove 45 = .ok (.isub, 1) := by decide +kernel
theorem dX6_remove_46 : decode cX6_remove 46 = .ok (.putfield 17, 3) := by decide +kernel
theorem dX6_remove_49 : decode cX6_remove 49 = .ok (.aload_n 0, 1) := by decide +kernel
theorem dX6_remove_50 : decode cX6_remove 50 = .ok (.getfield 11, 3) := by decide +kernel
theorem dX6_remove_53 : decode cX6_remove 53 = .ok (.aload_n 0, 1) := by decide +kernel
theorem dX6_remove_54 : decode cX6_remove 54 = .ok (.getfield 17, 3) := by decide +kernel
theorem dX6_remove_57 : decode cX6_remove 57 = .ok (.aload_n 2, 1) := by decide +kernel
theorem dX6_remove_58 : decode cX6_remove 58 = .ok (.aastore, 1) := by decide +kernel
theorem dX6_remove_59 : decode cX6_remove 59 = .ok (.return_, 1) := by decide +kernel
set_option maxRecDepth 20000 in
theorem ggX6_generate_X5_generate : GoodIn wsX6_generate wsX5_generate := goodIn_r _ [7, 8, 9, 10, 11, 12, 15, 16, 17, 18, 19, 20, 21] (by decide +kernel) (by decide +kernel)
set_option maxRecDepth 20000 in
theorem gX6_generate_X5_generate : GoodIn wsX6_generate (wsV RX6 26 RX5 yX5_generate wsX5_generate) := goodIn_app (goodIn_of _ (by decide +kernel)) ggX6_generate_X5_generate
theorem dX6_generate_0 : decode cX6_generate 0 = .ok (.iconst 0, 1) := by decide +kernel
theorem dX6_generate_1 : decode cX6_generate 1 = .ok (.istore_n 2, 1) := by decide +kernel
theorem dX6_generate_2 : decode cX6_generate 2 = .ok (.iload_n 2, 1) := by decide +kernel
theorem dX6_generate_3 : decode cX6_generate 3 = .ok (.aload_n 0, 1) := by decide +kernel
theorem dX6_generate_4 : decode cX6_generate 4 = .ok (.getfield 17, 3) := by decide +kernel
theorem dX6_generate_7 : decode cX6_generate 7 = .ok (.if_icmp .ge 19, 3) := by decide +kernel
theorem dX6_generate_10 : decode cX6_generate 10 = .ok (.aload_n 0, 1) := by decide +kernel
theorem dX6_generate_11 : decode cX6_generate 11 = .ok (.getfield 11, 3) := by decide +kernel
theorem dX6_generate_14 : decode cX6_generate 14 = .ok (.iload_n 2, 1) := by decide +kernel
theorem dX6_generate_15 : decode cX6_generate 15 = .ok (.aaload, 1) := by decide +kernel
theorem dX6_generate_16 : decode cX6_generate 16 = .ok (.iload_n 1, 1) := by decide +kernel
theorem dX6_generate_17 : decode cX6_generate 17 = .ok (.invokevirtual 26, 3) := by decide +kernel
theorem dX6_generate_20 : decode cX6_generate 20 = .ok (.iinc 2 1, 3) := by decide +kernel
theorem dX6_generate_23 : decode cX6_generate 23 = .ok (.goto (-21), 3) := by decide +kernel
theorem dX6_generate_26 : decode cX6_generate 26 = .ok (.return_, 1) := by decide +kernel
set_option maxRecDepth 20000 in
theorem ggX7_init_X0_init : GoodIn wsX7_init wsX0_init := goodIn_r _ [29, 30, 2, 3, 31, 32, 33, 34, 35, 36, 37, 38, 39, 40, 41, 42, 43, 44, 45, 46, 47, 48, 93, 94, 95, 96, 97, 98, 99, 100, 126, 127] (by decide +kernel) (by decide +kernel)
set_option maxRecDepth 20000 in
theorem gX7_init_X0_init_n9 : GoodIn wsX7_init (wsX0_init) := ggX7_init_X0_init
set_option maxRecDepth 20000 in
theorem ggX7_init_X3_init : GoodIn wsX7_init wsX3_init := goodIn_r _ [50, 51, 2, 3, 52, 35, 36, 53, 54, 55, 56, 31, 57, 58, 59, 43, 44, 45, 46, 47, 48, 126, 127, 110, 111, 112, 113, 114, 115] (by decide +kernel) (by decide +kernel)
set_option maxRecDepth 20000 in
theorem gX7_init_X3_init_n18 : GoodIn wsX7_init (wsX3_init) := ggX7_init_X3_init
set_option maxRecDepth 20000 in
theorem ggX7_init_X1_init : GoodIn wsX7_init wsX1_init := goodIn_r _ [61, 62, 2, 3, 31, 63, 64, 65, 66, 67, 68, 116, 117, 118, 119, 120, 121] (by decide +kernel) (by decide +kernel)
set_option maxRecDepth 20000 in
theorem gX7_init_X1_init_n25 : GoodIn wsX7_init (wsX1_init) := ggX7_init_X1_init
set_option maxRecDepth 20000 in
theorem ggX7_init_X6_init : GoodIn wsX7_init wsX6_init := goodIn_r _ [71, 72, 2, 3, 73, 74, 75, 76, 77, 78, 79, 80, 31, 81, 82, 83, 84, 85, 86, 87, 122, 123, 128, 129, 130, 131, 132, 133, 134] (by decide +kernel) (by decide +kernel)
set_option maxRecDepth 20000 in
theorem gX7_init_X6_init : GoodIn wsX7_init (wsX6_init) := ggX7_init_X6_init
set_option maxRecDepth 20000 in
theorem ggX7_init_X4_init : GoodIn wsX7_init wsX4_init := goodIn_r _ [89, 90, 2, 3, 31, 91, 92, 124, 125] (by decide +kernel) (by decide +kernel)
set_option maxRecDepth 20000 in
theorem gX7_init_X4_init_n39 : GoodIn wsX7_init (wsX4_init) := ggX7_init_X4_init
theorem dX7_init_0 : decode cX7_init 0 = .ok (.aload_n 0, 1) := by decide +kernel
theorem dX7_init_1 : decode cX7_init 1 = .ok (.invokespecial 1, 3) := by decide +kernel
theorem dX7_init_4 : decode cX7_init 4 = .ok (.aload_n 0, 1) := by decide +kernel
theorem dX7_init_5 : decode cX7_init 5 = .ok (.new 7, 3) := by decide +kernel
theorem dX7_init_8 : decode cX7_init 8 = .ok (.dup, 1) := by decide +kernel
theorem dX7_init_9 : decode cX7_init 9 = .ok (.invokespecial 9, 3) := by decide +kernel
theorem dX7_init_12 : decode cX7_init 12 = .ok (.putfield 10, 3) := by decide +kernel
theorem dX7_init_15 : decode cX7_init 15 = .ok (.aload_n 0, 1) := by decide +kernel
theorem dX7_init_16 : decode cX7_init 16 = .ok (.new 16, 3) := by decide +kernel
theorem dX7_init_19 : decode cX7_init 19 = .ok (.dup, 1) := by decide +kernel
theorem dX7_init_20 : decode cX7_init 20 = .ok (.invokespecial 18, 3) := by decide +kernel
theorem dX7_init_23 : decode cX7_init 23 = .ok (.putfield 19, 3) := by decide +kernel
theorem dX7_init_26 : decode cX7_init 26 = .ok (.aload_n 0, 1) := by decide +kernel
theorem dX7_init_27 : decode cX7_init 27 = .ok (.new 23, 3) := by decide +kernel
theorem dX7_init_30 : decode cX7_init 30 = .ok (.dup, 1) := by decide +kernel
theorem dX7_init_31 : decode cX7_init 31 = .ok (.invokespecial 25, 3) := by decide +kernel
theorem dX7_init_34 : decode cX7_init 34 = .ok (.putfield 26, 3) := by decide +kernel
theorem dX7_init_37 : decode cX7_init 37 = .ok (.aload_n 0, 1) := by decide +kernel
theorem dX7_init_38 : decode cX7_init 38 = .ok (.new 30, 3) := by decide +kernel
theorem dX7_init_41 : decode cX7_init 41 = .ok (.dup, 1) := by decide +kernel
theorem dX7_init_42 : decode cX7_init 42 = .ok (.invokespecial 32, 3) := by decide +kernel
theorem dX7_init_45 : decode cX7_init 45 = .ok (.putfield 33, 3) := by decide +kernel
theorem dX7_init_48 : decode cX7_init 48 = .ok (.aload_n 0, 1) := by decide +kernel
theorem dX7_init_49 : decode cX7_init 49 = .ok (.new 37, 3) := by decide +kernel
theorem dX7_init_52 : decode cX7_init 52 = .ok (.dup, 1) := by decide +kernel
theorem dX7_init_53 : decode cX7_init 53 = .ok (.invokespecial 39, 3) := by decide +kernel
theorem dX7_init_56 : decode cX7_init 56 = .ok (.putfield 40, 3) := by decide +kernel
theorem dX7_init_59 : decode cX7_init 59 = .ok (.aload_n 0, 1) := by decide +kernel
theorem dX7_init_60 : decode cX7_init 60 = .ok (.iconst 3, 1) := by decide +kernel
theorem dX7_init_61 : decode cX7_init 61 = .ok (.putfield 44, 3) := by decide +kernel
theorem dX7_init_64 : decode cX7_init 64 = .ok (.aload_n 0, 1) := by decide +kernel
theorem dX7_init_65 : decode cX7_init 65 = .ok (.iconst 2, 1) := by decide +kernel
theorem dX7_init_66 : decode cX7_init 66 = .ok (.putfield 48, 3) := by decide +kernel
theorem dX7_init_69 : decode cX7_init 69 = .ok (.aload_n 0, 1) := by decide +kernel
theorem dX7_init_70 : decode cX7_init 70 = .ok (.iconst (-1), 1) := by decide +kernel
theorem dX7_init_71 : decode cX7_init 71 = .ok (.putfield 51, 3) := by decide +kernel
theorem dX7_init_74 : decode cX7_init 74 = .ok (.aload_n 0, 1) := by decide +kernel
theorem dX7_init_75 : decode cX7_init 75 = .ok (.iconst 0, 1) := by decide +kernel
theorem dX7_init_76 : decode cX7_init 76 = .ok (.putfield 54, 3) := by decide +kernel
theorem dX7_init_79 : decode cX7_init 79 = .ok (.return_, 1) := by decide +kernel
set_option maxRecDepth 20000 in
theorem ggX7_append_X0_add : GoodIn wsX7_append wsX0_add := goodIn_r _ [6, 7, 8, 18, 19, 20, 21, 22, 23, 24, 25] (by decide +kernel) (by decide +kernel)
set_option maxRecDepth 20000 in
theorem gX7_append_X0_add : GoodIn wsX7_append (wsV RX7 57 RX0 yX0_add wsX0_add) := goodIn_app (goodIn_of _ (by decide +kernel)) ggX7_append_X0_add
theorem dX7_append_0 : decode cX7_append 0 = .ok (.iload_n 1, 1) := by decide +kernel
theorem dX7_append_1 : decode cX7_append 1 = .ok (.bipush 32, 2) := by decide +kernel
theorem dX7_append_3 : decode cX7_append 3 = .ok (.if_icmp .lt 9, 3) := by decide +kernel
theorem dX7_append_6 : decode cX7_append 6 = .ok (.iload_n 1, 1) := by decide +kernel
theorem dX7_append_7 : decode cX7_append 7 = .ok (.bipush 126, 2) := by decide +kernel
theorem dX7_append_9 : decode cX7_append 9 = .ok (.if_icmp .le 7, 3) := by decide +kernel
theorem dX7_append_12 : decode cX7_append 12 = .ok (.sipush (-1002), 3) := by decide +kernel
theorem dX7_append_15 : decode cX7_append 15 = .ok (.ireturn, 1) := by decide +kernel
theorem dX7_append_16 : decode cX7_append 16 = .ok (.aload_n 0, 1) := by decide +kernel
theorem dX7_append_17 : decode cX7_append 17 = .ok (.getfield 10, 3) := by decide +kernel
theorem dX7_append_20 : decode cX7_append 20 = .ok (.iload_n 1, 1) := by decide +kernel
theorem dX7_append_21 : decode cX7_append 21 = .ok (.invokevirtual 57, 3) := by decide +kernel
theorem dX7_append_24 : decode cX7_append 24 = .ok (.ireturn, 1) := by decide +kernel
theorem dX7_clearBuffer_0 : decode cX7_clearBuffer 0 = .ok (.aload_n 0, 1) := by decide +kernel
theorem dX7_clearBuffer_1 : decode cX7_clearBuffer 1 = .ok (.getfield 10, 3) := by decide +kernel
theorem dX7_clearBuffer_4 : decode cX7_clearBuffer 4 = .ok (.getfield 61, 3) := by decide +kernel
theorem dX7_clearBuffer_7 : decode cX7_clearBuffer 7 = .ok (.istore_n 1, 1) := by decide +kernel
theorem dX7_clearBuffer_8 : decode cX7_clearBuffer 8 = .ok (.aload_n 0, 1) := by decide +kernel
theorem dX7_clearBuffer_9 : decode cX7_clearBuffer 9 = .ok (.getfield 10, 3) := by decide +kernel
theorem dX7_clearBuffer_12 : decode cX7_clearBuffer 12 = .ok (.iconst 0, 1) := by decide +kernel
theorem dX7_clearBuffer_13 : decode cX7_clearBuffer 13 = .ok (.putfield 61, 3) := by decide +kernel
theorem dX7_clearBuffer_16 : decode cX7_clearBuffer 16 = .ok (.iload_n 1, 1) := by decide +kernel
theorem dX7_clearBuffer_17 : decode cX7_clearBuffer 17 = .ok (.ireturn, 1) := by decide +kernel
set_option maxRecDepth 20000 in
theorem ggX7_errorPosition_X0_findError : GoodIn wsX7_errorPosition wsX0_findError := goodIn_r _ [6, 7, 8, 9, 10, 11, 12, 13, 14, 15, 16, 17, 18, 19, 20, 21, 22, 23, 24, 25, 5, 26, 27, 28, 29, 30, 31, 32, 33, 34, 35, 36, 37, 38, 39, 40, 41, 42, 43, 44, 45, 46, 47, 48, 49, 50, 51, 52, 53, 54, 55, 56, 57, 58, 59, 60, 61, 62, 63, 64, 65, 75, 76, 77, 78, 79, 80, 81, 82, 83, 84] (by decide +kernel) (by decide +kernel)
set_option maxRecDepth 20000 in
theorem gX7_errorPosition_X0_findError : GoodIn wsX7_errorPosition (wsV RX7 64 RX0 yX0_findError wsX0_findError) := goodIn_app (goodIn_of _ (by decide +kernel)) ggX7_errorPosition_X0_findError
theorem dX7_errorPosition_0 : decode cX7_errorPosition 0 = .ok (.aload_n 0, 1) := by decide +kernel
theorem dX7_errorPosition_1 : decode cX7_errorPosition 1 = .ok (.getfield 10, 3) := by decide +kernel
theorem dX7_errorPosition_4 : decode cX7_errorPosition 4 = .ok (.invokevirtual 64, 3) := by decide +kernel
theorem dX7_errorPosition_7 : decode cX7_errorPosition 7 = .ok (.ireturn, 1) := by decide +kernel
set_option maxRecDepth 20000 in
theorem ggX7_loadNetwork_X0_isComplete : GoodIn wsX7_loadNetwork wsX0_isComplete := goodIn_r _ [18, 19, 20, 21, 22, 23, 17, 24, 25, 26, 27, 28, 29, 30, 31, 32, 33, 34, 35, 36, 37, 38, 39, 40, 41, 42, 43, 44, 45, 46, 47, 48, 49, 50, 51, 52, 53, 54, 55, 56, 57, 58, 59, 60, 61, 62, 63, 64, 65, 66, 67, 68, 69, 70, 71, 72, 73, 74, 75, 76, 77, 78, 79, 80, 81, 118, 119, 120, 121, 122, 123, 124, 125, 136, 137] (by decide +kernel) (by decide +kernel)
set_option maxRecDepth 20000 in
theorem gX7_loadNetwork_X0_isComplete : GoodIn wsX7_loadNetwork (wsV RX7 68 RX0 yX0_isComplete wsX0_isComplete) := goodIn_app (goodIn_of _ (by decide +kernel)) ggX7_loadNetwork_X0_isComplete
set_option maxRecDepth 20000 in
theorem ggX7_loadNetwork_X3_startAnew : GoodIn wsX7_loadNetwork wsX3_startAnew := goodIn_r _ [86, 87, 88, 89, 90, 91, 92, 93, 94, 31, 95, 33, 96, 97, 98, 99, 34, 130, 131, 132, 133, 134, 135, 136, 137] (by decide +kernel) (by decide +kernel)
set_option maxRecDepth 20000 in
theorem gX7_loadNetwork_X3_startAnew : GoodIn wsX7_loadNetwork (wsV RX7 79 RX3 yX3_startAnew wsX3_startAnew) := goodIn_app (goodIn_of _ (by decide +kernel)) ggX7_loadNetwork_X3_startAnew
set_option maxRecDepth 20000 in
theorem ggX7_loadNetwork_X1_forget : GoodIn wsX7_loadNetwork wsX1_forget := goodIn_r _ [104, 105, 106, 107, 108, 36, 37, 38, 138, 139, 140, 141, 142, 143] (by decide +kernel) (by decide +kernel)
set_option maxRecDepth 20000 in
theorem gX7_loadNetwork_X1_forget : GoodIn wsX7_loadNetwork (wsV RX7 83 RX1 yX1_forget wsX1_forget) := goodIn_app (goodIn_of _ (by decide +kernel)) ggX7_loadNetwork_X1_forget
theorem dX7_loadNetwork_0 : decode cX7_loadNetwork 0 = .ok (.aload_n 0, 1) := by decide +kernel
theorem dX7_loadNetwork_1 : decode cX7_loadNetwork 1 = .ok (.getfield 10, 3) := by decide +kernel
theorem dX7_loadNetwork_4 : decode cX7_loadNetwork 4 = .ok (.invokevirtual 68, 3) := by decide +kernel
theorem dX7_loadNetwork_7 : decode cX7_loadNetwork 7 = .ok (.ifCond .ne 7, 3) := by decide +kernel
theorem dX7_loadNetwork_10 : decode cX7_loadNetwork 10 = .ok (.sipush (-1003), 3) := by decide +kernel
theorem dX7_loadNetwork_13 : decode cX7_loadNetwork 13 = .ok (.ireturn, 1) := by decide +kernel
theorem dX7_loadNetwork_14 : decode cX7_loadNetwork 14 = .ok (.aload_n 0, 1) := by decide +kernel
theorem dX7_loadNetwork_15 : decode cX7_loadNetwork 15 = .ok (.getfield 19, 3) := by decide +kernel
theorem dX7_loadNetwork_18 : decode cX7_loadNetwork 18 = .ok (.aload_n 0, 1) := by decide +kernel
theorem dX7_loadNetwork_19 : decode cX7_loadNetwork 19 = .ok (.getfield 10, 3) := by decide +kernel
theorem dX7_loadNetwork_22 : decode cX7_loadNetwork 22 = .ok (.getfield 72, 3) := by decide +kernel
theorem dX7_loadNetwork_25 : decode cX7_loadNetwork 25 = .ok (.aload_n 0, 1) := by decide +kernel
theorem dX7_loadNetwork_26 : decode cX7_loadNetwork 26 = .ok (.getfield 10, 3) := by decide +kernel
theorem dX7_loadNetwork_29 : decode cX7_loadNetwork 29 = .ok (.getfield 75, 3) := by decide +kernel
theorem dX7_loadNetwork_32 : decode cX7_loadNetwork 32 = .ok (.invokevirtual 79, 3) := by decide +kernel
theorem dX7_loadNetwork_35 : decode cX7_loadNetwork 35 = .ok (.aload_n 0, 1) := by decide +kernel
theorem dX7_loadNetwork_36 : decode cX7_loadNetwork 36 = .ok (.getfield 10, 3) := by decide +kernel
theorem dX7_loadNetwork_39 : decode cX7_loadNetwork 39 = .ok (.iconst 0, 1) := by decide +kernel
theorem dX7_loadNetwork_40 : decode cX7_loadNetwork 40 = .ok (.putfield 61, 3) := by decide +kernel
theorem dX7_loadNetwork_43 : decode cX7_loadNetwork 43 = .ok (.aload_n 0, 1) := by decide +kernel
theorem dX7_loadNetwork_44 : decode cX7_loadNetwork 44 = .ok (.getfield 26, 3) := by decide +kernel
theorem dX7_loadNetwork_47 : decode cX7_loadNetwork 47 = .ok (.invokevirtual 83, 3) := by decide +kernel
theorem dX7_loadNetwork_50 : decode cX7_loadNetwork 50 = .ok (.aload_n 0, 1) := by decide +kernel
theorem dX7_loadNetwork_51 : decode cX7_loadNetwork 51 = .ok (.getfield 33, 3) := by decide +kernel
theorem dX7_loadNetwork_54 : decode cX7_loadNetwork 54 = .ok (.iconst 0, 1) := by decide +kernel
theorem dX7_loadNetwork_55 : decode cX7_loadNetwork 55 = .ok (.putfield 86, 3) := by decide +kernel
theorem dX7_loadNetwork_58 : decode cX7_loadNetwork 58 = .ok (.aload_n 0, 1) := by decide +kernel
theorem dX7_loadNetwork_59 : decode cX7_loadNetwork 59 = .ok (.getfield 40, 3) := by decide +kernel
theorem dX7_loadNetwork_62 : decode cX7_loadNetwork 62 = .ok (.iconst 0, 1) := by decide +kernel
theorem dX7_loadNetwork_63 : decode cX7_loadNetwork 63 = .ok (.putfield 89, 3) := by decide +kernel
theorem dX7_loadNetwork_66 : decode cX7_loadNetwork 66 = .ok (.aload_n 0, 1) := by decide +kernel
theorem dX7_loadNetwork_67 : decode cX7_loadNetwork 67 = .ok (.iconst 0, 1) := by decide +kernel
theorem dX7_loadNetwork_68 : decode cX7_loadNetwork 68 = .ok (.putfield 51, 3) := by decide +kernel
theorem dX7_loadNetwork_71 : decode cX7_loadNetwork 71 = .ok (.aload_n 0, 1) := by decide +kernel
theorem dX7_loadNetwork_72 : decode cX7_loadNetwork 72 = .ok (.iconst 0, 1) := by decide +kernel
theorem dX7_loadNetwork_73 : decode cX7_loadNetwork 73 = .ok (.putfield 54, 3) := by decide +kernel
theorem dX7_loadNetwork_76 : decode cX7_loadNetwork 76 = .ok (.aload_n 0, 1) := by decide +kernel
theorem dX7_loadNetwork_77 : decode cX7_loadNetwork 77 = .ok (.getfield 19, 3) := by decide +kernel
theorem dX7_loadNetwork_80 : decode cX7_loadNetwork 80 = .ok (.getfield 92, 3) := by decide +kernel
theorem dX7_loadNetwork_83 : decode cX7_loadNetwork 83 = .ok (.ireturn, 1) := by decide +kernel
theorem dX7_setTransmissionLimit_0 : decode cX7_setTransmissionLimit 0 = .ok (.iload_n 1, 1) := by decide +kernel
theorem dX7_setTransmissionLimit_1 : decode cX7_setTransmissionLimit 1 = .ok (.iconst 1, 1) := by decide +kernel
theorem dX7_setTransmissionLimit_2 : decode cX7_setTransmissionLimit 2 = .ok (.if_icmp .lt 8, 3) := by decide +kernel
theorem dX7_setTransmissionLimit_5 : decode cX7_setTransmissionLimit 5 = .ok (.iload_n 1, 1) := by decide +kernel
theorem dX7_setTransmissionLimit_6 : decode cX7_setTransmissionLimit 6 = .ok (.iconst 4, 1) := by decide +kernel
theorem dX7_setTransmissionLimit_7 : decode cX7_setTransmissionLimit 7 = .ok (.if_icmp .le 7, 3) := by decide +kernel
theorem dX7_setTransmissionLimit_10 : decode cX7_setTransmissionLimit 10 = .ok (.sipush (-1002), 3) := by decide +kernel
theorem dX7_setTransmissionLimit_13 : decode cX7_setTransmissionLimit 13 = .ok (.ireturn, 1) := by decide +kernel
theorem dX7_setTransmissionLimit_14 : decode cX7_setTransmissionLimit 14 = .ok (.aload_n 0, 1) := by decide +kernel
theorem dX7_setTransmissionLimit_15 : decode cX7_setTransmissionLimit 15 = .ok (.getfield 26, 3) := by decide +kernel
theorem dX7_setTransmissionLimit_18 : decode cX7_setTransmissionLimit 18 = .ok (.getfield 93, 3) := by decide +kernel
theorem dX7_setTransmissionLimit_21 : decode cX7_setTransmissionLimit 21 = .ok (.istore_n 2, 1) := by decide +kernel
theorem dX7_setTransmissionLimit_22 : decode cX7_setTransmissionLimit 22 = .ok (.aload_n 0, 1) := by decide +kernel
theorem dX7_setTransmissionLimit_23 : decode cX7_setTransmissionLimit 23 = .ok (.getfield 26, 3) := by decide +kernel
theorem dX7_setTransmissionLimit_26 : decode cX7_setTransmissionLimit 26 = .ok (.iload_n 1, 1) := by decide +kernel
theorem dX7_setTransmissionLimit_27 : decode cX7_setTransmissionLimit 27 = .ok (.putfield 93, 3) := by decide +kernel
theorem dX7_setTransmissionLimit_30 : decode cX7_setTransmissionLimit 30 = .ok (.iload_n 2, 1) := by decide +kernel
theorem dX7_setTransmissionLimit_31 : decode cX7_setTransmissionLimit 31 = .ok (.ireturn, 1) := by decide +kernel
theorem dX7_setCaptureMargin_0 : decode cX7_setCaptureMargin 0 = .ok (.iload_n 1, 1) := by decide +kernel
theorem dX7_setCaptureMargin_1 : decode cX7_setCaptureMargin 1 = .ok (.iconst 1, 1) := by decide +kernel
theorem dX7_setCaptureMargin_2 : decode cX7_setCaptureMargin 2 = .ok (.if_icmp .lt 9, 3) := by decide +kernel
theorem dX7_setCaptureMargin_5 : decode cX7_setCaptureMargin 5 = .ok (.iload_n 1, 1) := by decide +kernel
theorem dX7_setCaptureMargin_6 : decode cX7_setCaptureMargin 6 = .ok (.bipush 9, 2) := by decide +kernel
theorem dX7_setCaptureMargin_8 : decode cX7_setCaptureMargin 8 = .ok (.if_icmp .le 7, 3) := by decide +kernel
theorem dX7_setCaptureMargin_11 : decode cX7_setCaptureMargin 11 = .ok (.sipush (-1002), 3) := by decide +kernel
theorem dX7_setCaptureMargin_14 : decode cX7_setCaptureMargin 14 = .ok (.ireturn, 1) := by decide +kernel
theorem dX7_setCaptureMargin_15 : decode cX7_setCaptureMargin 15 = .ok (.aload_n 0, 1) := by decide +kernel
theorem dX7_setCaptureMargin_16 : decode cX7_setCaptureMargin 16 = .ok (.getfield 26, 3) := by decide +kernel
theorem dX7_setCaptureMargin_19 : decode cX7_setCaptureMargin 19 = .ok (.getfield 96, 3) := by decide +kernel
theorem dX7_setCaptureMargin_22 : decode cX7_setCaptureMargin 22 = .ok (.istore_n 2, 1) := by decide +kernel
theorem dX7_setCaptureMargin_23 : decode cX7_setCaptureMargin 23 = .ok (.aload_n 0, 1) := by decide +kernel
theorem dX7_setCaptureMargin_24 : decode cX7_setCaptureMargin 24 = .ok (.getfield 26, 3) := by decide +kernel
theorem dX7_setCaptureMargin_27 : decode cX7_setCaptureMargin 27 = .ok (.iload_n 1, 1) := by decide +kernel
theorem dX7_setCaptureMargin_28 : decode cX7_setCaptureMargin 28 = .ok (.putfield 96, 3) := by decide +kernel
theorem dX7_setCaptureMargin_31 : decode cX7_setCaptureMargin 31 = .ok (.iload_n 2, 1) := by decide +kernel
theorem dX7_setCaptureMargin_32 : decode cX7_setCaptureMargin 32 = .ok (.ireturn, 1) := by decide +kernel
theorem dX7_setSlotLimit_0 : decode cX7_setSlotLimit 0 = .ok (.iload_n 1, 1) := by decide +kernel
theorem dX7_setSlotLimit_1 : decode cX7_setSlotLimit 1 = .ok (.ifCond .lt 9, 3) := by decide +kernel
theorem dX7_setSlotLimit_4 : decode cX7_setSlotLimit 4 = .ok (.iload_n 1, 1) := by decide +kernel
theorem dX7_setSlotLimit_5 : decode cX7_setSlotLimit 5 = .ok (.bipush 6, 2) := by decide +kernel
theorem dX7_setSlotLimit_7 : decode cX7_setSlotLimit 7 = .ok (.if_icmp .le 7, 3) := by decide +kernel
theorem dX7_setSlotLimit_10 : decode cX7_setSlotLimit 10 = .ok (.sipush (-1002), 3) := by decide +kernel
theorem dX7_setSlotLimit_13 : decode cX7_setSlotLimit 13 = .ok (.ireturn, 1) := by decide +kernel
theorem dX7_setSlotLimit_14 : decode cX7_setSlotLimit 14 = .ok (.aload_n 0, 1) := by decide +kernel
theorem dX7_setSlotLimit_15 : decode cX7_setSlotLimit 15 = .ok (.getfield 44, 3) := by decide +kernel
theorem dX7_setSlotLimit_18 : decode cX7_setSlotLimit 18 = .ok (.istore_n 2, 1) := by decide +kernel
theorem dX7_setSlotLimit_19 : decode cX7_setSlotLimit 19 = .ok (.aload_n 0, 1) := by decide +kernel
theorem dX7_setSlotLimit_20 : decode cX7_setSlotLimit 20 = .ok (.iload_n 1, 1) := by decide +kernel
theorem dX7_setSlotLimit_21 : decode cX7_setSlotLimit 21 = .ok (.putfield 44, 3) := by decide +kernel
theorem dX7_setSlotLimit_24 : decode cX7_setSlotLimit 24 = .ok (.iload_n 2, 1) := by decide +kernel
theorem dX7_setSlotLimit_25 : decode cX7_setSlotLimit 25 = .ok (.ireturn, 1) := by decide +kernel
theorem dX7_setTakeoverLimit_0 : decode cX7_setTakeoverLimit 0 = .ok (.iload_n 1, 1) := by decide +kernel
theorem dX7_setTakeoverLimit_1 : decode cX7_setTakeoverLimit 1 = .ok (.iconst 1, 1) := by decide +kernel
theorem dX7_setTakeoverLimit_2 : decode cX7_setTakeoverLimit 2 = .ok (.if_icmp .lt 9, 3) := by decide +kernel
theorem dX7_setTakeoverLimit_5 : decode cX7_setTakeoverLimit 5 = .ok (.iload_n 1, 1) := by decide +kernel
theorem dX7_setTakeoverLimit_6 : decode cX7_setTakeoverLimit 6 = .ok (.bipush 9, 2) := by decide +kernel
theorem dX7_setTakeoverLimit_8 : decode cX7_setTakeoverLimit 8 = .ok (.if_icmp .le 7, 3) := by decide +kernel
theorem dX7_setTakeoverLimit_11 : decode cX7_setTakeoverLimit 11 = .ok (.sipush (-1002), 3) := by decide +kernel
theorem dX7_setTakeoverLimit_14 : decode cX7_setTakeoverLimit 14 = .ok (.ireturn, 1) := by decide +kernel
theorem dX7_setTakeoverLimit_15 : decode cX7_setTakeoverLimit 15 = .ok (.aload_n 0, 1) := by decide +kernel
theorem dX7_setTakeoverLimit_16 : decode cX7_setTakeoverLimit 16 = .ok (.getfield 48, 3) := by decide +kernel
theorem dX7_setTakeoverLimit_19 : decode cX7_setTakeoverLimit 19 = .ok (.istore_n 2, 1) := by decide +kernel
theorem dX7_setTakeoverLimit_20 : decode cX7_setTakeoverLimit 20 = .ok (.aload_n 0, 1) := by decide +kernel
theorem dX7_setTakeoverLimit_21 : decode cX7_setTakeoverLimit 21 = .ok (.iload_n 1, 1) := by decide +kernel
theorem dX7_setTakeoverLimit_22 : decode cX7_setTakeoverLimit 22 = .ok (.putfield 48, 3) := by decide +kernel
theorem dX7_setTakeoverLimit_25 : decode cX7_setTakeoverLimit 25 = .ok (.iload_n 2, 1) := by decide +kernel
theorem dX7_setTakeoverLimit_26 : decode cX7_setTakeoverLimit 26 = .ok (.ireturn, 1) := by decide +kernel
set_option maxRecDepth 20000 in
theorem ggX7_setAlive_X3_has : GoodIn wsX7_setAlive wsX3_has := goodIn_r _ [8, 9, 19, 20, 21, 22, 23, 24] (by decide +kernel) (by decide +kernel)
set_option maxRecDepth 20000 in
theorem gX7_setAlive_X3_has : GoodIn wsX7_setAlive (wsV RX7 99 RX3 yX3_has wsX3_has) := goodIn_app (goodIn_of _ (by decide +kernel)) ggX7_setAlive_X3_has
theorem dX7_setAlive_0 : decode cX7_setAlive 0 = .ok (.aload_n 0, 1) := by decide +kernel
theorem dX7_setAlive_1 : decode cX7_setAlive 1 = .ok (.getfield 19, 3) := by decide +kernel
theorem dX7_setAlive_4 : decode cX7_setAlive 4 = .ok (.iload_n 1, 1) := by decide +kernel
theorem dX7_setAlive_5 : decode cX7_setAlive 5 = .ok (.invokevirtual 99, 3) := by decide +kernel
theorem dX7_setAlive_8 : decode cX7_setAlive 8 = .ok (.ifCond .ne 7, 3) := by decide +kernel
theorem dX7_setAlive_11 : decode cX7_setAlive 11 = .ok (.sipush (-1001), 3) := by decide +kernel
theorem dX7_setAlive_14 : decode cX7_setAlive 14 = .ok (.ireturn, 1) := by decide +kernel
theorem dX7_setAlive_15 : decode cX7_setAlive 15 = .ok (.aload_n 0, 1) := by decide +kernel
theorem dX7_setAlive_16 : decode cX7_setAlive 16 = .ok (.getfield 19, 3) := by decide +kernel
theorem dX7_setAlive_19 : decode cX7_setAlive 19 = .ok (.getfield 103, 3) := by decide +kernel
theorem dX7_setAlive_22 : decode cX7_setAlive 22 = .ok (.iload_n 1, 1) := by decide +kernel
theorem dX7_setAlive_23 : decode cX7_setAlive 23 = .ok (.baload, 1) := by decide +kernel
theorem dX7_setAlive_24 : decode cX7_setAlive 24 = .ok (.istore_n 3, 1) := by decide +kernel
theorem dX7_setAlive_25 : decode cX7_setAlive 25 = .ok (.iload_n 3, 1) := by decide +kernel
theorem dX7_setAlive_26 : decode cX7_setAlive 26 = .ok (.iload_n 2, 1) := by decide +kernel
theorem dX7_setAlive_27 : decode cX7_setAlive 27 = .ok (.if_icmp .eq 23, 3) := by decide +kernel
theorem dX7_setAlive_30 : decode cX7_setAlive 30 = .ok (.aload_n 0, 1) := by decide +kernel
theorem dX7_setAlive_31 : decode cX7_setAlive 31 = .ok (.getfield 19, 3) := by decide +kernel
theorem dX7_setAlive_34 : decode cX7_setAlive 34 = .ok (.getfield 103, 3) := by decide +kernel
theorem dX7_setAlive_37 : decode cX7_setAlive 37 = .ok (.iload_n 1, 1) := by decide +kernel
theorem dX7_setAlive_38 : decode cX7_setAlive 38 = .ok (.iload_n 2, 1) := by decide +kernel
theorem dX7_setAlive_39 : decode cX7_setAlive 39 = .ok (.bastore, 1) := by decide +kernel
theorem dX7_setAlive_40 : decode cX7_setAlive 40 = .ok (.aload_n 0, 1) := by decide +kernel
theorem dX7_setAlive_41 : decode cX7_setAlive 41 = .ok (.getfield 19, 3) := by decide +kernel
theorem dX7_setAlive_44 : decode cX7_setAlive 44 = .ok (.getfield 107, 3) := by decide +kernel
theorem dX7_setAlive_47 : decode cX7_setAlive 47 = .ok (.iload_n 1, 1) := by decide +kernel
theorem dX7_setAlive_48 : decode cX7_setAlive 48 = .ok (.iconst 0, 1) := by decide +kernel
theorem dX7_setAlive_49 : decode cX7_setAlive 49 = .ok (.iastore, 1) := by decide +kernel
theorem dX7_setAlive_50 : decode cX7_setAlive 50 = .ok (.iload_n 3, 1) := by decide +kernel
theorem dX7_setAlive_51 : decode cX7_setAlive 51 = .ok (.ifCond .eq 7, 3) := by decide +kernel
theorem dX7_setAlive_54 : decode cX7_setAlive 54 = .ok (.iconst 1, 1) := by decide +kernel
theorem dX7_setAlive_55 : decode cX7_setAlive 55 = .ok (.goto 4, 3) := by decide +kernel
theorem dX7_setAlive_58 : decode cX7_setAlive 58 = .ok (.iconst 0, 1) := by decide +kernel
theorem dX7_setAlive_59 : decode cX7_setAlive 59 = .ok (.ireturn, 1) := by decide +kernel
set_option maxRecDepth 20000 in
theorem ggX7_flood_X3_areAlive : GoodIn wsX7_flood wsX3_areAlive := goodIn_r _ [8, 9, 10, 78, 79, 80, 81, 82, 83] (by decide +kernel) (by decide +kernel)
set_option maxRecDepth 20000 in
theorem gX7_flood_X3_areAlive : GoodIn wsX7_flood (wsV RX7 111 RX3 yX3_areAlive wsX3_areAlive) := goodIn_app (goodIn_of _ (by decide +kernel)) ggX7_flood_X3_areAlive
set_option maxRecDepth 20000 in
theorem ggX7_flood_X1_run : GoodIn wsX7_flood wsX1_run := goodIn_r _ [15, 16, 17, 18, 19, 20, 14, 21, 22, 23, 24, 25, 26, 27, 28, 29, 30, 31, 32, 33, 34, 35, 36, 37, 38, 39, 40, 41, 42, 43, 44, 45, 46, 47, 48, 49, 50, 51, 52, 53, 54, 55, 56, 57, 58, 59, 60, 61, 62, 63, 64, 78, 79, 80, 81, 82, 83, 84, 85, 86, 87, 88, 89, 90, 91] (by decide +kernel) (by decide +kernel)
set_option maxRecDepth 20000 in
theorem gX7_flood_X1_run : GoodIn wsX7_flood (wsV RX7 114 RX1 yX1_run wsX1_run) := goodIn_app (goodIn_of _ (by decide +kernel)) ggX7_flood_X1_run
set_option maxRecDepth 20000 in
theorem ggX7_flood_X1_countHolders : GoodIn wsX7_flood wsX1_countHolders := goodIn_r _ [68, 22, 84, 85, 86, 87, 88, 89] (by decide +kernel) (by decide +kernel)
set_option maxRecDepth 20000 in
theorem gX7_flood_X1_countHolders : GoodIn wsX7_flood (wsV RX7 118 RX1 yX1_countHolders wsX1_countHolders) := goodIn_app (goodIn_of _ (by decide +kernel)) ggX7_flood_X1_countHolders
theorem dX7_flood_0 : decode cX7_flood 0 = .ok (.iload_n 1, 1) := by decide +kernel
theorem dX7_flood_1 : decode cX7_flood 1 = .ok (.ifCond .le 15, 3) := by decide +kernel
theorem dX7_flood_4 : decode cX7_flood 4 = .ok (.iload_n 1, 1) := by decide +kernel
theorem dX7_flood_5 : decode cX7_flood 5 = .ok (.aload_n 0, 1) := by decide +kernel
theorem dX7_flood_6 : decode cX7_flood 6 = .ok (.getfield 19, 3) := by decide +kernel
theorem dX7_flood_9 : decode cX7_flood 9 = .ok (.getfield 92, 3) := by decide +kernel
theorem dX7_flood_12 : decode cX7_flood 12 = .ok (.ishr, 1) := by decide +kernel
theorem dX7_flood_13 : decode cX7_flood 13 = .ok (.ifCond .eq 7, 3) := by decide +kernel
theorem dX7_flood_16 : decode cX7_flood 16 = .ok (.sipush (-1002), 3) := by decide +kernel
theorem dX7_flood_19 : decode cX7_flood 19 = .ok (.ireturn, 1) := by decide +kernel
theorem dX7_flood_20 : decode cX7_flood 20 = .ok (.aload_n 0, 1) := by decide +kernel
theorem dX7_flood_21 : decode cX7_flood 21 = .ok (.getfield 19, 3) := by decide +kernel
theorem dX7_flood_24 : decode cX7_flood 24 = .ok (.iload_n 1, 1) := by decide +kernel
theorem dX7_flood_25 : decode cX7_flood 25 = .ok (.invokevirtual 111, 3) := by decide +kernel
theorem dX7_flood_28 : decode cX7_flood 28 = .ok (.ifCond .ne 7, 3) := by decide +kernel
theorem dX7_flood_31 : decode cX7_flood 31 = .ok (.sipush (-1003), 3) := by decide +kernel
theorem dX7_flood_34 : decode cX7_flood 34 = .ok (.ireturn, 1) := by decide +kernel
theorem dX7_flood_35 : decode cX7_flood 35 = .ok (.aload_n 0, 1) := by decide +kernel
theorem dX7_flood_36 : decode cX7_flood 36 = .ok (.getfield 26, 3) := by decide +kernel
theorem dX7_flood_39 : decode cX7_flood 39 = .ok (.aload_n 0, 1) := by decide +kernel
theorem dX7_flood_40 : decode cX7_flood 40 = .ok (.getfield 19, 3) := by decide +kernel
theorem dX7_flood_43 : decode cX7_flood 43 = .ok (.iload_n 1, 1) := by decide +kernel
theorem dX7_flood_44 : decode cX7_flood 44 = .ok (.invokevirtual 114, 3) := by decide +kernel
theorem dX7_flood_47 : decode cX7_flood 47 = .ok (.aload_n 0, 1) := by decide +kernel
theorem dX7_flood_48 : decode cX7_flood 48 = .ok (.getfield 26, 3) := by decide +kernel
theorem dX7_flood_51 : decode cX7_flood 51 = .ok (.invokevirtual 118, 3) := by decide +kernel
theorem dX7_flood_54 : decode cX7_flood 54 = .ok (.ireturn, 1) := by decide +kernel
set_option maxRecDepth 20000 in
theorem ggX7_packetAt_X3_has : GoodIn wsX7_packetAt wsX3_has := goodIn_r _ [8, 9, 25, 26, 27, 28, 29, 30] (by decide +kernel) (by decide +kernel)
set_option maxRecDepth 20000 in
theorem gX7_packetAt_X3_has : GoodIn wsX7_packetAt (wsV RX7 99 RX3 yX3_has wsX3_has) := goodIn_app (goodIn_of _ (by decide +kernel)) ggX7_packetAt_X3_has
theorem dX7_packetAt_0 : decode cX7_packetAt 0 = .ok (.aload_n 0, 1) := by decide +kernel
theorem dX7_packetAt_1 : decode cX7_packetAt 1 = .ok (.getfield 19, 3) := by decide +kernel
theorem dX7_packetAt_4 : decode cX7_packetAt 4 = .ok (.iload_n 1, 1) := by decide +kernel
theorem dX7_packetAt_5 : decode cX7_packetAt 5 = .ok (.invokevirtual 99, 3) := by decide +kernel
theorem dX7_packetAt_8 : decode cX7_packetAt 8 = .ok (.ifCond .eq 15, 3) := by decide +kernel
theorem dX7_packetAt_11 : decode cX7_packetAt 11 = .ok (.aload_n 0, 1) := by decide +kernel
theorem dX7_packetAt_12 : decode cX7_packetAt 12 = .ok (.getfield 26, 3) := by decide +kernel
theorem dX7_packetAt_15 : decode cX7_packetAt 15 = .ok (.getfield 121, 3) := by decide +kernel
theorem dX7_packetAt_18 : decode cX7_packetAt 18 = .ok (.iload_n 1, 1) := by decide +kernel
theorem dX7_packetAt_19 : decode cX7_packetAt 19 = .ok (.iaload, 1) := by decide +kernel
theorem dX7_packetAt_20 : decode cX7_packetAt 20 = .ok (.goto 6, 3) := by decide +kernel
theorem dX7_packetAt_23 : decode cX7_packetAt 23 = .ok (.sipush (-1001), 3) := by decide +kernel
theorem dX7_packetAt_26 : decode cX7_packetAt 26 = .ok (.ireturn, 1) := by decide +kernel
set_option maxRecDepth 20000 in
theorem ggX7_hopCount_X3_has : GoodIn wsX7_hopCount wsX3_has := goodIn_r _ [8, 9, 25, 26, 27, 28, 29, 30] (by decide +kernel) (by decide +kernel)
set_option maxRecDepth 20000 in
theorem gX7_hopCount_X3_has : GoodIn wsX7_hopCount (wsV RX7 99 RX3 yX3_has wsX3_has) := goodIn_app (goodIn_of _ (by decide +kernel)) ggX7_hopCount_X3_has
theorem dX7_hopCount_0 : decode cX7_hopCount 0 = .ok (.aload_n 0, 1) := by decide +kernel
theorem dX7_hopCount_1 : decode cX7_hopCount 1 = .ok (.getfield 19, 3) := by decide +kernel
theorem dX7_hopCount_4 : decode cX7_hopCount 4 = .ok (.iload_n 1, 1) := by decide +kernel
theorem dX7_hopCount_5 : decode cX7_hopCount 5 = .ok (.invokevirtual 99, 3) := by decide +kernel
theorem dX7_hopCount_8 : decode cX7_hopCount 8 = .ok (.ifCond .eq 15, 3) := by decide +kernel
theorem dX7_hopCount_11 : decode cX7_hopCount 11 = .ok (.aload_n 0, 1) := by decide +kernel
theorem dX7_hopCount_12 : decode cX7_hopCount 12 = .ok (.getfield 26, 3) := by decide +kernel
theorem dX7_hopCount_15 : decode cX7_hopCount 15 = .ok (.getfield 124, 3) := by decide +kernel
theorem dX7_hopCount_18 : decode cX7_hopCount 18 = .ok (.iload_n 1, 1) := by decide +kernel
theorem dX7_hopCount_19 : decode cX7_hopCount 19 = .ok (.iaload, 1) := by decide +kernel
theorem dX7_hopCount_20 : decode cX7_hopCount 20 = .ok (.goto 6, 3) := by decide +kernel
theorem dX7_hopCount_23 : decode cX7_hopCount 23 = .ok (.sipush (-1001), 3) := by decide +kernel
theorem dX7_hopCount_26 : decode cX7_hopCount 26 = .ok (.ireturn, 1) := by decide +kernel
theorem dX7_floodLength_0 : decode cX7_floodLength 0 = .ok (.aload_n 0, 1) := by decide +kernel
theorem dX7_floodLength_1 : decode cX7_floodLength 1 = .ok (.getfield 26, 3) := by decide +kernel
theorem dX7_floodLength_4 : decode cX7_floodLength 4 = .ok (.getfield 127, 3) := by decide +kernel
theorem dX7_floodLength_7 : decode cX7_floodLength 7 = .ok (.ireturn, 1) := by decide +kernel
set_option maxRecDepth 20000 in
theorem ggX7_addStream_X3_has : GoodIn wsX7_addStream wsX3_has := goodIn_r _ [7, 8, 36, 37, 38, 39, 40, 41] (by decide +kernel) (by decide +kernel)
set_option maxRecDepth 20000 in
theorem gX7_addStream_X3_has : GoodIn wsX7_addStream (wsV RX7 99 RX3 yX3_has wsX3_has) := goodIn_app (goodIn_of _ (by decide +kernel)) ggX7_addStream_X3_has
set_option maxRecDepth 20000 in
theorem ggX7_addStream_X6_add : GoodIn wsX7_addStream wsX6_add := goodIn_r _ [13, 14, 15, 16, 17, 18, 19, 20, 21, 22, 23, 24, 25, 26, 42, 43, 44, 45, 46, 47, 48, 49, 50] (by decide +kernel) (by decide +kernel)
set_option maxRecDepth 20000 in
theorem gX7_addStream_X6_add : GoodIn wsX7_addStream (wsV RX7 128 RX6 yX6_add wsX6_add) := goodIn_app (goodIn_of _ (by decide +kernel)) ggX7_addStream_X6_add
theorem dX7_addStream_0 : decode cX7_addStream 0 = .ok (.aload_n 0, 1) := by decide +kernel
theorem dX7_addStream_1 : decode cX7_addStream 1 = .ok (.getfield 19, 3) := by decide +kernel
theorem dX7_addStream_4 : decode cX7_addStream 4 = .ok (.iload_n 1, 1) := by decide +kernel
theorem dX7_addStream_5 : decode cX7_addStream 5 = .ok (.invokevirtual 99, 3) := by decide +kernel
theorem dX7_addStream_8 : decode cX7_addStream 8 = .ok (.ifCond .ne 7, 3) := by decide +kernel
theorem dX7_addStream_11 : decode cX7_addStream 11 = .ok (.sipush (-1001), 3) := by decide +kernel
theorem dX7_addStream_14 : decode cX7_addStream 14 = .ok (.ireturn, 1) := by decide +kernel
theorem dX7_addStream_15 : decode cX7_addStream 15 = .ok (.iload_n 2, 1) := by decide +kernel
theorem dX7_addStream_16 : decode cX7_addStream 16 = .ok (.iconst 1, 1) := by decide +kernel
theorem dX7_addStream_17 : decode cX7_addStream 17 = .ok (.if_icmp .lt 19, 3) := by decide +kernel
theorem dX7_addStream_20 : decode cX7_addStream 20 = .ok (.iload_n 2, 1) := by decide +kernel
theorem dX7_addStream_21 : decode cX7_addStream 21 = .ok (.bipush 9, 2) := by decide +kernel
theorem dX7_addStream_23 : decode cX7_addStream 23 = .ok (.if_icmp .gt 13, 3) := by decide +kernel
theorem dX7_addStream_26 : decode cX7_addStream 26 = .ok (.iload_n 3, 1) := by decide +kernel
theorem dX7_addStream_27 : decode cX7_addStream 27 = .ok (.ifCond .lt 9, 3) := by decide +kernel
theorem dX7_addStream_30 : decode cX7_addStream 30 = .ok (.iload_n 3, 1) := by decide +kernel
theorem dX7_addStream_31 : decode cX7_addStream 31 = .ok (.bipush 99, 2) := by decide +kernel
theorem dX7_addStream_33 : decode cX7_addStream 33 = .ok (.if_icmp .le 7, 3) := by decide +kernel
theorem dX7_addStream_36 : decode cX7_addStream 36 = .ok (.sipush (-1002), 3) := by decide +kernel
theorem dX7_addStream_39 : decode cX7_addStream 39 = .ok (.ireturn, 1) := by decide +kernel
theorem dX7_addStream_40 : decode cX7_addStream 40 = .ok (.aload_n 0, 1) := by decide +kernel
theorem dX7_addStream_41 : decode cX7_addStream 41 = .ok (.getfield 33, 3) := by decide +kernel
theorem dX7_addStream_44 : decode cX7_addStream 44 = .ok (.iload_n 1, 1) := by decide +kernel
theorem dX7_addStream_45 : decode cX7_addStream 45 = .ok (.iload_n 2, 1) := by decide +kernel
theorem dX7_addStream_46 : decode cX7_addStream 46 = .ok (.iload_n 3, 1) := by decide +kernel
theorem dX7_addStream_47 : decode cX7_addStream 47 = .ok (.invokevirtual 128, 3) := by decide +kernel
theorem dX7_addStream_50 : decode cX7_addStream 50 = .ok (.ireturn, 1) := by decide +kernel
set_option maxRecDepth 20000 in
theorem ggX7_removeStream_X6_has : GoodIn wsX7_removeStream wsX6_has := goodIn_r _ [9, 10, 27, 28] (by decide +kernel) (by decide +kernel)
set_option maxRecDepth 20000 in
theorem gX7_removeStream_X6_has : GoodIn wsX7_removeStream (wsV RX7 131 RX6 yX6_has wsX6_has) := goodIn_app (goodIn_of _ (by decide +kernel)) ggX7_removeStream_X6_has
set_option maxRecDepth 20000 in
theorem ggX7_removeStream_X6_remove : GoodIn wsX7_removeStream wsX6_remove := goodIn_r _ [14, 15, 10, 27, 28] (by decide +kernel) (by decide +kernel)
set_option maxRecDepth 20000 in
theorem gX7_removeStream_X6_remove : GoodIn wsX7_removeStream (wsV RX7 132 RX6 yX6_remove wsX6_remove) := goodIn_app (goodIn_of _ (by decide +kernel)) ggX7_removeStream_X6_remove
theorem dX7_removeStream_0 : decode cX7_removeStream 0 = .ok (.aload_n 0, 1) := by decide +kernel
theorem dX7_removeStream_1 : decode cX7_removeStream 1 = .ok (.getfield 33, 3) := by decide +kernel
theorem dX7_removeStream_4 : decode cX7_removeStream 4 = .ok (.iload_n 1, 1) := by decide +kernel
theorem dX7_removeStream_5 : decode cX7_removeStream 5 = .ok (.invokevirtual 131, 3) := by decide +kernel
theorem dX7_removeStream_8 : decode cX7_removeStream 8 = .ok (.ifCond .ne 7, 3) := by decide +kernel
theorem dX7_removeStream_11 : decode cX7_removeStream 11 = .ok (.sipush (-1001), 3) := by decide +kernel
theorem dX7_removeStream_14 : decode cX7_removeStream 14 = .ok (.ireturn, 1) := by decide +kernel
theorem dX7_removeStream_15 : decode cX7_removeStream 15 = .ok (.aload_n 0, 1) := by decide +kernel
theorem dX7_removeStream_16 : decode cX7_removeStream 16 = .ok (.getfield 33, 3) := by decide +kernel
theorem dX7_removeStream_19 : decode cX7_removeStream 19 = .ok (.iload_n 1, 1) := by decide +kernel
theorem dX7_removeStream_20 : decode cX7_removeStream 20 = .ok (.invokevirtual 132, 3) := by decide +kernel
theorem dX7_removeStream_23 : decode cX7_removeStream 23 = .ok (.aload_n 0, 1) := by decide +kernel
theorem dX7_removeStream_24 : decode cX7_removeStream 24 = .ok (.getfield 40, 3) := by decide +kernel
theorem dX7_removeStream_27 : decode cX7_removeStream 27 = .ok (.iconst 0, 1) := by decide +kernel
theorem dX7_removeStream_28 : decode cX7_removeStream 28 = .ok (.putfield 89, 3) := by decide +kernel
theorem dX7_removeStream_31 : decode cX7_removeStream 31 = .ok (.aload_n 0, 1) := by decide +kernel
theorem dX7_removeStream_32 : decode cX7_removeStream 32 = .ok (.getfield 33, 3) := by decide +kernel
theorem dX7_removeStream_35 : decode cX7_removeStream 35 = .ok (.getfield 86, 3) := by decide +kernel
theorem dX7_removeStream_38 : decode cX7_removeStream 38 = .ok (.ireturn, 1) := by decide +kernel
set_option maxRecDepth 20000 in
theorem ggX7_waitingPackets_X6_has : GoodIn wsX7_waitingPackets wsX6_has := goodIn_r _ [8, 9, 19, 20] (by decide +kernel) (by decide +kernel)
set_option maxRecDepth 20000 in
theorem gX7_waitingPackets_X6_has : GoodIn wsX7_waitingPackets (wsV RX7 131 RX6 yX6_has wsX6_has) := goodIn_app (goodIn_of _ (by decide +kernel)) ggX7_waitingPackets_X6_has
theorem dX7_waitingPackets_0 : decode cX7_waitingPackets 0 = .ok (.aload_n 0, 1) := by decide +kernel
theorem dX7_waitingPackets_1 : decode cX7_waitingPackets 1 = .ok (.getfield 33, 3) := by decide +kernel
theorem dX7_waitingPackets_4 : decode cX7_waitingPackets 4 = .ok (.iload_n 1, 1) := by decide +kernel
theorem dX7_waitingPackets_5 : decode cX7_waitingPackets 5 = .ok (.invokevirtual 131, 3) := by decide +kernel
theorem dX7_waitingPackets_8 : decode cX7_waitingPackets 8 = .ok (.ifCond .eq 18, 3) := by decide +kernel
theorem dX7_waitingPackets_11 : decode cX7_waitingPackets 11 = .ok (.aload_n 0, 1) := by decide +kernel
theorem dX7_waitingPackets_12 : decode cX7_waitingPackets 12 = .ok (.getfield 33, 3) := by decide +kernel
theorem dX7_waitingPackets_15 : decode cX7_waitingPackets 15 = .ok (.getfield 136, 3) := by decide +kernel
theorem dX7_waitingPackets_18 : decode cX7_waitingPackets 18 = .ok (.iload_n 1, 1) := by decide +kernel
theorem dX7_waitingPackets_19 : decode cX7_waitingPackets 19 = .ok (.aaload, 1) := by decide +kernel
theorem dX7_waitingPackets_20 : decode cX7_waitingPackets 20 = .ok (.getfield 140, 3) := by decide +kernel
theorem dX7_waitingPackets_23 : decode cX7_waitingPackets 23 = .ok (.goto 6, 3) := by decide +kernel
theorem dX7_waitingPackets_26 : decode cX7_waitingPackets 26 = .ok (.sipush (-1001), 3) := by decide +kernel
theorem dX7_waitingPackets_29 : decode cX7_waitingPackets 29 = .ok (.ireturn, 1) := by decide +kernel
set_option maxRecDepth 20000 in
theorem ggX7_deliveredPackets_X6_has : GoodIn wsX7_deliveredPackets wsX6_has := goodIn_r _ [8, 9, 19, 20] (by decide +kernel) (by decide +kernel)
set_option maxRecDepth 20000 in
theorem gX7_deliveredPackets_X6_has : GoodIn wsX7_deliveredPackets (wsV RX7 131 RX6 yX6_has wsX6_has) := goodIn_app (goodIn_of _ (by decide +kernel)) ggX7_deliveredPackets_X6_has
theorem dX7_deliveredPackets_0 : decode cX7_deliveredPackets 0 = .ok (.aload_n 0, 1) := by decide +kernel
theorem dX7_deliveredPackets_1 : decode cX7_deliveredPackets 1 = .ok (.getfield 33, 3) := by decide +kernel
theorem dX7_deliveredPackets_4 : decode cX7_deliveredPackets 4 = .ok (.iload_n 1, 1) := by decide +kernel
theorem dX7_deliveredPackets_5 : decode cX7_deliveredPackets 5 = .ok (.invokevirtual 131, 3) := by decide +kernel
theorem dX7_deliveredPackets_8 : decode cX7_deliveredPackets 8 = .ok (.ifCond .eq 18, 3) := by decide +kernel
theorem dX7_deliveredPackets_11 : decode cX7_deliveredPackets 11 = .ok (.aload_n 0, 1) := by decide +kernel
theorem dX7_deliveredPackets_12 : decode cX7_deliveredPackets 12 = .ok (.getfield 33, 3) := by decide +kernel
theorem dX7_deliveredPackets_15 : decode cX7_deliveredPackets 15 = .ok (.getfield 136, 3) := by decide +kernel
theorem dX7_deliveredPackets_18 : decode cX7_deliveredPackets 18 = .ok (.iload_n 1, 1) := by decide +kernel
theorem dX7_deliveredPackets_19 : decode cX7_deliveredPackets 19 = .ok (.aaload, 1) := by decide +kernel
theorem dX7_deliveredPackets_20 : decode cX7_deliveredPackets 20 = .ok (.getfield 145, 3) := by decide +kernel
theorem dX7_deliveredPackets_23 : decode cX7_deliveredPackets 23 = .ok (.goto 6, 3) := by decide +kernel
theorem dX7_deliveredPackets_26 : decode cX7_deliveredPackets 26 = .ok (.sipush (-1001), 3) := by decide +kernel
theorem dX7_deliveredPackets_29 : decode cX7_deliveredPackets 29 = .ok (.ireturn, 1) := by decide +kernel
set_option maxRecDepth 20000 in
theorem ggX7_lostPackets_X6_has : GoodIn wsX7_lostPackets wsX6_has := goodIn_r _ [8, 9, 19, 20] (by decide +kernel) (by decide +kernel)
set_option maxRecDepth 20000 in
theorem gX7_lostPackets_X6_has : GoodIn wsX7_lostPackets (wsV RX7 131 RX6 yX6_has wsX6_has) := goodIn_app (goodIn_of _ (by decide +kernel)) ggX7_lostPackets_X6_has
theorem dX7_lostPackets_0 : decode cX7_lostPackets 0 = .ok (.aload_n 0, 1) := by decide +kernel
theorem dX7_lostPackets_1 : decode cX7_lostPackets 1 = .ok (.getfield 33, 3) := by decide +kernel
theorem dX7_lostPackets_4 : decode cX7_lostPackets 4 = .ok (.iload_n 1, 1) := by decide +kernel
theorem dX7_lostPackets_5 : decode cX7_lostPackets 5 = .ok (.invokevirtual 131, 3) := by decide +kernel
theorem dX7_lostPackets_8 : decode cX7_lostPackets 8 = .ok (.ifCond .eq 18, 3) := by decide +kernel
theorem dX7_lostPackets_11 : decode cX7_lostPackets 11 = .ok (.aload_n 0, 1) := by decide +kernel
theorem dX7_lostPackets_12 : decode cX7_lostPackets 12 = .ok (.getfield 33, 3) := by decide +kernel
theorem dX7_lostPackets_15 : decode cX7_lostPackets 15 = .ok (.getfield 136, 3) := by decide +kernel
theorem dX7_lostPackets_18 : decode cX7_lostPackets 18 = .ok (.iload_n 1, 1) := by decide +kernel
theorem dX7_lostPackets_19 : decode cX7_lostPackets 19 = .ok (.aaload, 1) := by decide +kernel
theorem dX7_lostPackets_20 : decode cX7_lostPackets 20 = .ok (.getfield 148, 3) := by decide +kernel
theorem dX7_lostPackets_23 : decode cX7_lostPackets 23 = .ok (.goto 6, 3) := by decide +kernel
theorem dX7_lostPackets_26 : decode cX7_lostPackets 26 = .ok (.sipush (-1001), 3) := by decide +kernel
theorem dX7_lostPackets_29 : decode cX7_lostPackets 29 = .ok (.ireturn, 1) := by decide +kernel
set_option maxRecDepth 20000 in
theorem ggX7_runRounds_X3_has : GoodIn wsX7_runRounds wsX3_has := goodIn_r _ [8, 9, 156, 157, 158, 159, 160, 161] (by decide +kernel) (by decide +kernel)
set_option maxRecDepth 20000 in
theorem gX7_runRounds_X3_has : GoodIn wsX7_runRounds (wsV RX7 99 RX3 yX3_has wsX3_has) := goodIn_app (goodIn_of _ (by decide +kernel)) ggX7_runRounds_X3_has
set_option maxRecDepth 20000 in
theorem ggX7_runRounds_X7_runOneRound : GoodIn wsX7_runRounds wsX7_runOneRound := goodIn_r _ [14, 15, 3, 1, 16, 2, 17, 18, 19, 20, 21, 22, 23, 24, 25, 26, 27, 28, 29, 30, 31, 32, 33, 34, 35, 36, 37, 38, 39, 40, 41, 42, 43, 44, 45, 46, 47, 48, 49, 50, 51, 52, 53, 54, 55, 56, 57, 58, 59, 60, 61, 62, 63, 64, 65, 66, 67, 68, 69, 70, 71, 72, 73, 74, 75, 76, 77, 78, 79, 80, 81, 82, 83, 84, 85, 86, 87, 88, 89, 90, 91, 92, 93, 94, 95, 96, 97, 98, 99, 100, 101, 102, 103, 104, 105, 106, 107, 108, 109, 110, 111, 112, 113, 114, 115, 7, 116, 9, 117, 118, 119, 120, 121, 122, 123, 13, 124, 125, 126, 127, 128, 129, 130, 131, 132, 133, 134, 135, 136, 137, 138, 139, 140, 141, 142, 143, 144, 145, 146, 147, 148, 149, 150, 151, 152, 153, 154, 155, 156, 157, 158, 159, 160, 161, 162, 163, 164, 165, 166, 167, 168, 169, 170, 171, 172, 173, 174, 175, 176, 177, 178, 179, 180] (by decide +kernel) (by decide +kernel)
set_option maxRecDepth 20000 in
theorem gX7_runRounds_X7_runOneRound : GoodIn wsX7_runRounds (wsV RX7 151 RX7 yX7_runOneRound wsX7_runOneRound) := goodIn_app (goodIn_of _ (by decide +kernel)) ggX7_runRounds_X7_runOneRound
theorem dX7_runRounds_0 : decode cX7_runRounds 0 = .ok (.iload_n 1, 1) := by decide +kernel
theorem dX7_runRounds_1 : decode cX7_runRounds 1 = .ok (.iconst 1, 1) := by decide +kernel
theorem dX7_runRounds_2 : decode cX7_runRounds 2 = .ok (.if_icmp .lt 9, 3) := by decide +kernel
theorem dX7_runRounds_5 : decode cX7_runRounds 5 = .ok (.iload_n 1, 1) := by decide +kernel
theorem dX7_runRounds_6 : decode cX7_runRounds 6 = .ok (.bipush 20, 2) := by decide +kernel
theorem dX7_runRounds_8 : decode cX7_runRounds 8 = .ok (.if_icmp .le 7, 3) := by decide +kernel
theorem dX7_runRounds_11 : decode cX7_runRounds 11 = .ok (.sipush (-1002), 3) := by decide +kernel
theorem dX7_runRounds_14 : decode cX7_runRounds 14 = .ok (.ireturn, 1) := by decide +kernel
theorem dX7_runRounds_15 : decode cX7_runRounds 15 = .ok (.aload_n 0, 1) := by decide +kernel
theorem dX7_runRounds_16 : decode cX7_runRounds 16 = .ok (.getfield 19, 3) := by decide +kernel
theorem dX7_runRounds_19 : decode cX7_runRounds 19 = .ok (.aload_n 0, 1) := by decide +kernel
theorem dX7_runRounds_20 : decode cX7_runRounds 20 = .ok (.getfield 51, 3) := by decide +kernel
theorem dX7_runRounds_23 : decode cX7_runRounds 23 = .ok (.invokevirtual 99, 3) := by decide +kernel
theorem dX7_runRounds_26 : decode cX7_runRounds 26 = .ok (.ifCond .ne 7, 3) := by decide +kernel
theorem dX7_runRounds_29 : decode cX7_runRounds 29 = .ok (.sipush (-1003), 3) := by decide +kernel
theorem dX7_runRounds_32 : decode cX7_runRounds 32 = .ok (.ireturn, 1) := by decide +kernel
theorem dX7_runRounds_33 : decode cX7_runRounds 33 = .ok (.aload_n 0, 1) := by decide +kernel
theorem dX7_runRounds_34 : decode cX7_runRounds 34 = .ok (.getfield 54, 3) := by decide +kernel
theorem dX7_runRounds_37 : decode cX7_runRounds 37 = .ok (.iload_n 1, 1) := by decide +kernel
theorem dX7_runRounds_38 : decode cX7_runRounds 38 = .ok (.iadd, 1) := by decide +kernel
theorem dX7_runRounds_39 : decode cX7_runRounds 39 = .ok (.sipush 9999, 3) := by decide +kernel
theorem dX7_runRounds_42 : decode cX7_runRounds 42 = .ok (.if_icmp .le 7, 3) := by decide +kernel
theorem dX7_runRounds_45 : decode cX7_runRounds 45 = .ok (.sipush (-1004), 3) := by decide +kernel
theorem dX7_runRounds_48 : decode cX7_runRounds 48 = .ok (.ireturn, 1) := by decide +kernel
theorem dX7_runRounds_49 : decode cX7_runRounds 49 = .ok (.iconst 0, 1) := by decide +kernel
theorem dX7_runRounds_50 : decode cX7_runRounds 50 = .ok (.istore_n 2, 1) := by decide +kernel
theorem dX7_runRounds_51 : decode cX7_runRounds 51 = .ok (.iconst 0, 1) := by decide +kernel
theorem dX7_runRounds_52 : decode cX7_runRounds 52 = .ok (.istore_n 3, 1) := by decide +kernel
theorem dX7_runRounds_53 : decode cX7_runRounds 53 = .ok (.iload_n 3, 1) := by decide +kernel
theorem dX7_runRounds_54 : decode cX7_runRounds 54 = .ok (.iload_n 1, 1) := by decide +kernel
theorem dX7_runRounds_55 : decode cX7_runRounds 55 = .ok (.if_icmp .ge 16, 3) := by decide +kernel
theorem dX7_runRounds_58 : decode cX7_runRounds 58 = .ok (.iload_n 2, 1) := by decide +kernel
theorem dX7_runRounds_59 : decode cX7_runRounds 59 = .ok (.aload_n 0, 1) := by decide +kernel
theorem dX7_runRounds_60 : decode cX7_runRounds 60 = .ok (.invokevirtual 151, 3) := by decide +kernel
theorem dX7_runRounds_63 : decode cX7_runRounds 63 = .ok (.iadd, 1) := by decide +kernel
theorem dX7_runRounds_64 : decode cX7_runRounds 64 = .ok (.istore_n 2, 1) := by decide +kernel
theorem dX7_runRounds_65 : decode cX7_runRounds 65 = .ok (.iinc 3 1, 3) := by decide +kernel
theorem dX7_runRounds_68 : decode cX7_runRounds 68 = .ok (.goto (-15), 3) := by decide +kernel
theorem dX7_runRounds_71 : decode cX7_runRounds 71 = .ok (.iload_n 2, 1) := by decide +kernel
theorem dX7_runRounds_72 : decode cX7_runRounds 72 = .ok (.ireturn, 1) := by decide +kernel
theorem dX7_scheduledStream_0 : decode cX7_scheduledStream 0 = .ok (.iload_n 1, 1) := by decide +kernel
theorem dX7_scheduledStream_1 : decode cX7_scheduledStream 1 = .ok (.ifCond .lt 26, 3) := by decide +kernel
theorem dX7_scheduledStream_4 : decode cX7_scheduledStream 4 = .ok (.iload_n 1, 1) := by decide +kernel
theorem dX7_scheduledStream_5 : decode cX7_scheduledStream 5 = .ok (.aload_n 0, 1) := by decide +kernel
theorem dX7_scheduledStream_6 : decode cX7_scheduledStream 6 = .ok (.getfield 40, 3) := by decide +kernel
theorem dX7_scheduledStream_9 : decode cX7_scheduledStream 9 = .ok (.getfield 89, 3) := by decide +kernel
theorem dX7_scheduledStream_12 : decode cX7_scheduledStream 12 = .ok (.if_icmp .ge 15, 3) := by decide +kernel
theorem dX7_scheduledStream_15 : decode cX7_scheduledStream 15 = .ok (.aload_n 0, 1) := by decide +kernel
theorem dX7_scheduledStream_16 : decode cX7_scheduledStream 16 = .ok (.getfield 40, 3) := by decide +kernel
theorem dX7_scheduledStream_19 : decode cX7_scheduledStream 19 = .ok (.getfield 154, 3) := by decide +kernel
theorem dX7_scheduledStream_22 : decode cX7_scheduledStream 22 = .ok (.iload_n 1, 1) := by decide +kernel
theorem dX7_scheduledStream_23 : decode cX7_scheduledStream 23 = .ok (.iaload, 1) := by decide +kernel
theorem dX7_scheduledStream_24 : decode cX7_scheduledStream 24 = .ok (.goto 4, 3) := by decide +kernel
theorem dX7_scheduledStream_27 : decode cX7_scheduledStream 27 = .ok (.iconst (-1), 1) := by decide +kernel
theorem dX7_scheduledStream_28 : decode cX7_scheduledStream 28 = .ok (.ireturn, 1) := by decide +kernel
set_option maxRecDepth 20000 in
theorem ggX7_scheduleBits_X4_encodedSize : GoodIn wsX7_scheduleBits wsX4_encodedSize := goodIn_r _ [7, 8, 9, 10, 11, 12, 13, 14, 15, 6, 16, 17, 18, 19, 29, 30, 31, 32, 33, 34, 35, 36, 37, 38, 39] (by decide +kernel) (by decide +kernel)
set_option maxRecDepth 20000 in
theorem gX7_scheduleBits_X4_encodedSize : GoodIn wsX7_scheduleBits (wsV RX7 157 RX4 yX4_encodedSize wsX4_encodedSize) := goodIn_app (goodIn_of _ (by decide +kernel)) ggX7_scheduleBits_X4_encodedSize
theorem dX7_scheduleBits_0 : decode cX7_scheduleBits 0 = .ok (.aload_n 0, 1) := by decide +kernel
theorem dX7_scheduleBits_1 : decode cX7_scheduleBits 1 = .ok (.getfield 40, 3) := by decide +kernel
theorem dX7_scheduleBits_4 : decode cX7_scheduleBits 4 = .ok (.aload_n 0, 1) := by decide +kernel
theorem dX7_scheduleBits_5 : decode cX7_scheduleBits 5 = .ok (.getfield 33, 3) := by decide +kernel
theorem dX7_scheduleBits_8 : decode cX7_scheduleBits 8 = .ok (.invokevirtual 157, 3) := by decide +kernel
theorem dX7_scheduleBits_11 : decode cX7_scheduleBits 11 = .ok (.ireturn, 1) := by decide +kernel
theorem dX7_host_0 : decode cX7_host 0 = .ok (.aload_n 0, 1) := by decide +kernel
theorem dX7_host_1 : decode cX7_host 1 = .ok (.getfield 51, 3) := by decide +kernel
theorem dX7_host_4 : decode cX7_host 4 = .ok (.ireturn, 1) := by decide +kernel
set_option maxRecDepth 20000 in
theorem ggX7_missedSchedules_X3_has : GoodIn wsX7_missedSchedules wsX3_has := goodIn_r _ [7, 8, 18, 19, 20, 21, 22, 23] (by decide +kernel) (by decide +kernel)
set_option maxRecDepth 20000 in
theorem gX7_missedSchedules_X3_has : GoodIn wsX7_missedSchedules (wsV RX7 99 RX3 yX3_has wsX3_has) := goodIn_app (goodIn_of _ (by decide +kernel)) ggX7_missedSchedules_X3_has
theorem dX7_missedSchedules_0 : decode cX7_missedSchedules 0 = .ok (.aload_n 0, 1) := by decide +kernel
theorem dX7_missedSchedules_1 : decode cX7_missedSchedules 1 = .ok (.getfield 19, 3) := by decide +kernel
theorem dX7_missedSchedules_4 : decode cX7_missedSchedules 4 = .ok (.iload_n 1, 1) := by decide +kernel
theorem dX7_missedSchedules_5 : decode cX7_missedSchedules 5 = .ok (.invokevirtual 99, 3) := by decide +kernel
theorem dX7_missedSchedules_8 : decode cX7_missedSchedules 8 = .ok (.ifCond .eq 15, 3) := by decide +kernel
theorem dX7_missedSchedules_11 : decode cX7_missedSchedules 11 = .ok (.aload_n 0, 1) := by decide +kernel
theorem dX7_missedSchedules_12 : decode cX7_missedSchedules 12 = .ok (.getfield 19, 3) := by decide +kernel
theorem dX7_missedSchedules_15 : decode cX7_missedSchedules 15 = .ok (.getfield 107, 3) := by decide +kernel
theorem dX7_missedSchedules_18 : decode cX7_missedSchedules 18 = .ok (.iload_n 1, 1) := by decide +kernel
theorem dX7_missedSchedules_19 : decode cX7_missedSchedules 19 = .ok (.iaload, 1) := by decide +kernel
theorem dX7_missedSchedules_20 : decode cX7_missedSchedules 20 = .ok (.goto 6, 3) := by decide +kernel
theorem dX7_missedSchedules_23 : decode cX7_missedSchedules 23 = .ok (.sipush (-1001), 3) := by decide +kernel
theorem dX7_missedSchedules_26 : decode cX7_missedSchedules 26 = .ok (.ireturn, 1) := by decide +kernel
set_option maxRecDepth 20000 in
theorem ggX7_transmissions_X3_has : GoodIn wsX7_transmissions wsX3_has := goodIn_r _ [7, 8, 18, 19, 20, 21, 22, 23] (by decide +kernel) (by decide +kernel)
set_option maxRecDepth 20000 in
theorem gX7_transmissions_X3_has : GoodIn wsX7_transmissions (wsV RX7 99 RX3 yX3_has wsX3_has) := goodIn_app (goodIn_of _ (by decide +kernel)) ggX7_transmissions_X3_has
theorem dX7_transmissions_0 : decode cX7_transmissions 0 = .ok (.aload_n 0, 1) := by decide +kernel
theorem dX7_transmissions_1 : decode cX7_transmissions 1 = .ok (.getfield 19, 3) := by decide +kernel
theorem dX7_transmissions_4 : decode cX7_transmissions 4 = .ok (.iload_n 1, 1) := by decide +kernel
theorem dX7_transmissions_5 : decode cX7_transmissions 5 = .ok (.invokevirtual 99, 3) := by decide +kernel
theorem dX7_transmissions_8 : decode cX7_transmissions 8 = .ok (.ifCond .eq 15, 3) := by decide +kernel
theorem dX7_transmissions_11 : decode cX7_transmissions 11 = .ok (.aload_n 0, 1) := by decide +kernel
theorem dX7_transmissions_12 : decode cX7_transmissions 12 = .ok (.getfield 19, 3) := by decide +kernel
theorem dX7_transmissions_15 : decode cX7_transmissions 15 = .ok (.getfield 161, 3) := by decide +kernel
theorem dX7_transmissions_18 : decode cX7_transmissions 18 = .ok (.iload_n 1, 1) := by decide +kernel
theorem dX7_transmissions_19 : decode cX7_transmissions 19 = .ok (.iaload, 1) := by decide +kernel
theorem dX7_transmissions_20 : decode cX7_transmissions 20 = .ok (.goto 6, 3) := by decide +kernel
theorem dX7_transmissions_23 : decode cX7_transmissions 23 = .ok (.sipush (-1001), 3) := by decide +kernel
theorem dX7_transmissions_26 : decode cX7_transmissions 26 = .ok (.ireturn, 1) := by decide +kernel
theorem dX7_roundNumber_0 : decode cX7_roundNumber 0 = .ok (.aload_n 0, 1) := by decide +kernel
theorem dX7_roundNumber_1 : decode cX7_roundNumber 1 = .ok (.getfield 54, 3) := by decide +kernel
theorem dX7_roundNumber_4 : decode cX7_roundNumber 4 = .ok (.ireturn, 1) := by decide +kernel
set_option maxRecDepth 20000 in
theorem ggX7_digest_X7_digestNodes : GoodIn wsX7_digest wsX7_digestNodes := goodIn_r _ [18, 19, 20, 2, 3, 21, 22, 23, 24, 25, 52, 53, 54, 55, 56, 57, 58, 59, 60, 77, 78, 79, 80, 81, 82, 61, 62, 63, 64, 65, 66] (by decide +kernel) (by decide +kernel)
set_option maxRecDepth 20000 in
theorem gX7_digest_X7_digestNodes : GoodIn wsX7_digest (wsV RX7 166 RX7 yX7_digestNodes wsX7_digestNodes) := goodIn_app (goodIn_of _ (by decide +kernel)) ggX7_digest_X7_digestNodes
set_option maxRecDepth 20000 in
theorem ggX7_digest_X7_digestStreams : GoodIn wsX7_digest wsX7_digestStreams := goodIn_r _ [29, 8, 30, 31, 2, 32, 33, 34, 52, 53, 54, 55, 56, 57, 58, 59, 60, 83, 84, 85, 86, 87, 88, 89, 90, 91] (by decide +kernel) (by decide +kernel)
set_option maxRecDepth 20000 in
theorem gX7_digest_X7_digestStreams : GoodIn wsX7_digest (wsV RX7 172 RX7 yX7_digestStreams wsX7_digestStreams) := goodIn_app (goodIn_of _ (by decide +kernel)) ggX7_digest_X7_digestStreams
set_option maxRecDepth 20000 in
theorem ggX7_digest_X4_encodedSize : GoodIn wsX7_digest wsX4_encodedSize := goodIn_r _ [39, 40, 41, 42, 43, 44, 45, 46, 47, 38, 48, 49, 50, 51, 67, 68, 83, 84, 85, 86, 87, 88, 89, 90, 91] (by decide +kernel) (by decide +kernel)
set_option maxRecDepth 20000 in
theorem gX7_digest_X4_encodedSize : GoodIn wsX7_digest (wsV RX7 157 RX4 yX4_encodedSize wsX4_encodedSize) := goodIn_app (goodIn_of _ (by decide +kernel)) ggX7_digest_X4_encodedSize
theorem dX7_digest_0 : decode cX7_digest 0 = .ok (.aload_n 0, 1) := by decide +kernel
theorem dX7_digest_1 : decode cX7_digest 1 = .ok (.ldc2_w 164, 3) := by decide +kernel
theorem dX7_digest_4 : decode cX7_digest 4 = .ok (.invokevirtual 166, 3) := by decide +kernel
theorem dX7_digest_7 : decode cX7_digest 7 = .ok (.lstore_n 1, 1) := by decide +kernel
theorem dX7_digest_8 : decode cX7_digest 8 = .ok (.ldc2_w 170, 3) := by decide +kernel
theorem dX7_digest_11 : decode cX7_digest 11 = .ok (.lload_n 1, 1) := by decide +kernel
theorem dX7_digest_12 : decode cX7_digest 12 = .ok (.lmul, 1) := by decide +kernel
theorem dX7_digest_13 : decode cX7_digest 13 = .ok (.aload_n 0, 1) := by decide +kernel
theorem dX7_digest_14 : decode cX7_digest 14 = .ok (.getfield 26, 3) := by decide +kernel
theorem dX7_digest_17 : decode cX7_digest 17 = .ok (.getfield 127, 3) := by decide +kernel
theorem dX7_digest_20 : decode cX7_digest 20 = .ok (.i2l, 1) := by decide +kernel
theorem dX7_digest_21 : decode cX7_digest 21 = .ok (.ladd, 1) := by decide +kernel
theorem dX7_digest_22 : decode cX7_digest 22 = .ok (.lstore_n 1, 1) := by decide +kernel
theorem dX7_digest_23 : decode cX7_digest 23 = .ok (.aload_n 0, 1) := by decide +kernel
theorem dX7_digest_24 : decode cX7_digest 24 = .ok (.lload_n 1, 1) := by decide +kernel
theorem dX7_digest_25 : decode cX7_digest 25 = .ok (.invokevirtual 172, 3) := by decide +kernel
theorem dX7_digest_28 : decode cX7_digest 28 = .ok (.lstore_n 1, 1) := by decide +kernel
theorem dX7_digest_29 : decode cX7_digest 29 = .ok (.iconst 0, 1) := by decide +kernel
theorem dX7_digest_30 : decode cX7_digest 30 = .ok (.istore_n 3, 1) := by decide +kernel
theorem dX7_digest_31 : decode cX7_digest 31 = .ok (.iload_n 3, 1) := by decide +kernel
theorem dX7_digest_32 : decode cX7_digest 32 = .ok (.aload_n 0, 1) := by decide +kernel
theorem dX7_digest_33 : decode cX7_digest 33 = .ok (.getfield 40, 3) := by decide +kernel
theorem dX7_digest_36 : decode cX7_digest 36 = .ok (.getfield 89, 3) := by decide +kernel
theorem dX7_digest_39 : decode cX7_digest 39 = .ok (.if_icmp .ge 26, 3) := by decide +kernel
theorem dX7_digest_42 : decode cX7_digest 42 = .ok (.ldc2_w 170, 3) := by decide +kernel
theorem dX7_digest_45 : decode cX7_digest 45 = .ok (.lload_n 1, 1) := by decide +kernel
theorem dX7_digest_46 : decode cX7_digest 46 = .ok (.lmul, 1) := by decide +kernel
theorem dX7_digest_47 : decode cX7_digest 47 = .ok (.aload_n 0, 1) := by decide +kernel
theorem dX7_digest_48 : decode cX7_digest 48 = .ok (.getfield 40, 3) := by decide +kernel
theorem dX7_digest_51 : decode cX7_digest 51 = .ok (.getfield 154, 3) := by decide +kernel
theorem dX7_digest_54 : decode cX7_digest 54 = .ok (.iload_n 3, 1) := by decide +kernel
theorem dX7_digest_55 : decode cX7_digest 55 = .ok (.iaload, 1) := by decide +kernel
theorem dX7_digest_56 : decode cX7_digest 56 = .ok (.i2l, 1) := by decide +kernel
theorem dX7_digest_57 : decode cX7_digest 57 = .ok (.ladd, 1) := by decide +kernel
theorem dX7_digest_58 : decode cX7_digest 58 = .ok (.lstore_n 1, 1) := by decide +kernel
theorem dX7_digest_59 : decode cX7_digest 59 = .ok (.iinc 3 1, 3) := by decide +kernel
theorem dX7_digest_62 : decode cX7_digest 62 = .ok (.goto (-31), 3) := by decide +kernel
theorem dX7_digest_65 : decode cX7_digest 65 = .ok (.ldc2_w 170, 3) := by decide +kernel
theorem dX7_digest_68 : decode cX7_digest 68 = .ok (.lload_n 1, 1) := by decide +kernel
theorem dX7_digest_69 : decode cX7_digest 69 = .ok (.lmul, 1) := by decide +kernel
theorem dX7_digest_70 : decode cX7_digest 70 = .ok (.aload_n 0, 1) := by decide +kernel
theorem dX7_digest_71 : decode cX7_digest 71 = .ok (.getfield 40, 3) := by decide +kernel
theorem dX7_digest_74 : decode cX7_digest 74 = .ok (.aload_n 0, 1) := by decide +kernel
theorem dX7_digest_75 : decode cX7_digest 75 = .ok (.getfield 33, 3) := by decide +kernel
theorem dX7_digest_78 : decode cX7_digest 78 = .ok (.invokevirtual 157, 3) := by decide +kernel
theorem dX7_digest_81 : decode cX7_digest 81 = .ok (.i2l, 1) := by decide +kernel
theorem dX7_digest_82 : decode cX7_digest 82 = .ok (.ladd, 1) := by decide +kernel
theorem dX7_digest_83 : decode cX7_digest 83 = .ok (.lstore_n 1, 1) := by decide +kernel
theorem dX7_digest_84 : decode cX7_digest 84 = .ok (.ldc2_w 170, 3) := by decide +kernel
theorem dX7_digest_87 : decode cX7_digest 87 = .ok (.lload_n 1, 1) := by decide +kernel
theorem dX7_digest_88 : decode cX7_digest 88 = .ok (.lmul, 1) := by decide +kernel
theorem dX7_digest_89 : decode cX7_digest 89 = .ok (.aload_n 0, 1) := by decide +kernel
theorem dX7_digest_90 : decode cX7_digest 90 = .ok (.getfield 51, 3) := by decide +kernel
theorem dX7_digest_93 : decode cX7_digest 93 = .ok (.i2l, 1) := by decide +kernel
theorem dX7_digest_94 : decode cX7_digest 94 = .ok (.ladd, 1) := by decide +kernel
theorem dX7_digest_95 : decode cX7_digest 95 = .ok (.lstore_n 1, 1) := by decide +kernel
theorem dX7_digest_96 : decode cX7_digest 96 = .ok (.ldc2_w 170, 3) := by decide +kernel
theorem dX7_digest_99 : decode cX7_digest 99 = .ok (.lload_n 1, 1) := by decide +kernel
theorem dX7_digest_100 : decode cX7_digest 100 = .ok (.lmul, 1) := by decide +kernel
theorem dX7_digest_101 : decode cX7_digest 101 = .ok (.aload_n 0, 1) := by decide +kernel
theorem dX7_digest_102 : decode cX7_digest 102 = .ok (.getfield 54, 3) := by decide +kernel
theorem dX7_digest_105 : decode cX7_digest 105 = .ok (.i2l, 1) := by decide +kernel
theorem dX7_digest_106 : decode cX7_digest 106 = .ok (.ladd, 1) := by decide +kernel
theorem dX7_digest_107 : decode cX7_digest 107 = .ok (.lstore_n 1, 1) := by decide +kernel
theorem dX7_digest_108 : decode cX7_digest 108 = .ok (.iconst 0, 1) := by decide +kernel
theorem dX7_digest_109 : decode cX7_digest 109 = .ok (.istore_n 3, 1) := by decide +kernel
theorem dX7_digest_110 : decode cX7_digest 110 = .ok (.iload_n 3, 1) := by decide +kernel
theorem dX7_digest_111 : decode cX7_digest 111 = .ok (.aload_n 0, 1) := by decide +kernel
theorem dX7_digest_112 : decode cX7_digest 112 = .ok (.getfield 10, 3) := by decide +kernel
theorem dX7_digest_115 : decode cX7_digest 115 = .ok (.getfield 61, 3) := by decide +kernel
theorem dX7_digest_118 : decode cX7_digest 118 = .ok (.if_icmp .ge 26, 3) := by decide +kernel
theorem dX7_digest_121 : decode cX7_digest 121 = .ok (.ldc2_w 170, 3) := by decide +kernel
theorem dX7_digest_124 : decode cX7_digest 124 = .ok (.lload_n 1, 1) := by decide +kernel
theorem dX7_digest_125 : decode cX7_digest 125 = .ok (.lmul, 1) := by decide +kernel
theorem dX7_digest_126 : decode cX7_digest 126 = .ok (.aload_n 0, 1) := by decide +kernel
theorem dX7_digest_127 : decode cX7_digest 127 = .ok (.getfield 10, 3) := by decide +kernel
theorem dX7_digest_130 : decode cX7_digest 130 = .ok (.getfield 175, 3) := by decide +kernel
theorem dX7_digest_133 : decode cX7_digest 133 = .ok (.iload_n 3, 1) := by decide +kernel
theorem dX7_digest_134 : decode cX7_digest 134 = .ok (.iaload, 1) := by decide +kernel
theorem dX7_digest_135 : decode cX7_digest 135 = .ok (.i2l, 1) := by decide +kernel
theorem dX7_digest_136 : decode cX7_digest 136 = .ok (.ladd, 1) := by decide +kernel
theorem dX7_digest_137 : decode cX7_digest 137 = .ok (.lstore_n 1, 1) := by decide +kernel
theorem dX7_digest_138 : decode cX7_digest 138 = .ok (.iinc 3 1, 3) := by decide +kernel
theorem dX7_digest_141 : decode cX7_digest 141 = .ok (.goto (-31), 3) := by decide +kernel
theorem dX7_digest_144 : decode cX7_digest 144 = .ok (.ldc2_w 170, 3) := by decide +kernel
theorem dX7_digest_147 : decode cX7_digest 147 = .ok (.lload_n 1, 1) := by decide +kernel
theorem dX7_digest_148 : decode cX7_digest 148 = .ok (.lmul, 1) := by decide +kernel
theorem dX7_digest_149 : decode cX7_digest 149 = .ok (.aload_n 0, 1) := by decide +kernel
theorem dX7_digest_150 : decode cX7_digest 150 = .ok (.getfield 10, 3) := by decide +kernel
theorem dX7_digest_153 : decode cX7_digest 153 = .ok (.getfield 61, 3) := by decide +kernel
theorem dX7_digest_156 : decode cX7_digest 156 = .ok (.i2l, 1) := by decide +kernel
theorem dX7_digest_157 : decode cX7_digest 157 = .ok (.ladd, 1) := by decide +kernel
theorem dX7_digest_158 : decode cX7_digest 158 = .ok (.lreturn, 1) := by decide +kernel
theorem dX7_digestNodes_0 : decode cX7_digestNodes 0 = .ok (.lload_n 1, 1) := by decide +kernel
theorem dX7_digestNodes_1 : decode cX7_digestNodes 1 = .ok (.lstore_n 3, 1) := by decide +kernel
theorem dX7_digestNodes_2 : decode cX7_digestNodes 2 = .ok (.iconst 0, 1) := by decide +kernel
theorem dX7_digestNodes_3 : decode cX7_digestNodes 3 = .ok (.istore 5, 2) := by decide +kernel
theorem dX7_digestNodes_5 : decode cX7_digestNodes 5 = .ok (.iload 5, 2) := by decide +kernel
theorem dX7_digestNodes_7 : decode cX7_digestNodes 7 = .ok (.aload_n 0, 1) := by decide +kernel
theorem dX7_digestNodes_8 : decode cX7_digestNodes 8 = .ok (.getfield 19, 3) := by decide +kernel
theorem dX7_digestNodes_11 : decode cX7_digestNodes 11 = .ok (.getfield 92, 3) := by decide +kernel
theorem dX7_digestNodes_14 : decode cX7_digestNodes 14 = .ok (.if_icmp .ge 107, 3) := by decide +kernel
theorem dX7_digestNodes_17 : decode cX7_digestNodes 17 = .ok (.ldc2_w 170, 3) := by decide +kernel
theorem dX7_digestNodes_20 : decode cX7_digestNodes 20 = .ok (.lload_n 3, 1) := by decide +kernel
theorem dX7_digestNodes_21 : decode cX7_digestNodes 21 = .ok (.lmul, 1) := by decide +kernel
theorem dX7_digestNodes_22 : decode cX7_digestNodes 22 = .ok (.aload_n 0, 1) := by decide +kernel
theorem dX7_digestNodes_23 : decode cX7_digestNodes 23 = .ok (.getfield 26, 3) := by decide +kernel
theorem dX7_digestNodes_26 : decode cX7_digestNodes 26 = .ok (.getfield 121, 3) := by decide +kernel
theorem dX7_digestNodes_29 : decode cX7_digestNodes 29 = .ok (.iload 5, 2) := by decide +kernel
theorem dX7_digestNodes_31 : decode cX7_digestNodes 31 = .ok (.iaload, 1) := by decide +kernel
theorem dX7_digestNodes_32 : decode cX7_digestNodes 32 = .ok (.i2l, 1) := by decide +kernel
theorem dX7_digestNodes_33 : decode cX7_digestNodes 33 = .ok (.ladd, 1) := by decide +kernel
theorem dX7_digestNodes_34 : decode cX7_digestNodes 34 = .ok (.lstore_n 3, 1) := by decide +kernel
theorem dX7_digestNodes_35 : decode cX7_digestNodes 35 = .ok (.ldc2_w 170, 3) := by decide +kernel
theorem dX7_digestNodes_38 : decode cX7_digestNodes 38 = .ok (.lload_n 3, 1) := by decide +kernel
theorem dX7_digestNodes_39 : decode cX7_digestNodes 39 = .ok (.lmul, 1) := by decide +kernel
theorem dX7_digestNodes_40 : decode cX7_digestNodes 40 = .ok (.aload_n 0, 1) := by decide +kernel
theorem dX7_digestNodes_41 : decode cX7_digestNodes 41 = .ok (.getfield 26, 3) := by decide +kernel
theorem dX7_digestNodes_44 : decode cX7_digestNodes 44 = .ok (.getfield 124, 3) := by decide +kernel
theorem dX7_digestNodes_47 : decode cX7_digestNodes 47 = .ok (.iload 5, 2) := by decide +kernel
theorem dX7_digestNodes_49 : decode cX7_digestNodes 49 = .ok (.iaload, 1) := by decide +kernel
theorem dX7_digestNodes_50 : decode cX7_digestNodes 50 = .ok (.i2l, 1) := by decide +kernel
theorem dX7_digestNodes_51 : decode cX7_digestNodes 51 = .ok (.ladd, 1) := by decide +kernel
theorem dX7_digestNodes_52 : decode cX7_digestNodes 52 = .ok (.lstore_n 3, 1) := by decide +kernel
theorem dX7_digestNodes_53 : decode cX7_digestNodes 53 = .ok (.ldc2_w 170, 3) := by decide +kernel
theorem dX7_digestNodes_56 : decode cX7_digestNodes 56 = .ok (.lload_n 3, 1) := by decide +kernel
theorem dX7_digestNodes_57 : decode cX7_digestNodes 57 = .ok (.lmul, 1) := by decide +kernel
theorem dX7_digestNodes_58 : decode cX7_digestNodes 58 = .ok (.aload_n 0, 1) := by decide +kernel
theorem dX7_digestNodes_59 : decode cX7_digestNodes 59 = .ok (.getfield 19, 3) := by decide +kernel
theorem dX7_digestNodes_62 : decode cX7_digestNodes 62 = .ok (.getfield 107, 3) := by decide +kernel
theorem dX7_digestNodes_65 : decode cX7_digestNodes 65 = .ok (.iload 5, 2) := by decide +kernel
theorem dX7_digestNodes_67 : decode cX7_digestNodes 67 = .ok (.iaload, 1) := by decide +kernel
theorem dX7_digestNodes_68 : decode cX7_digestNodes 68 = .ok (.i2l, 1) := by decide +kernel
theorem dX7_digestNodes_69 : decode cX7_digestNodes 69 = .ok (.ladd, 1) := by decide +kernel
theorem dX7_digestNodes_70 : decode cX7_digestNodes 70 = .ok (.lstore_n 3, 1) := by decide +kernel
theorem dX7_digestNodes_71 : decode cX7_digestNodes 71 = .ok (.ldc2_w 170, 3) := by decide +kernel
theorem dX7_digestNodes_74 : decode cX7_digestNodes 74 = .ok (.lload_n 3, 1) := by decide +kernel
theorem dX7_digestNodes_75 : decode cX7_digestNodes 75 = .ok (.lmul, 1) := by decide +kernel
theorem dX7_digestNodes_76 : decode cX7_digestNodes 76 = .ok (.aload_n 0, 1) := by decide +kernel
theorem dX7_digestNodes_77 : decode cX7_digestNodes 77 = .ok (.getfield 19, 3) := by decide +kernel
theorem dX7_digestNodes_80 : decode cX7_digestNodes 80 = .ok (.getfield 161, 3) := by decide +kernel
theorem dX7_digestNodes_83 : decode cX7_digestNodes 83 = .ok (.iload 5, 2) := by decide +kernel
theorem dX7_digestNodes_85 : decode cX7_digestNodes 85 = .ok (.iaload, 1) := by decide +kernel
theorem dX7_digestNodes_86 : decode cX7_digestNodes 86 = .ok (.i2l, 1) := by decide +kernel
theorem dX7_digestNodes_87 : decode cX7_digestNodes 87 = .ok (.ladd, 1) := by decide +kernel
theorem dX7_digestNodes_88 : decode cX7_digestNodes 88 = .ok (.lstore_n 3, 1) := by decide +kernel
theorem dX7_digestNodes_89 : decode cX7_digestNodes 89 = .ok (.ldc2_w 170, 3) := by decide +kernel
theorem dX7_digestNodes_92 : decode cX7_digestNodes 92 = .ok (.lload_n 3, 1) := by decide +kernel
theorem dX7_digestNodes_93 : decode cX7_digestNodes 93 = .ok (.lmul, 1) := by decide +kernel
theorem dX7_digestNodes_94 : decode cX7_digestNodes 94 = .ok (.aload_n 0, 1) := by decide +kernel
theorem dX7_digestNodes_95 : decode cX7_digestNodes 95 = .ok (.getfield 19, 3) := by decide +kernel
theorem dX7_digestNodes_98 : decode cX7_digestNodes 98 = .ok (.getfield 103, 3) := by decide +kernel
theorem dX7_digestNodes_101 : decode cX7_digestNodes 101 = .ok (.iload 5, 2) := by decide +kernel
theorem dX7_digestNodes_103 : decode cX7_digestNodes 103 = .ok (.baload, 1) := by decide +kernel
theorem dX7_digestNodes_104 : decode cX7_digestNodes 104 = .ok (.ifCond .eq 7, 3) := by decide +kernel
theorem dX7_digestNodes_107 : decode cX7_digestNodes 107 = .ok (.iconst 1, 1) := by decide +kernel
theorem dX7_digestNodes_108 : decode cX7_digestNodes 108 = .ok (.goto 4, 3) := by decide +kernel
theorem dX7_digestNodes_111 : decode cX7_digestNodes 111 = .ok (.iconst 0, 1) := by decide +kernel
theorem dX7_digestNodes_112 : decode cX7_digestNodes 112 = .ok (.i2l, 1) := by decide +kernel
theorem dX7_digestNodes_113 : decode cX7_digestNodes 113 = .ok (.ladd, 1) := by decide +kernel
theorem dX7_digestNodes_114 : decode cX7_digestNodes 114 = .ok (.lstore_n 3, 1) := by decide +kernel
theorem dX7_digestNodes_115 : decode cX7_digestNodes 115 = .ok (.iinc 5 1, 3) := by decide +kernel
theorem dX7_digestNodes_118 : decode cX7_digestNodes 118 = .ok (.goto (-113), 3) := by decide +kernel
theorem dX7_digestNodes_121 : decode cX7_digestNodes 121 = .ok (.lload_n 3, 1) := by decide +kernel
theorem dX7_digestNodes_122 : decode cX7_digestNodes 122 = .ok (.lreturn, 1) := by decide +kernel
theorem dX7_digestStreams_0 : decode cX7_digestStreams 0 = .ok (.lload_n 1, 1) := by decide +kernel
theorem dX7_digestStreams_1 : decode cX7_digestStreams 1 = .ok (.lstore_n 3, 1) := by decide +kernel
theorem dX7_digestStreams_2 : decode cX7_digestStreams 2 = .ok (.iconst 0, 1) := by decide +kernel
theorem dX7_digestStreams_3 : decode cX7_digestStreams 3 = .ok (.istore 5, 2) := by decide +kernel
theorem dX7_digestStreams_5 : decode cX7_digestStreams 5 = .ok (.iload 5, 2) := by decide +kernel
theorem dX7_digestStreams_7 : decode cX7_digestStreams 7 = .ok (.aload_n 0, 1) := by decide +kernel
theorem dX7_digestStreams_8 : decode cX7_digestStreams 8 = .ok (.getfield 33, 3) := by decide +kernel
theorem dX7_digestStreams_11 : decode cX7_digestStreams 11 = .ok (.getfield 86, 3) := by decide +kernel
theorem dX7_digestStreams_14 : decode cX7_digestStreams 14 = .ok (.if_icmp .ge 60, 3) := by decide +kernel
theorem dX7_digestStreams_17 : decode cX7_digestStreams 17 = .ok (.aload_n 0, 1) := by decide +kernel
theorem dX7_digestStreams_18 : decode cX7_digestStreams 18 = .ok (.getfield 33, 3) := by decide +kernel
theorem dX7_digestStreams_21 : decode cX7_digestStreams 21 = .ok (.getfield 136, 3) := by decide +kernel
theorem dX7_digestStreams_24 : decode cX7_digestStreams 24 = .ok (.iload 5, 2) := by decide +kernel
theorem dX7_digestStreams_26 : decode cX7_digestStreams 26 = .ok (.aaload, 1) := by decide +kernel
theorem dX7_digestStreams_27 : decode cX7_digestStreams 27 = .ok (.astore 6, 2) := by decide +kernel
theorem dX7_digestStreams_29 : decode cX7_digestStreams 29 = .ok (.ldc2_w 170, 3) := by decide +kernel
theorem dX7_digestStreams_32 : decode cX7_digestStreams 32 = .ok (.lload_n 3, 1) := by decide +kernel
theorem dX7_digestStreams_33 : decode cX7_digestStreams 33 = .ok (.lmul, 1) := by decide +kernel
theorem dX7_digestStreams_34 : decode cX7_digestStreams 34 = .ok (.aload 6, 2) := by decide +kernel
theorem dX7_digestStreams_36 : decode cX7_digestStreams 36 = .ok (.getfield 140, 3) := by decide +kernel
theorem dX7_digestStreams_39 : decode cX7_digestStreams 39 = .ok (.i2l, 1) := by decide +kernel
theorem dX7_digestStreams_40 : decode cX7_digestStreams 40 = .ok (.ladd, 1) := by decide +kernel
theorem dX7_digestStreams_41 : decode cX7_digestStreams 41 = .ok (.lstore_n 3, 1) := by decide +kernel
theorem dX7_digestStreams_42 : decode cX7_digestStreams 42 = .ok (.ldc2_w 170, 3) := by decide +kernel
theorem dX7_digestStreams_45 : decode cX7_digestStreams 45 = .ok (.lload_n 3, 1) := by decide +kernel
theorem dX7_digestStreams_46 : decode cX7_digestStreams 46 = .ok (.lmul, 1) := by decide +kernel
theorem dX7_digestStreams_47 : decode cX7_digestStreams 47 = .ok (.aload 6, 2) := by decide +kernel
theorem dX7_digestStreams_49 : decode cX7_digestStreams 49 = .ok (.getfield 145, 3) := by decide +kernel
theorem dX7_digestStreams_52 : decode cX7_digestStreams 52 = .ok (.i2l, 1) := by decide +kernel
theorem dX7_digestStreams_53 : decode cX7_digestStreams 53 = .ok (.ladd, 1) := by decide +kernel
theorem dX7_digestStreams_54 : decode cX7_digestStreams 54 = .ok (.lstore_n 3, 1) := by decide +kernel
theorem dX7_digestStreams_55 : decode cX7_digestStreams 55 = .ok (.ldc2_w 170, 3) := by decide +kernel
theorem dX7_digestStreams_58 : decode cX7_digestStreams 58 = .ok (.lload_n 3, 1) := by decide +kernel
theorem dX7_digestStreams_59 : decode cX7_digestStreams 59 = .ok (.lmul, 1) := by decide +kernel
theorem dX7_digestStreams_60 : decode cX7_digestStreams 60 = .ok (.aload 6, 2) := by decide +kernel
theorem dX7_digestStreams_62 : decode cX7_digestStreams 62 = .ok (.getfield 148, 3) := by decide +kernel
theorem dX7_digestStreams_65 : decode cX7_digestStreams 65 = .ok (.i2l, 1) := by decide +kernel
theorem dX7_digestStreams_66 : decode cX7_digestStreams 66 = .ok (.ladd, 1) := by decide +kernel
theorem dX7_digestStreams_67 : decode cX7_digestStreams 67 = .ok (.lstore_n 3, 1) := by decide +kernel
theorem dX7_digestStreams_68 : decode cX7_digestStreams 68 = .ok (.iinc 5 1, 3) := by decide +kernel
theorem dX7_digestStreams_71 : decode cX7_digestStreams 71 = .ok (.goto (-66), 3) := by decide +kernel
theorem dX7_digestStreams_74 : decode cX7_digestStreams 74 = .ok (.lload_n 3, 1) := by decide +kernel
theorem dX7_digestStreams_75 : decode cX7_digestStreams 75 = .ok (.lreturn, 1) := by decide +kernel
set_option maxRecDepth 20000 in
theorem ggX7_runOneRound_X6_generate : GoodIn wsX7_runOneRound wsX6_generate := goodIn_r _ [14, 15, 16, 17, 18, 19, 20, 21, 22, 23, 24, 25, 26, 156, 157, 158, 159, 160, 161, 162, 163, 164] (by decide +kernel) (by decide +kernel)
set_option maxRecDepth 20000 in
theorem gX7_runOneRound_X6_generate : GoodIn wsX7_runOneRound (wsV RX7 178 RX6 yX6_generate wsX6_generate) := goodIn_app (goodIn_of _ (by decide +kernel)) ggX7_runOneRound_X6_generate
set_option maxRecDepth 20000 in
theorem ggX7_runOneRound_X4_build : GoodIn wsX7_runOneRound wsX4_build := goodIn_r _ [31, 32, 33, 34, 35, 36, 37, 38, 39, 40, 41, 42, 30, 43, 44, 45, 46, 47, 20, 48, 26, 154, 155, 156, 157, 158, 159, 160, 161, 162, 163, 164] (by decide +kernel) (by decide +kernel)
set_option maxRecDepth 20000 in
theorem gX7_runOneRound_X4_build : GoodIn wsX7_runOneRound (wsV RX7 181 RX4 yX4_build wsX4_build) := goodIn_app (goodIn_of _ (by decide +kernel)) ggX7_runOneRound_X4_build
set_option maxRecDepth 20000 in
theorem ggX7_runOneRound_X1_run : GoodIn wsX7_runOneRound wsX1_run := goodIn_r _ [53, 54, 55, 56, 57, 58, 52, 59, 60, 61, 62, 63, 64, 65, 66, 67, 68, 69, 70, 71, 72, 73, 38, 74, 75, 76, 77, 78, 79, 80, 81, 82, 83, 84, 85, 86, 87, 88, 89, 90, 91, 92, 93, 94, 95, 96, 97, 98, 99, 100, 101, 148, 149, 150, 151, 152, 153, 165, 166, 167, 168, 169, 170, 171, 172] (by decide +kernel) (by decide +kernel)
set_option maxRecDepth 20000 in
theorem gX7_runOneRound_X1_run : GoodIn wsX7_runOneRound (wsV RX7 114 RX1 yX1_run wsX1_run) := goodIn_app (goodIn_of _ (by decide +kernel)) ggX7_runOneRound_X1_run
set_option maxRecDepth 20000 in
theorem ggX7_runOneRound_X3_noteSchedule : GoodIn wsX7_runOneRound wsX3_noteSchedule := goodIn_r _ [106, 107, 108, 109, 110, 111, 148, 149, 150, 151, 152, 153, 165, 166, 167, 168, 169, 170] (by decide +kernel) (by decide +kernel)
set_option maxRecDepth 20000 in
theorem gX7_runOneRound_X3_noteSchedule : GoodIn wsX7_runOneRound (wsV RX7 185 RX3 yX3_noteSchedule wsX3_noteSchedule) := goodIn_app (goodIn_of _ (by decide +kernel)) ggX7_runOneRound_X3_noteSchedule
set_option maxRecDepth 20000 in
theorem ggX7_runOneRound_X7_serveSchedule : GoodIn wsX7_runOneRound wsX7_serveSchedule := goodIn_r _ [116, 6, 9, 1, 117, 118, 3, 119, 120, 8, 121, 5, 122, 123, 124, 125, 126, 20, 127, 24, 26, 49, 50, 51, 52, 53, 54, 55, 56, 57, 58, 59, 60, 61, 62, 63, 64, 65, 66, 67, 68, 69, 70, 71, 72, 73, 38, 74, 75, 76, 77, 78, 79, 80, 81, 82, 83, 84, 85, 86, 87, 88, 89, 90, 91, 92, 93, 94, 95, 96, 97, 98, 99, 100, 101, 139, 140, 141, 142, 143, 144, 145, 146, 147, 154, 155, 156, 157, 148, 149, 150, 151, 152, 153, 158, 159, 160, 161, 162, 163, 164, 165, 166, 167, 168, 169, 170, 171, 172] (by decide +kernel) (by decide +kernel)
set_option maxRecDepth 20000 in
theorem gX7_runOneRound_X7_serveSchedule : GoodIn wsX7_runOneRound (wsV RX7 189 RX7 yX7_serveSchedule wsX7_serveSchedule) := goodIn_app (goodIn_of _ (by decide +kernel)) ggX7_runOneRound_X7_serveSchedule
set_option maxRecDepth 20000 in
theorem ggX7_runOneRound_X3_noteNoSchedule : GoodIn wsX7_runOneRound wsX3_noteNoSchedule := goodIn_r _ [131, 107, 111, 110, 148, 149, 150, 151, 152, 153] (by decide +kernel) (by decide +kernel)
set_option maxRecDepth 20000 in
theorem gX7_runOneRound_X3_noteNoSchedule : GoodIn wsX7_runOneRound (wsV RX7 192 RX3 yX3_noteNoSchedule wsX3_noteNoSchedule) := goodIn_app (goodIn_of _ (by decide +kernel)) ggX7_runOneRound_X3_noteNoSchedule
set_option maxRecDepth 20000 in
theorem ggX7_runOneRound_X7_takeOver : GoodIn wsX7_runOneRound wsX7_takeOver := goodIn_r _ [135, 3, 136, 4, 137, 138, 5, 139, 140, 141, 142, 143, 144, 145, 146, 147, 148, 149, 150, 151, 152, 153] (by decide +kernel) (by decide +kernel)
set_option maxRecDepth 20000 in
theorem gX7_runOneRound_X7_takeOver : GoodIn wsX7_runOneRound (wsV RX7 195 RX7 yX7_takeOver wsX7_takeOver) := goodIn_app (goodIn_of _ (by decide +kernel)) ggX7_runOneRound_X7_takeOver
theorem dX7_runOneRound_0 : decode cX7_runOneRound 0 = .ok (.aload_n 0, 1) := by decide +kernel
theorem dX7_runOneRound_1 : decode cX7_runOneRound 1 = .ok (.getfield 33, 3) := by decide +kernel
theorem dX7_runOneRound_4 : decode cX7_runOneRound 4 = .ok (.aload_n 0, 1) := by decide +kernel
theorem dX7_runOneRound_5 : decode cX7_runOneRound 5 = .ok (.getfield 54, 3) := by decide +kernel
theorem dX7_runOneRound_8 : decode cX7_runOneRound 8 = .ok (.invokevirtual 178, 3) := by decide +kernel
theorem dX7_runOneRound_11 : decode cX7_runOneRound 11 = .ok (.iconst 0, 1) := by decide +kernel
theorem dX7_runOneRound_12 : decode cX7_runOneRound 12 = .ok (.istore_n 1, 1) := by decide +kernel
theorem dX7_runOneRound_13 : decode cX7_runOneRound 13 = .ok (.aload_n 0, 1) := by decide +kernel
theorem dX7_runOneRound_14 : decode cX7_runOneRound 14 = .ok (.getfield 19, 3) := by decide +kernel
theorem dX7_runOneRound_17 : decode cX7_runOneRound 17 = .ok (.getfield 103, 3) := by decide +kernel
theorem dX7_runOneRound_20 : decode cX7_runOneRound 20 = .ok (.aload_n 0, 1) := by decide +kernel
theorem dX7_runOneRound_21 : decode cX7_runOneRound 21 = .ok (.getfield 51, 3) := by decide +kernel
theorem dX7_runOneRound_24 : decode cX7_runOneRound 24 = .ok (.baload, 1) := by decide +kernel
theorem dX7_runOneRound_25 : decode cX7_runOneRound 25 = .ok (.ifCond .eq 54, 3) := by decide +kernel
theorem dX7_runOneRound_28 : decode cX7_runOneRound 28 = .ok (.aload_n 0, 1) := by decide +kernel
theorem dX7_runOneRound_29 : decode cX7_runOneRound 29 = .ok (.getfield 40, 3) := by decide +kernel
theorem dX7_runOneRound_32 : decode cX7_runOneRound 32 = .ok (.aload_n 0, 1) := by decide +kernel
theorem dX7_runOneRound_33 : decode cX7_runOneRound 33 = .ok (.getfield 33, 3) := by decide +kernel
theorem dX7_runOneRound_36 : decode cX7_runOneRound 36 = .ok (.aload_n 0, 1) := by decide +kernel
theorem dX7_runOneRound_37 : decode cX7_runOneRound 37 = .ok (.getfield 44, 3) := by decide +kernel
theorem dX7_runOneRound_40 : decode cX7_runOneRound 40 = .ok (.invokevirtual 181, 3) := by decide +kernel
theorem dX7_runOneRound_43 : decode cX7_runOneRound 43 = .ok (.aload_n 0, 1) := by decide +kernel
theorem dX7_runOneRound_44 : decode cX7_runOneRound 44 = .ok (.getfield 26, 3) := by decide +kernel
theorem dX7_runOneRound_47 : decode cX7_runOneRound 47 = .ok (.aload_n 0, 1) := by decide +kernel
theorem dX7_runOneRound_48 : decode cX7_runOneRound 48 = .ok (.getfield 19, 3) := by decide +kernel
theorem dX7_runOneRound_51 : decode cX7_runOneRound 51 = .ok (.iconst 1, 1) := by decide +kernel
theorem dX7_runOneRound_52 : decode cX7_runOneRound 52 = .ok (.aload_n 0, 1) := by decide +kernel
theorem dX7_runOneRound_53 : decode cX7_runOneRound 53 = .ok (.getfield 51, 3) := by decide +kernel
theorem dX7_runOneRound_56 : decode cX7_runOneRound 56 = .ok (.ishl, 1) := by decide +kernel
theorem dX7_runOneRound_57 : decode cX7_runOneRound 57 = .ok (.invokevirtual 114, 3) := by decide +kernel
theorem dX7_runOneRound_60 : decode cX7_runOneRound 60 = .ok (.aload_n 0, 1) := by decide +kernel
theorem dX7_runOneRound_61 : decode cX7_runOneRound 61 = .ok (.getfield 19, 3) := by decide +kernel
theorem dX7_runOneRound_64 : decode cX7_runOneRound 64 = .ok (.aload_n 0, 1) := by decide +kernel
theorem dX7_runOneRound_65 : decode cX7_runOneRound 65 = .ok (.getfield 26, 3) := by decide +kernel
theorem dX7_runOneRound_68 : decode cX7_runOneRound 68 = .ok (.invokevirtual 185, 3) := by decide +kernel
theorem dX7_runOneRound_71 : decode cX7_runOneRound 71 = .ok (.aload_n 0, 1) := by decide +kernel
theorem dX7_runOneRound_72 : decode cX7_runOneRound 72 = .ok (.invokevirtual 189, 3) := by decide +kernel
theorem dX7_runOneRound_75 : decode cX7_runOneRound 75 = .ok (.istore_n 1, 1) := by decide +kernel
theorem dX7_runOneRound_76 : decode cX7_runOneRound 76 = .ok (.goto 22, 3) := by decide +kernel
theorem dX7_runOneRound_79 : decode cX7_runOneRound 79 = .ok (.aload_n 0, 1) := by decide +kernel
theorem dX7_runOneRound_80 : decode cX7_runOneRound 80 = .ok (.getfield 40, 3) := by decide +kernel
theorem dX7_runOneRound_83 : decode cX7_runOneRound 83 = .ok (.iconst 0, 1) := by decide +kernel
theorem dX7_runOneRound_84 : decode cX7_runOneRound 84 = .ok (.putfield 89, 3) := by decide +kernel
theorem dX7_runOneRound_87 : decode cX7_runOneRound 87 = .ok (.aload_n 0, 1) := by decide +kernel
theorem dX7_runOneRound_88 : decode cX7_runOneRound 88 = .ok (.getfield 19, 3) := by decide +kernel
theorem dX7_runOneRound_91 : decode cX7_runOneRound 91 = .ok (.invokevirtual 192, 3) := by decide +kernel
theorem dX7_runOneRound_94 : decode cX7_runOneRound 94 = .ok (.aload_n 0, 1) := by decide +kernel
theorem dX7_runOneRound_95 : decode cX7_runOneRound 95 = .ok (.invokevirtual 195, 3) := by decide +kernel
theorem dX7_runOneRound_98 : decode cX7_runOneRound 98 = .ok (.aload_n 0, 1) := by decide +kernel
theorem dX7_runOneRound_99 : decode cX7_runOneRound 99 = .ok (.dup, 1) := by decide +kernel
theorem dX7_runOneRound_100 : decode cX7_runOneRound 100 = .ok (.getfield 54, 3) := by decide +kernel
theorem dX7_runOneRound_103 : decode cX7_runOneRound 103 = .ok (.iconst 1, 1) := by decide +kernel
theorem dX7_runOneRound_104 : decode cX7_runOneRound 104 = .ok (.iadd, 1) := by decide +kernel
theorem dX7_runOneRound_105 : decode cX7_runOneRound 105 = .ok (.putfield 54, 3) := by decide +kernel
theorem dX7_runOneRound_108 : decode cX7_runOneRound 108 = .ok (.iload_n 1, 1) := by decide +kernel
theorem dX7_runOneRound_109 : decode cX7_runOneRound 109 = .ok (.ireturn, 1) := by decide +kernel
set_option maxRecDepth 20000 in
theorem ggX7_serveSchedule_X5_removeOldest : GoodIn wsX7_serveSchedule wsX5_removeOldest := goodIn_r _ [18, 19, 20, 94, 95, 96, 97, 98, 99, 100] (by decide +kernel) (by decide +kernel)
set_option maxRecDepth 20000 in
theorem gX7_serveSchedule_X5_removeOldest : GoodIn wsX7_serveSchedule (wsV RX7 198 RX5 yX5_removeOldest wsX5_removeOldest) := goodIn_app (goodIn_of _ (by decide +kernel)) ggX7_serveSchedule_X5_removeOldest
set_option maxRecDepth 20000 in
theorem ggX7_serveSchedule_X1_run : GoodIn wsX7_serveSchedule wsX1_run := goodIn_r _ [25, 26, 27, 28, 29, 30, 24, 31, 32, 33, 34, 35, 36, 37, 38, 39, 40, 41, 42, 43, 44, 45, 46, 47, 48, 49, 50, 51, 52, 53, 54, 55, 56, 57, 58, 59, 60, 61, 62, 63, 64, 65, 66, 67, 68, 69, 70, 71, 72, 73, 74, 88, 89, 90, 91, 92, 93, 101, 102, 103, 104, 105, 106, 107, 108] (by decide +kernel) (by decide +kernel)
set_option maxRecDepth 20000 in
theorem gX7_serveSchedule_X1_run : GoodIn wsX7_serveSchedule (wsV RX7 114 RX1 yX1_run wsX1_run) := goodIn_app (goodIn_of _ (by decide +kernel)) ggX7_serveSchedule_X1_run
theorem dX7_serveSchedule_0 : decode cX7_serveSchedule 0 = .ok (.iconst 0, 1) := by decide +kernel
theorem dX7_serveSchedule_1 : decode cX7_serveSchedule 1 = .ok (.istore_n 1, 1) := by decide +kernel
theorem dX7_serveSchedule_2 : decode cX7_serveSchedule 2 = .ok (.iconst 0, 1) := by decide +kernel
theorem dX7_serveSchedule_3 : decode cX7_serveSchedule 3 = .ok (.istore_n 2, 1) := by decide +kernel
theorem dX7_serveSchedule_4 : decode cX7_serveSchedule 4 = .ok (.iload_n 2, 1) := by decide +kernel
theorem dX7_serveSchedule_5 : decode cX7_serveSchedule 5 = .ok (.aload_n 0, 1) := by decide +kernel
theorem dX7_serveSchedule_6 : decode cX7_serveSchedule 6 = .ok (.getfield 40, 3) := by decide +kernel
theorem dX7_serveSchedule_9 : decode cX7_serveSchedule 9 = .ok (.getfield 89, 3) := by decide +kernel
theorem dX7_serveSchedule_12 : decode cX7_serveSchedule 12 = .ok (.if_icmp .ge 114, 3) := by decide +kernel
theorem dX7_serveSchedule_15 : decode cX7_serveSchedule 15 = .ok (.aload_n 0, 1) := by decide +kernel
theorem dX7_serveSchedule_16 : decode cX7_serveSchedule 16 = .ok (.getfield 33, 3) := by decide +kernel
theorem dX7_serveSchedule_19 : decode cX7_serveSchedule 19 = .ok (.getfield 136, 3) := by decide +kernel
theorem dX7_serveSchedule_22 : decode cX7_serveSchedule 22 = .ok (.aload_n 0, 1) := by decide +kernel
theorem dX7_serveSchedule_23 : decode cX7_serveSchedule 23 = .ok (.getfield 40, 3) := by decide +kernel
theorem dX7_serveSchedule_26 : decode cX7_serveSchedule 26 = .ok (.getfield 154, 3) := by decide +kernel
theorem dX7_serveSchedule_29 : decode cX7_serveSchedule 29 = .ok (.iload_n 2, 1) := by decide +kernel
theorem dX7_serveSchedule_30 : decode cX7_serveSchedule 30 = .ok (.iaload, 1) := by decide +kernel
theorem dX7_serveSchedule_31 : decode cX7_serveSchedule 31 = .ok (.aaload, 1) := by decide +kernel
theorem dX7_serveSchedule_32 : decode cX7_serveSchedule 32 = .ok (.astore_n 3, 1) := by decide +kernel
theorem dX7_serveSchedule_33 : decode cX7_serveSchedule 33 = .ok (.aload_n 3, 1) := by decide +kernel
theorem dX7_serveSchedule_34 : decode cX7_serveSchedule 34 = .ok (.invokevirtual 198, 3) := by decide +kernel
theorem dX7_serveSchedule_37 : decode cX7_serveSchedule 37 = .ok (.aload_n 0, 1) := by decide +kernel
theorem dX7_serveSchedule_38 : decode cX7_serveSchedule 38 = .ok (.getfield 19, 3) := by decide +kernel
theorem dX7_serveSchedule_41 : decode cX7_serveSchedule 41 = .ok (.getfield 201, 3) := by decide +kernel
theorem dX7_serveSchedule_44 : decode cX7_serveSchedule 44 = .ok (.aload_n 3, 1) := by decide +kernel
theorem dX7_serveSchedule_45 : decode cX7_serveSchedule 45 = .ok (.getfield 204, 3) := by decide +kernel
theorem dX7_serveSchedule_48 : decode cX7_serveSchedule 48 = .ok (.baload, 1) := by decide +kernel
theorem dX7_serveSchedule_49 : decode cX7_serveSchedule 49 = .ok (.istore 4, 2) := by decide +kernel
theorem dX7_serveSchedule_51 : decode cX7_serveSchedule 51 = .ok (.iload 4, 2) := by decide +kernel
theorem dX7_serveSchedule_53 : decode cX7_serveSchedule 53 = .ok (.ifCond .eq 20, 3) := by decide +kernel
theorem dX7_serveSchedule_56 : decode cX7_serveSchedule 56 = .ok (.aload_n 0, 1) := by decide +kernel
theorem dX7_serveSchedule_57 : decode cX7_serveSchedule 57 = .ok (.getfield 26, 3) := by decide +kernel
theorem dX7_serveSchedule_60 : decode cX7_serveSchedule 60 = .ok (.aload_n 0, 1) := by decide +kernel
theorem dX7_serveSchedule_61 : decode cX7_serveSchedule 61 = .ok (.getfield 19, 3) := by decide +kernel
theorem dX7_serveSchedule_64 : decode cX7_serveSchedule 64 = .ok (.iconst 1, 1) := by decide +kernel
theorem dX7_serveSchedule_65 : decode cX7_serveSchedule 65 = .ok (.aload_n 3, 1) := by decide +kernel
theorem dX7_serveSchedule_66 : decode cX7_serveSchedule 66 = .ok (.getfield 204, 3) := by decide +kernel
theorem dX7_serveSchedule_69 : decode cX7_serveSchedule 69 = .ok (.ishl, 1) := by decide +kernel
theorem dX7_serveSchedule_70 : decode cX7_serveSchedule 70 = .ok (.invokevirtual 114, 3) := by decide +kernel
theorem dX7_serveSchedule_73 : decode cX7_serveSchedule 73 = .ok (.iload 4, 2) := by decide +kernel
theorem dX7_serveSchedule_75 : decode cX7_serveSchedule 75 = .ok (.ifCond .eq 35, 3) := by decide +kernel
theorem dX7_serveSchedule_78 : decode cX7_serveSchedule 78 = .ok (.aload_n 0, 1) := by decide +kernel
theorem dX7_serveSchedule_79 : decode cX7_serveSchedule 79 = .ok (.getfield 26, 3) := by decide +kernel
theorem dX7_serveSchedule_82 : decode cX7_serveSchedule 82 = .ok (.getfield 121, 3) := by decide +kernel
theorem dX7_serveSchedule_85 : decode cX7_serveSchedule 85 = .ok (.aload_n 0, 1) := by decide +kernel
theorem dX7_serveSchedule_86 : decode cX7_serveSchedule 86 = .ok (.getfield 51, 3) := by decide +kernel
theorem dX7_serveSchedule_89 : decode cX7_serveSchedule 89 = .ok (.iaload, 1) := by decide +kernel
theorem dX7_serveSchedule_90 : decode cX7_serveSchedule 90 = .ok (.iconst (-1), 1) := by decide +kernel
theorem dX7_serveSchedule_91 : decode cX7_serveSchedule 91 = .ok (.if_icmp .eq 19, 3) := by decide +kernel
theorem dX7_serveSchedule_94 : decode cX7_serveSchedule 94 = .ok (.aload_n 3, 1) := by decide +kernel
theorem dX7_serveSchedule_95 : decode cX7_serveSchedule 95 = .ok (.dup, 1) := by decide +kernel
theorem dX7_serveSchedule_96 : decode cX7_serveSchedule 96 = .ok (.getfield 145, 3) := by decide +kernel
theorem dX7_serveSchedule_99 : decode cX7_serveSchedule 99 = .ok (.iconst 1, 1) := by decide +kernel
theorem dX7_serveSchedule_100 : decode cX7_serveSchedule 100 = .ok (.iadd, 1) := by decide +kernel
theorem dX7_serveSchedule_101 : decode cX7_serveSchedule 101 = .ok (.putfield 145, 3) := by decide +kernel
theorem dX7_serveSchedule_104 : decode cX7_serveSchedule 104 = .ok (.iinc 1 1, 3) := by decide +kernel
theorem dX7_serveSchedule_107 : decode cX7_serveSchedule 107 = .ok (.goto 13, 3) := by decide +kernel
theorem dX7_serveSchedule_110 : decode cX7_serveSchedule 110 = .ok (.aload_n 3, 1) := by decide +kernel
theorem dX7_serveSchedule_111 : decode cX7_serveSchedule 111 = .ok (.dup, 1) := by decide +kernel
theorem dX7_serveSchedule_112 : decode cX7_serveSchedule 112 = .ok (.getfield 148, 3) := by decide +kernel
theorem dX7_serveSchedule_115 : decode cX7_serveSchedule 115 = .ok (.iconst 1, 1) := by decide +kernel
theorem dX7_serveSchedule_116 : decode cX7_serveSchedule 116 = .ok (.iadd, 1) := by decide +kernel
theorem dX7_serveSchedule_117 : decode cX7_serveSchedule 117 = .ok (.putfield 148, 3) := by decide +kernel
theorem dX7_serveSchedule_120 : decode cX7_serveSchedule 120 = .ok (.iinc 2 1, 3) := by decide +kernel
theorem dX7_serveSchedule_123 : decode cX7_serveSchedule 123 = .ok (.goto (-119), 3) := by decide +kernel
theorem dX7_serveSchedule_126 : decode cX7_serveSchedule 126 = .ok (.iload_n 1, 1) := by decide +kernel
theorem dX7_serveSchedule_127 : decode cX7_serveSchedule 127 = .ok (.ireturn, 1) := by decide +kernel
theorem dX7_takeOver_0 : decode cX7_takeOver 0 = .ok (.iconst 0, 1) := by decide +kernel
theorem dX7_takeOver_1 : decode cX7_takeOver 1 = .ok (.istore_n 1, 1) := by decide +kernel
theorem dX7_takeOver_2 : decode cX7_takeOver 2 = .ok (.iload_n 1, 1) := by decide +kernel
theorem dX7_takeOver_3 : decode cX7_takeOver 3 = .ok (.aload_n 0, 1) := by decide +kernel
theorem dX7_takeOver_4 : decode cX7_takeOver 4 = .ok (.getfield 19, 3) := by decide +kernel
theorem dX7_takeOver_7 : decode cX7_takeOver 7 = .ok (.getfield 92, 3) := by decide +kernel
theorem dX7_takeOver_10 : decode cX7_takeOver 10 = .ok (.if_icmp .ge 53, 3) := by decide +kernel
theorem dX7_takeOver_13 : decode cX7_takeOver 13 = .ok (.aload_n 0, 1) := by decide +kernel
theorem dX7_takeOver_14 : decode cX7_takeOver 14 = .ok (.getfield 19, 3) := by decide +kernel
theorem dX7_takeOver_17 : decode cX7_takeOver 17 = .ok (.getfield 103, 3) := by decide +kernel
theorem dX7_takeOver_20 : decode cX7_takeOver 20 = .ok (.iload_n 1, 1) := by decide +kernel
theorem dX7_takeOver_21 : decode cX7_takeOver 21 = .ok (.baload, 1) := by decide +kernel
theorem dX7_takeOver_22 : decode cX7_takeOver 22 = .ok (.ifCond .eq 35, 3) := by decide +kernel
theorem dX7_takeOver_25 : decode cX7_takeOver 25 = .ok (.aload_n 0, 1) := by decide +kernel
theorem dX7_takeOver_26 : decode cX7_takeOver 26 = .ok (.getfield 19, 3) := by decide +kernel
theorem dX7_takeOver_29 : decode cX7_takeOver 29 = .ok (.getfield 107, 3) := by decide +kernel
theorem dX7_takeOver_32 : decode cX7_takeOver 32 = .ok (.iload_n 1, 1) := by decide +kernel
theorem dX7_takeOver_33 : decode cX7_takeOver 33 = .ok (.iaload, 1) := by decide +kernel
theorem dX7_takeOver_34 : decode cX7_takeOver 34 = .ok (.aload_n 0, 1) := by decide +kernel
theorem dX7_takeOver_35 : decode cX7_takeOver 35 = .ok (.getfield 48, 3) := by decide +kernel
theorem dX7_takeOver_38 : decode cX7_takeOver 38 = .ok (.if_icmp .lt 19, 3) := by decide +kernel
theorem dX7_takeOver_41 : decode cX7_takeOver 41 = .ok (.aload_n 0, 1) := by decide +kernel
theorem dX7_takeOver_42 : decode cX7_takeOver 42 = .ok (.iload_n 1, 1) := by decide +kernel
theorem dX7_takeOver_43 : decode cX7_takeOver 43 = .ok (.putfield 51, 3) := by decide +kernel
theorem dX7_takeOver_46 : decode cX7_takeOver 46 = .ok (.aload_n 0, 1) := by decide +kernel
theorem dX7_takeOver_47 : decode cX7_takeOver 47 = .ok (.getfield 19, 3) := by decide +kernel
theorem dX7_takeOver_50 : decode cX7_takeOver 50 = .ok (.getfield 107, 3) := by decide +kernel
theorem dX7_takeOver_53 : decode cX7_takeOver 53 = .ok (.iload_n 1, 1) := by decide +kernel
theorem dX7_takeOver_54 : decode cX7_takeOver 54 = .ok (.iconst 0, 1) := by decide +kernel
theorem dX7_takeOver_55 : decode cX7_takeOver 55 = .ok (.iastore, 1) := by decide +kernel
theorem dX7_takeOver_56 : decode cX7_takeOver 56 = .ok (.return_, 1) := by decide +kernel
theorem dX7_takeOver_57 : decode cX7_takeOver 57 = .ok (.iinc 1 1, 3) := by decide +kernel
theorem dX7_takeOver_60 : decode cX7_takeOver 60 = .ok (.goto (-58), 3) := by decide +kernel
theorem dX7_takeOver_63 : decode cX7_takeOver 63 = .ok (.return_, 1) := by decide +kernel
theorem dX8_init_0 : decode cX8_init 0 = .ok (.aload_n 0, 1) := by decide +kernel
theorem dX8_init_1 : decode cX8_init 1 = .ok (.invokespecial 1, 3) := by decide +kernel
theorem dX8_init_4 : decode cX8_init 4 = .ok (.aload_n 0, 1) := by decide +kernel
theorem dX8_init_5 : decode cX8_init 5 = .ok (.bipush 61, 2) := by decide +kernel
theorem dX8_init_7 : decode cX8_init 7 = .ok (.newarray .int, 2) := by decide +kernel
theorem dX8_init_9 : decode cX8_init 9 = .ok (.putfield 7, 3) := by decide +kernel
theorem dX8_init_12 : decode cX8_init 12 = .ok (.aload_n 0, 1) := by decide +kernel
theorem dX8_init_13 : decode cX8_init 13 = .ok (.bipush 12, 2) := by decide +kernel
theorem dX8_init_15 : decode cX8_init 15 = .ok (.newarray .int, 2) := by decide +kernel
theorem dX8_init_17 : decode cX8_init 17 = .ok (.putfield 13, 3) := by decide +kernel
theorem dX8_init_20 : decode cX8_init 20 = .ok (.aload_n 0, 1) := by decide +kernel
theorem dX8_init_21 : decode cX8_init 21 = .ok (.bipush 12, 2) := by decide +kernel
theorem dX8_init_23 : decode cX8_init 23 = .ok (.newarray .int, 2) := by decide +kernel
theorem dX8_init_25 : decode cX8_init 25 = .ok (.putfield 16, 3) := by decide +kernel
theorem dX8_init_28 : decode cX8_init 28 = .ok (.aload_n 0, 1) := by decide +kernel
theorem dX8_init_29 : decode cX8_init 29 = .ok (.bipush 12, 2) := by decide +kernel
theorem dX8_init_31 : decode cX8_init 31 = .ok (.newarray .int, 2) := by decide +kernel
theorem dX8_init_33 : decode cX8_init 33 = .ok (.putfield 19, 3) := by decide +kernel
theorem dX8_init_36 : decode cX8_init 36 = .ok (.aload_n 0, 1) := by decide +kernel
theorem dX8_init_37 : decode cX8_init 37 = .ok (.bipush 12, 2) := by decide +kernel
theorem dX8_init_39 : decode cX8_init 39 = .ok (.newarray .int, 2) := by decide +kernel
theorem dX8_init_41 : decode cX8_init 41 = .ok (.putfield 22, 3) := by decide +kernel
theorem dX8_init_44 : decode cX8_init 44 = .ok (.aload_n 0, 1) := by decide +kernel
theorem dX8_init_45 : decode cX8_init 45 = .ok (.bipush 8, 2) := by decide +kernel
theorem dX8_init_47 : decode cX8_init 47 = .ok (.newarray .boolean, 2) := by decide +kernel
theorem dX8_init_49 : decode cX8_init 49 = .ok (.putfield 25, 3) := by decide +kernel
theorem dX8_init_52 : decode cX8_init 52 = .ok (.aload_n 0, 1) := by decide +kernel
theorem dX8_init_53 : decode cX8_init 53 = .ok (.bipush 8, 2) := by decide +kernel
theorem dX8_init_55 : decode cX8_init 55 = .ok (.newarray .int, 2) := by decide +kernel
theorem dX8_init_57 : decode cX8_init 57 = .ok (.putfield 29, 3) := by decide +kernel
theorem dX8_init_60 : decode cX8_init 60 = .ok (.aload_n 0, 1) := by decide +kernel
theorem dX8_init_61 : decode cX8_init 61 = .ok (.bipush 8, 2) := by decide +kernel
theorem dX8_init_63 : decode cX8_init 63 = .ok (.newarray .int, 2) := by decide +kernel
theorem dX8_init_65 : decode cX8_init 65 = .ok (.putfield 32, 3) := by decide +kernel
theorem dX8_init_68 : decode cX8_init 68 = .ok (.aload_n 0, 1) := by decide +kernel
theorem dX8_init_69 : decode cX8_init 69 = .ok (.bipush 8, 2) := by decide +kernel
theorem dX8_init_71 : decode cX8_init 71 = .ok (.newarray .int, 2) := by decide +kernel
theorem dX8_init_73 : decode cX8_init 73 = .ok (.putfield 35, 3) := by decide +kernel
theorem dX8_init_76 : decode cX8_init 76 = .ok (.aload_n 0, 1) := by decide +kernel
theorem dX8_init_77 : decode cX8_init 77 = .ok (.bipush 8, 2) := by decide +kernel
theorem dX8_init_79 : decode cX8_init 79 = .ok (.newarray .int, 2) := by decide +kernel
theorem dX8_init_81 : decode cX8_init 81 = .ok (.putfield 38, 3) := by decide +kernel
theorem dX8_init_84 : decode cX8_init 84 = .ok (.aload_n 0, 1) := by decide +kernel
theorem dX8_init_85 : decode cX8_init 85 = .ok (.iconst (-1), 1) := by decide +kernel
theorem dX8_init_86 : decode cX8_init 86 = .ok (.putfield 41, 3) := by decide +kernel
theorem dX8_init_89 : decode cX8_init 89 = .ok (.aload_n 0, 1) := by decide +kernel
theorem dX8_init_90 : decode cX8_init 90 = .ok (.iconst 2, 1) := by decide +kernel
theorem dX8_init_91 : decode cX8_init 91 = .ok (.putfield 45, 3) := by decide +kernel
theorem dX8_init_94 : decode cX8_init 94 = .ok (.aload_n 0, 1) := by decide +kernel
theorem dX8_init_95 : decode cX8_init 95 = .ok (.iconst 3, 1) := by decide +kernel
theorem dX8_init_96 : decode cX8_init 96 = .ok (.putfield 48, 3) := by decide +kernel
theorem dX8_init_99 : decode cX8_init 99 = .ok (.aload_n 0, 1) := by decide +kernel
theorem dX8_init_100 : decode cX8_init 100 = .ok (.iconst 3, 1) := by decide +kernel
theorem dX8_init_101 : decode cX8_init 101 = .ok (.putfield 51, 3) := by decide +kernel
theorem dX8_init_104 : decode cX8_init 104 = .ok (.aload_n 0, 1) := by decide +kernel
theorem dX8_init_105 : decode cX8_init 105 = .ok (.iconst 2, 1) := by decide +kernel
theorem dX8_init_106 : decode cX8_init 106 = .ok (.putfield 54, 3) := by decide +kernel
theorem dX8_init_109 : decode cX8_init 109 = .ok (.aload_n 0, 1) := by decide +kernel
theorem dX8_init_110 : decode cX8_init 110 = .ok (.bipush 6, 2) := by decide +kernel
theorem dX8_init_112 : decode cX8_init 112 = .ok (.newarray .int, 2) := by decide +kernel
theorem dX8_init_114 : decode cX8_init 114 = .ok (.putfield 57, 3) := by decide +kernel
theorem dX8_init_117 : decode cX8_init 117 = .ok (.aload_n 0, 1) := by decide +kernel
theorem dX8_init_118 : decode cX8_init 118 = .ok (.bipush 6, 2) := by decide +kernel
theorem dX8_init_120 : decode cX8_init 120 = .ok (.newarray .int, 2) := by decide +kernel
theorem dX8_init_122 : decode cX8_init 122 = .ok (.putfield 60, 3) := by decide +kernel
theorem dX8_init_125 : decode cX8_init 125 = .ok (.aload_n 0, 1) := by decide +kernel
theorem dX8_init_126 : decode cX8_init 126 = .ok (.bipush 6, 2) := by decide +kernel
theorem dX8_init_128 : decode cX8_init 128 = .ok (.newarray .int, 2) := by decide +kernel
theorem dX8_init_130 : decode cX8_init 130 = .ok (.putfield 63, 3) := by decide +kernel
theorem dX8_init_133 : decode cX8_init 133 = .ok (.aload_n 0, 1) := by decide +kernel
theorem dX8_init_134 : decode cX8_init 134 = .ok (.bipush 6, 2) := by decide +kernel
theorem dX8_init_136 : decode cX8_init 136 = .ok (.newarray .int, 2) := by decide +kernel
theorem dX8_init_138 : decode cX8_init 138 = .ok (.putfield 66, 3) := by decide +kernel
theorem dX8_init_141 : decode cX8_init 141 = .ok (.aload_n 0, 1) := by decide +kernel
theorem dX8_init_142 : decode cX8_init 142 = .ok (.bipush 24, 2) := by decide +kernel
theorem dX8_init_144 : decode cX8_init 144 = .ok (.newarray .int, 2) := by decide +kernel
theorem dX8_init_146 : decode cX8_init 146 = .ok (.putfield 69, 3) := by decide +kernel
theorem dX8_init_149 : decode cX8_init 149 = .ok (.aload_n 0, 1) := by decide +kernel
theorem dX8_init_150 : decode cX8_init 150 = .ok (.bipush 6, 2) := by decide +kernel
theorem dX8_init_152 : decode cX8_init 152 = .ok (.newarray .int, 2) := by decide +kernel
theorem dX8_init_154 : decode cX8_init 154 = .ok (.putfield 72, 3) := by decide +kernel
theorem dX8_init_157 : decode cX8_init 157 = .ok (.aload_n 0, 1) := by decide +kernel
theorem dX8_init_158 : decode cX8_init 158 = .ok (.bipush 6, 2) := by decide +kernel
theorem dX8_init_160 : decode cX8_init 160 = .ok (.newarray .int, 2) := by decide +kernel
theorem dX8_init_162 : decode cX8_init 162 = .ok (.putfield 75, 3) := by decide +kernel
theorem dX8_init_165 : decode cX8_init 165 = .ok (.aload_n 0, 1) := by decide +kernel
theorem dX8_init_166 : decode cX8_init 166 = .ok (.bipush 6, 2) := by decide +kernel
theorem dX8_init_168 : decode cX8_init 168 = .ok (.newarray .int, 2) := by decide +kernel
theorem dX8_init_170 : decode cX8_init 170 = .ok (.putfield 78, 3) := by decide +kernel
theorem dX8_init_173 : decode cX8_init 173 = .ok (.aload_n 0, 1) := by decide +kernel
theorem dX8_init_174 : decode cX8_init 174 = .ok (.bipush 12, 2) := by decide +kernel
theorem dX8_init_176 : decode cX8_init 176 = .ok (.newarray .int, 2) := by decide +kernel
theorem dX8_init_178 : decode cX8_init 178 = .ok (.putfield 81, 3) := by decide +kernel
theorem dX8_init_181 : decode cX8_init 181 = .ok (.aload_n 0, 1) := by decide +kernel
theorem dX8_init_182 : decode cX8_init 182 = .ok (.bipush 12, 2) := by decide +kernel
theorem dX8_init_184 : decode cX8_init 184 = .ok (.newarray .int, 2) := by decide +kernel
theorem dX8_init_186 : decode cX8_init 186 = .ok (.putfield 84, 3) := by decide +kernel
theorem dX8_init_189 : decode cX8_init 189 = .ok (.aload_n 0, 1) := by decide +kernel
theorem dX8_init_190 : decode cX8_init 190 = .ok (.bipush 12, 2) := by decide +kernel
theorem dX8_init_192 : decode cX8_init 192 = .ok (.newarray .int, 2) := by decide +kernel
theorem dX8_init_194 : decode cX8_init 194 = .ok (.putfield 87, 3) := by decide +kernel
theorem dX8_init_197 : decode cX8_init 197 = .ok (.aload_n 0, 1) := by decide +kernel
theorem dX8_init_198 : decode cX8_init 198 = .ok (.bipush 12, 2) := by decide +kernel
theorem dX8_init_200 : decode cX8_init 200 = .ok (.newarray .int, 2) := by decide +kernel
theorem dX8_init_202 : decode cX8_init 202 = .ok (.putfield 90, 3) := by decide +kernel
theorem dX8_init_205 : decode cX8_init 205 = .ok (.aload_n 0, 1) := by decide +kernel
theorem dX8_init_206 : decode cX8_init 206 = .ok (.bipush 8, 2) := by decide +kernel
theorem dX8_init_208 : decode cX8_init 208 = .ok (.newarray .int, 2) := by decide +kernel
theorem dX8_init_210 : decode cX8_init 210 = .ok (.putfield 93, 3) := by decide +kernel
theorem dX8_init_213 : decode cX8_init 213 = .ok (.aload_n 0, 1) := by decide +kernel
theorem dX8_init_214 : decode cX8_init 214 = .ok (.bipush 8, 2) := by decide +kernel
theorem dX8_init_216 : decode cX8_init 216 = .ok (.newarray .int, 2) := by decide +kernel
theorem dX8_init_218 : decode cX8_init 218 = .ok (.putfield 96, 3) := by decide +kernel
theorem dX8_init_221 : decode cX8_init 221 = .ok (.aload_n 0, 1) := by decide +kernel
theorem dX8_init_222 : decode cX8_init 222 = .ok (.bipush 8, 2) := by decide +kernel
theorem dX8_init_224 : decode cX8_init 224 = .ok (.newarray .boolean, 2) := by decide +kernel
theorem dX8_init_226 : decode cX8_init 226 = .ok (.putfield 99, 3) := by decide +kernel
theorem dX8_init_229 : decode cX8_init 229 = .ok (.return_, 1) := by decide +kernel
theorem dX8_within_0 : decode cX8_within 0 = .ok (.iload_n 0, 1) := by decide +kernel
theorem dX8_within_1 : decode cX8_within 1 = .ok (.iload_n 1, 1) := by decide +kernel
theorem dX8_within_2 : decode cX8_within 2 = .ok (.if_icmp .lt 12, 3) := by decide +kernel
theorem dX8_within_5 : decode cX8_within 5 = .ok (.iload_n 0, 1) := by decide +kernel
theorem dX8_within_6 : decode cX8_within 6 = .ok (.iload_n 2, 1) := by decide +kernel
theorem dX8_within_7 : decode cX8_within 7 = .ok (.if_icmp .gt 7, 3) := by decide +kernel
theorem dX8_within_10 : decode cX8_within 10 = .ok (.iconst 1, 1) := by decide +kernel
theorem dX8_within_11 : decode cX8_within 11 = .ok (.goto 4, 3) := by decide +kernel
theorem dX8_within_14 : decode cX8_within 14 = .ok (.iconst 0, 1) := by decide +kernel
theorem dX8_within_15 : decode cX8_within 15 = .ok (.ireturn, 1) := by decide +kernel
set_option maxRecDepth 20000 in
theorem ggX8_append_X8_within : GoodIn wsX8_append wsX8_within := goodIn_r _ [6] (by decide +kernel) (by decide +kernel)
set_option maxRecDepth 20000 in
theorem gX8_append_X8_within : GoodIn wsX8_append (va_wsS RX8 102 yX8_within wsX8_within) := goodIn_app (goodIn_of _ (by decide +kernel)) ggX8_append_X8_within
theorem dX8_append_0 : decode cX8_append 0 = .ok (.iload_n 1, 1) := by decide +kernel
theorem dX8_append_1 : decode cX8_append 1 = .ok (.bipush 32, 2) := by decide +kernel
theorem dX8_append_3 : decode cX8_append 3 = .ok (.bipush 126, 2) := by decide +kernel
theorem dX8_append_5 : decode cX8_append 5 = .ok (.invokestatic 102, 3) := by decide +kernel
theorem dX8_append_8 : decode cX8_append 8 = .ok (.ifCond .ne 7, 3) := by decide +kernel
theorem dX8_append_11 : decode cX8_append 11 = .ok (.sipush (-1002), 3) := by decide +kernel
theorem dX8_append_14 : decode cX8_append 14 = .ok (.ireturn, 1) := by decide +kernel
theorem dX8_append_15 : decode cX8_append 15 = .ok (.aload_n 0, 1) := by decide +kernel
theorem dX8_append_16 : decode cX8_append 16 = .ok (.getfield 106, 3) := by decide +kernel
theorem dX8_append_19 : decode cX8_append 19 = .ok (.bipush 61, 2) := by decide +kernel
theorem dX8_append_21 : decode cX8_append 21 = .ok (.if_icmp .ne 7, 3) := by decide +kernel
theorem dX8_append_24 : decode cX8_append 24 = .ok (.sipush (-1004), 3) := by decide +kernel
theorem dX8_append_27 : decode cX8_append 27 = .ok (.ireturn, 1) := by decide +kernel
theorem dX8_append_28 : decode cX8_append 28 = .ok (.aload_n 0, 1) := by decide +kernel
theorem dX8_append_29 : decode cX8_append 29 = .ok (.getfield 7, 3) := by decide +kernel
theorem dX8_append_32 : decode cX8_append 32 = .ok (.aload_n 0, 1) := by decide +kernel
theorem dX8_append_33 : decode cX8_append 33 = .ok (.getfield 106, 3) := by decide +kernel
theorem dX8_append_36 : decode cX8_append 36 = .ok (.iload_n 1, 1) := by decide +kernel
theorem dX8_append_37 : decode cX8_append 37 = .ok (.iastore, 1) := by decide +kernel
theorem dX8_append_38 : decode cX8_append 38 = .ok (.aload_n 0, 1) := by decide +kernel
theorem dX8_append_39 : decode cX8_append 39 = .ok (.dup, 1) := by decide +kernel
theorem dX8_append_40 : decode cX8_append 40 = .ok (.getfield 106, 3) := by decide +kernel
theorem dX8_append_43 : decode cX8_append 43 = .ok (.iconst 1, 1) := by decide +kernel
theorem dX8_append_44 : decode cX8_append 44 = .ok (.iadd, 1) := by decide +kernel
theorem dX8_append_45 : decode cX8_append 45 = .ok (.putfield 106, 3) := by decide +kernel
theorem dX8_append_48 : decode cX8_append 48 = .ok (.aload_n 0, 1) := by decide +kernel
theorem dX8_append_49 : decode cX8_append 49 = .ok (.getfield 106, 3) := by decide +kernel
theorem dX8_append_52 : decode cX8_append 52 = .ok (.ireturn, 1) := by decide +kernel
theorem dX8_clearBuffer_0 : decode cX8_clearBuffer 0 = .ok (.aload_n 0, 1) := by decide +kernel
theorem dX8_clearBuffer_1 : decode cX8_clearBuffer 1 = .ok (.getfield 106, 3) := by decide +kernel
theorem dX8_clearBuffer_4 : decode cX8_clearBuffer 4 = .ok (.istore_n 1, 1) := by decide +kernel
theorem dX8_clearBuffer_5 : decode cX8_clearBuffer 5 = .ok (.aload_n 0, 1) := by decide +kernel
theorem dX8_clearBuffer_6 : decode cX8_clearBuffer 6 = .ok (.iconst 0, 1) := by decide +kernel
theorem dX8_clearBuffer_7 : decode cX8_clearBuffer 7 = .ok (.putfield 106, 3) := by decide +kernel
theorem dX8_clearBuffer_10 : decode cX8_clearBuffer 10 = .ok (.iload_n 1, 1) := by decide +kernel
theorem dX8_clearBuffer_11 : decode cX8_clearBuffer 11 = .ok (.ireturn, 1) := by decide +kernel
theorem dX8_isJoined_0 : decode cX8_isJoined 0 = .ok (.iconst 0, 1) := by decide +kernel
theorem dX8_isJoined_1 : decode cX8_isJoined 1 = .ok (.istore_n 3, 1) := by decide +kernel
theorem dX8_isJoined_2 : decode cX8_isJoined 2 = .ok (.iconst 0, 1) := by decide +kernel
theorem dX8_isJoined_3 : decode cX8_isJoined 3 = .ok (.istore 4, 2) := by decide +kernel
theorem dX8_isJoined_5 : decode cX8_isJoined 5 = .ok (.iload 4, 2) := by decide +kernel
theorem dX8_isJoined_7 : decode cX8_isJoined 7 = .ok (.aload_n 0, 1) := by decide +kernel
theorem dX8_isJoined_8 : decode cX8_isJoined 8 = .ok (.getfield 109, 3) := by decide +kernel
theorem dX8_isJoined_11 : decode cX8_isJoined 11 = .ok (.if_icmp .ge 41, 3) := by decide +kernel
theorem dX8_isJoined_14 : decode cX8_isJoined 14 = .ok (.iload_n 3, 1) := by decide +kernel
theorem dX8_isJoined_15 : decode cX8_isJoined 15 = .ok (.ifCond .ne 25, 3) := by decide +kernel
theorem dX8_isJoined_18 : decode cX8_isJoined 18 = .ok (.aload_n 0, 1) := by decide +kernel
theorem dX8_isJoined_19 : decode cX8_isJoined 19 = .ok (.getfield 81, 3) := by decide +kernel
theorem dX8_isJoined_22 : decode cX8_isJoined 22 = .ok (.iload 4, 2) := by decide +kernel
theorem dX8_isJoined_24 : decode cX8_isJoined 24 = .ok (.iaload, 1) := by decide +kernel
theorem dX8_isJoined_25 : decode cX8_isJoined 25 = .ok (.iload_n 1, 1) := by decide +kernel
theorem dX8_isJoined_26 : decode cX8_isJoined 26 = .ok (.if_icmp .ne 18, 3) := by decide +kernel
theorem dX8_isJoined_29 : decode cX8_isJoined 29 = .ok (.aload_n 0, 1) := by decide +kernel
theorem dX8_isJoined_30 : decode cX8_isJoined 30 = .ok (.getfield 84, 3) := by decide +kernel
theorem dX8_isJoined_33 : decode cX8_isJoined 33 = .ok (.iload 4, 2) := by decide +kernel
theorem dX8_isJoined_35 : decode cX8_isJoined 35 = .ok (.iaload, 1) := by decide +kernel
theorem dX8_isJoined_36 : decode cX8_isJoined 36 = .ok (.iload_n 2, 1) := by decide +kernel
theorem dX8_isJoined_37 : decode cX8_isJoined 37 = .ok (.if_icmp .ne 7, 3) := by decide +kernel
theorem dX8_isJoined_40 : decode cX8_isJoined 40 = .ok (.iconst 1, 1) := by decide +kernel
theorem dX8_isJoined_41 : decode cX8_isJoined 41 = .ok (.goto 4, 3) := by decide +kernel
theorem dX8_isJoined_44 : decode cX8_isJoined 44 = .ok (.iconst 0, 1) := by decide +kernel
theorem dX8_isJoined_45 : decode cX8_isJoined 45 = .ok (.istore_n 3, 1) := by decide +kernel
theorem dX8_isJoined_46 : decode cX8_isJoined 46 = .ok (.iinc 4 1, 3) := by decide +kernel
theorem dX8_isJoined_49 : decode cX8_isJoined 49 = .ok (.goto (-44), 3) := by decide +kernel
theorem dX8_isJoined_52 : decode cX8_isJoined 52 = .ok (.iload_n 3, 1) := by decide +kernel
theorem dX8_isJoined_53 : decode cX8_isJoined 53 = .ok (.ireturn, 1) := by decide +kernel
set_option maxRecDepth 20000 in
theorem ggX8_parse_X8_within : GoodIn wsX8_parse wsX8_within := goodIn_r _ [14] (by decide +kernel) (by decide +kernel)
set_option maxRecDepth 20000 in
theorem gX8_parse_X8_within : GoodIn wsX8_parse (va_wsS RX8 102 yX8_within wsX8_within) := goodIn_app (goodIn_of _ (by decide +kernel)) ggX8_parse_X8_within
set_option maxRecDepth 20000 in
theorem ggX8_parse_X8_isJoined : GoodIn wsX8_parse wsX8_isJoined := goodIn_r _ [18, 2, 6, 7, 19, 20, 21, 22, 23, 24, 25, 26, 27, 28, 29, 30, 31, 32, 33, 34, 35, 36, 37, 38, 39, 40, 41, 42, 43, 44, 45, 46, 47, 48, 49, 50, 51, 52, 53, 54, 55, 56, 57, 58, 59, 60] (by decide +kernel) (by decide +kernel)
set_option maxRecDepth 20000 in
theorem gX8_parse_X8_isJoined : GoodIn wsX8_parse (wsV RX8 118 RX8 yX8_isJoined wsX8_isJoined) := goodIn_app (goodIn_of _ (by decide +kernel)) ggX8_parse_X8_isJoined
theorem dX8_parse_0 : decode cX8_parse 0 = .ok (.iconst 0, 1) := by decide +kernel
theorem dX8_parse_1 : decode cX8_parse 1 = .ok (.istore_n 1, 1) := by decide +kernel
theorem dX8_parse_2 : decode cX8_parse 2 = .ok (.iconst 0, 1) := by decide +kernel
theorem dX8_parse_3 : decode cX8_parse 3 = .ok (.istore_n 2, 1) := by decide +kernel
theorem dX8_parse_4 : decode cX8_parse 4 = .ok (.iconst 0, 1) := by decide +kernel
theorem dX8_parse_5 : decode cX8_parse 5 = .ok (.istore_n 3, 1) := by decide +kernel
theorem dX8_parse_6 : decode cX8_parse 6 = .ok (.aload_n 0, 1) := by decide +kernel
theorem dX8_parse_7 : decode cX8_parse 7 = .ok (.iconst 0, 1) := by decide +kernel
theorem dX8_parse_8 : decode cX8_parse 8 = .ok (.putfield 112, 3) := by decide +kernel
theorem dX8_parse_11 : decode cX8_parse 11 = .ok (.aload_n 0, 1) := by decide +kernel
theorem dX8_parse_12 : decode cX8_parse 12 = .ok (.iconst 0, 1) := by decide +kernel
theorem dX8_parse_13 : decode cX8_parse 13 = .ok (.putfield 109, 3) := by decide +kernel
theorem dX8_parse_16 : decode cX8_parse 16 = .ok (.aload_n 0, 1) := by decide +kernel
theorem dX8_parse_17 : decode cX8_parse 17 = .ok (.iconst 0, 1) := by decide +kernel
theorem dX8_parse_18 : decode cX8_parse 18 = .ok (.putfield 115, 3) := by decide +kernel
theorem dX8_parse_21 : decode cX8_parse 21 = .ok (.iconst 1, 1) := by decide +kernel
theorem dX8_parse_22 : decode cX8_parse 22 = .ok (.istore 4, 2) := by decide +kernel
theorem dX8_parse_24 : decode cX8_parse 24 = .ok (.iload 4, 2) := by decide +kernel
theorem dX8_parse_26 : decode cX8_parse 26 = .ok (.ifCond .eq 321, 3) := by decide +kernel
theorem dX8_parse_29 : decode cX8_parse 29 = .ok (.aload_n 0, 1) := by decide +kernel
theorem dX8_parse_30 : decode cX8_parse 30 = .ok (.getfield 115, 3) := by decide +kernel
theorem dX8_parse_33 : decode cX8_parse 33 = .ok (.aload_n 0, 1) := by decide +kernel
theorem dX8_parse_34 : decode cX8_parse 34 = .ok (.getfield 106, 3) := by decide +kernel
theorem dX8_parse_37 : decode cX8_parse 37 = .ok (.if_icmp .ge 310, 3) := by decide +kernel
theorem dX8_parse_40 : decode cX8_parse 40 = .ok (.aload_n 0, 1) := by decide +kernel
theorem dX8_parse_41 : decode cX8_parse 41 = .ok (.getfield 7, 3) := by decide +kernel
theorem dX8_parse_44 : decode cX8_parse 44 = .ok (.aload_n 0, 1) := by decide +kernel
theorem dX8_parse_45 : decode cX8_parse 45 = .ok (.getfield 115, 3) := by decide +kernel
theorem dX8_parse_48 : decode cX8_parse 48 = .ok (.iaload, 1) := by decide +kernel
theorem dX8_parse_49 : decode cX8_parse 49 = .ok (.istore 5, 2) := by decide +kernel
theorem dX8_parse_51 : decode cX8_parse 51 = .ok (.iload 5, 2) := by decide +kernel
theorem dX8_parse_53 : decode cX8_parse 53 = .ok (.bipush 48, 2) := by decide +kernel
theorem dX8_parse_55 : decode cX8_parse 55 = .ok (.bipush 57, 2) := by decide +kernel
theorem dX8_parse_57 : decode cX8_parse 57 = .ok (.invokestatic 102, 3) := by decide +kernel
theorem dX8_parse_60 : decode cX8_parse 60 = .ok (.ifCond .eq 11, 3) := by decide +kernel
theorem dX8_parse_63 : decode cX8_parse 63 = .ok (.iload 5, 2) := by decide +kernel
theorem dX8_parse_65 : decode cX8_parse 65 = .ok (.bipush 48, 2) := by decide +kernel
theorem dX8_parse_67 : decode cX8_parse 67 = .ok (.isub, 1) := by decide +kernel
theorem dX8_parse_68 : decode cX8_parse 68 = .ok (.goto 4, 3) := by decide +kernel
theorem dX8_parse_71 : decode cX8_parse 71 = .ok (.iconst (-1), 1) := by decide +kernel
theorem dX8_parse_72 : decode cX8_parse 72 = .ok (.istore 6, 2) := by decide +kernel
theorem dX8_parse_74 : decode cX8_parse 74 = .ok (.iload_n 1, 1) := by decide +kernel
theorem dX8_parse_75 : decode cX8_parse 75 = .ok (.tableswitch 196 0 4 #[33, 196, 54, 83, 123], 33) := by decide +kernel
theorem dX8_parse_108 : decode cX8_parse 108 = .ok (.iload 6, 2) := by decide +kernel
theorem dX8_parse_110 : decode cX8_parse 110 = .ok (.iconst 2, 1) := by decide +kernel
theorem dX8_parse_111 : decode cX8_parse 111 = .ok (.bipush 8, 2) := by decide +kernel
theorem dX8_parse_113 : decode cX8_parse 113 = .ok (.invokestatic 102, 3) := by decide +kernel
theorem dX8_parse_116 : decode cX8_parse 116 = .ok (.istore 4, 2) := by decide +kernel
theorem dX8_parse_118 : decode cX8_parse 118 = .ok (.aload_n 0, 1) := by decide +kernel
theorem dX8_parse_119 : decode cX8_parse 119 = .ok (.iload 6, 2) := by decide +kernel
theorem dX8_parse_121 : decode cX8_parse 121 = .ok (.putfield 112, 3) := by decide +kernel
theorem dX8_parse_124 : decode cX8_parse 124 = .ok (.iconst 1, 1) := by decide +kernel
theorem dX8_parse_125 : decode cX8_parse 125 = .ok (.istore_n 1, 1) := by decide +kernel
theorem dX8_parse_126 : decode cX8_parse 126 = .ok (.goto 199, 3) := by decide +kernel
theorem dX8_parse_129 : decode cX8_parse 129 = .ok (.iload 6, 2) := by decide +kernel
theorem dX8_parse_131 : decode cX8_parse 131 = .ok (.ifCond .lt 16, 3) := by decide +kernel
theorem dX8_parse_134 : decode cX8_parse 134 = .ok (.iload 6, 2) := by decide +kernel
theorem dX8_parse_136 : decode cX8_parse 136 = .ok (.aload_n 0, 1) := by decide +kernel
theorem dX8_parse_137 : decode cX8_parse 137 = .ok (.getfield 112, 3) := by decide +kernel
theorem dX8_parse_140 : decode cX8_parse 140 = .ok (.if_icmp .ge 7, 3) := by decide +kernel
theorem dX8_parse_143 : decode cX8_parse 143 = .ok (.iconst 1, 1) := by decide +kernel
theorem dX8_parse_144 : decode cX8_parse 144 = .ok (.goto 4, 3) := by decide +kernel
theorem dX8_parse_147 : decode cX8_parse 147 = .ok (.iconst 0, 1) := by decide +kernel
theorem dX8_parse_148 : decode cX8_parse 148 = .ok (.istore 4, 2) := by decide +kernel
theorem dX8_parse_150 : decode cX8_parse 150 = .ok (.iload 6, 2) := by decide +kernel
theorem dX8_parse_152 : decode cX8_parse 152 = .ok (.istore_n 2, 1) := by decide +kernel
theorem dX8_parse_153 : decode cX8_parse 153 = .ok (.iconst 3, 1) := by decide +kernel
