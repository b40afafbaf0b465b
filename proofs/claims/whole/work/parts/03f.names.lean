theorem dX8_takePacket_1 : decode cX8_takePacket 1 = .ok (.istore_n 2, 1) := by decide +kernel
theorem dX8_takePacket_2 : decode cX8_takePacket 2 = .ok (.iload_n 2, 1) := by decide +kernel
theorem dX8_takePacket_3 : decode cX8_takePacket 3 = .ok (.aload_n 0, 1) := by decide +kernel
theorem dX8_takePacket_4 : decode cX8_takePacket 4 = .ok (.getfield 66, 3) := by decide +kernel
theorem dX8_takePacket_7 : decode cX8_takePacket 7 = .ok (.iload_n 1, 1) := by decide +kernel
theorem dX8_takePacket_8 : decode cX8_takePacket 8 = .ok (.iaload, 1) := by decide +kernel
theorem dX8_takePacket_9 : decode cX8_takePacket 9 = .ok (.if_icmp .ge 31, 3) := by decide +kernel
theorem dX8_takePacket_12 : decode cX8_takePacket 12 = .ok (.aload_n 0, 1) := by decide +kernel
theorem dX8_takePacket_13 : decode cX8_takePacket 13 = .ok (.getfield 69, 3) := by decide +kernel
theorem dX8_takePacket_16 : decode cX8_takePacket 16 = .ok (.iconst 4, 1) := by decide +kernel
theorem dX8_takePacket_17 : decode cX8_takePacket 17 = .ok (.iload_n 1, 1) := by decide +kernel
theorem dX8_takePacket_18 : decode cX8_takePacket 18 = .ok (.imul, 1) := by decide +kernel
theorem dX8_takePacket_19 : decode cX8_takePacket 19 = .ok (.iload_n 2, 1) := by decide +kernel
theorem dX8_takePacket_20 : decode cX8_takePacket 20 = .ok (.iadd, 1) := by decide +kernel
theorem dX8_takePacket_21 : decode cX8_takePacket 21 = .ok (.iconst 1, 1) := by decide +kernel
theorem dX8_takePacket_22 : decode cX8_takePacket 22 = .ok (.isub, 1) := by decide +kernel
theorem dX8_takePacket_23 : decode cX8_takePacket 23 = .ok (.aload_n 0, 1) := by decide +kernel
theorem dX8_takePacket_24 : decode cX8_takePacket 24 = .ok (.getfield 69, 3) := by decide +kernel
theorem dX8_takePacket_27 : decode cX8_takePacket 27 = .ok (.iconst 4, 1) := by decide +kernel
theorem dX8_takePacket_28 : decode cX8_takePacket 28 = .ok (.iload_n 1, 1) := by decide +kernel
theorem dX8_takePacket_29 : decode cX8_takePacket 29 = .ok (.imul, 1) := by decide +kernel
theorem dX8_takePacket_30 : decode cX8_takePacket 30 = .ok (.iload_n 2, 1) := by decide +kernel
theorem dX8_takePacket_31 : decode cX8_takePacket 31 = .ok (.iadd, 1) := by decide +kernel
theorem dX8_takePacket_32 : decode cX8_takePacket 32 = .ok (.iaload, 1) := by decide +kernel
theorem dX8_takePacket_33 : decode cX8_takePacket 33 = .ok (.iastore, 1) := by decide +kernel
theorem dX8_takePacket_34 : decode cX8_takePacket 34 = .ok (.iinc 2 1, 3) := by decide +kernel
theorem dX8_takePacket_37 : decode cX8_takePacket 37 = .ok (.goto (-35), 3) := by decide +kernel
theorem dX8_takePacket_40 : decode cX8_takePacket 40 = .ok (.aload_n 0, 1) := by decide +kernel
theorem dX8_takePacket_41 : decode cX8_takePacket 41 = .ok (.getfield 66, 3) := by decide +kernel
theorem dX8_takePacket_44 : decode cX8_takePacket 44 = .ok (.iload_n 1, 1) := by decide +kernel
theorem dX8_takePacket_45 : decode cX8_takePacket 45 = .ok (.dup2, 1) := by decide +kernel
theorem dX8_takePacket_46 : decode cX8_takePacket 46 = .ok (.iaload, 1) := by decide +kernel
theorem dX8_takePacket_47 : decode cX8_takePacket 47 = .ok (.iconst 1, 1) := by decide +kernel
theorem dX8_takePacket_48 : decode cX8_takePacket 48 = .ok (.isub, 1) := by decide +kernel
theorem dX8_takePacket_49 : decode cX8_takePacket 49 = .ok (.iastore, 1) := by decide +kernel
theorem dX8_takePacket_50 : decode cX8_takePacket 50 = .ok (.return_, 1) := by decide +kernel
set_option maxRecDepth 20000 in
theorem ggX8_spreadSchedule_X8_buildSchedule : GoodIn wsX8_spreadSchedule wsX8_buildSchedule := goodIn_r _ [12, 3, 13, 14, 15, 16, 17, 18, 19, 20, 11, 21, 58, 59, 60, 61, 62, 63, 64, 65, 66, 67, 68, 69, 70, 71, 72, 73, 74, 75, 76, 77, 78, 79, 80, 81, 82, 83, 84, 85, 86, 87, 88, 89, 90, 91, 92, 93, 94, 95, 96, 97, 98, 99] (by decide +kernel) (by decide +kernel)
set_option maxRecDepth 20000 in
theorem gX8_spreadSchedule_X8_buildSchedule : GoodIn wsX8_spreadSchedule (wsV RX8 181 RX8 yX8_buildSchedule wsX8_buildSchedule) := goodIn_app (goodIn_of _ (by decide +kernel)) ggX8_spreadSchedule_X8_buildSchedule
set_option maxRecDepth 20000 in
theorem ggX8_spreadSchedule_X8_floodNow : GoodIn wsX8_spreadSchedule wsX8_floodNow := goodIn_r _ [25, 4, 6, 26, 27, 1, 28, 29, 30, 31, 32, 11, 33, 34, 35, 36, 37, 38, 39, 40, 41, 42, 43, 44, 45, 46, 47, 48, 49, 50, 51, 52, 53, 54, 55, 56, 57, 58, 59, 60, 61, 62, 63, 64, 65, 66, 67, 68, 69, 70, 71, 72, 73, 74, 75, 76, 77, 78, 79, 80, 81, 82, 83, 84, 85, 86, 87, 88, 89, 90, 91, 92, 93, 94, 95, 96, 97, 98, 99] (by decide +kernel) (by decide +kernel)
set_option maxRecDepth 20000 in
theorem gX8_spreadSchedule_X8_floodNow : GoodIn wsX8_spreadSchedule (wsV RX8 168 RX8 yX8_floodNow wsX8_floodNow) := goodIn_app (goodIn_of _ (by decide +kernel)) ggX8_spreadSchedule_X8_floodNow
theorem dX8_spreadSchedule_0 : decode cX8_spreadSchedule 0 = .ok (.aload_n 0, 1) := by decide +kernel
theorem dX8_spreadSchedule_1 : decode cX8_spreadSchedule 1 = .ok (.getfield 25, 3) := by decide +kernel
theorem dX8_spreadSchedule_4 : decode cX8_spreadSchedule 4 = .ok (.aload_n 0, 1) := by decide +kernel
theorem dX8_spreadSchedule_5 : decode cX8_spreadSchedule 5 = .ok (.getfield 41, 3) := by decide +kernel
theorem dX8_spreadSchedule_8 : decode cX8_spreadSchedule 8 = .ok (.baload, 1) := by decide +kernel
theorem dX8_spreadSchedule_9 : decode cX8_spreadSchedule 9 = .ok (.istore_n 1, 1) := by decide +kernel
theorem dX8_spreadSchedule_10 : decode cX8_spreadSchedule 10 = .ok (.aload_n 0, 1) := by decide +kernel
theorem dX8_spreadSchedule_11 : decode cX8_spreadSchedule 11 = .ok (.iconst 0, 1) := by decide +kernel
theorem dX8_spreadSchedule_12 : decode cX8_spreadSchedule 12 = .ok (.putfield 144, 3) := by decide +kernel
theorem dX8_spreadSchedule_15 : decode cX8_spreadSchedule 15 = .ok (.iload_n 1, 1) := by decide +kernel
theorem dX8_spreadSchedule_16 : decode cX8_spreadSchedule 16 = .ok (.ifCond .eq 18, 3) := by decide +kernel
theorem dX8_spreadSchedule_19 : decode cX8_spreadSchedule 19 = .ok (.aload_n 0, 1) := by decide +kernel
theorem dX8_spreadSchedule_20 : decode cX8_spreadSchedule 20 = .ok (.invokevirtual 181, 3) := by decide +kernel
theorem dX8_spreadSchedule_23 : decode cX8_spreadSchedule 23 = .ok (.aload_n 0, 1) := by decide +kernel
theorem dX8_spreadSchedule_24 : decode cX8_spreadSchedule 24 = .ok (.iconst 1, 1) := by decide +kernel
theorem dX8_spreadSchedule_25 : decode cX8_spreadSchedule 25 = .ok (.aload_n 0, 1) := by decide +kernel
theorem dX8_spreadSchedule_26 : decode cX8_spreadSchedule 26 = .ok (.getfield 41, 3) := by decide +kernel
theorem dX8_spreadSchedule_29 : decode cX8_spreadSchedule 29 = .ok (.ishl, 1) := by decide +kernel
theorem dX8_spreadSchedule_30 : decode cX8_spreadSchedule 30 = .ok (.invokevirtual 168, 3) := by decide +kernel
theorem dX8_spreadSchedule_33 : decode cX8_spreadSchedule 33 = .ok (.pop, 1) := by decide +kernel
theorem dX8_spreadSchedule_34 : decode cX8_spreadSchedule 34 = .ok (.iconst 0, 1) := by decide +kernel
theorem dX8_spreadSchedule_35 : decode cX8_spreadSchedule 35 = .ok (.istore_n 2, 1) := by decide +kernel
theorem dX8_spreadSchedule_36 : decode cX8_spreadSchedule 36 = .ok (.iload_n 2, 1) := by decide +kernel
theorem dX8_spreadSchedule_37 : decode cX8_spreadSchedule 37 = .ok (.aload_n 0, 1) := by decide +kernel
theorem dX8_spreadSchedule_38 : decode cX8_spreadSchedule 38 = .ok (.getfield 129, 3) := by decide +kernel
theorem dX8_spreadSchedule_41 : decode cX8_spreadSchedule 41 = .ok (.if_icmp .ge 79, 3) := by decide +kernel
theorem dX8_spreadSchedule_44 : decode cX8_spreadSchedule 44 = .ok (.aload_n 0, 1) := by decide +kernel
theorem dX8_spreadSchedule_45 : decode cX8_spreadSchedule 45 = .ok (.getfield 99, 3) := by decide +kernel
theorem dX8_spreadSchedule_48 : decode cX8_spreadSchedule 48 = .ok (.iload_n 2, 1) := by decide +kernel
theorem dX8_spreadSchedule_49 : decode cX8_spreadSchedule 49 = .ok (.iload_n 1, 1) := by decide +kernel
theorem dX8_spreadSchedule_50 : decode cX8_spreadSchedule 50 = .ok (.ifCond .eq 26, 3) := by decide +kernel
theorem dX8_spreadSchedule_53 : decode cX8_spreadSchedule 53 = .ok (.aload_n 0, 1) := by decide +kernel
theorem dX8_spreadSchedule_54 : decode cX8_spreadSchedule 54 = .ok (.getfield 25, 3) := by decide +kernel
theorem dX8_spreadSchedule_57 : decode cX8_spreadSchedule 57 = .ok (.iload_n 2, 1) := by decide +kernel
theorem dX8_spreadSchedule_58 : decode cX8_spreadSchedule 58 = .ok (.baload, 1) := by decide +kernel
theorem dX8_spreadSchedule_59 : decode cX8_spreadSchedule 59 = .ok (.ifCond .eq 17, 3) := by decide +kernel
theorem dX8_spreadSchedule_62 : decode cX8_spreadSchedule 62 = .ok (.aload_n 0, 1) := by decide +kernel
theorem dX8_spreadSchedule_63 : decode cX8_spreadSchedule 63 = .ok (.getfield 29, 3) := by decide +kernel
theorem dX8_spreadSchedule_66 : decode cX8_spreadSchedule 66 = .ok (.iload_n 2, 1) := by decide +kernel
theorem dX8_spreadSchedule_67 : decode cX8_spreadSchedule 67 = .ok (.iaload, 1) := by decide +kernel
theorem dX8_spreadSchedule_68 : decode cX8_spreadSchedule 68 = .ok (.iconst (-1), 1) := by decide +kernel
theorem dX8_spreadSchedule_69 : decode cX8_spreadSchedule 69 = .ok (.if_icmp .eq 7, 3) := by decide +kernel
theorem dX8_spreadSchedule_72 : decode cX8_spreadSchedule 72 = .ok (.iconst 1, 1) := by decide +kernel
theorem dX8_spreadSchedule_73 : decode cX8_spreadSchedule 73 = .ok (.goto 4, 3) := by decide +kernel
theorem dX8_spreadSchedule_76 : decode cX8_spreadSchedule 76 = .ok (.iconst 0, 1) := by decide +kernel
theorem dX8_spreadSchedule_77 : decode cX8_spreadSchedule 77 = .ok (.bastore, 1) := by decide +kernel
theorem dX8_spreadSchedule_78 : decode cX8_spreadSchedule 78 = .ok (.aload_n 0, 1) := by decide +kernel
theorem dX8_spreadSchedule_79 : decode cX8_spreadSchedule 79 = .ok (.getfield 38, 3) := by decide +kernel
theorem dX8_spreadSchedule_82 : decode cX8_spreadSchedule 82 = .ok (.iload_n 2, 1) := by decide +kernel
theorem dX8_spreadSchedule_83 : decode cX8_spreadSchedule 83 = .ok (.aload_n 0, 1) := by decide +kernel
theorem dX8_spreadSchedule_84 : decode cX8_spreadSchedule 84 = .ok (.getfield 99, 3) := by decide +kernel
theorem dX8_spreadSchedule_87 : decode cX8_spreadSchedule 87 = .ok (.iload_n 2, 1) := by decide +kernel
theorem dX8_spreadSchedule_88 : decode cX8_spreadSchedule 88 = .ok (.baload, 1) := by decide +kernel
theorem dX8_spreadSchedule_89 : decode cX8_spreadSchedule 89 = .ok (.ifCond .ne 12, 3) := by decide +kernel
theorem dX8_spreadSchedule_92 : decode cX8_spreadSchedule 92 = .ok (.aload_n 0, 1) := by decide +kernel
theorem dX8_spreadSchedule_93 : decode cX8_spreadSchedule 93 = .ok (.getfield 25, 3) := by decide +kernel
theorem dX8_spreadSchedule_96 : decode cX8_spreadSchedule 96 = .ok (.iload_n 2, 1) := by decide +kernel
theorem dX8_spreadSchedule_97 : decode cX8_spreadSchedule 97 = .ok (.baload, 1) := by decide +kernel
theorem dX8_spreadSchedule_98 : decode cX8_spreadSchedule 98 = .ok (.ifCond .ne 7, 3) := by decide +kernel
theorem dX8_spreadSchedule_101 : decode cX8_spreadSchedule 101 = .ok (.iconst 0, 1) := by decide +kernel
theorem dX8_spreadSchedule_102 : decode cX8_spreadSchedule 102 = .ok (.goto 11, 3) := by decide +kernel
theorem dX8_spreadSchedule_105 : decode cX8_spreadSchedule 105 = .ok (.aload_n 0, 1) := by decide +kernel
theorem dX8_spreadSchedule_106 : decode cX8_spreadSchedule 106 = .ok (.getfield 38, 3) := by decide +kernel
theorem dX8_spreadSchedule_109 : decode cX8_spreadSchedule 109 = .ok (.iload_n 2, 1) := by decide +kernel
theorem dX8_spreadSchedule_110 : decode cX8_spreadSchedule 110 = .ok (.iaload, 1) := by decide +kernel
theorem dX8_spreadSchedule_111 : decode cX8_spreadSchedule 111 = .ok (.iconst 1, 1) := by decide +kernel
theorem dX8_spreadSchedule_112 : decode cX8_spreadSchedule 112 = .ok (.iadd, 1) := by decide +kernel
theorem dX8_spreadSchedule_113 : decode cX8_spreadSchedule 113 = .ok (.iastore, 1) := by decide +kernel
theorem dX8_spreadSchedule_114 : decode cX8_spreadSchedule 114 = .ok (.iinc 2 1, 3) := by decide +kernel
theorem dX8_spreadSchedule_117 : decode cX8_spreadSchedule 117 = .ok (.goto (-81), 3) := by decide +kernel
theorem dX8_spreadSchedule_120 : decode cX8_spreadSchedule 120 = .ok (.return_, 1) := by decide +kernel
set_option maxRecDepth 20000 in
theorem ggX8_serve_X8_takePacket : GoodIn wsX8_serve wsX8_takePacket := goodIn_r _ [12, 13, 14, 52, 53, 54, 55, 56, 57, 58, 59, 60, 61, 62, 63, 64, 65, 66, 67, 68, 69, 70, 71, 72, 73, 74, 75, 76, 77, 78, 79, 80, 81, 82, 83, 84, 85, 86, 87, 88, 89, 90, 91, 92, 93] (by decide +kernel) (by decide +kernel)
set_option maxRecDepth 20000 in
theorem gX8_serve_X8_takePacket : GoodIn wsX8_serve (wsV RX8 184 RX8 yX8_takePacket wsX8_takePacket) := goodIn_app (goodIn_of _ (by decide +kernel)) ggX8_serve_X8_takePacket
set_option maxRecDepth 20000 in
theorem ggX8_serve_X8_floodNow : GoodIn wsX8_serve wsX8_floodNow := goodIn_r _ [18, 19, 4, 20, 21, 2, 22, 23, 24, 25, 26, 11, 27, 28, 29, 30, 31, 32, 33, 34, 35, 36, 37, 38, 39, 40, 41, 42, 43, 44, 45, 46, 47, 48, 49, 50, 51, 52, 53, 54, 55, 56, 57, 58, 59, 60, 61, 62, 63, 64, 65, 66, 67, 68, 69, 70, 71, 72, 73, 74, 75, 76, 77, 78, 79, 80, 81, 82, 83, 84, 85, 86, 87, 88, 89, 90, 91, 92, 93] (by decide +kernel) (by decide +kernel)
set_option maxRecDepth 20000 in
theorem gX8_serve_X8_floodNow : GoodIn wsX8_serve (wsV RX8 168 RX8 yX8_floodNow wsX8_floodNow) := goodIn_app (goodIn_of _ (by decide +kernel)) ggX8_serve_X8_floodNow
theorem dX8_serve_0 : decode cX8_serve 0 = .ok (.aload_n 0, 1) := by decide +kernel
theorem dX8_serve_1 : decode cX8_serve 1 = .ok (.iload_n 1, 1) := by decide +kernel
theorem dX8_serve_2 : decode cX8_serve 2 = .ok (.invokevirtual 184, 3) := by decide +kernel
theorem dX8_serve_5 : decode cX8_serve 5 = .ok (.aload_n 0, 1) := by decide +kernel
theorem dX8_serve_6 : decode cX8_serve 6 = .ok (.getfield 57, 3) := by decide +kernel
theorem dX8_serve_9 : decode cX8_serve 9 = .ok (.iload_n 1, 1) := by decide +kernel
theorem dX8_serve_10 : decode cX8_serve 10 = .ok (.iaload, 1) := by decide +kernel
theorem dX8_serve_11 : decode cX8_serve 11 = .ok (.istore_n 2, 1) := by decide +kernel
theorem dX8_serve_12 : decode cX8_serve 12 = .ok (.aload_n 0, 1) := by decide +kernel
theorem dX8_serve_13 : decode cX8_serve 13 = .ok (.getfield 25, 3) := by decide +kernel
theorem dX8_serve_16 : decode cX8_serve 16 = .ok (.iload_n 2, 1) := by decide +kernel
theorem dX8_serve_17 : decode cX8_serve 17 = .ok (.baload, 1) := by decide +kernel
theorem dX8_serve_18 : decode cX8_serve 18 = .ok (.ifCond .eq 16, 3) := by decide +kernel
theorem dX8_serve_21 : decode cX8_serve 21 = .ok (.aload_n 0, 1) := by decide +kernel
theorem dX8_serve_22 : decode cX8_serve 22 = .ok (.getfield 99, 3) := by decide +kernel
theorem dX8_serve_25 : decode cX8_serve 25 = .ok (.iload_n 2, 1) := by decide +kernel
theorem dX8_serve_26 : decode cX8_serve 26 = .ok (.baload, 1) := by decide +kernel
theorem dX8_serve_27 : decode cX8_serve 27 = .ok (.ifCond .eq 7, 3) := by decide +kernel
theorem dX8_serve_30 : decode cX8_serve 30 = .ok (.iconst 1, 1) := by decide +kernel
theorem dX8_serve_31 : decode cX8_serve 31 = .ok (.goto 4, 3) := by decide +kernel
theorem dX8_serve_34 : decode cX8_serve 34 = .ok (.iconst 0, 1) := by decide +kernel
theorem dX8_serve_35 : decode cX8_serve 35 = .ok (.istore_n 3, 1) := by decide +kernel
theorem dX8_serve_36 : decode cX8_serve 36 = .ok (.iload_n 3, 1) := by decide +kernel
theorem dX8_serve_37 : decode cX8_serve 37 = .ok (.ifCond .eq 11, 3) := by decide +kernel
theorem dX8_serve_40 : decode cX8_serve 40 = .ok (.aload_n 0, 1) := by decide +kernel
theorem dX8_serve_41 : decode cX8_serve 41 = .ok (.iconst 1, 1) := by decide +kernel
theorem dX8_serve_42 : decode cX8_serve 42 = .ok (.iload_n 2, 1) := by decide +kernel
theorem dX8_serve_43 : decode cX8_serve 43 = .ok (.ishl, 1) := by decide +kernel
theorem dX8_serve_44 : decode cX8_serve 44 = .ok (.invokevirtual 168, 3) := by decide +kernel
theorem dX8_serve_47 : decode cX8_serve 47 = .ok (.pop, 1) := by decide +kernel
theorem dX8_serve_48 : decode cX8_serve 48 = .ok (.iload_n 3, 1) := by decide +kernel
theorem dX8_serve_49 : decode cX8_serve 49 = .ok (.ifCond .eq 20, 3) := by decide +kernel
theorem dX8_serve_52 : decode cX8_serve 52 = .ok (.aload_n 0, 1) := by decide +kernel
theorem dX8_serve_53 : decode cX8_serve 53 = .ok (.getfield 29, 3) := by decide +kernel
theorem dX8_serve_56 : decode cX8_serve 56 = .ok (.aload_n 0, 1) := by decide +kernel
theorem dX8_serve_57 : decode cX8_serve 57 = .ok (.getfield 41, 3) := by decide +kernel
theorem dX8_serve_60 : decode cX8_serve 60 = .ok (.iaload, 1) := by decide +kernel
theorem dX8_serve_61 : decode cX8_serve 61 = .ok (.iconst (-1), 1) := by decide +kernel
theorem dX8_serve_62 : decode cX8_serve 62 = .ok (.if_icmp .eq 7, 3) := by decide +kernel
theorem dX8_serve_65 : decode cX8_serve 65 = .ok (.iconst 1, 1) := by decide +kernel
theorem dX8_serve_66 : decode cX8_serve 66 = .ok (.goto 4, 3) := by decide +kernel
theorem dX8_serve_69 : decode cX8_serve 69 = .ok (.iconst 0, 1) := by decide +kernel
theorem dX8_serve_70 : decode cX8_serve 70 = .ok (.istore 4, 2) := by decide +kernel
theorem dX8_serve_72 : decode cX8_serve 72 = .ok (.aload_n 0, 1) := by decide +kernel
theorem dX8_serve_73 : decode cX8_serve 73 = .ok (.getfield 72, 3) := by decide +kernel
theorem dX8_serve_76 : decode cX8_serve 76 = .ok (.iload_n 1, 1) := by decide +kernel
theorem dX8_serve_77 : decode cX8_serve 77 = .ok (.dup2, 1) := by decide +kernel
theorem dX8_serve_78 : decode cX8_serve 78 = .ok (.iaload, 1) := by decide +kernel
theorem dX8_serve_79 : decode cX8_serve 79 = .ok (.iload 4, 2) := by decide +kernel
theorem dX8_serve_81 : decode cX8_serve 81 = .ok (.ifCond .eq 7, 3) := by decide +kernel
theorem dX8_serve_84 : decode cX8_serve 84 = .ok (.iconst 1, 1) := by decide +kernel
theorem dX8_serve_85 : decode cX8_serve 85 = .ok (.goto 4, 3) := by decide +kernel
theorem dX8_serve_88 : decode cX8_serve 88 = .ok (.iconst 0, 1) := by decide +kernel
theorem dX8_serve_89 : decode cX8_serve 89 = .ok (.iadd, 1) := by decide +kernel
theorem dX8_serve_90 : decode cX8_serve 90 = .ok (.iastore, 1) := by decide +kernel
theorem dX8_serve_91 : decode cX8_serve 91 = .ok (.aload_n 0, 1) := by decide +kernel
theorem dX8_serve_92 : decode cX8_serve 92 = .ok (.getfield 75, 3) := by decide +kernel
theorem dX8_serve_95 : decode cX8_serve 95 = .ok (.iload_n 1, 1) := by decide +kernel
theorem dX8_serve_96 : decode cX8_serve 96 = .ok (.dup2, 1) := by decide +kernel
theorem dX8_serve_97 : decode cX8_serve 97 = .ok (.iaload, 1) := by decide +kernel
theorem dX8_serve_98 : decode cX8_serve 98 = .ok (.iload 4, 2) := by decide +kernel
theorem dX8_serve_100 : decode cX8_serve 100 = .ok (.ifCond .eq 7, 3) := by decide +kernel
theorem dX8_serve_103 : decode cX8_serve 103 = .ok (.iconst 0, 1) := by decide +kernel
theorem dX8_serve_104 : decode cX8_serve 104 = .ok (.goto 4, 3) := by decide +kernel
theorem dX8_serve_107 : decode cX8_serve 107 = .ok (.iconst 1, 1) := by decide +kernel
theorem dX8_serve_108 : decode cX8_serve 108 = .ok (.iadd, 1) := by decide +kernel
theorem dX8_serve_109 : decode cX8_serve 109 = .ok (.iastore, 1) := by decide +kernel
theorem dX8_serve_110 : decode cX8_serve 110 = .ok (.iload 4, 2) := by decide +kernel
theorem dX8_serve_112 : decode cX8_serve 112 = .ok (.ifCond .eq 7, 3) := by decide +kernel
theorem dX8_serve_115 : decode cX8_serve 115 = .ok (.iconst 1, 1) := by decide +kernel
theorem dX8_serve_116 : decode cX8_serve 116 = .ok (.goto 4, 3) := by decide +kernel
theorem dX8_serve_119 : decode cX8_serve 119 = .ok (.iconst 0, 1) := by decide +kernel
theorem dX8_serve_120 : decode cX8_serve 120 = .ok (.ireturn, 1) := by decide +kernel
theorem dX8_takeOver_0 : decode cX8_takeOver 0 = .ok (.iconst 0, 1) := by decide +kernel
theorem dX8_takeOver_1 : decode cX8_takeOver 1 = .ok (.istore_n 1, 1) := by decide +kernel
theorem dX8_takeOver_2 : decode cX8_takeOver 2 = .ok (.iload_n 1, 1) := by decide +kernel
theorem dX8_takeOver_3 : decode cX8_takeOver 3 = .ok (.aload_n 0, 1) := by decide +kernel
theorem dX8_takeOver_4 : decode cX8_takeOver 4 = .ok (.getfield 129, 3) := by decide +kernel
theorem dX8_takeOver_7 : decode cX8_takeOver 7 = .ok (.if_icmp .ge 55, 3) := by decide +kernel
theorem dX8_takeOver_10 : decode cX8_takeOver 10 = .ok (.aload_n 0, 1) := by decide +kernel
theorem dX8_takeOver_11 : decode cX8_takeOver 11 = .ok (.getfield 25, 3) := by decide +kernel
theorem dX8_takeOver_14 : decode cX8_takeOver 14 = .ok (.aload_n 0, 1) := by decide +kernel
theorem dX8_takeOver_15 : decode cX8_takeOver 15 = .ok (.getfield 41, 3) := by decide +kernel
theorem dX8_takeOver_18 : decode cX8_takeOver 18 = .ok (.baload, 1) := by decide +kernel
theorem dX8_takeOver_19 : decode cX8_takeOver 19 = .ok (.ifCond .ne 43, 3) := by decide +kernel
theorem dX8_takeOver_22 : decode cX8_takeOver 22 = .ok (.aload_n 0, 1) := by decide +kernel
theorem dX8_takeOver_23 : decode cX8_takeOver 23 = .ok (.getfield 25, 3) := by decide +kernel
theorem dX8_takeOver_26 : decode cX8_takeOver 26 = .ok (.iload_n 1, 1) := by decide +kernel
theorem dX8_takeOver_27 : decode cX8_takeOver 27 = .ok (.baload, 1) := by decide +kernel
theorem dX8_takeOver_28 : decode cX8_takeOver 28 = .ok (.ifCond .eq 28, 3) := by decide +kernel
theorem dX8_takeOver_31 : decode cX8_takeOver 31 = .ok (.aload_n 0, 1) := by decide +kernel
theorem dX8_takeOver_32 : decode cX8_takeOver 32 = .ok (.getfield 38, 3) := by decide +kernel
theorem dX8_takeOver_35 : decode cX8_takeOver 35 = .ok (.iload_n 1, 1) := by decide +kernel
theorem dX8_takeOver_36 : decode cX8_takeOver 36 = .ok (.iaload, 1) := by decide +kernel
theorem dX8_takeOver_37 : decode cX8_takeOver 37 = .ok (.aload_n 0, 1) := by decide +kernel
theorem dX8_takeOver_38 : decode cX8_takeOver 38 = .ok (.getfield 54, 3) := by decide +kernel
theorem dX8_takeOver_41 : decode cX8_takeOver 41 = .ok (.if_icmp .lt 15, 3) := by decide +kernel
theorem dX8_takeOver_44 : decode cX8_takeOver 44 = .ok (.aload_n 0, 1) := by decide +kernel
theorem dX8_takeOver_45 : decode cX8_takeOver 45 = .ok (.iload_n 1, 1) := by decide +kernel
theorem dX8_takeOver_46 : decode cX8_takeOver 46 = .ok (.putfield 41, 3) := by decide +kernel
theorem dX8_takeOver_49 : decode cX8_takeOver 49 = .ok (.aload_n 0, 1) := by decide +kernel
theorem dX8_takeOver_50 : decode cX8_takeOver 50 = .ok (.getfield 38, 3) := by decide +kernel
theorem dX8_takeOver_53 : decode cX8_takeOver 53 = .ok (.iload_n 1, 1) := by decide +kernel
theorem dX8_takeOver_54 : decode cX8_takeOver 54 = .ok (.iconst 0, 1) := by decide +kernel
theorem dX8_takeOver_55 : decode cX8_takeOver 55 = .ok (.iastore, 1) := by decide +kernel
theorem dX8_takeOver_56 : decode cX8_takeOver 56 = .ok (.iinc 1 1, 3) := by decide +kernel
theorem dX8_takeOver_59 : decode cX8_takeOver 59 = .ok (.goto (-57), 3) := by decide +kernel
theorem dX8_takeOver_62 : decode cX8_takeOver 62 = .ok (.return_, 1) := by decide +kernel
set_option maxRecDepth 20000 in
theorem ggX8_runRound_X8_generate : GoodIn wsX8_runRound wsX8_generate := goodIn_r _ [8, 9, 3, 10, 11, 12, 13, 14, 85, 86, 87, 88, 89, 90, 91, 92, 93, 94, 95, 96, 97, 98, 99, 100, 101, 102, 103, 104, 105, 106, 107, 108, 109, 110, 111, 112, 113, 114, 115, 116, 117, 118, 119, 120, 121, 122, 123, 124, 125, 126] (by decide +kernel) (by decide +kernel)
set_option maxRecDepth 20000 in
theorem gX8_runRound_X8_generate : GoodIn wsX8_runRound (wsV RX8 188 RX8 yX8_generate wsX8_generate) := goodIn_app (goodIn_of _ (by decide +kernel)) ggX8_runRound_X8_generate
set_option maxRecDepth 20000 in
theorem ggX8_runRound_X8_spreadSchedule : GoodIn wsX8_runRound wsX8_spreadSchedule := goodIn_r _ [18, 19, 20, 1, 21, 22, 23, 24, 25, 26, 27, 7, 28, 29, 9, 12, 14, 2, 30, 31, 32, 33, 34, 35, 36, 37, 38, 39, 40, 41, 42, 43, 44, 45, 46, 47, 48, 49, 50, 51, 52, 53, 54, 55, 56, 57, 58, 59, 60, 61, 62, 63, 64, 65, 66, 67, 68, 69, 85, 86, 87, 88, 89, 90, 91, 92, 93, 94, 95, 96, 97, 98, 99, 100, 101, 102, 103, 104, 105, 106, 107, 108, 109, 110, 111, 112, 113, 114, 115, 116, 117, 118, 119, 120, 121, 122, 123, 124, 125, 126] (by decide +kernel) (by decide +kernel)
set_option maxRecDepth 20000 in
theorem gX8_runRound_X8_spreadSchedule : GoodIn wsX8_runRound (wsV RX8 191 RX8 yX8_spreadSchedule wsX8_spreadSchedule) := goodIn_app (goodIn_of _ (by decide +kernel)) ggX8_runRound_X8_spreadSchedule
set_option maxRecDepth 20000 in
theorem ggX8_runRound_X8_serve : GoodIn wsX8_runRound wsX8_serve := goodIn_r _ [73, 74, 19, 22, 23, 20, 75, 13, 76, 77, 78, 7, 79, 12, 14, 34, 35, 36, 37, 21, 38, 39, 40, 41, 42, 43, 44, 45, 46, 47, 48, 49, 50, 51, 52, 53, 54, 55, 56, 57, 58, 59, 60, 61, 62, 63, 64, 65, 66, 67, 68, 69, 85, 86, 87, 88, 89, 90, 91, 92, 93, 94, 95, 96, 97, 98, 99, 100, 101, 102, 103, 104, 105, 106, 107, 108, 109, 110, 111, 112, 113, 114, 115, 116, 117, 118, 119, 120, 121, 122, 123, 124, 125, 126] (by decide +kernel) (by decide +kernel)
set_option maxRecDepth 20000 in
theorem gX8_runRound_X8_serve : GoodIn wsX8_runRound (wsV RX8 194 RX8 yX8_serve wsX8_serve) := goodIn_app (goodIn_of _ (by decide +kernel)) ggX8_runRound_X8_serve
set_option maxRecDepth 20000 in
theorem ggX8_runRound_X8_takeOver : GoodIn wsX8_runRound wsX8_takeOver := goodIn_r _ [83, 21, 19, 20, 24, 84, 85, 86, 87, 88, 89, 90, 91, 92, 93, 94, 95, 96, 97, 98, 99, 100, 101, 102, 103, 104, 105, 106, 107, 108, 109, 110, 111, 112, 113, 114, 115, 116, 117, 118, 119, 120, 121, 122, 123, 124, 125, 126] (by decide +kernel) (by decide +kernel)
set_option maxRecDepth 20000 in
theorem gX8_runRound_X8_takeOver : GoodIn wsX8_runRound (wsV RX8 197 RX8 yX8_takeOver wsX8_takeOver) := goodIn_app (goodIn_of _ (by decide +kernel)) ggX8_runRound_X8_takeOver
theorem dX8_runRound_0 : decode cX8_runRound 0 = .ok (.aload_n 0, 1) := by decide +kernel
theorem dX8_runRound_1 : decode cX8_runRound 1 = .ok (.invokevirtual 188, 3) := by decide +kernel
theorem dX8_runRound_4 : decode cX8_runRound 4 = .ok (.aload_n 0, 1) := by decide +kernel
theorem dX8_runRound_5 : decode cX8_runRound 5 = .ok (.invokevirtual 191, 3) := by decide +kernel
theorem dX8_runRound_8 : decode cX8_runRound 8 = .ok (.iconst 0, 1) := by decide +kernel
theorem dX8_runRound_9 : decode cX8_runRound 9 = .ok (.istore_n 1, 1) := by decide +kernel
theorem dX8_runRound_10 : decode cX8_runRound 10 = .ok (.iconst 0, 1) := by decide +kernel
theorem dX8_runRound_11 : decode cX8_runRound 11 = .ok (.istore_n 2, 1) := by decide +kernel
theorem dX8_runRound_12 : decode cX8_runRound 12 = .ok (.iload_n 2, 1) := by decide +kernel
theorem dX8_runRound_13 : decode cX8_runRound 13 = .ok (.aload_n 0, 1) := by decide +kernel
theorem dX8_runRound_14 : decode cX8_runRound 14 = .ok (.getfield 144, 3) := by decide +kernel
theorem dX8_runRound_17 : decode cX8_runRound 17 = .ok (.if_icmp .ge 22, 3) := by decide +kernel
theorem dX8_runRound_20 : decode cX8_runRound 20 = .ok (.iload_n 1, 1) := by decide +kernel
theorem dX8_runRound_21 : decode cX8_runRound 21 = .ok (.aload_n 0, 1) := by decide +kernel
theorem dX8_runRound_22 : decode cX8_runRound 22 = .ok (.aload_n 0, 1) := by decide +kernel
theorem dX8_runRound_23 : decode cX8_runRound 23 = .ok (.getfield 78, 3) := by decide +kernel
theorem dX8_runRound_26 : decode cX8_runRound 26 = .ok (.iload_n 2, 1) := by decide +kernel
theorem dX8_runRound_27 : decode cX8_runRound 27 = .ok (.iaload, 1) := by decide +kernel
theorem dX8_runRound_28 : decode cX8_runRound 28 = .ok (.invokevirtual 194, 3) := by decide +kernel
theorem dX8_runRound_31 : decode cX8_runRound 31 = .ok (.iadd, 1) := by decide +kernel
theorem dX8_runRound_32 : decode cX8_runRound 32 = .ok (.istore_n 1, 1) := by decide +kernel
theorem dX8_runRound_33 : decode cX8_runRound 33 = .ok (.iinc 2 1, 3) := by decide +kernel
theorem dX8_runRound_36 : decode cX8_runRound 36 = .ok (.goto (-24), 3) := by decide +kernel
theorem dX8_runRound_39 : decode cX8_runRound 39 = .ok (.aload_n 0, 1) := by decide +kernel
theorem dX8_runRound_40 : decode cX8_runRound 40 = .ok (.invokevirtual 197, 3) := by decide +kernel
theorem dX8_runRound_43 : decode cX8_runRound 43 = .ok (.aload_n 0, 1) := by decide +kernel
theorem dX8_runRound_44 : decode cX8_runRound 44 = .ok (.dup, 1) := by decide +kernel
theorem dX8_runRound_45 : decode cX8_runRound 45 = .ok (.getfield 138, 3) := by decide +kernel
theorem dX8_runRound_48 : decode cX8_runRound 48 = .ok (.iconst 1, 1) := by decide +kernel
theorem dX8_runRound_49 : decode cX8_runRound 49 = .ok (.iadd, 1) := by decide +kernel
theorem dX8_runRound_50 : decode cX8_runRound 50 = .ok (.putfield 138, 3) := by decide +kernel
theorem dX8_runRound_53 : decode cX8_runRound 53 = .ok (.iload_n 1, 1) := by decide +kernel
theorem dX8_runRound_54 : decode cX8_runRound 54 = .ok (.ireturn, 1) := by decide +kernel
set_option maxRecDepth 20000 in
theorem ggX8_runRounds_X8_within : GoodIn wsX8_runRounds wsX8_within := goodIn_r _ [6] (by decide +kernel) (by decide +kernel)
set_option maxRecDepth 20000 in
theorem gX8_runRounds_X8_within : GoodIn wsX8_runRounds (va_wsS RX8 102 yX8_within wsX8_within) := goodIn_app (goodIn_of _ (by decide +kernel)) ggX8_runRounds_X8_within
set_option maxRecDepth 20000 in
theorem ggX8_runRounds_X8_runRound : GoodIn wsX8_runRounds wsX8_runRound := goodIn_r _ [10, 11, 12, 2, 13, 14, 15, 5, 16, 17, 18, 19, 20, 21, 22, 23, 24, 25, 26, 27, 28, 1, 29, 30, 31, 32, 33, 34, 35, 36, 37, 38, 39, 40, 41, 42, 43, 44, 45, 46, 47, 48, 49, 50, 51, 52, 53, 54, 55, 56, 57, 58, 59, 60, 61, 62, 63, 64, 65, 66, 67, 68, 69, 70, 71, 72, 73, 74, 75, 76, 77, 78, 79, 80, 81, 82, 83, 84, 85, 86, 87, 88, 89, 90, 91, 92, 93, 94, 95, 96, 97, 98, 99, 100, 101, 102, 103, 104, 105, 106, 107, 108, 109, 110, 111, 112, 113, 114, 115, 116, 117, 118, 119, 120, 121, 122, 123, 124, 125, 126, 127, 128, 129, 130, 131, 132, 133] (by decide +kernel) (by decide +kernel)
set_option maxRecDepth 20000 in
theorem gX8_runRounds_X8_runRound : GoodIn wsX8_runRounds (wsV RX8 200 RX8 yX8_runRound wsX8_runRound) := goodIn_app (goodIn_of _ (by decide +kernel)) ggX8_runRounds_X8_runRound
theorem dX8_runRounds_0 : decode cX8_runRounds 0 = .ok (.iload_n 1, 1) := by decide +kernel
theorem dX8_runRounds_1 : decode cX8_runRounds 1 = .ok (.iconst 1, 1) := by decide +kernel
theorem dX8_runRounds_2 : decode cX8_runRounds 2 = .ok (.bipush 20, 2) := by decide +kernel
theorem dX8_runRounds_4 : decode cX8_runRounds 4 = .ok (.invokestatic 102, 3) := by decide +kernel
theorem dX8_runRounds_7 : decode cX8_runRounds 7 = .ok (.ifCond .ne 7, 3) := by decide +kernel
theorem dX8_runRounds_10 : decode cX8_runRounds 10 = .ok (.sipush (-1002), 3) := by decide +kernel
theorem dX8_runRounds_13 : decode cX8_runRounds 13 = .ok (.ireturn, 1) := by decide +kernel
theorem dX8_runRounds_14 : decode cX8_runRounds 14 = .ok (.aload_n 0, 1) := by decide +kernel
theorem dX8_runRounds_15 : decode cX8_runRounds 15 = .ok (.getfield 129, 3) := by decide +kernel
theorem dX8_runRounds_18 : decode cX8_runRounds 18 = .ok (.ifCond .ne 7, 3) := by decide +kernel
theorem dX8_runRounds_21 : decode cX8_runRounds 21 = .ok (.sipush (-1003), 3) := by decide +kernel
theorem dX8_runRounds_24 : decode cX8_runRounds 24 = .ok (.ireturn, 1) := by decide +kernel
theorem dX8_runRounds_25 : decode cX8_runRounds 25 = .ok (.aload_n 0, 1) := by decide +kernel
theorem dX8_runRounds_26 : decode cX8_runRounds 26 = .ok (.getfield 138, 3) := by decide +kernel
theorem dX8_runRounds_29 : decode cX8_runRounds 29 = .ok (.iload_n 1, 1) := by decide +kernel
theorem dX8_runRounds_30 : decode cX8_runRounds 30 = .ok (.iadd, 1) := by decide +kernel
theorem dX8_runRounds_31 : decode cX8_runRounds 31 = .ok (.sipush 9999, 3) := by decide +kernel
theorem dX8_runRounds_34 : decode cX8_runRounds 34 = .ok (.if_icmp .le 7, 3) := by decide +kernel
theorem dX8_runRounds_37 : decode cX8_runRounds 37 = .ok (.sipush (-1004), 3) := by decide +kernel
theorem dX8_runRounds_40 : decode cX8_runRounds 40 = .ok (.ireturn, 1) := by decide +kernel
theorem dX8_runRounds_41 : decode cX8_runRounds 41 = .ok (.iconst 0, 1) := by decide +kernel
theorem dX8_runRounds_42 : decode cX8_runRounds 42 = .ok (.istore_n 2, 1) := by decide +kernel
theorem dX8_runRounds_43 : decode cX8_runRounds 43 = .ok (.iconst 0, 1) := by decide +kernel
theorem dX8_runRounds_44 : decode cX8_runRounds 44 = .ok (.istore_n 3, 1) := by decide +kernel
theorem dX8_runRounds_45 : decode cX8_runRounds 45 = .ok (.iload_n 3, 1) := by decide +kernel
theorem dX8_runRounds_46 : decode cX8_runRounds 46 = .ok (.iload_n 1, 1) := by decide +kernel
theorem dX8_runRounds_47 : decode cX8_runRounds 47 = .ok (.if_icmp .ge 16, 3) := by decide +kernel
theorem dX8_runRounds_50 : decode cX8_runRounds 50 = .ok (.iload_n 2, 1) := by decide +kernel
theorem dX8_runRounds_51 : decode cX8_runRounds 51 = .ok (.aload_n 0, 1) := by decide +kernel
theorem dX8_runRounds_52 : decode cX8_runRounds 52 = .ok (.invokevirtual 200, 3) := by decide +kernel
theorem dX8_runRounds_55 : decode cX8_runRounds 55 = .ok (.iadd, 1) := by decide +kernel
theorem dX8_runRounds_56 : decode cX8_runRounds 56 = .ok (.istore_n 2, 1) := by decide +kernel
theorem dX8_runRounds_57 : decode cX8_runRounds 57 = .ok (.iinc 3 1, 3) := by decide +kernel
theorem dX8_runRounds_60 : decode cX8_runRounds 60 = .ok (.goto (-15), 3) := by decide +kernel
theorem dX8_runRounds_63 : decode cX8_runRounds 63 = .ok (.iload_n 2, 1) := by decide +kernel
theorem dX8_runRounds_64 : decode cX8_runRounds 64 = .ok (.ireturn, 1) := by decide +kernel
set_option maxRecDepth 20000 in
theorem ggX8_scheduledStream_X8_within : GoodIn wsX8_scheduledStream wsX8_within := goodIn_r _ [6] (by decide +kernel) (by decide +kernel)
set_option maxRecDepth 20000 in
theorem gX8_scheduledStream_X8_within : GoodIn wsX8_scheduledStream (va_wsS RX8 102 yX8_within wsX8_within) := goodIn_app (goodIn_of _ (by decide +kernel)) ggX8_scheduledStream_X8_within
theorem dX8_scheduledStream_0 : decode cX8_scheduledStream 0 = .ok (.iload_n 1, 1) := by decide +kernel
theorem dX8_scheduledStream_1 : decode cX8_scheduledStream 1 = .ok (.iconst 0, 1) := by decide +kernel
theorem dX8_scheduledStream_2 : decode cX8_scheduledStream 2 = .ok (.aload_n 0, 1) := by decide +kernel
theorem dX8_scheduledStream_3 : decode cX8_scheduledStream 3 = .ok (.getfield 144, 3) := by decide +kernel
theorem dX8_scheduledStream_6 : decode cX8_scheduledStream 6 = .ok (.iconst 1, 1) := by decide +kernel
theorem dX8_scheduledStream_7 : decode cX8_scheduledStream 7 = .ok (.isub, 1) := by decide +kernel
theorem dX8_scheduledStream_8 : decode cX8_scheduledStream 8 = .ok (.invokestatic 102, 3) := by decide +kernel
theorem dX8_scheduledStream_11 : decode cX8_scheduledStream 11 = .ok (.ifCond .eq 12, 3) := by decide +kernel
theorem dX8_scheduledStream_14 : decode cX8_scheduledStream 14 = .ok (.aload_n 0, 1) := by decide +kernel
theorem dX8_scheduledStream_15 : decode cX8_scheduledStream 15 = .ok (.getfield 78, 3) := by decide +kernel
theorem dX8_scheduledStream_18 : decode cX8_scheduledStream 18 = .ok (.iload_n 1, 1) := by decide +kernel
theorem dX8_scheduledStream_19 : decode cX8_scheduledStream 19 = .ok (.iaload, 1) := by decide +kernel
theorem dX8_scheduledStream_20 : decode cX8_scheduledStream 20 = .ok (.goto 4, 3) := by decide +kernel
theorem dX8_scheduledStream_23 : decode cX8_scheduledStream 23 = .ok (.iconst (-1), 1) := by decide +kernel
theorem dX8_scheduledStream_24 : decode cX8_scheduledStream 24 = .ok (.ireturn, 1) := by decide +kernel
theorem dX8_areSourcesDifferent_0 : decode cX8_areSourcesDifferent 0 = .ok (.iconst 1, 1) := by decide +kernel
theorem dX8_areSourcesDifferent_1 : decode cX8_areSourcesDifferent 1 = .ok (.istore_n 1, 1) := by decide +kernel
theorem dX8_areSourcesDifferent_2 : decode cX8_areSourcesDifferent 2 = .ok (.iconst 0, 1) := by decide +kernel
theorem dX8_areSourcesDifferent_3 : decode cX8_areSourcesDifferent 3 = .ok (.istore_n 2, 1) := by decide +kernel
theorem dX8_areSourcesDifferent_4 : decode cX8_areSourcesDifferent 4 = .ok (.iload_n 2, 1) := by decide +kernel
theorem dX8_areSourcesDifferent_5 : decode cX8_areSourcesDifferent 5 = .ok (.aload_n 0, 1) := by decide +kernel
theorem dX8_areSourcesDifferent_6 : decode cX8_areSourcesDifferent 6 = .ok (.getfield 144, 3) := by decide +kernel
theorem dX8_areSourcesDifferent_9 : decode cX8_areSourcesDifferent 9 = .ok (.if_icmp .ge 57, 3) := by decide +kernel
theorem dX8_areSourcesDifferent_12 : decode cX8_areSourcesDifferent 12 = .ok (.iconst 0, 1) := by decide +kernel
theorem dX8_areSourcesDifferent_13 : decode cX8_areSourcesDifferent 13 = .ok (.istore_n 3, 1) := by decide +kernel
theorem dX8_areSourcesDifferent_14 : decode cX8_areSourcesDifferent 14 = .ok (.iload_n 3, 1) := by decide +kernel
theorem dX8_areSourcesDifferent_15 : decode cX8_areSourcesDifferent 15 = .ok (.iload_n 2, 1) := by decide +kernel
theorem dX8_areSourcesDifferent_16 : decode cX8_areSourcesDifferent 16 = .ok (.if_icmp .ge 44, 3) := by decide +kernel
theorem dX8_areSourcesDifferent_19 : decode cX8_areSourcesDifferent 19 = .ok (.iload_n 1, 1) := by decide +kernel
theorem dX8_areSourcesDifferent_20 : decode cX8_areSourcesDifferent 20 = .ok (.ifCond .eq 32, 3) := by decide +kernel
theorem dX8_areSourcesDifferent_23 : decode cX8_areSourcesDifferent 23 = .ok (.aload_n 0, 1) := by decide +kernel
theorem dX8_areSourcesDifferent_24 : decode cX8_areSourcesDifferent 24 = .ok (.getfield 57, 3) := by decide +kernel
theorem dX8_areSourcesDifferent_27 : decode cX8_areSourcesDifferent 27 = .ok (.aload_n 0, 1) := by decide +kernel
theorem dX8_areSourcesDifferent_28 : decode cX8_areSourcesDifferent 28 = .ok (.getfield 78, 3) := by decide +kernel
theorem dX8_areSourcesDifferent_31 : decode cX8_areSourcesDifferent 31 = .ok (.iload_n 2, 1) := by decide +kernel
theorem dX8_areSourcesDifferent_32 : decode cX8_areSourcesDifferent 32 = .ok (.iaload, 1) := by decide +kernel
theorem dX8_areSourcesDifferent_33 : decode cX8_areSourcesDifferent 33 = .ok (.iaload, 1) := by decide +kernel
theorem dX8_areSourcesDifferent_34 : decode cX8_areSourcesDifferent 34 = .ok (.aload_n 0, 1) := by decide +kernel
theorem dX8_areSourcesDifferent_35 : decode cX8_areSourcesDifferent 35 = .ok (.getfield 57, 3) := by decide +kernel
theorem dX8_areSourcesDifferent_38 : decode cX8_areSourcesDifferent 38 = .ok (.aload_n 0, 1) := by decide +kernel
theorem dX8_areSourcesDifferent_39 : decode cX8_areSourcesDifferent 39 = .ok (.getfield 78, 3) := by decide +kernel
theorem dX8_areSourcesDifferent_42 : decode cX8_areSourcesDifferent 42 = .ok (.iload_n 3, 1) := by decide +kernel
theorem dX8_areSourcesDifferent_43 : decode cX8_areSourcesDifferent 43 = .ok (.iaload, 1) := by decide +kernel
theorem dX8_areSourcesDifferent_44 : decode cX8_areSourcesDifferent 44 = .ok (.iaload, 1) := by decide +kernel
theorem dX8_areSourcesDifferent_45 : decode cX8_areSourcesDifferent 45 = .ok (.if_icmp .eq 7, 3) := by decide +kernel
theorem dX8_areSourcesDifferent_48 : decode cX8_areSourcesDifferent 48 = .ok (.iconst 1, 1) := by decide +kernel
theorem dX8_areSourcesDifferent_49 : decode cX8_areSourcesDifferent 49 = .ok (.goto 4, 3) := by decide +kernel
theorem dX8_areSourcesDifferent_52 : decode cX8_areSourcesDifferent 52 = .ok (.iconst 0, 1) := by decide +kernel
theorem dX8_areSourcesDifferent_53 : decode cX8_areSourcesDifferent 53 = .ok (.istore_n 1, 1) := by decide +kernel
theorem dX8_areSourcesDifferent_54 : decode cX8_areSourcesDifferent 54 = .ok (.iinc 3 1, 3) := by decide +kernel
theorem dX8_areSourcesDifferent_57 : decode cX8_areSourcesDifferent 57 = .ok (.goto (-43), 3) := by decide +kernel
theorem dX8_areSourcesDifferent_60 : decode cX8_areSourcesDifferent 60 = .ok (.iinc 2 1, 3) := by decide +kernel
theorem dX8_areSourcesDifferent_63 : decode cX8_areSourcesDifferent 63 = .ok (.goto (-59), 3) := by decide +kernel
theorem dX8_areSourcesDifferent_66 : decode cX8_areSourcesDifferent 66 = .ok (.iload_n 1, 1) := by decide +kernel
theorem dX8_areSourcesDifferent_67 : decode cX8_areSourcesDifferent 67 = .ok (.ireturn, 1) := by decide +kernel
set_option maxRecDepth 20000 in
theorem ggX8_scheduleBits_X8_areSourcesDifferent : GoodIn wsX8_scheduleBits wsX8_areSourcesDifferent := goodIn_r _ [6, 1, 7, 8, 9, 10, 11, 12, 13, 14, 15, 16, 17, 18, 19, 20, 21, 22, 23, 24, 25, 26, 27, 28, 29, 30, 31, 32, 33, 34, 35, 36, 37, 38, 39, 40, 41, 42, 43, 44, 45, 46, 47, 48, 49, 50] (by decide +kernel) (by decide +kernel)
set_option maxRecDepth 20000 in
theorem gX8_scheduleBits_X8_areSourcesDifferent : GoodIn wsX8_scheduleBits (wsV RX8 203 RX8 yX8_areSourcesDifferent wsX8_areSourcesDifferent) := goodIn_app (goodIn_of _ (by decide +kernel)) ggX8_scheduleBits_X8_areSourcesDifferent
theorem dX8_scheduleBits_0 : decode cX8_scheduleBits 0 = .ok (.iconst 3, 1) := by decide +kernel
theorem dX8_scheduleBits_1 : decode cX8_scheduleBits 1 = .ok (.aload_n 0, 1) := by decide +kernel
theorem dX8_scheduleBits_2 : decode cX8_scheduleBits 2 = .ok (.getfield 144, 3) := by decide +kernel
theorem dX8_scheduleBits_5 : decode cX8_scheduleBits 5 = .ok (.imul, 1) := by decide +kernel
theorem dX8_scheduleBits_6 : decode cX8_scheduleBits 6 = .ok (.istore_n 1, 1) := by decide +kernel
theorem dX8_scheduleBits_7 : decode cX8_scheduleBits 7 = .ok (.bipush 8, 2) := by decide +kernel
theorem dX8_scheduleBits_9 : decode cX8_scheduleBits 9 = .ok (.iload_n 1, 1) := by decide +kernel
theorem dX8_scheduleBits_10 : decode cX8_scheduleBits 10 = .ok (.bipush 8, 2) := by decide +kernel
theorem dX8_scheduleBits_12 : decode cX8_scheduleBits 12 = .ok (.if_icmp .le 15, 3) := by decide +kernel
theorem dX8_scheduleBits_15 : decode cX8_scheduleBits 15 = .ok (.aload_n 0, 1) := by decide +kernel
theorem dX8_scheduleBits_16 : decode cX8_scheduleBits 16 = .ok (.invokevirtual 203, 3) := by decide +kernel
theorem dX8_scheduleBits_19 : decode cX8_scheduleBits 19 = .ok (.ifCond .eq 8, 3) := by decide +kernel
theorem dX8_scheduleBits_22 : decode cX8_scheduleBits 22 = .ok (.bipush 8, 2) := by decide +kernel
theorem dX8_scheduleBits_24 : decode cX8_scheduleBits 24 = .ok (.goto 4, 3) := by decide +kernel
theorem dX8_scheduleBits_27 : decode cX8_scheduleBits 27 = .ok (.iload_n 1, 1) := by decide +kernel
theorem dX8_scheduleBits_28 : decode cX8_scheduleBits 28 = .ok (.iadd, 1) := by decide +kernel
theorem dX8_scheduleBits_29 : decode cX8_scheduleBits 29 = .ok (.ireturn, 1) := by decide +kernel
theorem dX8_host_0 : decode cX8_host 0 = .ok (.aload_n 0, 1) := by decide +kernel
theorem dX8_host_1 : decode cX8_host 1 = .ok (.getfield 41, 3) := by decide +kernel
theorem dX8_host_4 : decode cX8_host 4 = .ok (.ireturn, 1) := by decide +kernel
set_option maxRecDepth 20000 in
theorem ggX8_missedSchedules_X8_isNode : GoodIn wsX8_missedSchedules wsX8_isNode := goodIn_r _ [6, 7, 8, 9, 5, 10, 11, 12, 13, 14, 15, 16, 17, 18, 19, 20, 21, 22, 23, 24, 25, 26, 27, 28, 29, 30, 31, 32, 33, 34, 35, 36, 37, 38, 39, 40, 41, 42, 43, 44, 45, 46, 47, 48, 49, 50, 51, 52] (by decide +kernel) (by decide +kernel)
set_option maxRecDepth 20000 in
theorem gX8_missedSchedules_X8_isNode : GoodIn wsX8_missedSchedules (wsV RX8 147 RX8 yX8_isNode wsX8_isNode) := goodIn_app (goodIn_of _ (by decide +kernel)) ggX8_missedSchedules_X8_isNode
theorem dX8_missedSchedules_0 : decode cX8_missedSchedules 0 = .ok (.aload_n 0, 1) := by decide +kernel
theorem dX8_missedSchedules_1 : decode cX8_missedSchedules 1 = .ok (.iload_n 1, 1) := by decide +kernel
theorem dX8_missedSchedules_2 : decode cX8_missedSchedules 2 = .ok (.invokevirtual 147, 3) := by decide +kernel
theorem dX8_missedSchedules_5 : decode cX8_missedSchedules 5 = .ok (.ifCond .eq 12, 3) := by decide +kernel
theorem dX8_missedSchedules_8 : decode cX8_missedSchedules 8 = .ok (.aload_n 0, 1) := by decide +kernel
theorem dX8_missedSchedules_9 : decode cX8_missedSchedules 9 = .ok (.getfield 38, 3) := by decide +kernel
theorem dX8_missedSchedules_12 : decode cX8_missedSchedules 12 = .ok (.iload_n 1, 1) := by decide +kernel
theorem dX8_missedSchedules_13 : decode cX8_missedSchedules 13 = .ok (.iaload, 1) := by decide +kernel
theorem dX8_missedSchedules_14 : decode cX8_missedSchedules 14 = .ok (.goto 6, 3) := by decide +kernel
theorem dX8_missedSchedules_17 : decode cX8_missedSchedules 17 = .ok (.sipush (-1001), 3) := by decide +kernel
theorem dX8_missedSchedules_20 : decode cX8_missedSchedules 20 = .ok (.ireturn, 1) := by decide +kernel
set_option maxRecDepth 20000 in
theorem ggX8_transmissions_X8_isNode : GoodIn wsX8_transmissions wsX8_isNode := goodIn_r _ [6, 7, 8, 9, 5, 10, 11, 12, 13, 14, 15, 16, 17, 18, 19, 20, 21, 22, 23, 24, 25, 26, 27, 28, 29, 30, 31, 32, 33, 34, 35, 36, 37, 38, 39, 40, 41, 42, 43, 44, 45, 46, 47, 48, 49, 50, 51, 52] (by decide +kernel) (by decide +kernel)
set_option maxRecDepth 20000 in
theorem gX8_transmissions_X8_isNode : GoodIn wsX8_transmissions (wsV RX8 147 RX8 yX8_isNode wsX8_isNode) := goodIn_app (goodIn_of _ (by decide +kernel)) ggX8_transmissions_X8_isNode
theorem dX8_transmissions_0 : decode cX8_transmissions 0 = .ok (.aload_n 0, 1) := by decide +kernel
theorem dX8_transmissions_1 : decode cX8_transmissions 1 = .ok (.iload_n 1, 1) := by decide +kernel
theorem dX8_transmissions_2 : decode cX8_transmissions 2 = .ok (.invokevirtual 147, 3) := by decide +kernel
theorem dX8_transmissions_5 : decode cX8_transmissions 5 = .ok (.ifCond .eq 12, 3) := by decide +kernel
theorem dX8_transmissions_8 : decode cX8_transmissions 8 = .ok (.aload_n 0, 1) := by decide +kernel
theorem dX8_transmissions_9 : decode cX8_transmissions 9 = .ok (.getfield 35, 3) := by decide +kernel
theorem dX8_transmissions_12 : decode cX8_transmissions 12 = .ok (.iload_n 1, 1) := by decide +kernel
theorem dX8_transmissions_13 : decode cX8_transmissions 13 = .ok (.iaload, 1) := by decide +kernel
theorem dX8_transmissions_14 : decode cX8_transmissions 14 = .ok (.goto 6, 3) := by decide +kernel
theorem dX8_transmissions_17 : decode cX8_transmissions 17 = .ok (.sipush (-1001), 3) := by decide +kernel
theorem dX8_transmissions_20 : decode cX8_transmissions 20 = .ok (.ireturn, 1) := by decide +kernel
theorem dX8_roundNumber_0 : decode cX8_roundNumber 0 = .ok (.aload_n 0, 1) := by decide +kernel
theorem dX8_roundNumber_1 : decode cX8_roundNumber 1 = .ok (.getfield 138, 3) := by decide +kernel
theorem dX8_roundNumber_4 : decode cX8_roundNumber 4 = .ok (.ireturn, 1) := by decide +kernel
theorem dX8_mix_0 : decode cX8_mix 0 = .ok (.aload_n 0, 1) := by decide +kernel
theorem dX8_mix_1 : decode cX8_mix 1 = .ok (.ldc2_w 207, 3) := by decide +kernel
theorem dX8_mix_4 : decode cX8_mix 4 = .ok (.aload_n 0, 1) := by decide +kernel
theorem dX8_mix_5 : decode cX8_mix 5 = .ok (.getfield 209, 3) := by decide +kernel
theorem dX8_mix_8 : decode cX8_mix 8 = .ok (.lmul, 1) := by decide +kernel
theorem dX8_mix_9 : decode cX8_mix 9 = .ok (.lload_n 1, 1) := by decide +kernel
theorem dX8_mix_10 : decode cX8_mix 10 = .ok (.ladd, 1) := by decide +kernel
theorem dX8_mix_11 : decode cX8_mix 11 = .ok (.putfield 209, 3) := by decide +kernel
theorem dX8_mix_14 : decode cX8_mix 14 = .ok (.return_, 1) := by decide +kernel
set_option maxRecDepth 20000 in
theorem ggX8_digest_X8_mix : GoodIn wsX8_digest wsX8_mix := goodIn_r _ [23, 24, 2, 39, 40, 41, 42, 43, 44, 45, 46, 47, 48, 49, 50, 51, 52, 53, 54, 55, 56, 57, 58, 59, 60, 61, 62, 63, 64, 65, 66, 67, 68, 69, 70, 71, 72, 73, 74, 75, 76, 77, 78, 79, 80] (by decide +kernel) (by decide +kernel)
set_option maxRecDepth 20000 in
theorem gX8_digest_X8_mix : GoodIn wsX8_digest (wsV RX8 215 RX8 yX8_mix wsX8_mix) := goodIn_app (goodIn_of _ (by decide +kernel)) ggX8_digest_X8_mix
set_option maxRecDepth 20000 in
theorem ggX8_digest_X8_hops : GoodIn wsX8_digest wsX8_hops := goodIn_r _ [28, 29, 39, 40, 41, 42, 43, 44, 45, 46, 47, 48, 49, 50, 51, 52, 53, 54, 55, 56, 57, 58, 59, 60, 61, 62, 63, 64, 65, 66, 67, 68, 69, 70, 71, 72, 73, 74, 75, 76, 77, 78, 79, 80] (by decide +kernel) (by decide +kernel)
set_option maxRecDepth 20000 in
theorem gX8_digest_X8_hops : GoodIn wsX8_digest (wsV RX8 172 RX8 yX8_hops wsX8_hops) := goodIn_app (goodIn_of _ (by decide +kernel)) ggX8_digest_X8_hops
set_option maxRecDepth 20000 in
theorem ggX8_digest_X8_scheduleBits : GoodIn wsX8_digest wsX8_scheduleBits := goodIn_r _ [33, 13, 34, 35, 36, 22, 37, 38, 14, 39, 40, 41, 42, 43, 44, 45, 46, 47, 48, 49, 50, 51, 52, 53, 54, 55, 56, 57, 58, 59, 60, 61, 62, 63, 64, 65, 66, 67, 68, 69, 70, 71, 72, 73, 74, 75, 76, 77, 78, 79, 80] (by decide +kernel) (by decide +kernel)
set_option maxRecDepth 20000 in
theorem gX8_digest_X8_scheduleBits : GoodIn wsX8_digest (wsV RX8 219 RX8 yX8_scheduleBits wsX8_scheduleBits) := goodIn_app (goodIn_of _ (by decide +kernel)) ggX8_digest_X8_scheduleBits
theorem dX8_digest_0 : decode cX8_digest 0 = .ok (.aload_n 0, 1) := by decide +kernel
theorem dX8_digest_1 : decode cX8_digest 1 = .ok (.ldc2_w 213, 3) := by decide +kernel
theorem dX8_digest_4 : decode cX8_digest 4 = .ok (.putfield 209, 3) := by decide +kernel
theorem dX8_digest_7 : decode cX8_digest 7 = .ok (.iconst 0, 1) := by decide +kernel
theorem dX8_digest_8 : decode cX8_digest 8 = .ok (.istore_n 1, 1) := by decide +kernel
theorem dX8_digest_9 : decode cX8_digest 9 = .ok (.iload_n 1, 1) := by decide +kernel
theorem dX8_digest_10 : decode cX8_digest 10 = .ok (.aload_n 0, 1) := by decide +kernel
theorem dX8_digest_11 : decode cX8_digest 11 = .ok (.getfield 129, 3) := by decide +kernel
theorem dX8_digest_14 : decode cX8_digest 14 = .ok (.if_icmp .ge 70, 3) := by decide +kernel
theorem dX8_digest_17 : decode cX8_digest 17 = .ok (.aload_n 0, 1) := by decide +kernel
theorem dX8_digest_18 : decode cX8_digest 18 = .ok (.aload_n 0, 1) := by decide +kernel
theorem dX8_digest_19 : decode cX8_digest 19 = .ok (.getfield 29, 3) := by decide +kernel
theorem dX8_digest_22 : decode cX8_digest 22 = .ok (.iload_n 1, 1) := by decide +kernel
theorem dX8_digest_23 : decode cX8_digest 23 = .ok (.iaload, 1) := by decide +kernel
theorem dX8_digest_24 : decode cX8_digest 24 = .ok (.i2l, 1) := by decide +kernel
theorem dX8_digest_25 : decode cX8_digest 25 = .ok (.invokevirtual 215, 3) := by decide +kernel
theorem dX8_digest_28 : decode cX8_digest 28 = .ok (.aload_n 0, 1) := by decide +kernel
theorem dX8_digest_29 : decode cX8_digest 29 = .ok (.aload_n 0, 1) := by decide +kernel
theorem dX8_digest_30 : decode cX8_digest 30 = .ok (.iload_n 1, 1) := by decide +kernel
theorem dX8_digest_31 : decode cX8_digest 31 = .ok (.invokevirtual 172, 3) := by decide +kernel
theorem dX8_digest_34 : decode cX8_digest 34 = .ok (.i2l, 1) := by decide +kernel
theorem dX8_digest_35 : decode cX8_digest 35 = .ok (.invokevirtual 215, 3) := by decide +kernel
theorem dX8_digest_38 : decode cX8_digest 38 = .ok (.aload_n 0, 1) := by decide +kernel
theorem dX8_digest_39 : decode cX8_digest 39 = .ok (.aload_n 0, 1) := by decide +kernel
theorem dX8_digest_40 : decode cX8_digest 40 = .ok (.getfield 38, 3) := by decide +kernel
theorem dX8_digest_43 : decode cX8_digest 43 = .ok (.iload_n 1, 1) := by decide +kernel
theorem dX8_digest_44 : decode cX8_digest 44 = .ok (.iaload, 1) := by decide +kernel
theorem dX8_digest_45 : decode cX8_digest 45 = .ok (.i2l, 1) := by decide +kernel
theorem dX8_digest_46 : decode cX8_digest 46 = .ok (.invokevirtual 215, 3) := by decide +kernel
theorem dX8_digest_49 : decode cX8_digest 49 = .ok (.aload_n 0, 1) := by decide +kernel
theorem dX8_digest_50 : decode cX8_digest 50 = .ok (.aload_n 0, 1) := by decide +kernel
theorem dX8_digest_51 : decode cX8_digest 51 = .ok (.getfield 35, 3) := by decide +kernel
theorem dX8_digest_54 : decode cX8_digest 54 = .ok (.iload_n 1, 1) := by decide +kernel
theorem dX8_digest_55 : decode cX8_digest 55 = .ok (.iaload, 1) := by decide +kernel
theorem dX8_digest_56 : decode cX8_digest 56 = .ok (.i2l, 1) := by decide +kernel
theorem dX8_digest_57 : decode cX8_digest 57 = .ok (.invokevirtual 215, 3) := by decide +kernel
theorem dX8_digest_60 : decode cX8_digest 60 = .ok (.aload_n 0, 1) := by decide +kernel
theorem dX8_digest_61 : decode cX8_digest 61 = .ok (.aload_n 0, 1) := by decide +kernel
theorem dX8_digest_62 : decode cX8_digest 62 = .ok (.getfield 25, 3) := by decide +kernel
theorem dX8_digest_65 : decode cX8_digest 65 = .ok (.iload_n 1, 1) := by decide +kernel
theorem dX8_digest_66 : decode cX8_digest 66 = .ok (.baload, 1) := by decide +kernel
theorem dX8_digest_67 : decode cX8_digest 67 = .ok (.ifCond .eq 7, 3) := by decide +kernel
theorem dX8_digest_70 : decode cX8_digest 70 = .ok (.lconst 1, 1) := by decide +kernel
theorem dX8_digest_71 : decode cX8_digest 71 = .ok (.goto 4, 3) := by decide +kernel
theorem dX8_digest_74 : decode cX8_digest 74 = .ok (.lconst 0, 1) := by decide +kernel
theorem dX8_digest_75 : decode cX8_digest 75 = .ok (.invokevirtual 215, 3) := by decide +kernel
theorem dX8_digest_78 : decode cX8_digest 78 = .ok (.iinc 1 1, 3) := by decide +kernel
theorem dX8_digest_81 : decode cX8_digest 81 = .ok (.goto (-72), 3) := by decide +kernel
theorem dX8_digest_84 : decode cX8_digest 84 = .ok (.aload_n 0, 1) := by decide +kernel
theorem dX8_digest_85 : decode cX8_digest 85 = .ok (.aload_n 0, 1) := by decide +kernel
theorem dX8_digest_86 : decode cX8_digest 86 = .ok (.getfield 151, 3) := by decide +kernel
theorem dX8_digest_89 : decode cX8_digest 89 = .ok (.i2l, 1) := by decide +kernel
theorem dX8_digest_90 : decode cX8_digest 90 = .ok (.invokevirtual 215, 3) := by decide +kernel
theorem dX8_digest_93 : decode cX8_digest 93 = .ok (.iconst 0, 1) := by decide +kernel
theorem dX8_digest_94 : decode cX8_digest 94 = .ok (.istore_n 1, 1) := by decide +kernel
theorem dX8_digest_95 : decode cX8_digest 95 = .ok (.iload_n 1, 1) := by decide +kernel
theorem dX8_digest_96 : decode cX8_digest 96 = .ok (.aload_n 0, 1) := by decide +kernel
theorem dX8_digest_97 : decode cX8_digest 97 = .ok (.getfield 141, 3) := by decide +kernel
theorem dX8_digest_100 : decode cX8_digest 100 = .ok (.if_icmp .ge 42, 3) := by decide +kernel
theorem dX8_digest_103 : decode cX8_digest 103 = .ok (.aload_n 0, 1) := by decide +kernel
theorem dX8_digest_104 : decode cX8_digest 104 = .ok (.aload_n 0, 1) := by decide +kernel
theorem dX8_digest_105 : decode cX8_digest 105 = .ok (.getfield 66, 3) := by decide +kernel
theorem dX8_digest_108 : decode cX8_digest 108 = .ok (.iload_n 1, 1) := by decide +kernel
theorem dX8_digest_109 : decode cX8_digest 109 = .ok (.iaload, 1) := by decide +kernel
theorem dX8_digest_110 : decode cX8_digest 110 = .ok (.i2l, 1) := by decide +kernel
theorem dX8_digest_111 : decode cX8_digest 111 = .ok (.invokevirtual 215, 3) := by decide +kernel
theorem dX8_digest_114 : decode cX8_digest 114 = .ok (.aload_n 0, 1) := by decide +kernel
theorem dX8_digest_115 : decode cX8_digest 115 = .ok (.aload_n 0, 1) := by decide +kernel
theorem dX8_digest_116 : decode cX8_digest 116 = .ok (.getfield 72, 3) := by decide +kernel
theorem dX8_digest_119 : decode cX8_digest 119 = .ok (.iload_n 1, 1) := by decide +kernel
theorem dX8_digest_120 : decode cX8_digest 120 = .ok (.iaload, 1) := by decide +kernel
theorem dX8_digest_121 : decode cX8_digest 121 = .ok (.i2l, 1) := by decide +kernel
theorem dX8_digest_122 : decode cX8_digest 122 = .ok (.invokevirtual 215, 3) := by decide +kernel
theorem dX8_digest_125 : decode cX8_digest 125 = .ok (.aload_n 0, 1) := by decide +kernel
theorem dX8_digest_126 : decode cX8_digest 126 = .ok (.aload_n 0, 1) := by decide +kernel
theorem dX8_digest_127 : decode cX8_digest 127 = .ok (.getfield 75, 3) := by decide +kernel
theorem dX8_digest_130 : decode cX8_digest 130 = .ok (.iload_n 1, 1) := by decide +kernel
theorem dX8_digest_131 : decode cX8_digest 131 = .ok (.iaload, 1) := by decide +kernel
theorem dX8_digest_132 : decode cX8_digest 132 = .ok (.i2l, 1) := by decide +kernel
theorem dX8_digest_133 : decode cX8_digest 133 = .ok (.invokevirtual 215, 3) := by decide +kernel
theorem dX8_digest_136 : decode cX8_digest 136 = .ok (.iinc 1 1, 3) := by decide +kernel
theorem dX8_digest_139 : decode cX8_digest 139 = .ok (.goto (-44), 3) := by decide +kernel
theorem dX8_digest_142 : decode cX8_digest 142 = .ok (.iconst 0, 1) := by decide +kernel
theorem dX8_digest_143 : decode cX8_digest 143 = .ok (.istore_n 1, 1) := by decide +kernel
theorem dX8_digest_144 : decode cX8_digest 144 = .ok (.iload_n 1, 1) := by decide +kernel
theorem dX8_digest_145 : decode cX8_digest 145 = .ok (.aload_n 0, 1) := by decide +kernel
theorem dX8_digest_146 : decode cX8_digest 146 = .ok (.getfield 144, 3) := by decide +kernel
theorem dX8_digest_149 : decode cX8_digest 149 = .ok (.if_icmp .ge 20, 3) := by decide +kernel
theorem dX8_digest_152 : decode cX8_digest 152 = .ok (.aload_n 0, 1) := by decide +kernel
theorem dX8_digest_153 : decode cX8_digest 153 = .ok (.aload_n 0, 1) := by decide +kernel
theorem dX8_digest_154 : decode cX8_digest 154 = .ok (.getfield 78, 3) := by decide +kernel
theorem dX8_digest_157 : decode cX8_digest 157 = .ok (.iload_n 1, 1) := by decide +kernel
theorem dX8_digest_158 : decode cX8_digest 158 = .ok (.iaload, 1) := by decide +kernel
theorem dX8_digest_159 : decode cX8_digest 159 = .ok (.i2l, 1) := by decide +kernel
theorem dX8_digest_160 : decode cX8_digest 160 = .ok (.invokevirtual 215, 3) := by decide +kernel
theorem dX8_digest_163 : decode cX8_digest 163 = .ok (.iinc 1 1, 3) := by decide +kernel
theorem dX8_digest_166 : decode cX8_digest 166 = .ok (.goto (-22), 3) := by decide +kernel
theorem dX8_digest_169 : decode cX8_digest 169 = .ok (.aload_n 0, 1) := by decide +kernel
theorem dX8_digest_170 : decode cX8_digest 170 = .ok (.aload_n 0, 1) := by decide +kernel
theorem dX8_digest_171 : decode cX8_digest 171 = .ok (.invokevirtual 219, 3) := by decide +kernel
theorem dX8_digest_174 : decode cX8_digest 174 = .ok (.i2l, 1) := by decide +kernel
theorem dX8_digest_175 : decode cX8_digest 175 = .ok (.invokevirtual 215, 3) := by decide +kernel
theorem dX8_digest_178 : decode cX8_digest 178 = .ok (.aload_n 0, 1) := by decide +kernel
theorem dX8_digest_179 : decode cX8_digest 179 = .ok (.aload_n 0, 1) := by decide +kernel
theorem dX8_digest_180 : decode cX8_digest 180 = .ok (.getfield 41, 3) := by decide +kernel
theorem dX8_digest_183 : decode cX8_digest 183 = .ok (.i2l, 1) := by decide +kernel
theorem dX8_digest_184 : decode cX8_digest 184 = .ok (.invokevirtual 215, 3) := by decide +kernel
theorem dX8_digest_187 : decode cX8_digest 187 = .ok (.aload_n 0, 1) := by decide +kernel
theorem dX8_digest_188 : decode cX8_digest 188 = .ok (.aload_n 0, 1) := by decide +kernel
theorem dX8_digest_189 : decode cX8_digest 189 = .ok (.getfield 138, 3) := by decide +kernel
theorem dX8_digest_192 : decode cX8_digest 192 = .ok (.i2l, 1) := by decide +kernel
theorem dX8_digest_193 : decode cX8_digest 193 = .ok (.invokevirtual 215, 3) := by decide +kernel
theorem dX8_digest_196 : decode cX8_digest 196 = .ok (.iconst 0, 1) := by decide +kernel
theorem dX8_digest_197 : decode cX8_digest 197 = .ok (.istore_n 1, 1) := by decide +kernel
theorem dX8_digest_198 : decode cX8_digest 198 = .ok (.iload_n 1, 1) := by decide +kernel
theorem dX8_digest_199 : decode cX8_digest 199 = .ok (.aload_n 0, 1) := by decide +kernel
theorem dX8_digest_200 : decode cX8_digest 200 = .ok (.getfield 106, 3) := by decide +kernel
theorem dX8_digest_203 : decode cX8_digest 203 = .ok (.if_icmp .ge 20, 3) := by decide +kernel
theorem dX8_digest_206 : decode cX8_digest 206 = .ok (.aload_n 0, 1) := by decide +kernel
theorem dX8_digest_207 : decode cX8_digest 207 = .ok (.aload_n 0, 1) := by decide +kernel
theorem dX8_digest_208 : decode cX8_digest 208 = .ok (.getfield 7, 3) := by decide +kernel
theorem dX8_digest_211 : decode cX8_digest 211 = .ok (.iload_n 1, 1) := by decide +kernel
theorem dX8_digest_212 : decode cX8_digest 212 = .ok (.iaload, 1) := by decide +kernel
theorem dX8_digest_213 : decode cX8_digest 213 = .ok (.i2l, 1) := by decide +kernel
theorem dX8_digest_214 : decode cX8_digest 214 = .ok (.invokevirtual 215, 3) := by decide +kernel
theorem dX8_digest_217 : decode cX8_digest 217 = .ok (.iinc 1 1, 3) := by decide +kernel
theorem dX8_digest_220 : decode cX8_digest 220 = .ok (.goto (-22), 3) := by decide +kernel
theorem dX8_digest_223 : decode cX8_digest 223 = .ok (.aload_n 0, 1) := by decide +kernel
theorem dX8_digest_224 : decode cX8_digest 224 = .ok (.aload_n 0, 1) := by decide +kernel
theorem dX8_digest_225 : decode cX8_digest 225 = .ok (.getfield 106, 3) := by decide +kernel
theorem dX8_digest_228 : decode cX8_digest 228 = .ok (.i2l, 1) := by decide +kernel
theorem dX8_digest_229 : decode cX8_digest 229 = .ok (.invokevirtual 215, 3) := by decide +kernel
theorem dX8_digest_232 : decode cX8_digest 232 = .ok (.aload_n 0, 1) := by decide +kernel
theorem dX8_digest_233 : decode cX8_digest 233 = .ok (.getfield 209, 3) := by decide +kernel
theorem dX8_digest_236 : decode cX8_digest 236 = .ok (.lreturn, 1) := by decide +kernel
theorem dJ9_max_7cf53_0 : decode cJ9_max_7cf53 0 = .ok (.iload_n 0, 1) := by decide +kernel
theorem dJ9_max_7cf53_1 : decode cJ9_max_7cf53 1 = .ok (.iload_n 1, 1) := by decide +kernel
theorem dJ9_max_7cf53_2 : decode cJ9_max_7cf53 2 = .ok (.if_icmp .lt 7, 3) := by decide +kernel
theorem dJ9_max_7cf53_5 : decode cJ9_max_7cf53 5 = .ok (.iload_n 0, 1) := by decide +kernel
theorem dJ9_max_7cf53_6 : decode cJ9_max_7cf53 6 = .ok (.goto 4, 3) := by decide +kernel
theorem dJ9_max_7cf53_9 : decode cJ9_max_7cf53 9 = .ok (.iload_n 1, 1) := by decide +kernel
theorem dJ9_max_7cf53_10 : decode cJ9_max_7cf53 10 = .ok (.ireturn, 1) := by decide +kernel
theorem dJ9_min_7cf53_0 : decode cJ9_min_7cf53 0 = .ok (.iload_n 0, 1) := by decide +kernel
theorem dJ9_min_7cf53_1 : decode cJ9_min_7cf53 1 = .ok (.iload_n 1, 1) := by decide +kernel
theorem dJ9_min_7cf53_2 : decode cJ9_min_7cf53 2 = .ok (.if_icmp .gt 7, 3) := by decide +kernel
theorem dJ9_min_7cf53_5 : decode cJ9_min_7cf53 5 = .ok (.iload_n 0, 1) := by decide +kernel
theorem dJ9_min_7cf53_6 : decode cJ9_min_7cf53 6 = .ok (.goto 4, 3) := by decide +kernel
theorem dJ9_min_7cf53_9 : decode cJ9_min_7cf53 9 = .ok (.iload_n 1, 1) := by decide +kernel
theorem dJ9_min_7cf53_10 : decode cJ9_min_7cf53 10 = .ok (.ireturn, 1) := by decide +kernel
theorem dJ7_fill_53178_0 : decode cJ7_fill_53178 0 = .ok (.iconst 0, 1) := by decide +kernel
theorem dJ7_fill_53178_1 : decode cJ7_fill_53178 1 = .ok (.istore_n 2, 1) := by decide +kernel
theorem dJ7_fill_53178_2 : decode cJ7_fill_53178 2 = .ok (.aload_n 0, 1) := by decide +kernel
theorem dJ7_fill_53178_3 : decode cJ7_fill_53178 3 = .ok (.arraylength, 1) := by decide +kernel
theorem dJ7_fill_53178_4 : decode cJ7_fill_53178 4 = .ok (.istore_n 3, 1) := by decide +kernel
theorem dJ7_fill_53178_5 : decode cJ7_fill_53178 5 = .ok (.iload_n 2, 1) := by decide +kernel
theorem dJ7_fill_53178_6 : decode cJ7_fill_53178 6 = .ok (.iload_n 3, 1) := by decide +kernel
theorem dJ7_fill_53178_7 : decode cJ7_fill_53178 7 = .ok (.if_icmp .ge 13, 3) := by decide +kernel
theorem dJ7_fill_53178_10 : decode cJ7_fill_53178 10 = .ok (.aload_n 0, 1) := by decide +kernel
theorem dJ7_fill_53178_11 : decode cJ7_fill_53178 11 = .ok (.iload_n 2, 1) := by decide +kernel
theorem dJ7_fill_53178_12 : decode cJ7_fill_53178 12 = .ok (.iload_n 1, 1) := by decide +kernel
theorem dJ7_fill_53178_13 : decode cJ7_fill_53178 13 = .ok (.iastore, 1) := by decide +kernel
theorem dJ7_fill_53178_14 : decode cJ7_fill_53178 14 = .ok (.iinc 2 1, 3) := by decide +kernel
theorem dJ7_fill_53178_17 : decode cJ7_fill_53178 17 = .ok (.goto (-12), 3) := by decide +kernel
theorem dJ7_fill_53178_20 : decode cJ7_fill_53178 20 = .ok (.return_, 1) := by decide +kernel
set_option maxRecDepth 20000 in
theorem ggL_law_X7_init : GoodIn wsL_law wsX7_init := goodIn_r _ [8, 9, 10, 11, 12, 13, 14, 15, 16, 17, 18, 19, 20, 21, 22, 23, 24, 25, 26, 27, 28, 29, 30, 31, 32, 33, 34, 35, 36, 37, 38, 39, 40, 41, 42, 43, 44, 45, 46, 47, 48, 49, 50, 51, 52, 53, 54, 55, 56, 57, 58, 59, 60, 61, 62, 63, 64, 65, 66, 67, 68, 69, 70, 71, 72, 73, 74, 75, 76, 77, 78, 79, 80, 81, 82, 83, 84, 85, 86, 87, 88, 89, 90, 91, 92, 93, 94, 95, 96, 97, 98, 99, 100, 731, 732, 733, 734, 735, 736, 737, 738, 680, 681, 682, 683, 684, 685, 686, 687, 688, 739, 740, 741, 742, 743, 744, 745, 746, 747, 748, 749, 750, 751, 752, 753, 754, 755, 756, 757, 758, 759, 760, 761, 762, 763] (by decide +kernel) (by decide +kernel)
set_option maxRecDepth 20000 in
theorem gL_law_X7_init : GoodIn wsL_law (wsX7_init) := ggL_law_X7_init
set_option maxRecDepth 20000 in
theorem ggL_law_X8_init : GoodIn wsL_law wsX8_init := goodIn_r _ [103, 104, 10, 11, 39, 105, 106, 107, 108, 109, 63, 110, 111, 112, 113, 114, 115, 116, 117, 118, 119, 120, 121, 122, 123, 124, 125, 126, 127, 128, 129, 130, 131, 132, 133, 134, 689, 690, 691, 692, 693, 694, 695, 696, 697, 698, 699, 700, 701, 702, 703, 704, 705, 706, 707, 708, 709, 710, 711, 712, 713, 714, 715, 716, 717, 718, 719, 720, 721, 722, 723, 724, 725, 726, 727, 728, 729, 730] (by decide +kernel) (by decide +kernel)
set_option maxRecDepth 20000 in
theorem gL_law_X8_init : GoodIn wsL_law (wsX8_init) := ggL_law_X8_init
set_option maxRecDepth 20000 in
theorem ggL_law_X7_append : GoodIn wsL_law wsX7_append := goodIn_r _ [138, 15, 139, 140, 141, 14, 142, 41, 40, 680, 681, 682, 683, 684, 685, 686, 687, 688, 731, 732, 733, 734, 735, 736, 737, 738] (by decide +kernel) (by decide +kernel)
set_option maxRecDepth 20000 in
theorem gL_law_X7_append : GoodIn wsL_law (wsV RL 13 RX7 yX7_append wsX7_append) := goodIn_app (goodIn_of _ (by decide +kernel)) ggL_law_X7_append
set_option maxRecDepth 20000 in
theorem ggL_law_X8_append : GoodIn wsL_law wsX8_append := goodIn_r _ [146, 147, 105, 148, 149, 5, 150, 689, 690, 691, 692, 693, 694, 695, 696, 697, 698, 699, 700, 701, 702, 703, 704, 705, 706, 707, 708, 709, 710, 711, 712, 713, 714, 715, 716, 717, 718, 719, 720, 721, 722, 723, 724, 725, 726, 727, 728, 729, 730] (by decide +kernel) (by decide +kernel)
set_option maxRecDepth 20000 in
theorem gL_law_X8_append : GoodIn wsL_law (wsV RL 17 RX8 yX8_append wsX8_append) := goodIn_app (goodIn_of _ (by decide +kernel)) ggL_law_X8_append
set_option maxRecDepth 20000 in
theorem ggL_law_X7_clearBuffer : GoodIn wsL_law wsX7_clearBuffer := goodIn_r _ [154, 15, 155, 680, 681, 682, 683, 684, 685, 686, 687, 688, 731, 732, 733, 734, 735, 736, 737, 738] (by decide +kernel) (by decide +kernel)
set_option maxRecDepth 20000 in
theorem gL_law_X7_clearBuffer : GoodIn wsL_law (wsV RL 18 RX7 yX7_clearBuffer wsX7_clearBuffer) := goodIn_app (goodIn_of _ (by decide +kernel)) ggL_law_X7_clearBuffer
set_option maxRecDepth 20000 in
theorem ggL_law_X8_clearBuffer : GoodIn wsL_law wsX8_clearBuffer := goodIn_r _ [159, 147, 689, 690, 691, 692, 693, 694, 695, 696, 697, 698, 699, 700, 701, 702, 703, 704, 705, 706, 707, 708, 709, 710, 711, 712, 713, 714, 715, 716, 717, 718, 719, 720, 721, 722, 723, 724, 725, 726, 727, 728, 729, 730] (by decide +kernel) (by decide +kernel)
set_option maxRecDepth 20000 in
theorem gL_law_X8_clearBuffer : GoodIn wsL_law (wsV RL 22 RX8 yX8_clearBuffer wsX8_clearBuffer) := goodIn_app (goodIn_of _ (by decide +kernel)) ggL_law_X8_clearBuffer
set_option maxRecDepth 20000 in
theorem ggL_law_X7_errorPosition : GoodIn wsL_law wsX7_errorPosition := goodIn_r _ [163, 15, 164, 165, 166, 14, 167, 45, 47, 48, 41, 40, 168, 169, 170, 44, 171, 55, 56, 172, 173, 174, 175, 176, 177, 178, 179, 180, 181, 182, 183, 46, 184, 185, 186, 187, 188, 189, 190, 191, 49, 192, 193, 194, 195, 50, 196, 197, 198, 199, 200, 201, 202, 203, 204, 205, 206, 207, 208, 209, 210, 211, 212, 213, 214, 215, 680, 681, 682, 683, 684, 685, 686, 687, 688, 731, 732, 733, 734, 735, 736, 737, 738, 755, 756] (by decide +kernel) (by decide +kernel)
set_option maxRecDepth 20000 in
theorem gL_law_X7_errorPosition : GoodIn wsL_law (wsV RL 23 RX7 yX7_errorPosition wsX7_errorPosition) := goodIn_app (goodIn_of _ (by decide +kernel)) ggL_law_X7_errorPosition
set_option maxRecDepth 20000 in
theorem ggL_law_X8_errorPosition : GoodIn wsL_law wsX8_errorPosition := goodIn_r _ [219, 220, 221, 222, 223, 5, 224, 225, 226, 147, 105, 128, 129, 130, 131, 227, 148, 149, 150, 228, 229, 230, 231, 689, 690, 691, 692, 693, 694, 695, 696, 697, 698, 699, 700, 701, 702, 703, 704, 705, 706, 707, 708, 709, 710, 711, 712, 713, 714, 715, 716, 717, 718, 719, 720, 721, 722, 723, 724, 725, 726, 727, 728, 729, 730] (by decide +kernel) (by decide +kernel)
set_option maxRecDepth 20000 in
theorem gL_law_X8_errorPosition : GoodIn wsL_law (wsV RL 26 RX8 yX8_errorPosition wsX8_errorPosition) := goodIn_app (goodIn_of _ (by decide +kernel)) ggL_law_X8_errorPosition
set_option maxRecDepth 20000 in
theorem ggL_law_X7_loadNetwork : GoodIn wsL_law wsX7_loadNetwork := goodIn_r _ [235, 15, 19, 236, 237, 155, 23, 27, 238, 31, 239, 34, 35, 240, 241, 242, 243, 14, 244, 41, 48, 245, 165, 166, 167, 45, 47, 40, 168, 169, 170, 44, 171, 55, 56, 172, 173, 174, 175, 176, 177, 178, 179, 180, 181, 182, 183, 46, 184, 185, 186, 187, 188, 189, 190, 191, 49, 192, 193, 194, 195, 50, 196, 197, 198, 199, 200, 201, 202, 203, 204, 205, 206, 207, 208, 209, 210, 211, 212, 213, 214, 215, 246, 247, 248, 18, 249, 61, 62, 64, 65, 66, 250, 251, 252, 253, 254, 255, 256, 257, 258, 259, 260, 22, 261, 72, 73, 74, 262, 680, 681, 682, 683, 684, 685, 686, 687, 688, 731, 732, 733, 734, 735, 736, 737, 738, 751, 752, 753, 754, 739, 740, 741, 742, 743, 744, 755, 756, 745, 746, 747, 748, 749, 750] (by decide +kernel) (by decide +kernel)
set_option maxRecDepth 20000 in
theorem gL_law_X7_loadNetwork : GoodIn wsL_law (wsV RL 27 RX7 yX7_loadNetwork wsX7_loadNetwork) := goodIn_app (goodIn_of _ (by decide +kernel)) ggL_law_X7_loadNetwork
set_option maxRecDepth 20000 in
theorem ggL_law_X8_loadNetwork : GoodIn wsL_law wsX8_loadNetwork := goodIn_r _ [266, 227, 225, 267, 226, 268, 106, 128, 107, 129, 108, 130, 109, 131, 110, 113, 114, 115, 269, 270, 271, 147, 221, 222, 223, 5, 224, 220, 105, 148, 149, 150, 228, 229, 230, 231, 272, 273, 274, 275, 111, 112, 276, 689, 690, 691, 692, 693, 694, 695, 696, 697, 698, 699, 700, 701, 702, 703, 704, 705, 706, 707, 708, 709, 710, 711, 712, 713, 714, 715, 716, 717, 718, 719, 720, 721, 722, 723, 724, 725, 726, 727, 728, 729, 730] (by decide +kernel) (by decide +kernel)
set_option maxRecDepth 20000 in
theorem gL_law_X8_loadNetwork : GoodIn wsL_law (wsV RL 30 RX8 yX8_loadNetwork wsX8_loadNetwork) := goodIn_app (goodIn_of _ (by decide +kernel)) ggL_law_X8_loadNetwork
set_option maxRecDepth 20000 in
theorem ggL_law_X7_setTransmissionLimit : GoodIn wsL_law wsX7_setTransmissionLimit := goodIn_r _ [280, 23, 281, 680, 681, 682, 683, 684, 685, 686, 687, 688, 745, 746, 747, 748, 749, 750] (by decide +kernel) (by decide +kernel)
set_option maxRecDepth 20000 in
theorem gL_law_X7_setTransmissionLimit : GoodIn wsL_law (wsV RL 31 RX7 yX7_setTransmissionLimit wsX7_setTransmissionLimit) := goodIn_app (goodIn_of _ (by decide +kernel)) ggL_law_X7_setTransmissionLimit
set_option maxRecDepth 20000 in
theorem ggL_law_X8_setTransmissionLimit : GoodIn wsL_law wsX8_setTransmissionLimit := goodIn_r _ [285, 116, 148, 149, 5, 150, 689, 690, 691, 692, 693, 694, 695, 696, 697, 698, 699, 700, 701, 702, 703, 704, 705, 706, 707, 708, 709, 710, 711, 712, 713, 714, 715, 716, 717, 718, 719, 720, 721, 722, 723, 724, 725, 726, 727, 728, 729, 730] (by decide +kernel) (by decide +kernel)
set_option maxRecDepth 20000 in
theorem gL_law_X8_setTransmissionLimit : GoodIn wsL_law (wsV RL 34 RX8 yX8_setTransmissionLimit wsX8_setTransmissionLimit) := goodIn_app (goodIn_of _ (by decide +kernel)) ggL_law_X8_setTransmissionLimit
set_option maxRecDepth 20000 in
theorem ggL_law_X7_setCaptureMargin : GoodIn wsL_law wsX7_setCaptureMargin := goodIn_r _ [289, 23, 290, 680, 681, 682, 683, 684, 685, 686, 687, 688, 745, 746, 747, 748, 749, 750] (by decide +kernel) (by decide +kernel)
set_option maxRecDepth 20000 in
theorem gL_law_X7_setCaptureMargin : GoodIn wsL_law (wsV RL 35 RX7 yX7_setCaptureMargin wsX7_setCaptureMargin) := goodIn_app (goodIn_of _ (by decide +kernel)) ggL_law_X7_setCaptureMargin
set_option maxRecDepth 20000 in
theorem ggL_law_X8_setCaptureMargin : GoodIn wsL_law wsX8_setCaptureMargin := goodIn_r _ [294, 117, 148, 149, 5, 150, 689, 690, 691, 692, 693, 694, 695, 696, 697, 698, 699, 700, 701, 702, 703, 704, 705, 706, 707, 708, 709, 710, 711, 712, 713, 714, 715, 716, 717, 718, 719, 720, 721, 722, 723, 724, 725, 726, 727, 728, 729, 730] (by decide +kernel) (by decide +kernel)
set_option maxRecDepth 20000 in
theorem gL_law_X8_setCaptureMargin : GoodIn wsL_law (wsV RL 38 RX8 yX8_setCaptureMargin wsX8_setCaptureMargin) := goodIn_app (goodIn_of _ (by decide +kernel)) ggL_law_X8_setCaptureMargin
set_option maxRecDepth 20000 in
theorem ggL_law_X7_setSlotLimit : GoodIn wsL_law wsX7_setSlotLimit := goodIn_r _ [298, 32, 680, 681, 682, 683, 684, 685, 686, 687, 688] (by decide +kernel) (by decide +kernel)
set_option maxRecDepth 20000 in
theorem gL_law_X7_setSlotLimit : GoodIn wsL_law (wsV RL 39 RX7 yX7_setSlotLimit wsX7_setSlotLimit) := goodIn_app (goodIn_of _ (by decide +kernel)) ggL_law_X7_setSlotLimit
set_option maxRecDepth 20000 in
theorem ggL_law_X8_setSlotLimit : GoodIn wsL_law wsX8_setSlotLimit := goodIn_r _ [302, 118, 148, 149, 5, 150, 689, 690, 691, 692, 693, 694, 695, 696, 697, 698, 699, 700, 701, 702, 703, 704, 705, 706, 707, 708, 709, 710, 711, 712, 713, 714, 715, 716, 717, 718, 719, 720, 721, 722, 723, 724, 725, 726, 727, 728, 729, 730] (by decide +kernel) (by decide +kernel)
set_option maxRecDepth 20000 in
theorem gL_law_X8_setSlotLimit : GoodIn wsL_law (wsV RL 42 RX8 yX8_setSlotLimit wsX8_setSlotLimit) := goodIn_app (goodIn_of _ (by decide +kernel)) ggL_law_X8_setSlotLimit
set_option maxRecDepth 20000 in
theorem ggL_law_X7_setTakeoverLimit : GoodIn wsL_law wsX7_setTakeoverLimit := goodIn_r _ [306, 33, 680, 681, 682, 683, 684, 685, 686, 687, 688] (by decide +kernel) (by decide +kernel)
set_option maxRecDepth 20000 in
theorem gL_law_X7_setTakeoverLimit : GoodIn wsL_law (wsV RL 43 RX7 yX7_setTakeoverLimit wsX7_setTakeoverLimit) := goodIn_app (goodIn_of _ (by decide +kernel)) ggL_law_X7_setTakeoverLimit
set_option maxRecDepth 20000 in
theorem ggL_law_X8_setTakeoverLimit : GoodIn wsL_law wsX8_setTakeoverLimit := goodIn_r _ [310, 119, 148, 149, 5, 150, 689, 690, 691, 692, 693, 694, 695, 696, 697, 698, 699, 700, 701, 702, 703, 704, 705, 706, 707, 708, 709, 710, 711, 712, 713, 714, 715, 716, 717, 718, 719, 720, 721, 722, 723, 724, 725, 726, 727, 728, 729, 730] (by decide +kernel) (by decide +kernel)
set_option maxRecDepth 20000 in
theorem gL_law_X8_setTakeoverLimit : GoodIn wsL_law (wsV RL 46 RX8 yX8_setTakeoverLimit wsX8_setTakeoverLimit) := goodIn_app (goodIn_of _ (by decide +kernel)) ggL_law_X8_setTakeoverLimit
set_option maxRecDepth 20000 in
theorem ggL_law_X7_setAlive : GoodIn wsL_law wsX7_setAlive := goodIn_r _ [314, 19, 315, 316, 317, 318, 319, 18, 320, 62, 680, 681, 682, 683, 684, 685, 686, 687, 688, 739, 740, 741, 742, 743, 744] (by decide +kernel) (by decide +kernel)
set_option maxRecDepth 20000 in
theorem gL_law_X7_setAlive : GoodIn wsL_law (wsV RL 47 RX7 yX7_setAlive wsX7_setAlive) := goodIn_app (goodIn_of _ (by decide +kernel)) ggL_law_X7_setAlive
set_option maxRecDepth 20000 in
theorem ggL_law_X8_setAlive : GoodIn wsL_law wsX8_setAlive := goodIn_r _ [324, 110, 114, 325, 326, 327, 5, 328, 267, 148, 149, 150, 689, 690, 691, 692, 693, 694, 695, 696, 697, 698, 699, 700, 701, 702, 703, 704, 705, 706, 707, 708, 709, 710, 711, 712, 713, 714, 715, 716, 717, 718, 719, 720, 721, 722, 723, 724, 725, 726, 727, 728, 729, 730] (by decide +kernel) (by decide +kernel)
set_option maxRecDepth 20000 in
theorem gL_law_X8_setAlive : GoodIn wsL_law (wsV RL 51 RX8 yX8_setAlive wsX8_setAlive) := goodIn_app (goodIn_of _ (by decide +kernel)) ggL_law_X8_setAlive
set_option maxRecDepth 20000 in
theorem ggL_law_X7_flood : GoodIn wsL_law wsX7_flood := goodIn_r _ [332, 19, 240, 23, 333, 334, 335, 18, 336, 62, 64, 337, 338, 339, 22, 340, 341, 74, 342, 259, 260, 261, 72, 73, 262, 173, 174, 175, 343, 344, 345, 346, 347, 75, 348, 349, 350, 351, 352, 353, 354, 355, 356, 357, 358, 359, 360, 361, 71, 362, 363, 364, 365, 366, 367, 368, 44, 369, 56, 55, 370, 371, 372, 373, 76, 374, 375, 376, 377, 680, 681, 682, 683, 684, 685, 686, 687, 688, 739, 740, 741, 742, 743, 744, 745, 746, 747, 748, 749, 750, 755, 756] (by decide +kernel) (by decide +kernel)
set_option maxRecDepth 20000 in
theorem gL_law_X7_flood : GoodIn wsL_law (wsV RL 52 RX7 yX7_flood wsX7_flood) := goodIn_app (goodIn_of _ (by decide +kernel)) ggL_law_X7_flood
set_option maxRecDepth 20000 in
theorem ggL_law_X8_flood : GoodIn wsL_law wsX8_flood := goodIn_r _ [381, 267, 110, 382, 383, 384, 5, 385, 111, 112, 133, 113, 276, 272, 273, 274, 275, 386, 387, 388, 389, 116, 390, 391, 392, 393, 132, 268, 106, 107, 109, 108, 117, 394, 395, 396, 397, 398, 399, 400, 401, 689, 690, 691, 692, 693, 694, 695, 696, 697, 698, 699, 700, 701, 702, 703, 704, 705, 706, 707, 708, 709, 710, 711, 712, 713, 714, 715, 716, 717, 718, 719, 720, 721, 722, 723, 724, 725, 726, 727, 728, 729, 730] (by decide +kernel) (by decide +kernel)
set_option maxRecDepth 20000 in
theorem gL_law_X8_flood : GoodIn wsL_law (wsV RL 55 RX8 yX8_flood wsX8_flood) := goodIn_app (goodIn_of _ (by decide +kernel)) ggL_law_X8_flood
set_option maxRecDepth 20000 in
theorem ggL_law_X7_packetAt : GoodIn wsL_law wsX7_packetAt := goodIn_r _ [405, 19, 23, 406, 317, 318, 319, 18, 320, 62, 680, 681, 682, 683, 684, 685, 686, 687, 688, 745, 746, 747, 748, 749, 750, 739, 740, 741, 742, 743, 744] (by decide +kernel) (by decide +kernel)
set_option maxRecDepth 20000 in
theorem gL_law_X7_packetAt : GoodIn wsL_law (wsV RL 56 RX7 yX7_packetAt wsX7_packetAt) := goodIn_app (goodIn_of _ (by decide +kernel)) ggL_law_X7_packetAt
set_option maxRecDepth 20000 in
theorem ggL_law_X8_packetAt : GoodIn wsL_law wsX8_packetAt := goodIn_r _ [410, 111, 325, 326, 327, 5, 328, 267, 148, 149, 150, 689, 690, 691, 692, 693, 694, 695, 696, 697, 698, 699, 700, 701, 702, 703, 704, 705, 706, 707, 708, 709, 710, 711, 712, 713, 714, 715, 716, 717, 718, 719, 720, 721, 722, 723, 724, 725, 726, 727, 728, 729, 730] (by decide +kernel) (by decide +kernel)
set_option maxRecDepth 20000 in
theorem gL_law_X8_packetAt : GoodIn wsL_law (wsV RL 59 RX8 yX8_packetAt wsX8_packetAt) := goodIn_app (goodIn_of _ (by decide +kernel)) ggL_law_X8_packetAt
set_option maxRecDepth 20000 in
theorem ggL_law_X7_hopCount : GoodIn wsL_law wsX7_hopCount := goodIn_r _ [414, 19, 23, 415, 317, 318, 319, 18, 320, 62, 680, 681, 682, 683, 684, 685, 686, 687, 688, 745, 746, 747, 748, 749, 750, 739, 740, 741, 742, 743, 744] (by decide +kernel) (by decide +kernel)
set_option maxRecDepth 20000 in
theorem gL_law_X7_hopCount : GoodIn wsL_law (wsV RL 60 RX7 yX7_hopCount wsX7_hopCount) := goodIn_app (goodIn_of _ (by decide +kernel)) ggL_law_X7_hopCount
set_option maxRecDepth 20000 in
theorem ggL_law_X8_hopCount : GoodIn wsL_law wsX8_hopCount := goodIn_r _ [419, 325, 326, 327, 5, 328, 267, 148, 149, 150, 420, 421, 422, 423, 112, 689, 690, 691, 692, 693, 694, 695, 696, 697, 698, 699, 700, 701, 702, 703, 704, 705, 706, 707, 708, 709, 710, 711, 712, 713, 714, 715, 716, 717, 718, 719, 720, 721, 722, 723, 724, 725, 726, 727, 728, 729, 730] (by decide +kernel) (by decide +kernel)
set_option maxRecDepth 20000 in
theorem gL_law_X8_hopCount : GoodIn wsL_law (wsV RL 63 RX8 yX8_hopCount wsX8_hopCount) := goodIn_app (goodIn_of _ (by decide +kernel)) ggL_law_X8_hopCount
set_option maxRecDepth 20000 in
theorem ggL_law_X7_floodLength : GoodIn wsL_law wsX7_floodLength := goodIn_r _ [427, 23, 428, 680, 681, 682, 683, 684, 685, 686, 687, 688, 745, 746, 747, 748, 749, 750] (by decide +kernel) (by decide +kernel)
set_option maxRecDepth 20000 in
theorem gL_law_X7_floodLength : GoodIn wsL_law (wsV RL 64 RX7 yX7_floodLength wsX7_floodLength) := goodIn_app (goodIn_of _ (by decide +kernel)) ggL_law_X7_floodLength
set_option maxRecDepth 20000 in
theorem ggL_law_X8_floodLength : GoodIn wsL_law wsX8_floodLength := goodIn_r _ [432, 276, 689, 690, 691, 692, 693, 694, 695, 696, 697, 698, 699, 700, 701, 702, 703, 704, 705, 706, 707, 708, 709, 710, 711, 712, 713, 714, 715, 716, 717, 718, 719, 720, 721, 722, 723, 724, 725, 726, 727, 728, 729, 730] (by decide +kernel) (by decide +kernel)
set_option maxRecDepth 20000 in
theorem gL_law_X8_floodLength : GoodIn wsL_law (wsV RL 67 RX8 yX8_floodLength wsX8_floodLength) := goodIn_app (goodIn_of _ (by decide +kernel)) ggL_law_X8_floodLength
set_option maxRecDepth 20000 in
theorem ggL_law_X7_addStream : GoodIn wsL_law wsX7_addStream := goodIn_r _ [436, 19, 27, 317, 318, 319, 18, 320, 62, 437, 438, 439, 26, 440, 83, 82, 441, 442, 443, 85, 444, 90, 91, 92, 93, 94, 95, 680, 681, 682, 683, 684, 685, 686, 687, 688, 739, 740, 741, 742, 743, 744, 751, 752, 757, 758, 759, 760, 761, 762, 763] (by decide +kernel) (by decide +kernel)
set_option maxRecDepth 20000 in
theorem gL_law_X7_addStream : GoodIn wsL_law (wsV RL 68 RX7 yX7_addStream wsX7_addStream) := goodIn_app (goodIn_of _ (by decide +kernel)) ggL_law_X7_addStream
set_option maxRecDepth 20000 in
theorem ggL_law_X8_addStream : GoodIn wsL_law wsX8_addStream := goodIn_r _ [448, 270, 120, 121, 122, 123, 125, 126, 325, 326, 327, 5, 328, 267, 148, 149, 150, 689, 690, 691, 692, 693, 694, 695, 696, 697, 698, 699, 700, 701, 702, 703, 704, 705, 706, 707, 708, 709, 710, 711, 712, 713, 714, 715, 716, 717, 718, 719, 720, 721, 722, 723, 724, 725, 726, 727, 728, 729, 730] (by decide +kernel) (by decide +kernel)
set_option maxRecDepth 20000 in
theorem gL_law_X8_addStream : GoodIn wsL_law (wsV RL 72 RX8 yX8_addStream wsX8_addStream) := goodIn_app (goodIn_of _ (by decide +kernel)) ggL_law_X8_addStream
set_option maxRecDepth 20000 in
theorem ggL_law_X7_removeStream : GoodIn wsL_law wsX7_removeStream := goodIn_r _ [452, 27, 31, 239, 238, 453, 454, 455, 26, 456, 83, 457, 458, 459, 460, 82, 680, 681, 682, 683, 684, 685, 686, 687, 688, 753, 754, 751, 752] (by decide +kernel) (by decide +kernel)
set_option maxRecDepth 20000 in
theorem gL_law_X7_removeStream : GoodIn wsL_law (wsV RL 73 RX7 yX7_removeStream wsX7_removeStream) := goodIn_app (goodIn_of _ (by decide +kernel)) ggL_law_X7_removeStream
set_option maxRecDepth 20000 in
theorem ggL_law_X8_removeStream : GoodIn wsL_law wsX8_removeStream := goodIn_r _ [464, 270, 120, 121, 122, 123, 125, 126, 124, 271, 465, 466, 467, 5, 468, 148, 149, 150, 689, 690, 691, 692, 693, 694, 695, 696, 697, 698, 699, 700, 701, 702, 703, 704, 705, 706, 707, 708, 709, 710, 711, 712, 713, 714, 715, 716, 717, 718, 719, 720, 721, 722, 723, 724, 725, 726, 727, 728, 729, 730] (by decide +kernel) (by decide +kernel)
set_option maxRecDepth 20000 in
theorem gL_law_X8_removeStream : GoodIn wsL_law (wsV RL 76 RX8 yX8_removeStream wsX8_removeStream) := goodIn_app (goodIn_of _ (by decide +kernel)) ggL_law_X8_removeStream
set_option maxRecDepth 20000 in
theorem ggL_law_X7_waitingPackets : GoodIn wsL_law wsX7_waitingPackets := goodIn_r _ [472, 27, 473, 474, 453, 454, 455, 26, 456, 83, 680, 681, 682, 683, 684, 685, 686, 687, 688, 751, 752, 757, 758, 759, 760, 761, 762, 763] (by decide +kernel) (by decide +kernel)
set_option maxRecDepth 20000 in
theorem gL_law_X7_waitingPackets : GoodIn wsL_law (wsV RL 77 RX7 yX7_waitingPackets wsX7_waitingPackets) := goodIn_app (goodIn_of _ (by decide +kernel)) ggL_law_X7_waitingPackets
set_option maxRecDepth 20000 in
theorem ggL_law_X8_waitingPackets : GoodIn wsL_law wsX8_waitingPackets := goodIn_r _ [478, 123, 465, 466, 467, 5, 468, 270, 148, 149, 150, 689, 690, 691, 692, 693, 694, 695, 696, 697, 698, 699, 700, 701, 702, 703, 704, 705, 706, 707, 708, 709, 710, 711, 712, 713, 714, 715, 716, 717, 718, 719, 720, 721, 722, 723, 724, 725, 726, 727, 728, 729, 730] (by decide +kernel) (by decide +kernel)
set_option maxRecDepth 20000 in
theorem gL_law_X8_waitingPackets : GoodIn wsL_law (wsV RL 80 RX8 yX8_waitingPackets wsX8_waitingPackets) := goodIn_app (goodIn_of _ (by decide +kernel)) ggL_law_X8_waitingPackets
set_option maxRecDepth 20000 in
theorem ggL_law_X7_deliveredPackets : GoodIn wsL_law wsX7_deliveredPackets := goodIn_r _ [482, 27, 473, 483, 453, 454, 455, 26, 456, 83, 680, 681, 682, 683, 684, 685, 686, 687, 688, 751, 752, 757, 758, 759, 760, 761, 762, 763] (by decide +kernel) (by decide +kernel)
set_option maxRecDepth 20000 in
theorem gL_law_X7_deliveredPackets : GoodIn wsL_law (wsV RL 81 RX7 yX7_deliveredPackets wsX7_deliveredPackets) := goodIn_app (goodIn_of _ (by decide +kernel)) ggL_law_X7_deliveredPackets
set_option maxRecDepth 20000 in
theorem ggL_law_X8_deliveredPackets : GoodIn wsL_law wsX8_deliveredPackets := goodIn_r _ [487, 125, 465, 466, 467, 5, 468, 270, 148, 149, 150, 689, 690, 691, 692, 693, 694, 695, 696, 697, 698, 699, 700, 701, 702, 703, 704, 705, 706, 707, 708, 709, 710, 711, 712, 713, 714, 715, 716, 717, 718, 719, 720, 721, 722, 723, 724, 725, 726, 727, 728, 729, 730] (by decide +kernel) (by decide +kernel)
set_option maxRecDepth 20000 in
theorem gL_law_X8_deliveredPackets : GoodIn wsL_law (wsV RL 84 RX8 yX8_deliveredPackets wsX8_deliveredPackets) := goodIn_app (goodIn_of _ (by decide +kernel)) ggL_law_X8_deliveredPackets
set_option maxRecDepth 20000 in
theorem ggL_law_X7_lostPackets : GoodIn wsL_law wsX7_lostPackets := goodIn_r _ [491, 27, 473, 492, 453, 454, 455, 26, 456, 83, 680, 681, 682, 683, 684, 685, 686, 687, 688, 751, 752, 757, 758, 759, 760, 761, 762, 763] (by decide +kernel) (by decide +kernel)
set_option maxRecDepth 20000 in
theorem gL_law_X7_lostPackets : GoodIn wsL_law (wsV RL 85 RX7 yX7_lostPackets wsX7_lostPackets) := goodIn_app (goodIn_of _ (by decide +kernel)) ggL_law_X7_lostPackets
set_option maxRecDepth 20000 in
theorem ggL_law_X8_lostPackets : GoodIn wsL_law wsX8_lostPackets := goodIn_r _ [496, 126, 465, 466, 467, 5, 468, 270, 148, 149, 150, 689, 690, 691, 692, 693, 694, 695, 696, 697, 698, 699, 700, 701, 702, 703, 704, 705, 706, 707, 708, 709, 710, 711, 712, 713, 714, 715, 716, 717, 718, 719, 720, 721, 722, 723, 724, 725, 726, 727, 728, 729, 730] (by decide +kernel) (by decide +kernel)
set_option maxRecDepth 20000 in
theorem gL_law_X8_lostPackets : GoodIn wsL_law (wsV RL 88 RX8 yX8_lostPackets wsX8_lostPackets) := goodIn_app (goodIn_of _ (by decide +kernel)) ggL_law_X8_lostPackets
set_option maxRecDepth 20000 in
theorem ggL_law_X7_runRounds : GoodIn wsL_law wsX7_runRounds := goodIn_r _ [500, 19, 34, 35, 317, 318, 319, 18, 320, 62, 501, 502, 503, 2, 504, 27, 315, 31, 32, 23, 239, 505, 506, 507, 26, 508, 83, 82, 509, 510, 511, 85, 512, 92, 91, 93, 95, 89, 513, 514, 515, 30, 516, 100, 517, 518, 519, 520, 521, 350, 522, 523, 524, 525, 526, 99, 527, 528, 529, 530, 337, 338, 339, 22, 340, 341, 74, 342, 259, 260, 261, 72, 73, 262, 173, 174, 175, 343, 344, 345, 346, 347, 75, 348, 349, 351, 352, 353, 354, 355, 356, 357, 358, 359, 360, 361, 71, 362, 363, 364, 365, 366, 367, 368, 44, 369, 56, 55, 370, 371, 372, 373, 76, 531, 532, 533, 534, 67, 535, 65, 64, 536, 537, 538, 539, 473, 540, 541, 542, 406, 483, 492, 543, 544, 545, 546, 547, 548, 549, 550, 551, 552, 553, 554, 240, 316, 33, 680, 681, 682, 683, 684, 685, 686, 687, 688, 739, 740, 741, 742, 743, 744, 753, 754, 751, 752, 757, 758, 759, 760, 761, 762, 763, 745, 746, 747, 748, 749, 750, 755, 756] (by decide +kernel) (by decide +kernel)
set_option maxRecDepth 20000 in
theorem gL_law_X7_runRounds : GoodIn wsL_law (wsV RL 89 RX7 yX7_runRounds wsX7_runRounds) := goodIn_app (goodIn_of _ (by decide +kernel)) ggL_law_X7_runRounds
set_option maxRecDepth 20000 in
theorem ggL_law_X8_runRounds : GoodIn wsL_law wsX8_runRounds := goodIn_r _ [558, 267, 269, 148, 149, 5, 150, 559, 560, 561, 562, 271, 127, 563, 564, 565, 566, 270, 122, 121, 123, 126, 124, 567, 568, 569, 570, 110, 115, 134, 111, 114, 571, 572, 573, 574, 118, 575, 576, 577, 578, 382, 383, 384, 385, 112, 133, 113, 276, 272, 273, 274, 275, 386, 387, 388, 389, 116, 390, 391, 392, 393, 132, 268, 106, 107, 109, 108, 117, 394, 395, 396, 397, 398, 399, 400, 401, 579, 580, 581, 582, 120, 125, 583, 584, 585, 586, 587, 588, 589, 590, 119, 689, 690, 691, 692, 693, 694, 695, 696, 697, 698, 699, 700, 701, 702, 703, 704, 705, 706, 707, 708, 709, 710, 711, 712, 713, 714, 715, 716, 717, 718, 719, 720, 721, 722, 723, 724, 725, 726, 727, 728, 729, 730] (by decide +kernel) (by decide +kernel)
set_option maxRecDepth 20000 in
theorem gL_law_X8_runRounds : GoodIn wsL_law (wsV RL 92 RX8 yX8_runRounds wsX8_runRounds) := goodIn_app (goodIn_of _ (by decide +kernel)) ggL_law_X8_runRounds
set_option maxRecDepth 20000 in
theorem ggL_law_X7_scheduledStream : GoodIn wsL_law wsX7_scheduledStream := goodIn_r _ [594, 31, 239, 540, 680, 681, 682, 683, 684, 685, 686, 687, 688, 753, 754] (by decide +kernel) (by decide +kernel)
set_option maxRecDepth 20000 in
theorem gL_law_X7_scheduledStream : GoodIn wsL_law (wsV RL 93 RX7 yX7_scheduledStream wsX7_scheduledStream) := goodIn_app (goodIn_of _ (by decide +kernel)) ggL_law_X7_scheduledStream
set_option maxRecDepth 20000 in
theorem ggL_law_X8_scheduledStream : GoodIn wsL_law wsX8_scheduledStream := goodIn_r _ [598, 271, 127, 148, 149, 5, 150, 689, 690, 691, 692, 693, 694, 695, 696, 697, 698, 699, 700, 701, 702, 703, 704, 705, 706, 707, 708, 709, 710, 711, 712, 713, 714, 715, 716, 717, 718, 719, 720, 721, 722, 723, 724, 725, 726, 727, 728, 729, 730] (by decide +kernel) (by decide +kernel)
set_option maxRecDepth 20000 in
theorem gL_law_X8_scheduledStream : GoodIn wsL_law (wsV RL 96 RX8 yX8_scheduledStream wsX8_scheduledStream) := goodIn_app (goodIn_of _ (by decide +kernel)) ggL_law_X8_scheduledStream
set_option maxRecDepth 20000 in
theorem ggL_law_X7_scheduleBits : GoodIn wsL_law wsX7_scheduleBits := goodIn_r _ [602, 31, 27, 603, 604, 605, 30, 606, 100, 520, 521, 350, 522, 607, 608, 609, 610, 518, 99, 611, 680, 681, 682, 683, 684, 685, 686, 687, 688, 753, 754, 751, 752, 757, 758, 759, 760, 761, 762, 763] (by decide +kernel) (by decide +kernel)
set_option maxRecDepth 20000 in
theorem gL_law_X7_scheduleBits : GoodIn wsL_law (wsV RL 97 RX7 yX7_scheduleBits wsX7_scheduleBits) := goodIn_app (goodIn_of _ (by decide +kernel)) ggL_law_X7_scheduleBits
set_option maxRecDepth 20000 in
theorem ggL_law_X8_scheduleBits : GoodIn wsL_law wsX8_scheduleBits := goodIn_r _ [615, 271, 616, 617, 618, 5, 619, 120, 127, 689, 690, 691, 692, 693, 694, 695, 696, 697, 698, 699, 700, 701, 702, 703, 704, 705, 706, 707, 708, 709, 710, 711, 712, 713, 714, 715, 716, 717, 718, 719, 720, 721, 722, 723, 724, 725, 726, 727, 728, 729, 730] (by decide +kernel) (by decide +kernel)
set_option maxRecDepth 20000 in
theorem gL_law_X8_scheduleBits : GoodIn wsL_law (wsV RL 100 RX8 yX8_scheduleBits wsX8_scheduleBits) := goodIn_app (goodIn_of _ (by decide +kernel)) ggL_law_X8_scheduleBits
set_option maxRecDepth 20000 in
theorem ggL_law_X7_host : GoodIn wsL_law wsX7_host := goodIn_r _ [623, 34, 680, 681, 682, 683, 684, 685, 686, 687, 688] (by decide +kernel) (by decide +kernel)
set_option maxRecDepth 20000 in
theorem gL_law_X7_host : GoodIn wsL_law (wsV RL 101 RX7 yX7_host wsX7_host) := goodIn_app (goodIn_of _ (by decide +kernel)) ggL_law_X7_host
set_option maxRecDepth 20000 in
theorem ggL_law_X8_host : GoodIn wsL_law wsX8_host := goodIn_r _ [627, 115, 689, 690, 691, 692, 693, 694, 695, 696, 697, 698, 699, 700, 701, 702, 703, 704, 705, 706, 707, 708, 709, 710, 711, 712, 713, 714, 715, 716, 717, 718, 719, 720, 721, 722, 723, 724, 725, 726, 727, 728, 729, 730] (by decide +kernel) (by decide +kernel)
set_option maxRecDepth 20000 in
theorem gL_law_X8_host : GoodIn wsL_law (wsV RL 104 RX8 yX8_host wsX8_host) := goodIn_app (goodIn_of _ (by decide +kernel)) ggL_law_X8_host
set_option maxRecDepth 20000 in
theorem ggL_law_X7_missedSchedules : GoodIn wsL_law wsX7_missedSchedules := goodIn_r _ [631, 19, 316, 317, 318, 319, 18, 320, 62, 680, 681, 682, 683, 684, 685, 686, 687, 688, 739, 740, 741, 742, 743, 744] (by decide +kernel) (by decide +kernel)
set_option maxRecDepth 20000 in
theorem gL_law_X7_missedSchedules : GoodIn wsL_law (wsV RL 105 RX7 yX7_missedSchedules wsX7_missedSchedules) := goodIn_app (goodIn_of _ (by decide +kernel)) ggL_law_X7_missedSchedules
set_option maxRecDepth 20000 in
theorem ggL_law_X8_missedSchedules : GoodIn wsL_law wsX8_missedSchedules := goodIn_r _ [635, 114, 325, 326, 327, 5, 328, 267, 148, 149, 150, 689, 690, 691, 692, 693, 694, 695, 696, 697, 698, 699, 700, 701, 702, 703, 704, 705, 706, 707, 708, 709, 710, 711, 712, 713, 714, 715, 716, 717, 718, 719, 720, 721, 722, 723, 724, 725, 726, 727, 728, 729, 730] (by decide +kernel) (by decide +kernel)
set_option maxRecDepth 20000 in
theorem gL_law_X8_missedSchedules : GoodIn wsL_law (wsV RL 108 RX8 yX8_missedSchedules wsX8_missedSchedules) := goodIn_app (goodIn_of _ (by decide +kernel)) ggL_law_X8_missedSchedules
set_option maxRecDepth 20000 in
theorem ggL_law_X7_transmissions : GoodIn wsL_law wsX7_transmissions := goodIn_r _ [639, 19, 640, 317, 318, 319, 18, 320, 62, 680, 681, 682, 683, 684, 685, 686, 687, 688, 739, 740, 741, 742, 743, 744] (by decide +kernel) (by decide +kernel)
set_option maxRecDepth 20000 in
theorem gL_law_X7_transmissions : GoodIn wsL_law (wsV RL 109 RX7 yX7_transmissions wsX7_transmissions) := goodIn_app (goodIn_of _ (by decide +kernel)) ggL_law_X7_transmissions
set_option maxRecDepth 20000 in
theorem ggL_law_X8_transmissions : GoodIn wsL_law wsX8_transmissions := goodIn_r _ [644, 113, 325, 326, 327, 5, 328, 267, 148, 149, 150, 689, 690, 691, 692, 693, 694, 695, 696, 697, 698, 699, 700, 701, 702, 703, 704, 705, 706, 707, 708, 709, 710, 711, 712, 713, 714, 715, 716, 717, 718, 719, 720, 721, 722, 723, 724, 725, 726, 727, 728, 729, 730] (by decide +kernel) (by decide +kernel)
set_option maxRecDepth 20000 in
theorem gL_law_X8_transmissions : GoodIn wsL_law (wsV RL 112 RX8 yX8_transmissions wsX8_transmissions) := goodIn_app (goodIn_of _ (by decide +kernel)) ggL_law_X8_transmissions
set_option maxRecDepth 20000 in
theorem ggL_law_X7_roundNumber : GoodIn wsL_law wsX7_roundNumber := goodIn_r _ [648, 35, 680, 681, 682, 683, 684, 685, 686, 687, 688] (by decide +kernel) (by decide +kernel)
set_option maxRecDepth 20000 in
theorem gL_law_X7_roundNumber : GoodIn wsL_law (wsV RL 113 RX7 yX7_roundNumber wsX7_roundNumber) := goodIn_app (goodIn_of _ (by decide +kernel)) ggL_law_X7_roundNumber
set_option maxRecDepth 20000 in
theorem ggL_law_X8_roundNumber : GoodIn wsL_law wsX8_roundNumber := goodIn_r _ [652, 269, 689, 690, 691, 692, 693, 694, 695, 696, 697, 698, 699, 700, 701, 702, 703, 704, 705, 706, 707, 708, 709, 710, 711, 712, 713, 714, 715, 716, 717, 718, 719, 720, 721, 722, 723, 724, 725, 726, 727, 728, 729, 730] (by decide +kernel) (by decide +kernel)
set_option maxRecDepth 20000 in
theorem gL_law_X8_roundNumber : GoodIn wsL_law (wsV RL 116 RX8 yX8_roundNumber wsX8_roundNumber) := goodIn_app (goodIn_of _ (by decide +kernel)) ggL_law_X8_roundNumber
set_option maxRecDepth 20000 in
theorem ggL_law_X7_digest : GoodIn wsL_law wsX7_digest := goodIn_r _ [656, 657, 658, 23, 428, 31, 239, 540, 27, 34, 35, 15, 155, 659, 660, 661, 662, 2, 663, 19, 240, 406, 415, 316, 640, 315, 664, 665, 666, 667, 238, 473, 474, 483, 492, 603, 604, 605, 30, 606, 100, 520, 521, 350, 522, 607, 608, 609, 610, 518, 99, 611, 680, 681, 682, 683, 684, 685, 686, 687, 688, 745, 746, 747, 748, 749, 750, 753, 754, 731, 732, 733, 734, 735, 736, 737, 738, 739, 740, 741, 742, 743, 744, 751, 752, 757, 758, 759, 760, 761, 762, 763] (by decide +kernel) (by decide +kernel)
set_option maxRecDepth 20000 in
theorem gL_law_X7_digest : GoodIn wsL_law (wsV RL 117 RX7 yX7_digest wsX7_digest) := goodIn_app (goodIn_of _ (by decide +kernel)) ggL_law_X7_digest
set_option maxRecDepth 20000 in
theorem ggL_law_X8_digest : GoodIn wsL_law wsX8_digest := goodIn_r _ [671, 672, 673, 267, 111, 114, 113, 110, 276, 270, 123, 125, 126, 271, 127, 115, 269, 147, 105, 674, 675, 676, 5, 677, 678, 420, 421, 422, 423, 112, 679, 613, 614, 615, 616, 617, 618, 619, 120, 689, 690, 691, 692, 693, 694, 695, 696, 697, 698, 699, 700, 701, 702, 703, 704, 705, 706, 707, 708, 709, 710, 711, 712, 713, 714, 715, 716, 717, 718, 719, 720, 721, 722, 723, 724, 725, 726, 727, 728, 729, 730] (by decide +kernel) (by decide +kernel)
set_option maxRecDepth 20000 in
theorem gL_law_X8_digest : GoodIn wsL_law (wsV RL 121 RX8 yX8_digest wsX8_digest) := goodIn_app (goodIn_of _ (by decide +kernel)) ggL_law_X8_digest
theorem dL_law_0 : decode cL_law 0 = .ok (.new 7, 3) := by decide +kernel
theorem dL_law_3 : decode cL_law 3 = .ok (.dup, 1) := by decide +kernel
theorem dL_law_4 : decode cL_law 4 = .ok (.invokespecial 9, 3) := by decide +kernel
theorem dL_law_7 : decode cL_law 7 = .ok (.astore_n 1, 1) := by decide +kernel
theorem dL_law_8 : decode cL_law 8 = .ok (.new 10, 3) := by decide +kernel
theorem dL_law_11 : decode cL_law 11 = .ok (.dup, 1) := by decide +kernel
theorem dL_law_12 : decode cL_law 12 = .ok (.invokespecial 12, 3) := by decide +kernel
theorem dL_law_15 : decode cL_law 15 = .ok (.astore_n 2, 1) := by decide +kernel
theorem dL_law_16 : decode cL_law 16 = .ok (.iconst 0, 1) := by decide +kernel
theorem dL_law_17 : decode cL_law 17 = .ok (.istore_n 3, 1) := by decide +kernel
theorem dL_law_18 : decode cL_law 18 = .ok (.iload_n 3, 1) := by decide +kernel
theorem dL_law_19 : decode cL_law 19 = .ok (.aload_n 0, 1) := by decide +kernel
theorem dL_law_20 : decode cL_law 20 = .ok (.arraylength, 1) := by decide +kernel
theorem dL_law_21 : decode cL_law 21 = .ok (.iconst 4, 1) := by decide +kernel
theorem dL_law_22 : decode cL_law 22 = .ok (.isub, 1) := by decide +kernel
theorem dL_law_23 : decode cL_law 23 = .ok (.if_icmp .gt 700, 3) := by decide +kernel
theorem dL_law_26 : decode cL_law 26 = .ok (.aload_n 0, 1) := by decide +kernel
theorem dL_law_27 : decode cL_law 27 = .ok (.iload_n 3, 1) := by decide +kernel
theorem dL_law_28 : decode cL_law 28 = .ok (.iaload, 1) := by decide +kernel
theorem dL_law_29 : decode cL_law 29 = .ok (.bipush 31, 2) := by decide +kernel
theorem dL_law_31 : decode cL_law 31 = .ok (.iand, 1) := by decide +kernel
theorem dL_law_32 : decode cL_law 32 = .ok (.tableswitch 685 0 25 #[120, 143, 156, 169, 182, 205, 228, 251, 274, 323, 346, 369, 392, 405, 448, 471, 494, 517, 540, 563, 586, 599, 612, 635, 658, 671], 120) := by decide +kernel
theorem dL_law_152 : decode cL_law 152 = .ok (.aload_n 1, 1) := by decide +kernel
theorem dL_law_153 : decode cL_law 153 = .ok (.aload_n 0, 1) := by decide +kernel
theorem dL_law_154 : decode cL_law 154 = .ok (.iload_n 3, 1) := by decide +kernel
theorem dL_law_155 : decode cL_law 155 = .ok (.iconst 1, 1) := by decide +kernel
theorem dL_law_156 : decode cL_law 156 = .ok (.iadd, 1) := by decide +kernel
theorem dL_law_157 : decode cL_law 157 = .ok (.iaload, 1) := by decide +kernel
theorem dL_law_158 : decode cL_law 158 = .ok (.invokevirtual 13, 3) := by decide +kernel
theorem dL_law_161 : decode cL_law 161 = .ok (.aload_n 2, 1) := by decide +kernel
theorem dL_law_162 : decode cL_law 162 = .ok (.aload_n 0, 1) := by decide +kernel
theorem dL_law_163 : decode cL_law 163 = .ok (.iload_n 3, 1) := by decide +kernel
theorem dL_law_164 : decode cL_law 164 = .ok (.iconst 1, 1) := by decide +kernel
theorem dL_law_165 : decode cL_law 165 = .ok (.iadd, 1) := by decide +kernel
theorem dL_law_166 : decode cL_law 166 = .ok (.iaload, 1) := by decide +kernel
theorem dL_law_167 : decode cL_law 167 = .ok (.invokevirtual 17, 3) := by decide +kernel
theorem dL_law_170 : decode cL_law 170 = .ok (.if_icmp .eq 547, 3) := by decide +kernel
theorem dL_law_173 : decode cL_law 173 = .ok (.iconst 0, 1) := by decide +kernel
theorem dL_law_174 : decode cL_law 174 = .ok (.ireturn, 1) := by decide +kernel
theorem dL_law_175 : decode cL_law 175 = .ok (.aload_n 1, 1) := by decide +kernel
theorem dL_law_176 : decode cL_law 176 = .ok (.invokevirtual 18, 3) := by decide +kernel
theorem dL_law_179 : decode cL_law 179 = .ok (.aload_n 2, 1) := by decide +kernel
theorem dL_law_180 : decode cL_law 180 = .ok (.invokevirtual 22, 3) := by decide +kernel
theorem dL_law_183 : decode cL_law 183 = .ok (.if_icmp .eq 534, 3) := by decide +kernel
theorem dL_law_186 : decode cL_law 186 = .ok (.iconst 0, 1) := by decide +kernel
theorem dL_law_187 : decode cL_law 187 = .ok (.ireturn, 1) := by decide +kernel
theorem dL_law_188 : decode cL_law 188 = .ok (.aload_n 1, 1) := by decide +kernel
theorem dL_law_189 : decode cL_law 189 = .ok (.invokevirtual 23, 3) := by decide +kernel
theorem dL_law_192 : decode cL_law 192 = .ok (.aload_n 2, 1) := by decide +kernel
theorem dL_law_193 : decode cL_law 193 = .ok (.invokevirtual 26, 3) := by decide +kernel
theorem dL_law_196 : decode cL_law 196 = .ok (.if_icmp .eq 521, 3) := by decide +kernel
theorem dL_law_199 : decode cL_law 199 = .ok (.iconst 0, 1) := by decide +kernel
theorem dL_law_200 : decode cL_law 200 = .ok (.ireturn, 1) := by decide +kernel
theorem dL_law_201 : decode cL_law 201 = .ok (.aload_n 1, 1) := by decide +kernel
theorem dL_law_202 : decode cL_law 202 = .ok (.invokevirtual 27, 3) := by decide +kernel
theorem dL_law_205 : decode cL_law 205 = .ok (.aload_n 2, 1) := by decide +kernel
theorem dL_law_206 : decode cL_law 206 = .ok (.invokevirtual 30, 3) := by decide +kernel
theorem dL_law_209 : decode cL_law 209 = .ok (.if_icmp .eq 508, 3) := by decide +kernel
theorem dL_law_212 : decode cL_law 212 = .ok (.iconst 0, 1) := by decide +kernel
theorem dL_law_213 : decode cL_law 213 = .ok (.ireturn, 1) := by decide +kernel
theorem dL_law_214 : decode cL_law 214 = .ok (.aload_n 1, 1) := by decide +kernel
theorem dL_law_215 : decode cL_law 215 = .ok (.aload_n 0, 1) := by decide +kernel
theorem dL_law_216 : decode cL_law 216 = .ok (.iload_n 3, 1) := by decide +kernel
theorem dL_law_217 : decode cL_law 217 = .ok (.iconst 1, 1) := by decide +kernel
theorem dL_law_218 : decode cL_law 218 = .ok (.iadd, 1) := by decide +kernel
theorem dL_law_219 : decode cL_law 219 = .ok (.iaload, 1) := by decide +kernel
theorem dL_law_220 : decode cL_law 220 = .ok (.invokevirtual 31, 3) := by decide +kernel
theorem dL_law_223 : decode cL_law 223 = .ok (.aload_n 2, 1) := by decide +kernel
theorem dL_law_224 : decode cL_law 224 = .ok (.aload_n 0, 1) := by decide +kernel
theorem dL_law_225 : decode cL_law 225 = .ok (.iload_n 3, 1) := by decide +kernel
theorem dL_law_226 : decode cL_law 226 = .ok (.iconst 1, 1) := by decide +kernel
theorem dL_law_227 : decode cL_law 227 = .ok (.iadd, 1) := by decide +kernel
theorem dL_law_228 : decode cL_law 228 = .ok (.iaload, 1) := by decide +kernel
theorem dL_law_229 : decode cL_law 229 = .ok (.invokevirtual 34, 3) := by decide +kernel
theorem dL_law_232 : decode cL_law 232 = .ok (.if_icmp .eq 485, 3) := by decide +kernel
theorem dL_law_235 : decode cL_law 235 = .ok (.iconst 0, 1) := by decide +kernel
theorem dL_law_236 : decode cL_law 236 = .ok (.ireturn, 1) := by decide +kernel
theorem dL_law_237 : decode cL_law 237 = .ok (.aload_n 1, 1) := by decide +kernel
theorem dL_law_238 : decode cL_law 238 = .ok (.aload_n 0, 1) := by decide +kernel
theorem dL_law_239 : decode cL_law 239 = .ok (.iload_n 3, 1) := by decide +kernel
theorem dL_law_240 : decode cL_law 240 = .ok (.iconst 1, 1) := by decide +kernel
theorem dL_law_241 : decode cL_law 241 = .ok (.iadd, 1) := by decide +kernel
theorem dL_law_242 : decode cL_law 242 = .ok (.iaload, 1) := by decide +kernel
theorem dL_law_243 : decode cL_law 243 = .ok (.invokevirtual 35, 3) := by decide +kernel
theorem dL_law_246 : decode cL_law 246 = .ok (.aload_n 2, 1) := by decide +kernel
theorem dL_law_247 : decode cL_law 247 = .ok (.aload_n 0, 1) := by decide +kernel
theorem dL_law_248 : decode cL_law 248 = .ok (.iload_n 3, 1) := by decide +kernel
theorem dL_law_249 : decode cL_law 249 = .ok (.iconst 1, 1) := by decide +kernel
theorem dL_law_250 : decode cL_law 250 = .ok (.iadd, 1) := by decide +kernel
theorem dL_law_251 : decode cL_law 251 = .ok (.iaload, 1) := by decide +kernel
theorem dL_law_252 : decode cL_law 252 = .ok (.invokevirtual 38, 3) := by decide +kernel
theorem dL_law_255 : decode cL_law 255 = .ok (.if_icmp .eq 462, 3) := by decide +kernel
theorem dL_law_258 : decode cL_law 258 = .ok (.iconst 0, 1) := by decide +kernel
theorem dL_law_259 : decode cL_law 259 = .ok (.ireturn, 1) := by decide +kernel
theorem dL_law_260 : decode cL_law 260 = .ok (.aload_n 1, 1) := by decide +kernel
theorem dL_law_261 : decode cL_law 261 = .ok (.aload_n 0, 1) := by decide +kernel
theorem dL_law_262 : decode cL_law 262 = .ok (.iload_n 3, 1) := by decide +kernel
theorem dL_law_263 : decode cL_law 263 = .ok (.iconst 1, 1) := by decide +kernel
theorem dL_law_264 : decode cL_law 264 = .ok (.iadd, 1) := by decide +kernel
theorem dL_law_265 : decode cL_law 265 = .ok (.iaload, 1) := by decide +kernel
theorem dL_law_266 : decode cL_law 266 = .ok (.invokevirtual 39, 3) := by decide +kernel
theorem dL_law_269 : decode cL_law 269 = .ok (.aload_n 2, 1) := by decide +kernel
theorem dL_law_270 : decode cL_law 270 = .ok (.aload_n 0, 1) := by decide +kernel
theorem dL_law_271 : decode cL_law 271 = .ok (.iload_n 3, 1) := by decide +kernel
theorem dL_law_272 : decode cL_law 272 = .ok (.iconst 1, 1) := by decide +kernel
theorem dL_law_273 : decode cL_law 273 = .ok (.iadd, 1) := by decide +kernel
theorem dL_law_274 : decode cL_law 274 = .ok (.iaload, 1) := by decide +kernel
theorem dL_law_275 : decode cL_law 275 = .ok (.invokevirtual 42, 3) := by decide +kernel
theorem dL_law_278 : decode cL_law 278 = .ok (.if_icmp .eq 439, 3) := by decide +kernel
theorem dL_law_281 : decode cL_law 281 = .ok (.iconst 0, 1) := by decide +kernel
theorem dL_law_282 : decode cL_law 282 = .ok (.ireturn, 1) := by decide +kernel
theorem dL_law_283 : decode cL_law 283 = .ok (.aload_n 1, 1) := by decide +kernel
theorem dL_law_284 : decode cL_law 284 = .ok (.aload_n 0, 1) := by decide +kernel
theorem dL_law_285 : decode cL_law 285 = .ok (.iload_n 3, 1) := by decide +kernel
theorem dL_law_286 : decode cL_law 286 = .ok (.iconst 1, 1) := by decide +kernel
theorem dL_law_287 : decode cL_law 287 = .ok (.iadd, 1) := by decide +kernel
theorem dL_law_288 : decode cL_law 288 = .ok (.iaload, 1) := by decide +kernel
theorem dL_law_289 : decode cL_law 289 = .ok (.invokevirtual 43, 3) := by decide +kernel
theorem dL_law_292 : decode cL_law 292 = .ok (.aload_n 2, 1) := by decide +kernel
theorem dL_law_293 : decode cL_law 293 = .ok (.aload_n 0, 1) := by decide +kernel
theorem dL_law_294 : decode cL_law 294 = .ok (.iload_n 3, 1) := by decide +kernel
theorem dL_law_295 : decode cL_law 295 = .ok (.iconst 1, 1) := by decide +kernel
theorem dL_law_296 : decode cL_law 296 = .ok (.iadd, 1) := by decide +kernel
theorem dL_law_297 : decode cL_law 297 = .ok (.iaload, 1) := by decide +kernel
theorem dL_law_298 : decode cL_law 298 = .ok (.invokevirtual 46, 3) := by decide +kernel
theorem dL_law_301 : decode cL_law 301 = .ok (.if_icmp .eq 416, 3) := by decide +kernel
theorem dL_law_304 : decode cL_law 304 = .ok (.iconst 0, 1) := by decide +kernel
theorem dL_law_305 : decode cL_law 305 = .ok (.ireturn, 1) := by decide +kernel
theorem dL_law_306 : decode cL_law 306 = .ok (.aload_n 1, 1) := by decide +kernel
theorem dL_law_307 : decode cL_law 307 = .ok (.aload_n 0, 1) := by decide +kernel
theorem dL_law_308 : decode cL_law 308 = .ok (.iload_n 3, 1) := by decide +kernel
theorem dL_law_309 : decode cL_law 309 = .ok (.iconst 1, 1) := by decide +kernel
theorem dL_law_310 : decode cL_law 310 = .ok (.iadd, 1) := by decide +kernel
theorem dL_law_311 : decode cL_law 311 = .ok (.iaload, 1) := by decide +kernel
theorem dL_law_312 : decode cL_law 312 = .ok (.aload_n 0, 1) := by decide +kernel
theorem dL_law_313 : decode cL_law 313 = .ok (.iload_n 3, 1) := by decide +kernel
theorem dL_law_314 : decode cL_law 314 = .ok (.iconst 2, 1) := by decide +kernel
theorem dL_law_315 : decode cL_law 315 = .ok (.iadd, 1) := by decide +kernel
theorem dL_law_316 : decode cL_law 316 = .ok (.iaload, 1) := by decide +kernel
theorem dL_law_317 : decode cL_law 317 = .ok (.ifCond .eq 7, 3) := by decide +kernel
theorem dL_law_320 : decode cL_law 320 = .ok (.iconst 1, 1) := by decide +kernel
theorem dL_law_321 : decode cL_law 321 = .ok (.goto 4, 3) := by decide +kernel
theorem dL_law_324 : decode cL_law 324 = .ok (.iconst 0, 1) := by decide +kernel
theorem dL_law_325 : decode cL_law 325 = .ok (.invokevirtual 47, 3) := by decide +kernel
theorem dL_law_328 : decode cL_law 328 = .ok (.aload_n 2, 1) := by decide +kernel
theorem dL_law_329 : decode cL_law 329 = .ok (.aload_n 0, 1) := by decide +kernel
theorem dL_law_330 : decode cL_law 330 = .ok (.iload_n 3, 1) := by decide +kernel
theorem dL_law_331 : decode cL_law 331 = .ok (.iconst 1, 1) := by decide +kernel
theorem dL_law_332 : decode cL_law 332 = .ok (.iadd, 1) := by decide +kernel
theorem dL_law_333 : decode cL_law 333 = .ok (.iaload, 1) := by decide +kernel
theorem dL_law_334 : decode cL_law 334 = .ok (.aload_n 0, 1) := by decide +kernel
theorem dL_law_335 : decode cL_law 335 = .ok (.iload_n 3, 1) := by decide +kernel
theorem dL_law_336 : decode cL_law 336 = .ok (.iconst 2, 1) := by decide +kernel
theorem dL_law_337 : decode cL_law 337 = .ok (.iadd, 1) := by decide +kernel
theorem dL_law_338 : decode cL_law 338 = .ok (.iaload, 1) := by decide +kernel
theorem dL_law_339 : decode cL_law 339 = .ok (.ifCond .eq 7, 3) := by decide +kernel
theorem dL_law_342 : decode cL_law 342 = .ok (.iconst 1, 1) := by decide +kernel
theorem dL_law_343 : decode cL_law 343 = .ok (.goto 4, 3) := by decide +kernel
theorem dL_law_346 : decode cL_law 346 = .ok (.iconst 0, 1) := by decide +kernel
theorem dL_law_347 : decode cL_law 347 = .ok (.invokevirtual 51, 3) := by decide +kernel
theorem dL_law_350 : decode cL_law 350 = .ok (.if_icmp .eq 367, 3) := by decide +kernel
theorem dL_law_353 : decode cL_law 353 = .ok (.iconst 0, 1) := by decide +kernel
theorem dL_law_354 : decode cL_law 354 = .ok (.ireturn, 1) := by decide +kernel
theorem dL_law_355 : decode cL_law 355 = .ok (.aload_n 1, 1) := by decide +kernel
theorem dL_law_356 : decode cL_law 356 = .ok (.aload_n 0, 1) := by decide +kernel
theorem dL_law_357 : decode cL_law 357 = .ok (.iload_n 3, 1) := by decide +kernel
theorem dL_law_358 : decode cL_law 358 = .ok (.iconst 1, 1) := by decide +kernel
theorem dL_law_359 : decode cL_law 359 = .ok (.iadd, 1) := by decide +kernel
theorem dL_law_360 : decode cL_law 360 = .ok (.iaload, 1) := by decide +kernel
theorem dL_law_361 : decode cL_law 361 = .ok (.invokevirtual 52, 3) := by decide +kernel
theorem dL_law_364 : decode cL_law 364 = .ok (.aload_n 2, 1) := by decide +kernel
theorem dL_law_365 : decode cL_law 365 = .ok (.aload_n 0, 1) := by decide +kernel
theorem dL_law_366 : decode cL_law 366 = .ok (.iload_n 3, 1) := by decide +kernel
theorem dL_law_367 : decode cL_law 367 = .ok (.iconst 1, 1) := by decide +kernel
theorem dL_law_368 : decode cL_law 368 = .ok (.iadd, 1) := by decide +kernel
theorem dL_law_369 : decode cL_law 369 = .ok (.iaload, 1) := by decide +kernel
theorem dL_law_370 : decode cL_law 370 = .ok (.invokevirtual 55, 3) := by decide +kernel
theorem dL_law_373 : decode cL_law 373 = .ok (.if_icmp .eq 344, 3) := by decide +kernel
theorem dL_law_376 : decode cL_law 376 = .ok (.iconst 0, 1) := by decide +kernel
theorem dL_law_377 : decode cL_law 377 = .ok (.ireturn, 1) := by decide +kernel
theorem dL_law_378 : decode cL_law 378 = .ok (.aload_n 1, 1) := by decide +kernel
theorem dL_law_379 : decode cL_law 379 = .ok (.aload_n 0, 1) := by decide +kernel
theorem dL_law_380 : decode cL_law 380 = .ok (.iload_n 3, 1) := by decide +kernel
theorem dL_law_381 : decode cL_law 381 = .ok (.iconst 1, 1) := by decide +kernel
theorem dL_law_382 : decode cL_law 382 = .ok (.iadd, 1) := by decide +kernel
theorem dL_law_383 : decode cL_law 383 = .ok (.iaload, 1) := by decide +kernel
theorem dL_law_384 : decode cL_law 384 = .ok (.invokevirtual 56, 3) := by decide +kernel
theorem dL_law_387 : decode cL_law 387 = .ok (.aload_n 2, 1) := by decide +kernel
theorem dL_law_388 : decode cL_law 388 = .ok (.aload_n 0, 1) := by decide +kernel
theorem dL_law_389 : decode cL_law 389 = .ok (.iload_n 3, 1) := by decide +kernel
theorem dL_law_390 : decode cL_law 390 = .ok (.iconst 1, 1) := by decide +kernel
theorem dL_law_391 : decode cL_law 391 = .ok (.iadd, 1) := by decide +kernel
theorem dL_law_392 : decode cL_law 392 = .ok (.iaload, 1) := by decide +kernel
theorem dL_law_393 : decode cL_law 393 = .ok (.invokevirtual 59, 3) := by decide +kernel
theorem dL_law_396 : decode cL_law 396 = .ok (.if_icmp .eq 321, 3) := by decide +kernel
theorem dL_law_399 : decode cL_law 399 = .ok (.iconst 0, 1) := by decide +kernel
theorem dL_law_400 : decode cL_law 400 = .ok (.ireturn, 1) := by decide +kernel
theorem dL_law_401 : decode cL_law 401 = .ok (.aload_n 1, 1) := by decide +kernel
theorem dL_law_402 : decode cL_law 402 = .ok (.aload_n 0, 1) := by decide +kernel
theorem dL_law_403 : decode cL_law 403 = .ok (.iload_n 3, 1) := by decide +kernel
theorem dL_law_404 : decode cL_law 404 = .ok (.iconst 1, 1) := by decide +kernel
theorem dL_law_405 : decode cL_law 405 = .ok (.iadd, 1) := by decide +kernel
theorem dL_law_406 : decode cL_law 406 = .ok (.iaload, 1) := by decide +kernel
theorem dL_law_407 : decode cL_law 407 = .ok (.invokevirtual 60, 3) := by decide +kernel
theorem dL_law_410 : decode cL_law 410 = .ok (.aload_n 2, 1) := by decide +kernel
theorem dL_law_411 : decode cL_law 411 = .ok (.aload_n 0, 1) := by decide +kernel
theorem dL_law_412 : decode cL_law 412 = .ok (.iload_n 3, 1) := by decide +kernel
theorem dL_law_413 : decode cL_law 413 = .ok (.iconst 1, 1) := by decide +kernel
theorem dL_law_414 : decode cL_law 414 = .ok (.iadd, 1) := by decide +kernel
theorem dL_law_415 : decode cL_law 415 = .ok (.iaload, 1) := by decide +kernel
theorem dL_law_416 : decode cL_law 416 = .ok (.invokevirtual 63, 3) := by decide +kernel
theorem dL_law_419 : decode cL_law 419 = .ok (.if_icmp .eq 298, 3) := by decide +kernel
theorem dL_law_422 : decode cL_law 422 = .ok (.iconst 0, 1) := by decide +kernel
theorem dL_law_423 : decode cL_law 423 = .ok (.ireturn, 1) := by decide +kernel
theorem dL_law_424 : decode cL_law 424 = .ok (.aload_n 1, 1) := by decide +kernel
theorem dL_law_425 : decode cL_law 425 = .ok (.invokevirtual 64, 3) := by decide +kernel
theorem dL_law_428 : decode cL_law 428 = .ok (.aload_n 2, 1) := by decide +kernel
theorem dL_law_429 : decode cL_law 429 = .ok (.invokevirtual 67, 3) := by decide +kernel
theorem dL_law_432 : decode cL_law 432 = .ok (.if_icmp .eq 285, 3) := by decide +kernel
theorem dL_law_435 : decode cL_law 435 = .ok (.iconst 0, 1) := by decide +kernel
theorem dL_law_436 : decode cL_law 436 = .ok (.ireturn, 1) := by decide +kernel
theorem dL_law_437 : decode cL_law 437 = .ok (.aload_n 1, 1) := by decide +kernel
theorem dL_law_438 : decode cL_law 438 = .ok (.aload_n 0, 1) := by decide +kernel
theorem dL_law_439 : decode cL_law 439 = .ok (.iload_n 3, 1) := by decide +kernel
theorem dL_law_440 : decode cL_law 440 = .ok (.iconst 1, 1) := by decide +kernel
theorem dL_law_441 : decode cL_law 441 = .ok (.iadd, 1) := by decide +kernel
theorem dL_law_442 : decode cL_law 442 = .ok (.iaload, 1) := by decide +kernel
theorem dL_law_443 : decode cL_law 443 = .ok (.aload_n 0, 1) := by decide +kernel
theorem dL_law_444 : decode cL_law 444 = .ok (.iload_n 3, 1) := by decide +kernel
theorem dL_law_445 : decode cL_law 445 = .ok (.iconst 2, 1) := by decide +kernel
theorem dL_law_446 : decode cL_law 446 = .ok (.iadd, 1) := by decide +kernel
theorem dL_law_447 : decode cL_law 447 = .ok (.iaload, 1) := by decide +kernel
theorem dL_law_448 : decode cL_law 448 = .ok (.aload_n 0, 1) := by decide +kernel
theorem dL_law_449 : decode cL_law 449 = .ok (.iload_n 3, 1) := by decide +kernel
theorem dL_law_450 : decode cL_law 450 = .ok (.iconst 3, 1) := by decide +kernel
theorem dL_law_451 : decode cL_law 451 = .ok (.iadd, 1) := by decide +kernel
theorem dL_law_452 : decode cL_law 452 = .ok (.iaload, 1) := by decide +kernel
theorem dL_law_453 : decode cL_law 453 = .ok (.invokevirtual 68, 3) := by decide +kernel
theorem dL_law_456 : decode cL_law 456 = .ok (.aload_n 2, 1) := by decide +kernel
theorem dL_law_457 : decode cL_law 457 = .ok (.aload_n 0, 1) := by decide +kernel
theorem dL_law_458 : decode cL_law 458 = .ok (.iload_n 3, 1) := by decide +kernel
theorem dL_law_459 : decode cL_law 459 = .ok (.iconst 1, 1) := by decide +kernel
theorem dL_law_460 : decode cL_law 460 = .ok (.iadd, 1) := by decide +kernel
theorem dL_law_461 : decode cL_law 461 = .ok (.iaload, 1) := by decide +kernel
theorem dL_law_462 : decode cL_law 462 = .ok (.aload_n 0, 1) := by decide +kernel
theorem dL_law_463 : decode cL_law 463 = .ok (.iload_n 3, 1) := by decide +kernel
theorem dL_law_464 : decode cL_law 464 = .ok (.iconst 2, 1) := by decide +kernel
theorem dL_law_465 : decode cL_law 465 = .ok (.iadd, 1) := by decide +kernel
theorem dL_law_466 : decode cL_law 466 = .ok (.iaload, 1) := by decide +kernel
theorem dL_law_467 : decode cL_law 467 = .ok (.aload_n 0, 1) := by decide +kernel
theorem dL_law_468 : decode cL_law 468 = .ok (.iload_n 3, 1) := by decide +kernel
theorem dL_law_469 : decode cL_law 469 = .ok (.iconst 3, 1) := by decide +kernel
theorem dL_law_470 : decode cL_law 470 = .ok (.iadd, 1) := by decide +kernel
theorem dL_law_471 : decode cL_law 471 = .ok (.iaload, 1) := by decide +kernel
theorem dL_law_472 : decode cL_law 472 = .ok (.invokevirtual 72, 3) := by decide +kernel
theorem dL_law_475 : decode cL_law 475 = .ok (.if_icmp .eq 242, 3) := by decide +kernel
theorem dL_law_478 : decode cL_law 478 = .ok (.iconst 0, 1) := by decide +kernel
theorem dL_law_479 : decode cL_law 479 = .ok (.ireturn, 1) := by decide +kernel
theorem dL_law_480 : decode cL_law 480 = .ok (.aload_n 1, 1) := by decide +kernel
theorem dL_law_481 : decode cL_law 481 = .ok (.aload_n 0, 1) := by decide +kernel
theorem dL_law_482 : decode cL_law 482 = .ok (.iload_n 3, 1) := by decide +kernel
theorem dL_law_483 : decode cL_law 483 = .ok (.iconst 1, 1) := by decide +kernel
theorem dL_law_484 : decode cL_law 484 = .ok (.iadd, 1) := by decide +kernel
theorem dL_law_485 : decode cL_law 485 = .ok (.iaload, 1) := by decide +kernel
theorem dL_law_486 : decode cL_law 486 = .ok (.invokevirtual 73, 3) := by decide +kernel
theorem dL_law_489 : decode cL_law 489 = .ok (.aload_n 2, 1) := by decide +kernel
theorem dL_law_490 : decode cL_law 490 = .ok (.aload_n 0, 1) := by decide +kernel
theorem dL_law_491 : decode cL_law 491 = .ok (.iload_n 3, 1) := by decide +kernel
theorem dL_law_492 : decode cL_law 492 = .ok (.iconst 1, 1) := by decide +kernel
theorem dL_law_493 : decode cL_law 493 = .ok (.iadd, 1) := by decide +kernel
theorem dL_law_494 : decode cL_law 494 = .ok (.iaload, 1) := by decide +kernel
theorem dL_law_495 : decode cL_law 495 = .ok (.invokevirtual 76, 3) := by decide +kernel
theorem dL_law_498 : decode cL_law 498 = .ok (.if_icmp .eq 219, 3) := by decide +kernel
theorem dL_law_501 : decode cL_law 501 = .ok (.iconst 0, 1) := by decide +kernel
theorem dL_law_502 : decode cL_law 502 = .ok (.ireturn, 1) := by decide +kernel
theorem dL_law_503 : decode cL_law 503 = .ok (.aload_n 1, 1) := by decide +kernel
theorem dL_law_504 : decode cL_law 504 = .ok (.aload_n 0, 1) := by decide +kernel
theorem dL_law_505 : decode cL_law 505 = .ok (.iload_n 3, 1) := by decide +kernel
theorem dL_law_506 : decode cL_law 506 = .ok (.iconst 1, 1) := by decide +kernel
theorem dL_law_507 : decode cL_law 507 = .ok (.iadd, 1) := by decide +kernel
theorem dL_law_508 : decode cL_law 508 = .ok (.iaload, 1) := by decide +kernel
theorem dL_law_509 : decode cL_law 509 = .ok (.invokevirtual 77, 3) := by decide +kernel
theorem dL_law_512 : decode cL_law 512 = .ok (.aload_n 2, 1) := by decide +kernel
theorem dL_law_513 : decode cL_law 513 = .ok (.aload_n 0, 1) := by decide +kernel
theorem dL_law_514 : decode cL_law 514 = .ok (.iload_n 3, 1) := by decide +kernel
theorem dL_law_515 : decode cL_law 515 = .ok (.iconst 1, 1) := by decide +kernel
theorem dL_law_516 : decode cL_law 516 = .ok (.iadd, 1) := by decide +kernel
theorem dL_law_517 : decode cL_law 517 = .ok (.iaload, 1) := by decide +kernel
theorem dL_law_518 : decode cL_law 518 = .ok (.invokevirtual 80, 3) := by decide +kernel
theorem dL_law_521 : decode cL_law 521 = .ok (.if_icmp .eq 196, 3) := by decide +kernel
theorem dL_law_524 : decode cL_law 524 = .ok (.iconst 0, 1) := by decide +kernel
theorem dL_law_525 : decode cL_law 525 = .ok (.ireturn, 1) := by decide +kernel
theorem dL_law_526 : decode cL_law 526 = .ok (.aload_n 1, 1) := by decide +kernel
theorem dL_law_527 : decode cL_law 527 = .ok (.aload_n 0, 1) := by decide +kernel
theorem dL_law_528 : decode cL_law 528 = .ok (.iload_n 3, 1) := by decide +kernel
theorem dL_law_529 : decode cL_law 529 = .ok (.iconst 1, 1) := by decide +kernel
theorem dL_law_530 : decode cL_law 530 = .ok (.iadd, 1) := by decide +kernel
theorem dL_law_531 : decode cL_law 531 = .ok (.iaload, 1) := by decide +kernel
theorem dL_law_532 : decode cL_law 532 = .ok (.invokevirtual 81, 3) := by decide +kernel
theorem dL_law_535 : decode cL_law 535 = .ok (.aload_n 2, 1) := by decide +kernel
theorem dL_law_536 : decode cL_law 536 = .ok (.aload_n 0, 1) := by decide +kernel
theorem dL_law_537 : decode cL_law 537 = .ok (.iload_n 3, 1) := by decide +kernel
theorem dL_law_538 : decode cL_law 538 = .ok (.iconst 1, 1) := by decide +kernel
theorem dL_law_539 : decode cL_law 539 = .ok (.iadd, 1) := by decide +kernel
theorem dL_law_540 : decode cL_law 540 = .ok (.iaload, 1) := by decide +kernel
theorem dL_law_541 : decode cL_law 541 = .ok (.invokevirtual 84, 3) := by decide +kernel
theorem dL_law_544 : decode cL_law 544 = .ok (.if_icmp .eq 173, 3) := by decide +kernel
theorem dL_law_547 : decode cL_law 547 = .ok (.iconst 0, 1) := by decide +kernel
theorem dL_law_548 : decode cL_law 548 = .ok (.ireturn, 1) := by decide +kernel
theorem dL_law_549 : decode cL_law 549 = .ok (.aload_n 1, 1) := by decide +kernel
theorem dL_law_550 : decode cL_law 550 = .ok (.aload_n 0, 1) := by decide +kernel
theorem dL_law_551 : decode cL_law 551 = .ok (.iload_n 3, 1) := by decide +kernel
theorem dL_law_552 : decode cL_law 552 = .ok (.iconst 1, 1) := by decide +kernel
theorem dL_law_553 : decode cL_law 553 = .ok (.iadd, 1) := by decide +kernel
theorem dL_law_554 : decode cL_law 554 = .ok (.iaload, 1) := by decide +kernel
theorem dL_law_555 : decode cL_law 555 = .ok (.invokevirtual 85, 3) := by decide +kernel
theorem dL_law_558 : decode cL_law 558 = .ok (.aload_n 2, 1) := by decide +kernel
theorem dL_law_559 : decode cL_law 559 = .ok (.aload_n 0, 1) := by decide +kernel
theorem dL_law_560 : decode cL_law 560 = .ok (.iload_n 3, 1) := by decide +kernel
theorem dL_law_561 : decode cL_law 561 = .ok (.iconst 1, 1) := by decide +kernel
theorem dL_law_562 : decode cL_law 562 = .ok (.iadd, 1) := by decide +kernel
theorem dL_law_563 : decode cL_law 563 = .ok (.iaload, 1) := by decide +kernel
theorem dL_law_564 : decode cL_law 564 = .ok (.invokevirtual 88, 3) := by decide +kernel
theorem dL_law_567 : decode cL_law 567 = .ok (.if_icmp .eq 150, 3) := by decide +kernel
theorem dL_law_570 : decode cL_law 570 = .ok (.iconst 0, 1) := by decide +kernel
theorem dL_law_571 : decode cL_law 571 = .ok (.ireturn, 1) := by decide +kernel
theorem dL_law_572 : decode cL_law 572 = .ok (.aload_n 1, 1) := by decide +kernel
theorem dL_law_573 : decode cL_law 573 = .ok (.aload_n 0, 1) := by decide +kernel
theorem dL_law_574 : decode cL_law 574 = .ok (.iload_n 3, 1) := by decide +kernel
theorem dL_law_575 : decode cL_law 575 = .ok (.iconst 1, 1) := by decide +kernel
theorem dL_law_576 : decode cL_law 576 = .ok (.iadd, 1) := by decide +kernel
theorem dL_law_577 : decode cL_law 577 = .ok (.iaload, 1) := by decide +kernel
theorem dL_law_578 : decode cL_law 578 = .ok (.invokevirtual 89, 3) := by decide +kernel
theorem dL_law_581 : decode cL_law 581 = .ok (.aload_n 2, 1) := by decide +kernel
theorem dL_law_582 : decode cL_law 582 = .ok (.aload_n 0, 1) := by decide +kernel
theorem dL_law_583 : decode cL_law 583 = .ok (.iload_n 3, 1) := by decide +kernel
theorem dL_law_584 : decode cL_law 584 = .ok (.iconst 1, 1) := by decide +kernel
theorem dL_law_585 : decode cL_law 585 = .ok (.iadd, 1) := by decide +kernel
theorem dL_law_586 : decode cL_law 586 = .ok (.iaload, 1) := by decide +kernel
theorem dL_law_587 : decode cL_law 587 = .ok (.invokevirtual 92, 3) := by decide +kernel
theorem dL_law_590 : decode cL_law 590 = .ok (.if_icmp .eq 127, 3) := by decide +kernel
theorem dL_law_593 : decode cL_law 593 = .ok (.iconst 0, 1) := by decide +kernel
theorem dL_law_594 : decode cL_law 594 = .ok (.ireturn, 1) := by decide +kernel
theorem dL_law_595 : decode cL_law 595 = .ok (.aload_n 1, 1) := by decide +kernel
theorem dL_law_596 : decode cL_law 596 = .ok (.aload_n 0, 1) := by decide +kernel
theorem dL_law_597 : decode cL_law 597 = .ok (.iload_n 3, 1) := by decide +kernel
theorem dL_law_598 : decode cL_law 598 = .ok (.iconst 1, 1) := by decide +kernel
theorem dL_law_599 : decode cL_law 599 = .ok (.iadd, 1) := by decide +kernel
theorem dL_law_600 : decode cL_law 600 = .ok (.iaload, 1) := by decide +kernel
theorem dL_law_601 : decode cL_law 601 = .ok (.invokevirtual 93, 3) := by decide +kernel
theorem dL_law_604 : decode cL_law 604 = .ok (.aload_n 2, 1) := by decide +kernel
theorem dL_law_605 : decode cL_law 605 = .ok (.aload_n 0, 1) := by decide +kernel
theorem dL_law_606 : decode cL_law 606 = .ok (.iload_n 3, 1) := by decide +kernel
theorem dL_law_607 : decode cL_law 607 = .ok (.iconst 1, 1) := by decide +kernel
theorem dL_law_608 : decode cL_law 608 = .ok (.iadd, 1) := by decide +kernel
theorem dL_law_609 : decode cL_law 609 = .ok (.iaload, 1) := by decide +kernel
theorem dL_law_610 : decode cL_law 610 = .ok (.invokevirtual 96, 3) := by decide +kernel
theorem dL_law_613 : decode cL_law 613 = .ok (.if_icmp .eq 104, 3) := by decide +kernel
theorem dL_law_616 : decode cL_law 616 = .ok (.iconst 0, 1) := by decide +kernel
theorem dL_law_617 : decode cL_law 617 = .ok (.ireturn, 1) := by decide +kernel
theorem dL_law_618 : decode cL_law 618 = .ok (.aload_n 1, 1) := by decide +kernel
theorem dL_law_619 : decode cL_law 619 = .ok (.invokevirtual 97, 3) := by decide +kernel
theorem dL_law_622 : decode cL_law 622 = .ok (.aload_n 2, 1) := by decide +kernel
theorem dL_law_623 : decode cL_law 623 = .ok (.invokevirtual 100, 3) := by decide +kernel
theorem dL_law_626 : decode cL_law 626 = .ok (.if_icmp .eq 91, 3) := by decide +kernel
theorem dL_law_629 : decode cL_law 629 = .ok (.iconst 0, 1) := by decide +kernel
theorem dL_law_630 : decode cL_law 630 = .ok (.ireturn, 1) := by decide +kernel
theorem dL_law_631 : decode cL_law 631 = .ok (.aload_n 1, 1) := by decide +kernel
theorem dL_law_632 : decode cL_law 632 = .ok (.invokevirtual 101, 3) := by decide +kernel
theorem dL_law_635 : decode cL_law 635 = .ok (.aload_n 2, 1) := by decide +kernel
theorem dL_law_636 : decode cL_law 636 = .ok (.invokevirtual 104, 3) := by decide +kernel
theorem dL_law_639 : decode cL_law 639 = .ok (.if_icmp .eq 78, 3) := by decide +kernel
theorem dL_law_642 : decode cL_law 642 = .ok (.iconst 0, 1) := by decide +kernel
theorem dL_law_643 : decode cL_law 643 = .ok (.ireturn, 1) := by decide +kernel
theorem dL_law_644 : decode cL_law 644 = .ok (.aload_n 1, 1) := by decide +kernel
theorem dL_law_645 : decode cL_law 645 = .ok (.aload_n 0, 1) := by decide +kernel
theorem dL_law_646 : decode cL_law 646 = .ok (.iload_n 3, 1) := by decide +kernel
theorem dL_law_647 : decode cL_law 647 = .ok (.iconst 1, 1) := by decide +kernel
theorem dL_law_648 : decode cL_law 648 = .ok (.iadd, 1) := by decide +kernel
theorem dL_law_649 : decode cL_law 649 = .ok (.iaload, 1) := by decide +kernel
theorem dL_law_650 : decode cL_law 650 = .ok (.invokevirtual 105, 3) := by decide +kernel
theorem dL_law_653 : decode cL_law 653 = .ok (.aload_n 2, 1) := by decide +kernel
theorem dL_law_654 : decode cL_law 654 = .ok (.aload_n 0, 1) := by decide +kernel
theorem dL_law_655 : decode cL_law 655 = .ok (.iload_n 3, 1) := by decide +kernel
theorem dL_law_656 : decode cL_law 656 = .ok (.iconst 1, 1) := by decide +kernel
theorem dL_law_657 : decode cL_law 657 = .ok (.iadd, 1) := by decide +kernel
theorem dL_law_658 : decode cL_law 658 = .ok (.iaload, 1) := by decide +kernel
theorem dL_law_659 : decode cL_law 659 = .ok (.invokevirtual 108, 3) := by decide +kernel
theorem dL_law_662 : decode cL_law 662 = .ok (.if_icmp .eq 55, 3) := by decide +kernel
theorem dL_law_665 : decode cL_law 665 = .ok (.iconst 0, 1) := by decide +kernel
theorem dL_law_666 : decode cL_law 666 = .ok (.ireturn, 1) := by decide +kernel
theorem dL_law_667 : decode cL_law 667 = .ok (.aload_n 1, 1) := by decide +kernel
theorem dL_law_668 : decode cL_law 668 = .ok (.aload_n 0, 1) := by decide +kernel
theorem dL_law_669 : decode cL_law 669 = .ok (.iload_n 3, 1) := by decide +kernel
theorem dL_law_670 : decode cL_law 670 = .ok (.iconst 1, 1) := by decide +kernel
theorem dL_law_671 : decode cL_law 671 = .ok (.iadd, 1) := by decide +kernel
theorem dL_law_672 : decode cL_law 672 = .ok (.iaload, 1) := by decide +kernel
theorem dL_law_673 : decode cL_law 673 = .ok (.invokevirtual 109, 3) := by decide +kernel
theorem dL_law_676 : decode cL_law 676 = .ok (.aload_n 2, 1) := by decide +kernel
theorem dL_law_677 : decode cL_law 677 = .ok (.aload_n 0, 1) := by decide +kernel
theorem dL_law_678 : decode cL_law 678 = .ok (.iload_n 3, 1) := by decide +kernel
theorem dL_law_679 : decode cL_law 679 = .ok (.iconst 1, 1) := by decide +kernel
theorem dL_law_680 : decode cL_law 680 = .ok (.iadd, 1) := by decide +kernel
theorem dL_law_681 : decode cL_law 681 = .ok (.iaload, 1) := by decide +kernel
theorem dL_law_682 : decode cL_law 682 = .ok (.invokevirtual 112, 3) := by decide +kernel
theorem dL_law_685 : decode cL_law 685 = .ok (.if_icmp .eq 32, 3) := by decide +kernel
theorem dL_law_688 : decode cL_law 688 = .ok (.iconst 0, 1) := by decide +kernel
theorem dL_law_689 : decode cL_law 689 = .ok (.ireturn, 1) := by decide +kernel
theorem dL_law_690 : decode cL_law 690 = .ok (.aload_n 1, 1) := by decide +kernel
theorem dL_law_691 : decode cL_law 691 = .ok (.invokevirtual 113, 3) := by decide +kernel
theorem dL_law_694 : decode cL_law 694 = .ok (.aload_n 2, 1) := by decide +kernel
theorem dL_law_695 : decode cL_law 695 = .ok (.invokevirtual 116, 3) := by decide +kernel
theorem dL_law_698 : decode cL_law 698 = .ok (.if_icmp .eq 19, 3) := by decide +kernel
theorem dL_law_701 : decode cL_law 701 = .ok (.iconst 0, 1) := by decide +kernel
theorem dL_law_702 : decode cL_law 702 = .ok (.ireturn, 1) := by decide +kernel
theorem dL_law_703 : decode cL_law 703 = .ok (.aload_n 1, 1) := by decide +kernel
theorem dL_law_704 : decode cL_law 704 = .ok (.invokevirtual 117, 3) := by decide +kernel
theorem dL_law_707 : decode cL_law 707 = .ok (.aload_n 2, 1) := by decide +kernel
theorem dL_law_708 : decode cL_law 708 = .ok (.invokevirtual 121, 3) := by decide +kernel
theorem dL_law_711 : decode cL_law 711 = .ok (.lcmp, 1) := by decide +kernel
theorem dL_law_712 : decode cL_law 712 = .ok (.ifCond .eq 5, 3) := by decide +kernel
theorem dL_law_715 : decode cL_law 715 = .ok (.iconst 0, 1) := by decide +kernel
theorem dL_law_716 : decode cL_law 716 = .ok (.ireturn, 1) := by decide +kernel
theorem dL_law_717 : decode cL_law 717 = .ok (.iinc 3 4, 3) := by decide +kernel
theorem dL_law_720 : decode cL_law 720 = .ok (.goto (-702), 3) := by decide +kernel
theorem dL_law_723 : decode cL_law 723 = .ok (.iconst 1, 1) := by decide +kernel
theorem dL_law_724 : decode cL_law 724 = .ok (.ireturn, 1) := by decide +kernel
