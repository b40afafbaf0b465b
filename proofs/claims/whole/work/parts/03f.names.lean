theorem dX8_takePacket_1 : decode cX8_takePacket 1 = .ok (.istore_n 2, 1) := by decide +kernel
theorem dX8_takePacket_2 : decode cX8_takePacket 2 = .ok (.iload_n 2, 1) := by decide +kernel
theorem dX8_takePacket_3 : decode cX8_takePacket 3 = .ok (.aload_n 0, 1) := by decide +kernel
theorem dX8_takePacket_4 : decode cX8_takePacket 4 = .ok (.getfield 66, 3) := by decide +kernel
theorem dX8_takePacket_7 : decode cX8_takePacket 7 = .ok (.iload_n 1, 1) := by decide +kernel
theorem dX8_takePacket_8 : decode cX8_takePacket 8 = .ok (.iaload, 1) := by decide +kernel
theorem dX8_takePacket_9 : decode cX8_takePacket 9 = .ok (.if_icmp .ge 31, 3) := by decide +kernel
theorem dX8_takePacket_12 : decode cX8_takePacket 12 = .ok (.aload_n 0, 1) := by decide +kernel
theorem dX8_takePacket_13 : decode cX8_takePacket 13 = .ok (.getfield 69, 3) := by decide +kernel
theorem dX8_takePacket_16 : decode cX8_takePacket 16 = .ok (.iconst 4, 1) := by decide +kernel
theorem dX8_takePacket_17 : decode cX8_takePacket 17 = .ok (.iload_n 1, 1) := by decide +kernel
theorem dX8_takePacket_18 : decode cX8_takePacket 18 = .ok (.imul, 1) := by decide +kernel
theorem dX8_takePacket_19 : decode cX8_takePacket 19 = .ok (.iload_n 2, 1) := by decide +kernel
theorem dX8_takePacket_20 : decode cX8_takePacket 20 = .ok (.iadd, 1) := by decide +kernel
theorem dX8_takePacket_21 : decode cX8_takePacket 21 = .ok (.iconst 1, 1) := by decide +kernel
theorem dX8_takePacket_22 : decode cX8_takePacket 22 = .ok (.isub, 1) := by decide +kernel
theorem dX8_takePacket_23 : decode cX8_takePacket 23 = .ok (.aload_n 0, 1) := by decide +kernel
theorem dX8_takePacket_24 : decode cX8_takePacket 24 = .ok (.getfield 69, 3) := by decide +kernel
theorem dX8_takePacket_27 : decode cX8_takePacket 27 = .ok (.iconst 4, 1) := by decide +kernel
theorem dX8_takePacket_28 : decode cX8_takePacket 28 = .ok (.iload_n 1, 1) := by decide +kernel
theorem dX8_takePacket_29 : decode cX8_takePacket 29 = .ok (.imul, 1) := by decide +kernel
theorem dX8_takePacket_30 : decode cX8_takePacket 30 = .ok (.iload_n 2, 1) := by decide +kernel
theorem dX8_takePacket_31 : decode cX8_takePacket 31 = .ok (.iadd, 1) := by decide +kernel
theorem dX8_takePacket_32 : decode cX8_takePacket 32 = .ok (.iaload, 1) := by decide +kernel
theorem dX8_takePacket_33 : decode cX8_takePacket 33 = .ok (.iastore, 1) := by decide +kernel
theorem dX8_takePacket_34 : decode cX8_takePacket 34 = .ok (.iinc 2 1, 3) := by decide +kernel
theorem dX8_takePacket_37 : decode cX8_takePacket 37 = .ok (.goto (-35), 3) := by decide +kernel
theorem dX8_takePacket_40 : decode cX8_takePacket 40 = .ok (.aload_n 0, 1) := by decide +kernel
theorem dX8_takePacket_41 : decode cX8_takePacket 41 = .ok (.getfield 66, 3) := by decide +kernel
theorem dX8_takePacket_44 : decode cX8_takePacket 44 = .ok (.iload_n 1, 1) := by decide +kernel
theorem dX8_takePacket_45 : decode cX8_takePacket 45 = .ok (.dup2, 1) := by decide +kernel
theorem dX8_takePacket_46 : decode cX8_takePacket 46 = .ok (.iaload, 1) := by decide +kernel
theorem dX8_takePacket_47 : decode cX8_takePacket 47 = .ok (.iconst 1, 1) := by decide +kernel
theorem dX8_takePacket_48 : decode cX8_takePacket 48 = .ok (.isub, 1) := by decide +kernel
theorem dX8_takePacket_49 : decode cX8_takePacket 49 = .ok (.iastore, 1) := by decide +kernel
theorem dX8_takePacket_50 : decode cX8_takePacket 50 = .ok (.return_, 1) := by decide +kernel
set_option maxRecDepth 20000 in
theorem ggX8_spreadSchedule_X8_buildSchedule : GoodIn wsX8_spreadSchedule wsX8_buildSchedule := goodIn_r _ [12, 3, 13, 14, 15, 16, 17, 18, 19, 20, 11, 21, 58, 59, 60, 61, 62, 63, 64, 65, 66, 67, 68, 69, 70, 71, 72, 73, 74, 75, 76, 77, 78, 79, 80, 81, 82, 83, 84, 85, 86, 87, 88, 89, 90, 91, 92, 93, 94, 95, 96, 97, 98, 99] (by decide +kernel) (by decide +kernel)
set_option maxRecDepth 20000 in
theorem gX8_spreadSchedule_X8_buildSchedule : GoodIn wsX8_spreadSchedule (wsV RX8 181 RX8 yX8_buildSchedule wsX8_buildSchedule) := goodIn_app (goodIn_of _ (by decide +kernel)) ggX8_spreadSchedule_X8_buildSchedule
set_option maxRecDepth 20000 in
theorem ggX8_spreadSchedule_X8_floodNow : GoodIn wsX8_spreadSchedule wsX8_floodNow := goodIn_r _ [25, 4, 6, 26, 27, 1, 28, 29, 30, 31, 32, 11, 33, 34, 35, 36, 37, 38, 39, 40, 41, 42, 43, 44, 45, 46, 47, 48, 49, 50, 51, 52, 53, 54, 55, 56, 57, 58, 59, 60, 61, 62, 63, 64, 65, 66, 67, 68, 69, 70, 71, 72, 73, 74, 75, 76, 77, 78, 79, 80, 81, 82, 83, 84, 85, 86, 87, 88, 89, 90, 91, 92, 93, 94, 95, 96, 97, 98, 99] (by decide +kernel) (by decide +kernel)
set_option maxRecDepth 20000 in
theorem gX8_spreadSchedule_X8_floodNow : GoodIn wsX8_spreadSchedule (wsV RX8 168 RX8 yX8_floodNow wsX8_floodNow) := goodIn_app (goodIn_of _ (by decide +kernel)) ggX8_spreadSchedule_X8_floodNow
theorem dX8_spreadSchedule_0 : decode cX8_spreadSchedule 0 = .ok (.aload_n 0, 1) := by decide +kernel
theorem dX8_spreadSchedule_1 : decode cX8_spreadSchedule 1 = .ok (.getfield 25, 3) := by decide +kernel
theorem dX8_spreadSchedule_4 : decode cX8_spreadSchedule 4 = .ok (.aload_n 0, 1) := by decide +kernel
theorem dX8_spreadSchedule_5 : decode cX8_spreadSchedule 5 = .ok (.getfield 41, 3) := by decide +kernel
theorem dX8_spreadSchedule_8 : decode cX8_spreadSchedule 8 = .ok (.baload, 1) := by decide +kernel
theorem dX8_spreadSchedule_9 : decode cX8_spreadSchedule 9 = .ok (.istore_n 1, 1) := by decide +kernel
theorem dX8_spreadSchedule_10 : decode cX8_spreadSchedule 10 = .ok (.aload_n 0, 1) := by decide +kernel
theorem dX8_spreadSchedule_11 : decode cX8_spreadSchedule 11 = .ok (.iconst 0, 1) := by decide +kernel
theorem dX8_spreadSchedule_12 : decode cX8_spreadSchedule 12 = .ok (.putfield 144, 3) := by decide +kernel
theorem dX8_spreadSchedule_15 : decode cX8_spreadSchedule 15 = .ok (.iload_n 1, 1) := by decide +kernel
theorem dX8_spreadSchedule_16 : decode cX8_spreadSchedule 16 = .ok (.ifCond .eq 18, 3) := by decide +kernel
theorem dX8_spreadSchedule_19 : decode cX8_spreadSchedule 19 = .ok (.aload_n 0, 1) := by decide +kernel
theorem dX8_spreadSchedule_20 : decode cX8_spreadSchedule 20 = .ok (.invokevirtual 181, 3) := by decide +kernel
theorem dX8_spreadSchedule_23 : decode cX8_spreadSchedule 23 = .ok (.aload_n 0, 1) := by decide +kernel
theorem dX8_spreadSchedule_24 : decode cX8_spreadSchedule 24 = .ok (.iconst 1, 1) := by decide +kernel
theorem dX8_spreadSchedule_25 : decode cX8_spreadSchedule 25 = .ok (.aload_n 0, 1) := by decide +kernel
theorem dX8_spreadSchedule_26 : decode cX8_spreadSchedule 26 = .ok (.getfield 41, 3) := by decide +kernel
theorem dX8_spreadSchedule_29 : decode cX8_spreadSchedule 29 = .ok (.ishl, 1) := by decide +kernel
theorem dX8_spreadSchedule_30 : decode cX8_spreadSchedule 30 = .ok (.invokevirtual 168, 3) := by decide +kernel
theorem dX8_spreadSchedule_33 : decode cX8_spreadSchedule 33 = .ok (.pop, 1) := by decide +kernel
theorem dX8_spreadSchedule_34 : decode cX8_spreadSchedule 34 = .ok (.iconst 0, 1) := by decide +kernel
theorem dX8_spreadSchedule_35 : decode cX8_spreadSchedule 35 = .ok (.istore_n 2, 1) := by decide +kernel
theorem dX8_spreadSchedule_36 : decode cX8_spreadSchedule 36 = .ok (.iload_n 2, 1) := by decide +kernel
theorem dX8_spreadSchedule_37 : decode cX8_spreadSchedule 37 = .ok (.aload_n 0, 1) := by decide +kernel
theorem dX8_spreadSchedule_38 : decode cX8_spreadSchedule 38 = .ok (.getfield 129, 3) := by decide +kernel
theorem dX8_spreadSchedule_41 : decode cX8_spreadSchedule 41 = .ok (.if_icmp .ge 79, 3) := by decide +kernel
theorem dX8_spreadSchedule_44 : decode cX8_spreadSchedule 44 = .ok (.aload_n 0, 1) := by decide +kernel
theorem dX8_spreadSchedule_45 : decode cX8_spreadSchedule 45 = .ok (.getfield 99, 3) := by decide +kernel
theorem dX8_spreadSchedule_48 : decode cX8_spreadSchedule 48 = .ok (.iload_n 2, 1) := by decide +kernel
theorem dX8_spreadSchedule_49 : decode cX8_spreadSchedule 49 = .ok (.iload_n 1, 1) := by decide +kernel
theorem dX8_spreadSchedule_50 : decode cX8_spreadSchedule 50 = .ok (.ifCond .eq 26, 3) := by decide +kernel
theorem dX8_spreadSchedule_53 : decode cX8_spreadSchedule 53 = .ok (.aload_n 0, 1) := by decide +kernel
theorem dX8_spreadSchedule_54 : decode cX8_spreadSchedule 54 = .ok (.getfield 25, 3) := by decide +kernel
theorem dX8_spreadSchedule_57 : decode cX8_spreadSchedule 57 = .ok (.iload_n 2, 1) := by decide +kernel
theorem dX8_spreadSchedule_58 : decode cX8_spreadSchedule 58 = .ok (.baload, 1) := by decide +kernel
theorem dX8_spreadSchedule_59 : decode cX8_spreadSchedule 59 = .ok (.ifCond .eq 17, 3) := by decide +kernel
theorem dX8_spreadSchedule_62 : decode cX8_spreadSchedule 62 = .ok (.aload_n 0, 1) := by decide +kernel
theorem dX8_spreadSchedule_63 : decode cX8_spreadSchedule 63 = .ok (.getfield 29, 3) := by decide +kernel
theorem dX8_spreadSchedule_66 : decode cX8_spreadSchedule 66 = .ok (.iload_n 2, 1) := by decide +kernel
theorem dX8_spreadSchedule_67 : decode cX8_spreadSchedule 67 = .ok (.iaload, 1) := by decide +kernel
theorem dX8_spreadSchedule_68 : decode cX8_spreadSchedule 68 = .ok (.iconst (-1), 1) := by decide +kernel
theorem dX8_spreadSchedule_69 : decode cX8_spreadSchedule 69 = .ok (.if_icmp .eq 7, 3) := by decide +kernel
theorem dX8_spreadSchedule_72 : decode cX8_spreadSchedule 72 = .ok (.iconst 1, 1) := by decide +kernel
theorem dX8_spreadSchedule_73 : decode cX8_spreadSchedule 73 = .ok (.goto 4, 3) := by decide +kernel
theorem dX8_spreadSchedule_76 : decode cX8_spreadSchedule 76 = .ok (.iconst 0, 1) := by decide +kernel
theorem dX8_spreadSchedule_77 : decode cX8_spreadSchedule 77 = .ok (.bastore, 1) := by decide +kernel
theorem dX8_spreadSchedule_78 : decode cX8_spreadSchedule 78 = .ok (.aload_n 0, 1) := by decide +kernel
theorem dX8_spreadSchedule_79 : decode cX8_spreadSchedule 79 = .ok (.getfield 38, 3) := by decide +kernel
theorem dX8_spreadSchedule_82 : decode cX8_spreadSchedule 82 = .ok (.iload_n 2, 1) := by decide +kernel
theorem dX8_spreadSchedule_83 : decode cX8_spreadSchedule 83 = .ok (.aload_n 0, 1) := by decide +kernel
theorem dX8_spreadSchedule_84 : decode cX8_spreadSchedule 84 = .ok (.getfield 99, 3) := by decide +kernel
theorem dX8_spreadSchedule_87 : decode cX8_spreadSchedule 87 = .ok (.iload_n 2, 1) := by decide +kernel
theorem dX8_spreadSchedule_88 : decode cX8_spreadSchedule 88 = .ok (.baload, 1) := by decide +kernel
theorem dX8_spreadSchedule_89 : decode cX8_spreadSchedule 89 = .ok (.ifCond .ne 12, 3) := by decide +kernel
theorem dX8_spreadSchedule_92 : decode cX8_spreadSchedule 92 = .ok (.aload_n 0, 1) := by decide +kernel
theorem dX8_spreadSchedule_93 : decode cX8_spreadSchedule 93 = .ok (.getfield 25, 3) := by decide +kernel
theorem dX8_spreadSchedule_96 : decode cX8_spreadSchedule 96 = .ok (.iload_n 2, 1) := by decide +kernel
theorem dX8_spreadSchedule_97 : decode cX8_spreadSchedule 97 = .ok (.baload, 1) := by decide +kernel
theorem dX8_spreadSchedule_98 : decode cX8_spreadSchedule 98 = .ok (.ifCond .ne 7, 3) := by decide +kernel
theorem dX8_spreadSchedule_101 : decode cX8_spreadSchedule 101 = .ok (.iconst 0, 1) := by decide +kernel
theorem dX8_spreadSchedule_102 : decode cX8_spreadSchedule 102 = .ok (.goto 11, 3) := by decide +kernel
theorem dX8_spreadSchedule_105 : decode cX8_spreadSchedule 105 = .ok (.aload_n 0, 1) := by decide +kernel
theorem dX8_spreadSchedule_106 : decode cX8_spreadSchedule 106 = .ok (.getfield 38, 3) := by decide +kernel
theorem dX8_spreadSchedule_109 : decode cX8_spreadSchedule 109 = .ok (.iload_n 2, 1) := by decide +kernel
theorem dX8_spreadSchedule_110 : decode cX8_spreadSchedule 110 = .ok (.iaload, 1) := by decide +kernel
theorem dX8_spreadSchedule_111 : decode cX8_spreadSchedule 111 = .ok (.iconst 1, 1) := by decide +kernel
theorem dX8_spreadSchedule_112 : decode cX8_spreadSchedule 112 = .ok (.iadd, 1) := by decide +kernel
theorem dX8_spreadSchedule_113 : decode cX8_spreadSchedule 113 = .ok (.iastore, 1) := by decide +kernel
theorem dX8_spreadSchedule_114 : decode cX8_spreadSchedule 114 = .ok (.iinc 2 1, 3) := by decide +kernel
theorem dX8_spreadSchedule_117 : decode cX8_spreadSchedule 117 = .ok (.goto (-81), 3) := by decide +kernel
theorem dX8_spreadSchedule_120 : decode cX8_spreadSchedule 120 = .ok (.return_, 1) := by decide +kernel
set_option maxRecDepth 20000 in
theorem ggX8_serve_X8_takePacket : GoodIn wsX8_serve wsX8_takePacket := goodIn_r _ [12, 13, 14, 52, 53, 54, 55, 56, 57, 58, 59, 60, 61, 62, 63, 64, 65, 66, 67, 68, 69, 70, 71, 72, 73, 74, 75, 76, 77, 78, 79, 80, 81, 82, 83, 84, 85, 86, 87, 88, 89, 90, 91, 92, 93] (by decide +kernel) (by decide +kernel)
set_option maxRecDepth 20000 in
theorem gX8_serve_X8_takePacket : GoodIn wsX8_serve (wsV RX8 184 RX8 yX8_takePacket wsX8_takePacket) := goodIn_app (goodIn_of _ (by decide +kernel)) ggX8_serve_X8_takePacket
set_option maxRecDepth 20000 in
theorem ggX8_serve_X8_floodNow : GoodIn wsX8_serve wsX8_floodNow := goodIn_r _ [18, 19, 4, 20, 21, 2, 22, 23, 24, 25, 26, 11, 27, 28, 29, 30, 31, 32, 33, 34, 35, 36, 37, 38, 39, 40, 41, 42, 43, 44, 45, 46, 47, 48, 49, 50, 51, 52, 53, 54, 55, 56, 57, 58, 59, 60, 61, 62, 63, 64, 65, 66, 67, 68, 69, 70, 71, 72, 73, 74, 75, 76, 77, 78, 79, 80, 81, 82, 83, 84, 85, 86, 87, 88, 89, 90, 91, 92, 93] (by decide +kernel) (by decide +kernel)
set_option maxRecDepth 20000 in
theorem gX8_serve_X8_floodNow : GoodIn wsX8_serve (wsV RX8 168 RX8 yX8_floodNow wsX8_floodNow) := goodIn_app (goodIn_of _ (by decide +kernel)) ggX8_serve_X8_floodNow
theorem dX8_serve_0 : decode cX8_serve 0 = .ok (.aload_n 0, 1) := by decide +kernel
theorem dX8_serve_1 : decode cX8_serve 1 = .ok (.iload_n 1, 1) := by decide +kernel
theorem dX8_serve_2 : decode cX8_serve 2 = .ok (.invokevirtual 184, 3) := by decide +kernel
theorem dX8_serve_5 : decode cX8_serve 5 = .ok (.aload_n 0, 1) := by decide +kernel
theorem dX8_serve_6 : decode cX8_serve 6 = .ok (.getfield 57, 3) := by decide +kernel
theorem dX8_serve_9 : decode cX8_serve 9 = .ok (.iload_n 1, 1) := by decide +kernel
theorem dX8_serve_10 : decode cX8_serve 10 = .ok (.iaload, 1) := by decide +kernel
theorem dX8_serve_11 : decode cX8_serve 11 = .ok (.istore_n 2, 1) := by decide +kernel
theorem dX8_serve_12 : decode cX8_serve 12 = .ok (.aload_n 0, 1) := by decide +kernel
theorem dX8_serve_13 : decode cX8_serve 13 = .ok (.getfield 25, 3) := by decide +kernel
theorem dX8_serve_16 : decode cX8_serve 16 = .ok (.iload_n 2, 1) := by decide +kernel
theorem dX8_serve_17 : decode cX8_serve 17 = .ok (.baload, 1) := by decide +kernel
theorem dX8_serve_18 : decode cX8_serve 18 = .ok (.ifCond .eq 16, 3) := by decide +kernel
theorem dX8_serve_21 : decode cX8_serve 21 = .ok (.aload_n 0, 1) := by decide +kernel
theorem dX8_serve_22 : decode cX8_serve 22 = .ok (.getfield 99, 3) := by decide +kernel
theorem dX8_serve_25 : decode cX8_serve 25 = .ok (.iload_n 2, 1) := by decide +kernel
theorem dX8_serve_26 : decode cX8_serve 26 = .ok (.baload, 1) := by decide +kernel
theorem dX8_serve_27 : decode cX8_serve 27 = .ok (.ifCond .eq 7, 3) := by decide +kernel
theorem dX8_serve_30 : decode cX8_serve 30 = .ok (.iconst 1, 1) := by decide +kernel
theorem dX8_serve_31 : decode cX8_serve 31 = .ok (.goto 4, 3) := by decide +kernel
theorem dX8_serve_34 : decode cX8_serve 34 = .ok (.iconst 0, 1) := by decide +kernel
theorem dX8_serve_35 : decode cX8_serve 35 = .ok (.istore_n 3, 1) := by decide +kernel
theorem dX8_serve_36 : decode cX8_serve 36 = .ok (.iload_n 3, 1) := by decide +kernel
theorem dX8_serve_37 : decode cX8_serve 37 = .ok (.ifCond .eq 11, 3) := by decide +kernel
theorem dX8_serve_40 : decode cX8_serve 40 = .ok (.aload_n 0, 1) := by decide +kernel
theorem dX8_serve_41 : decode cX8_serve 41 = .ok (.iconst 1, 1) := by decide +kernel
theorem dX8_serve_42 : decode cX8_serve 42 = .ok (.iload_n 2, 1) := by decide +kernel
theorem dX8_serve_43 : decode cX8_serve 43 = .ok (.ishl, 1) := by decide +kernel
theorem dX8_serve_44 : decode cX8_serve 44 = .ok (.invokevirtual 168, 3) := by decide +kernel
theorem dX8_serve_47 : decode cX8_serve 47 = .ok (.pop, 1) := by decide +kernel
theorem dX8_serve_48 : decode cX8_serve 48 = .ok (.iload_n 3, 1) := by decide +kernel
theorem dX8_serve_49 : decode cX8_serve 49 = .ok (.ifCond .eq 20, 3) := by decide +kernel
theorem dX8_serve_52 : decode cX8_serve 52 = .ok (.aload_n 0, 1) := by decide +kernel
theorem dX8_serve_53 : decode cX8_serve 53 = .ok (.getfield 29, 3) := by decide +kernel
theorem dX8_serve_56 : decode cX8_serve 56 = .ok (.aload_n 0, 1) := by decide +kernel
theorem dX8_serve_57 : decode cX8_serve 57 = .ok (.getfield 41, 3) := by decide +kernel
theorem dX8_serve_60 : decode cX8_serve 60 = .ok (.iaload, 1) := by decide +kernel
theorem dX8_serve_61 : decode cX8_serve 61 = .ok (.iconst (-1), 1) := by decide +kernel
theorem dX8_serve_62 : decode cX8_serve 62 = .ok (.if_icmp .eq 7, 3) := by decide +kernel
theorem dX8_serve_65 : decode cX8_serve 65 = .ok (.iconst 1, 1) := by decide +kernel
theorem dX8_serve_66 : decode cX8_serve 66 = .ok (.goto 4, 3) := by decide +kernel
theorem dX8_serve_69 : decode cX8_serve 69 = .ok (.iconst 0, 1) := by decide +kernel
theorem dX8_serve_70 : decode cX8_serve 70 = .ok (.istore 4, 2) := by decide +kernel
theorem dX8_serve_72 : decode cX8_serve 72 = .ok (.aload_n 0, 1) := by decide +kernel
theorem dX8_serve_73 : decode cX8_serve 73 = .ok (.getfield 72, 3) := by decide +kernel
theorem dX8_serve_76 : decode cX8_serve 76 = .ok (.iload_n 1, 1) := by decide +kernel
theorem dX8_serve_77 : decode cX8_serve 77 = .ok (.dup2, 1) := by decide +kernel
theorem dX8_serve_78 : decode cX8_serve 78 = .ok (.iaload, 1) := by decide +kernel
theorem dX8_serve_79 : decode cX8_serve 79 = .ok (.iload 4, 2) := by decide +kernel
theorem dX8_serve_81 : decode cX8_serve 81 = .ok (.ifCond .eq 7, 3) := by decide +kernel
theorem dX8_serve_84 : decode cX8_serve 84 = .ok (.iconst 1, 1) := by decide +kernel
theorem dX8_serve_85 : decode cX8_serve 85 = .ok (.goto 4, 3) := by decide +kernel
theorem dX8_serve_88 : decode cX8_serve 88 = .ok (.iconst 0, 1) := by decide +kernel
theorem dX8_serve_89 : decode cX8_serve 89 = .ok (.iadd, 1) := by decide +kernel
theorem dX8_serve_90 : decode cX8_serve 90 = .ok (.iastore, 1) := by decide +kernel
theorem dX8_serve_91 : decode cX8_serve 91 = .ok (.aload_n 0, 1) := by decide +kernel
theorem dX8_serve_92 : decode cX8_serve 92 = .ok (.getfield 75, 3) := by decide +kernel
theorem dX8_serve_95 : decode cX8_serve 95 = .ok (.iload_n 1, 1) := by decide +kernel
theorem dX8_serve_96 : decode cX8_serve 96 = .ok (.dup2, 1) := by decide +kernel
theorem dX8_serve_97 : decode cX8_serve 97 = .ok (.iaload, 1) := by decide +kernel
theorem dX8_serve_98 : decode cX8_serve 98 = .ok (.iload 4, 2) := by decide +kernel
theorem dX8_serve_100 : decode cX8_serve 100 = .ok (.ifCond .eq 7, 3) := by decide +kernel
theorem dX8_serve_103 : decode cX8_serve 103 = .ok (.iconst 0, 1) := by decide +kernel
theorem dX8_serve_104 : decode cX8_serve 104 = .ok (.goto 4, 3) := by decide +kernel
theorem dX8_serve_107 : decode cX8_serve 107 = .ok (.iconst 1, 1) := by decide +kernel
theorem dX8_serve_108 : decode cX8_serve 108 = .ok (.iadd, 1) := by decide +kernel
theorem dX8_serve_109 : decode cX8_serve 109 = .ok (.iastore, 1) := by decide +kernel
theorem dX8_serve_110 : decode cX8_serve 110 = .ok (.iload 4, 2) := by decide +kernel
theorem dX8_serve_112 : decode cX8_serve 112 = .ok (.ifCond .eq 7, 3) := by decide +kernel
theorem dX8_serve_115 : decode cX8_serve 115 = .ok (.iconst 1, 1) := by decide +kernel
theorem dX8_serve_116 : decode cX8_serve 116 = .ok (.goto 4, 3) := by decide +kernel
theorem dX8_serve_119 : decode cX8_serve 119 = .ok (.iconst 0, 1) := by decide +kernel
theorem dX8_serve_120 : decode cX8_serve 120 = .ok (.ireturn, 1) := by decide +kernel
theorem dX8_takeOver_0 : decode cX8_takeOver 0 = .ok (.iconst 0, 1) := by decide +kernel
theorem dX8_takeOver_1 : decode cX8_takeOver 1 = .ok (.istore_n 1, 1) := by decide +kernel
theorem dX8_takeOver_2 : decode cX8_takeOver 2 = .ok (.iload_n 1, 1) := by decide +kernel
theorem dX8_takeOver_3 : decode cX8_takeOver 3 = .ok (.aload_n 0, 1) := by decide +kernel
theorem dX8_takeOver_4 : decode cX8_takeOver 4 = .ok (.getfield 129, 3) := by decide +kernel
theorem dX8_takeOver_7 : decode cX8_takeOver 7 = .ok (.if_icmp .ge 55, 3) := by decide +kernel
theorem dX8_takeOver_10 : decode cX8_takeOver 10 = .ok (.aload_n 0, 1) := by decide +kernel
theorem dX8_takeOver_11 : decode cX8_takeOver 11 = .ok (.getfield 25, 3) := by decide +kernel
theorem dX8_takeOver_14 : decode cX8_takeOver 14 = .ok (.aload_n 0, 1) := by decide +kernel
theorem dX8_takeOver_15 : decode cX8_takeOver 15 = .ok (.getfield 41, 3) := by decide +kernel
theorem dX8_takeOver_18 : decode cX8_takeOver 18 = .ok (.baload, 1) := by decide +kernel
theorem dX8_takeOver_19 : decode cX8_takeOver 19 = .ok (.ifCond .ne 43, 3) := by decide +kernel
theorem dX8_takeOver_22 : decode cX8_takeOver 22 = .ok (.aload_n 0, 1) := by decide +kernel
theorem dX8_takeOver_23 : decode cX8_takeOver 23 = .ok (.getfield 25, 3) := by decide +kernel
theorem dX8_takeOver_26 : decode cX8_takeOver 26 = .ok (.iload_n 1, 1) := by decide +kernel
theorem dX8_takeOver_27 : decode cX8_takeOver 27 = .ok (.baload, 1) := by decide +kernel
theorem dX8_takeOver_28 : decode cX8_takeOver 28 = .ok (.ifCond .eq 28, 3) := by decide +kernel
theorem dX8_takeOver_31 : decode cX8_takeOver 31 = .ok (.aload_n 0, 1) := by decide +kernel
theorem dX8_takeOver_32 : decode cX8_takeOver 32 = .ok (.getfield 38, 3) := by decide +kernel
theorem dX8_takeOver_35 : decode cX8_takeOver 35 = .ok (.iload_n 1, 1) := by decide +kernel
theorem dX8_takeOver_36 : decode cX8_takeOver 36 = .ok (.iaload, 1) := by decide +kernel
theorem dX8_takeOver_37 : decode cX8_takeOver 37 = .ok (.aload_n 0, 1) := by decide +kernel
theorem dX8_takeOver_38 : decode cX8_takeOver 38 = .ok (.getfield 54, 3) := by decide +kernel
theorem dX8_takeOver_41 : decode cX8_takeOver 41 = .ok (.if_icmp .lt 15, 3) := by decide +kernel
theorem dX8_takeOver_44 : decode cX8_takeOver 44 = .ok (.aload_n 0, 1) := by decide +kernel
theorem dX8_takeOver_45 : decode cX8_takeOver 45 = .ok (.iload_n 1, 1) := by decide +kernel
theorem dX8_takeOver_46 : decode cX8_takeOver 46 = .ok (.putfield 41, 3) := by decide +kernel
theorem dX8_takeOver_49 : decode cX8_takeOver 49 = .ok (.aload_n 0, 1) := by decide +kernel
theorem dX8_takeOver_50 : decode cX8_takeOver 50 = .ok (.getfield 38, 3) := by decide +kernel
theorem dX8_takeOver_53 : decode cX8_takeOver 53 = .ok (.iload_n 1, 1) := by decide +kernel
theorem dX8_takeOver_54 : decode cX8_takeOver 54 = .ok (.iconst 0, 1) := by decide +kernel
theorem dX8_takeOver_55 : decode cX8_takeOver 55 = .ok (.iastore, 1) := by decide +kernel
theorem dX8_takeOver_56 : decode cX8_takeOver 56 = .ok (.iinc 1 1, 3) := by decide +kernel
theorem dX8_takeOver_59 : decode cX8_takeOver 59 = .ok (.goto (-57), 3) := by decide +kernel
theorem dX8_takeOver_62 : decode cX8_takeOver 62 = .ok (.return_, 1) := by decide +kernel
set_option maxRecDepth 20000 in
theorem ggX8_runRound_X8_generate : GoodIn wsX8_runRound wsX8_generate := goodIn_r _ [8, 9, 3, 10, 11, 12, 13, 14, 85, 86, 87, 88, 89, 90, 91, 92, 93, 94, 95, 96, 97, 98, 99, 100, 101, 102, 103, 104, 105, 106, 107, 108, 109, 110, 111, 112, 113, 114, 115, 116, 117, 118, 119, 120, 121, 122, 123, 124, 125, 126] (by decide +kernel) (by decide +kernel)
set_option maxRecDepth 20000 in
theorem gX8_runRound_X8_generate : GoodIn wsX8_runRound (wsV RX8 188 RX8 yX8_generate wsX8_generate) := goodIn_app (goodIn_of _ (by decide +kernel)) ggX8_runRound_X8_generate
set_option maxRecDepth 20000 in
theorem ggX8_runRound_X8_spreadSchedule : GoodIn wsX8_runRound wsX8_spreadSchedule := goodIn_r _ [18, 19, 20, 1, 21, 22, 23, 24, 25, 26, 27, 7, 28, 29, 9, 12, 14, 2, 30, 31, 32, 33, 34, 35, 36, 37, 38, 39, 40, 41, 42, 43, 44, 45, 46, 47, 48, 49, 50, 51, 52, 53, 54, 55, 56, 57, 58, 59, 60, 61, 62, 63, 64, 65, 66, 67, 68, 69, 85, 86, 87, 88, 89, 90, 91, 92, 93, 94, 95, 96, 97, 98, 99, 100, 101, 102, 103, 104, 105, 106, 107, 108, 109, 110, 111, 112, 113, 114, 115, 116, 117, 118, 119, 120, 121, 122, 123, 124, 125, 126] (by decide +kernel) (by decide +kernel)
set_option maxRecDepth 20000 in
theorem gX8_runRound_X8_spreadSchedule : GoodIn wsX8_runRound (wsV RX8 191 RX8 yX8_spreadSchedule wsX8_spreadSchedule) := goodIn_app (goodIn_of _ (by decide +kernel)) ggX8_runRound_X8_spreadSchedule
set_option maxRecDepth 20000 in
theorem ggX8_runRound_X8_serve : GoodIn wsX8_runRound wsX8_serve := goodIn_r _ [73, 74, 19, 22, 23, 20, 75, 13, 76, 77, 78, 7, 79, 12, 14, 34, 35, 36, 37, 21, 38, 39, 40, 41, 42, 43, 44, 45, 46, 47, 48, 49, 50, 51, 52, 53, 54, 55, 56, 57, 58, 59, 60, 61, 62, 63, 64, 65, 66, 67, 68, 69, 85, 86, 87, 88, 89, 90, 91, 92, 93, 94, 95, 96, 97, 98, 99, 100, 101, 102, 103, 104, 105, 106, 107, 108, 109, 110, 111, 112, 113, 114, 115, 116, 117, 118, 119, 120, 121, 122, 123, 124, 125, 126] (by decide +kernel) (by decide +kernel)
set_option maxRecDepth 20000 in
theorem gX8_runRound_X8_serve : GoodIn wsX8_runRound (wsV RX8 194 RX8 yX8_serve wsX8_serve) := goodIn_app (goodIn_of _ (by decide +kernel)) ggX8_runRound_X8_serve
set_option maxRecDepth 20000 in
theorem ggX8_runRound_X8_takeOver : GoodIn wsX8_runRound wsX8_takeOver := goodIn_r _ [83, 21, 19, 20, 24, 84, 85, 86, 87, 88, 89, 90, 91, 92, 93, 94, 95, 96, 97, 98, 99, 100, 101, 102, 103, 104, 105, 106, 107, 108, 109, 110, 111, 112, 113, 114, 115, 116, 117, 118, 119, 120, 121, 122, 123, 124, 125, 126] (by decide +kernel) (by decide +kernel)
set_option maxRecDepth 20000 in
theorem gX8_runRound_X8_takeOver : GoodIn wsX8_runRound (wsV RX8 197 RX8 yX8_takeOver wsX8_takeOver) := goodIn_app (goodIn_of _ (by decide +kernel)) ggX8_runRound_X8_takeOver
theorem dX8_runRound_0 : decode cX8_runRound 0 = .ok (.aload_n 0, 1) := by decide +kernel
theorem dX8_runRound_1 : decode cX8_runRound 1 = .ok (.invokevirtual 188, 3) := by decide +kernel
theorem dX8_runRound_4 : decode cX8_runRound 4 = .ok (.aload_n 0, 1) := by decide +kernel
theorem dX8_runRound_5 : decode cX8_runRound 5 = .ok (.invokevirtual 191, 3) := by decide +kernel
theorem dX8_runRound_8 : decode cX8_runRound 8 = .ok (.iconst 0, 1) := by decide +kernel
theorem dX8_runRound_9 : decode cX8_runRound 9 = .ok (.istore_n 1, 1) := by decide +kernel
theorem dX8_runRound_10 : decode cX8_runRound 10 = .ok (.iconst 0, 1) := by decide +kernel
theorem dX8_runRound_11 : decode cX8_runRound 11 = .ok (.istore_n 2, 1) := by decide +kernel
theorem dX8_runRound_12 : decode cX8_runRound 12 = .ok (.iload_n 2, 1) := by decide +kernel
theorem dX8_runRound_13 : decode cX8_runRound 13 = .ok (.aload_n 0, 1) := by decide +kernel
theorem dX8_runRound_14 : decode cX8_runRound 14 = .ok (.getfield 144, 3) := by decide +kernel
theorem dX8_runRound_17 : decode cX8_runRound 17 = .ok (.if_icmp .ge 22, 3) := by decide +kernel
theorem dX8_runRound_20 : decode cX8_runRound 20 = .ok (.iload_n 1, 1) := by decide +kernel
theorem dX8_runRound_21 : decode cX8_runRound 21 = .ok (.aload_n 0, 1) := by decide +kernel
theorem dX8_runRound_22 : decode cX8_runRound 22 = .ok (.aload_n 0, 1) := by decide +kernel
theorem dX8_runRound_23 : decode cX8_runRound 23 = .ok (.getfield 78, 3) := by decide +kernel
theorem dX8_runRound_26 : decode cX8_runRound 26 = .ok (.iload_n 2, 1) := by decide +kernel
theorem dX8_runRound_27 : decode cX8_runRound 27 = .ok (.iaload, 1) := by decide +kernel
theorem dX8_runRound_28 : decode cX8_runRound 28 = .ok (.invokevirtual 194, 3) := by decide +kernel
theorem dX8_runRound_31 : decode cX8_runRound 31 = .ok (.iadd, 1) := by decide +kernel
theorem dX8_runRound_32 : decode cX8_runRound 32 = .ok (.istore_n 1, 1) := by decide +kernel
theorem dX8_runRound_33 : decode cX8_runRound 33 = .ok (.iinc 2 1, 3) := by decide +kernel
theorem dX8_runRound_36 : decode cX8_runRound 36 = .ok (.goto (-24), 3) := by decide +kernel
theorem dX8_runRound_39 : decode cX8_runRound 39 = .ok (.aload_n 0, 1) := by decide +kernel
theorem dX8_runRound_40 : decode cX8_runRound 40 = .ok (.invokevirtual 197, 3) := by decide +kernel
theorem dX8_runRound_43 : decode cX8_runRound 43 = .ok (.aload_n 0, 1) := by decide +kernel
theorem dX8_runRound_44 : decode cX8_runRound 44 = .ok (.dup, 1) := by decide +kernel
theorem dX8_runRound_45 : decode cX8_runRound 45 = .ok (.getfield 138, 3) := by decide +kernel
theorem dX8_runRound_48 : decode cX8_runRound 48 = .ok (.iconst 1, 1) := by decide +kernel
theorem dX8_runRound_49 : decode cX8_runRound 49 = .ok (.iadd, 1) := by decide +kernel
theorem dX8_runRound_50 : decode cX8_runRound 50 = .ok (.putfield 138, 3) := by decide +kernel
theorem dX8_runRound_53 : decode cX8_runRound 53 = .ok (.iload_n 1, 1) := by decide +kernel
theorem dX8_runRound_54 : decode cX8_runRound 54 = .ok (.ireturn, 1) := by decide +kernel
set_option maxRecDepth 20000 in
theorem ggX8_runRounds_X8_within : GoodIn wsX8_runRounds wsX8_within := goodIn_r _ [6] (by decide +kernel) (by decide +kernel)
set_option maxRecDepth 20000 in
theorem gX8_runRounds_X8_within : GoodIn wsX8_runRounds (va_wsS RX8 102 yX8_within wsX8_within) := goodIn_app (goodIn_of _ (by decide +kernel)) ggX8_runRounds_X8_within
set_option maxRecDepth 20000 in
theorem ggX8_runRounds_X8_runRound : GoodIn wsX8_runRounds wsX8_runRound := goodIn_r _ [10, 11, 12, 2, 13, 14, 15, 5, 16, 17, 18, 19, 20, 21, 22, 23, 24, 25, 26, 27, 28, 1, 29, 30, 31, 32, 33, 34, 35, 36, 37, 38, 39, 40, 41, 42, 43, 44, 45, 46, 47, 48, 49, 50, 51, 52, 53, 54, 55, 56, 57, 58, 59, 60, 61, 62, 63, 64, 65, 66, 67, 68, 69, 70, 71, 72, 73, 74, 75, 76, 77, 78, 79, 80, 81, 82, 83, 84, 85, 86, 87, 88, 89, 90, 91, 92, 93, 94, 95, 96, 97, 98, 99, 100, 101, 102, 103, 104, 105, 106, 107, 108, 109, 110, 111, 112, 113, 114, 115, 116, 117, 118, 119, 120, 121, 122, 123, 124, 125, 126, 127, 128, 129, 130, 131, 132, 133] (by decide +kernel) (by decide +kernel)
set_option maxRecDepth 20000 in
theorem gX8_runRounds_X8_runRound : GoodIn wsX8_runRounds (wsV RX8 200 RX8 yX8_runRound wsX8_runRound) := goodIn_app (goodIn_of _ (by decide +kernel)) ggX8_runRounds_X8_runRound
theorem dX8_runRounds_0 : decode cX8_runRounds 0 = .ok (.iload_n 1, 1) := by decide +kernel
theorem dX8_runRounds_1 : decode cX8_runRounds 1 = .ok (.iconst 1, 1) := by decide +kernel
theorem dX8_runRounds_2 : decode cX8_runRounds 2 = .ok (.bipush 20, 2) := by decide +kernel
theorem dX8_runRounds_4 : decode cX8_runRounds 4 = .ok (.invokestatic 102, 3) := by decide +kernel
theorem dX8_runRounds_7 : decode cX8_runRounds 7 = .ok (.ifCond .ne 7, 3) := by decide +kernel
theorem dX8_runRounds_10 : decode cX8_runRounds 10 = .ok (.sipush (-1002), 3) := by decide +kernel
theorem dX8_runRounds_13 : decode cX8_runRounds 13 = .ok (.ireturn, 1) := by decide +kernel
theorem dX8_runRounds_14 : decode cX8_runRounds 14 = .ok (.aload_n 0, 1) := by decide +kernel
theorem dX8_runRounds_15 : decode cX8_runRounds 15 = .ok (.getfield 129, 3) := by decide +kernel
theorem dX8_runRounds_18 : decode cX8_runRounds 18 = .ok (.ifCond .ne 7, 3) := by decide +kernel
theorem dX8_runRounds_21 : decode cX8_runRounds 21 = .ok (.sipush (-1003), 3) := by decide +kernel
theorem dX8_runRounds_24 : decode cX8_runRounds 24 = .ok (.ireturn, 1) := by decide +kernel
theorem dX8_runRounds_25 : decode cX8_runRounds 25 = .ok (.aload_n 0, 1) := by decide +kernel
theorem dX8_runRounds_26 : decode cX8_runRounds 26 = .ok (.getfield 138, 3) := by decide +kernel
theorem dX8_runRounds_29 : decode cX8_runRounds 29 = .ok (.iload_n 1, 1) := by decide +kernel
theorem dX8_runRounds_30 : decode cX8_runRounds 30 = .ok (.iadd, 1) := by decide +kernel
theorem dX8_runRounds_31 : decode cX8_runRounds 31 = .ok (.sipush 9999, 3) := by decide +kernel
theorem dX8_runRounds_34 : decode cX8_runRounds 34 = .ok (.if_icmp .le 7, 3) := by decide +kernel
theorem dX8_runRounds_37 : decode cX8_runRounds 37 = .ok (.sipush (-1004), 3) := by decide +kernel
theorem dX8_runRounds_40 : decode cX8_runRounds 40 = .ok (.ireturn, 1) := by decide +kernel
theorem dX8_runRounds_41 : decode cX8_runRounds 41 = .ok (.iconst 0, 1) := by decide +kernel
theorem dX8_runRounds_42 : decode cX8_runRounds 42 = .ok (.istore_n 2, 1) := by decide +kernel
theorem dX8_runRounds_43 : decode cX8_runRounds 43 = .ok (.iconst 0, 1) := by decide +kernel
theorem dX8_runRounds_44 : decode cX8_runRounds 44 = .ok (.istore_n 3, 1) := by decide +kernel
theorem dX8_runRounds_45 : decode cX8_runRounds 45 = .ok (.iload_n 3, 1) := by decide +kernel
theorem dX8_runRounds_46 : decode cX8_runRounds 46 = .ok (.iload_n 1, 1) := by decide +kernel
theorem dX8_runRounds_47 : decode cX8_runRounds 47 = .ok (.if_icmp .ge 16, 3) := by decide +kernel
theorem dX8_runRounds_50 : decode cX8_runRounds 50 = .ok (.iload_n 2, 1) := by decide +kernel
theorem dX8_runRounds_51 : decode cX8_runRounds 51 = .ok (.aload_n 0, 1) := by decide +kernel
theorem dX8_runRounds_52 : decode cX8_runRounds 52 = .ok (.invokevirtual 200, 3) := by decide +kernel
theorem dX8_runRounds_55 : decode cX8_runRounds 55 = .ok (.iadd, 1) := by decide +kernel
theorem dX8_runRounds_56 : decode cX8_runRounds 56 = .ok (.istore_n 2, 1) := by decide +kernel
theorem dX8_runRounds_57 : decode cX8_runRounds 57 = .ok (.iinc 3 1, 3) := by decide +kernel
theorem dX8_runRounds_60 : decode cX8_runRounds 60 = .ok (.goto (-15), 3) := by decide +kernel
theorem dX8_runRounds_63 : decode cX8_runRounds 63 = .ok (.iload_n 2, 1) := by decide +kernel
theorem dX8_runRounds_64 : decode cX8_runRounds 64 = .ok (.ireturn, 1) := by decide +kernel
set_option maxRecDepth 20000 in
theorem ggX8_scheduledStream_X8_within : GoodIn wsX8_scheduledStream wsX8_within := goodIn_r _ [6] (by decide +kernel) (by decide +kernel)
set_option maxRecDepth 20000 in
theorem gX8_scheduledStream_X8_within : GoodIn wsX8_scheduledStream (va_wsS RX8 102 yX8_within wsX8_within) := goodIn_app (goodIn_of _ (by decide +kernel)) ggX8_scheduledStream_X8_within
theorem dX8_scheduledStream_0 : decode cX8_scheduledStream 0 = .ok (.iload_n 1, 1) := by decide +kernel
theorem dX8_scheduledStream_1 : decode cX8_scheduledStream 1 = .ok (.iconst 0, 1) := by decide +kernel
theorem dX8_scheduledStream_2 : decode cX8_scheduledStream 2 = .ok (.aload_n 0, 1) := by decide +kernel
theorem dX8_scheduledStream_3 : decode cX8_scheduledStream 3 = .ok (.getfield 144, 3) := by decide +kernel
theorem dX8_scheduledStream_6 : decode cX8_scheduledStream 6 = .ok (.iconst 1, 1) := by decide +kernel
theorem dX8_scheduledStream_7 : decode cX8_scheduledStream 7 = .ok (.isub, 1) := by decide +kernel
theorem dX8_scheduledStream_8 : decode cX8_scheduledStream 8 = .ok (.invokestatic 102, 3) := by decide +kernel
theorem dX8_scheduledStream_11 : decode cX8_scheduledStream 11 = .ok (.ifCond .eq 12, 3) := by decide +kernel
theorem dX8_scheduledStream_14 : decode cX8_scheduledStream 14 = .ok (.aload_n 0, 1) := by decide +kernel
theorem dX8_scheduledStream_15 : decode cX8_scheduledStream 15 = .ok (.getfield 78, 3) := by decide +kernel
theorem dX8_scheduledStream_18 : decode cX8_scheduledStream 18 = .ok (.iload_n 1, 1) := by decide +kernel
theorem dX8_scheduledStream_19 : decode cX8_scheduledStream 19 = .ok (.iaload, 1) := by decide +kernel
theorem dX8_scheduledStream_20 : decode cX8_scheduledStream 20 = .ok (.goto 4, 3) := by decide +kernel
theorem dX8_scheduledStream_23 : decode cX8_scheduledStream 23 = .ok (.iconst (-1), 1) := by decide +kernel
theorem dX8_scheduledStream_24 : decode cX8_scheduledStream 24 = .ok (.ireturn, 1) := by decide +kernel
theorem dX8_areSourcesDifferent_0 : decode cX8_areSourcesDifferent 0 = .ok (.iconst 1, 1) := by decide +kernel
theorem dX8_areSourcesDifferent_1 : decode cX8_areSourcesDifferent 1 = .ok (.istore_n 1, 1) := by decide +kernel
theorem dX8_areSourcesDifferent_2 : decode cX8_areSourcesDifferent 2 = .ok (.iconst 0, 1) := by decide +kernel
theorem dX8_areSourcesDifferent_3 : decode cX8_areSourcesDifferent 3 = .ok (.istore_n 2, 1) := by decide +kernel
theorem dX8_areSourcesDifferent_4 : decode cX8_areSourcesDifferent 4 = .ok (.iload_n 2, 1) := by decide +kernel
theorem dX8_areSourcesDifferent_5 : decode cX8_areSourcesDifferent 5 = .ok (.aload_n 0, 1) := by decide +kernel
theorem dX8_areSourcesDifferent_6 : decode cX8_areSourcesDifferent 6 = .ok (.getfield 144, 3) := by decide +kernel
theorem dX8_areSourcesDifferent_9 : decode cX8_areSourcesDifferent 9 = .ok (.if_icmp .ge 57, 3) := by decide +kernel
theorem dX8_areSourcesDifferent_12 : decode cX8_areSourcesDifferent 12 = .ok (.iconst 0, 1) := by decide +kernel
theorem dX8_areSourcesDifferent_13 : decode cX8_areSourcesDifferent 13 = .ok (.istore_n 3, 1) := by decide +kernel
theorem dX8_areSourcesDifferent_14 : decode cX8_areSourcesDifferent 14 = .ok (.iload_n 3, 1) := by decide +kernel
theorem dX8_areSourcesDifferent_15 : decode cX8_areSourcesDifferent 15 = .ok (.iload_n 2, 1) := by decide +kernel
theorem dX8_areSourcesDifferent_16 : decode cX8_areSourcesDifferent 16 = .ok (.if_icmp .ge 44, 3) := by decide +kernel
theorem dX8_areSourcesDifferent_19 : decode cX8_areSourcesDifferent 19 = .ok (.iload_n 1, 1) := by decide +kernel
theorem dX8_areSourcesDifferent_20 : decode cX8_areSourcesDifferent 20 = .ok (.ifCond .eq 32, 3) := by decide +kernel
theorem dX8_areSourcesDifferent_23 : decode cX8_areSourcesDifferent 23 = .ok (.aload_n 0, 1) := by decide +kernel
theorem dX8_areSourcesDifferent_24 : decode cX8_areSourcesDifferent 24 = .ok (.getfield 57, 3) := by decide +kernel
theorem dX8_areSourcesDifferent_27 : decode cX8_areSourcesDifferent 27 = .ok (.aload_n 0, 1) := by decide +kernel
theorem dX8_areSourcesDifferent_28 : decode cX8_areSourcesDifferent 28 = .ok (.getfield 78, 3) := by decide +kernel
theorem dX8_areSourcesDifferent_31 : decode cX8_areSourcesDifferent 31 = .ok (.iload_n 2, 1) := by decide +kernel
theorem dX8_areSourcesDifferent_32 : decode cX8_areSourcesDifferent 32 = .ok (.iaload, 1) := by decide +kernel
theorem dX8_areSourcesDifferent_33 : decode cX8_areSourcesDifferent 33 = .ok (.iaload, 1) := by decide +kernel
theorem dX8_areSourcesDifferent_34 : decode cX8_areSourcesDifferent 34 = .ok (.aload_n 0, 1) := by decide +kernel
theorem dX8_areSourcesDifferent_35 : decode cX8_areSourcesDifferent 35 = .ok (.getfield 57, 3) := by decide +kernel
theorem dX8_areSourcesDifferent_38 : decode cX8_areSourcesDifferent 38 = .ok (.aload_n 0, 1) := by decide +kernel
theorem dX8_areSourcesDifferent_39 : decode cX8_areSourcesDifferent 39 = .ok (.getfield 78, 3) := by decide +kernel
theorem dX8_areSourcesDifferent_42 : decode cX8_areSourcesDifferent 42 = .ok (.iload_n 3, 1) := by decide +kernel
theorem dX8_areSourcesDifferent_43 : decode cX8_areSourcesDifferent 43 = .ok (.iaload, 1) := by decide +kernel
theorem dX8_areSourcesDifferent_44 : decode cX8_areSourcesDifferent 44 = .ok (.iaload, 1) := by decide +kernel
theorem dX8_areSourcesDifferent_45 : decode cX8_areSourcesDifferent 45 = .ok (.if_icmp .eq 7, 3) := by decide +kernel
theorem dX8_areSourcesDifferent_48 : decode cX8_areSourcesDifferent 48 = .ok (.iconst 1, 1) := by decide +kernel
theorem dX8_areSourcesDifferent_49 : decode cX8_areSourcesDifferent 49 = .ok (.goto 4, 3) := by decide +kernel
theorem dX8_areSourcesDifferent_52 : decode cX8_areSourcesDifferent 52 = .ok (.iconst 0, 1) := by decide +kernel
theorem dX8_areSourcesDifferent_53 : decode cX8_areSourcesDifferent 53 = .ok (.istore_n 1, 1) := by decide +kernel
theorem dX8_areSourcesDifferent_54 : decode cX8_areSourcesDifferent 54 = .ok (.iinc 3 1, 3) := by decide +kernel
theorem dX8_areSourcesDifferent_57 : decode cX8_areSourcesDifferent 57 = .ok (.goto (-43), 3) := by decide +kernel
theorem dX8_areSourcesDifferent_60 : decode cX8_areSourcesDifferent 60 = .ok (.iinc 2 1, 3) := by decide +kernel
theorem dX8_areSourcesDifferent_63 : decode cX8_areSourcesDifferent 63 = .ok (.goto (-59), 3) := by decide +kernel
theorem dX8_areSourcesDifferent_66 : decode cX8_areSourcesDifferent 66 = .ok (.iload_n 1, 1) := by decide +kernel
theorem dX8_areSourcesDifferent_67 : decode cX8_areSourcesDifferent 67 = .ok (.ireturn, 1) := by decide +kernel
set_option maxRecDepth 20000 in
theorem ggX8_scheduleBits_X8_areSourcesDifferent : GoodIn wsX8_scheduleBits wsX8_areSourcesDifferent := goodIn_r _ [6, 1, 7, 8, 9, 10, 11, 12, 13, 14, 15, 16, 17, 18, 19, 20, 21, 22, 23, 24, 25, 26, 27, 28, 29, 30, 31, 32, 33, 34, 35, 36, 37, 38, 39, 40, 41, 42, 43, 44, 45, 46, 47, 48, 49, 50] (by decide +kernel) (by decide +kernel)
set_option maxRecDepth 20000 in
theorem gX8_scheduleBits_X8_areSourcesDifferent : GoodIn wsX8_scheduleBits (wsV RX8 203 RX8 yX8_areSourcesDifferent wsX8_areSourcesDifferent) := goodIn_app (goodIn_of _ (by decide +kernel)) ggX8_scheduleBits_X8_areSourcesDifferent
theorem dX8_scheduleBits_0 : decode cX8_scheduleBits 0 = .ok (.iconst 3, 1) := by decide +kernel
theorem dX8_scheduleBits_1 : decode cX8_scheduleBits 1 = .ok (.aload_n 0, 1) := by decide +kernel
theorem dX8_scheduleBits_2 : decode cX8_scheduleBits 2 = .ok (.getfield 144, 3) := by decide +kernel
theorem dX8_scheduleBits_5 : decode cX8_scheduleBits 5 = .ok (.imul, 1) := by decide +kernel
theorem dX8_scheduleBits_6 : decode cX8_scheduleBits 6 = .ok (.istore_n 1, 1) := by decide +kernel
theorem dX8_scheduleBits_7 : decode cX8_scheduleBits 7 = .ok (.bipush 8, 2) := by decide +kernel
theorem dX8_scheduleBits_9 : decode cX8_scheduleBits 9 = .ok (.iload_n 1, 1) := by decide +kernel
theorem dX8_scheduleBits_10 : decode cX8_scheduleBits 10 = .ok (.bipush 8, 2) := by decide +kernel
theorem dX8_scheduleBits_12 : decode cX8_scheduleBits 12 = .ok (.if_icmp .le 15, 3) := by decide +kernel
theorem dX8_scheduleBits_15 : decode cX8_scheduleBits 15 = .ok (.aload_n 0, 1) := by decide +kernel
theorem dX8_scheduleBits_16 : decode cX8_scheduleBits 16 = .ok (.invokevirtual 203, 3) := by decide +kernel
theorem dX8_scheduleBits_19 : decode cX8_scheduleBits 19 = .ok (.ifCond .eq 8, 3) := by decide +kernel
theorem dX8_scheduleBits_22 : decode cX8_scheduleBits 22 = .ok (.bipush 8, 2) := by decide +kernel
theorem dX8_scheduleBits_24 : decode cX8_scheduleBits 24 = .ok (.goto 4, 3) := by decide +kernel
theorem dX8_scheduleBits_27 : decode cX8_scheduleBits 27 = .ok (.iload_n 1, 1) := by decide +kernel
theorem dX8_scheduleBits_28 : decode cX8_scheduleBits 28 = .ok (.iadd, 1) := by decide +kernel
theorem dX8_scheduleBits_29 : decode cX8_scheduleBits 29 = .ok (.ireturn, 1) := by decide +kernel
theorem dX8_host_0 : decode cX8_host 0 = .ok (.aload_n 0, 1) := by decide +kernel
theorem dX8_host_1 : decode cX8_host 1 = .ok (.getfield 41, 3) := by decide +kernel
theorem dX8_host_4 : decode cX8_host 4 = .ok (.ireturn, 1) := by decide +kernel
set_option maxRecDepth 20000 in
theorem ggX8_missedSchedules_X8_isNode : GoodIn wsX8_missedSchedules wsX8_isNode := goodIn_r _ [6, 7, 8, 9, 5, 10, 11, 12, 13, 14, 15, 16, 17, 18, 19, 20, 21, 22, 23, 24, 25, 26, 27, 28, 29, 30, 31, 32, 33, 34, 35, 36, 37, 38, 39, 40, 41, 42, 43, 44, 45, 46, 47, 48, 49, 50, 51, 52] (by decide +kernel) (by decide +kernel)
set_option maxRecDepth 20000 in
theorem gX8_missedSchedules_X8_isNode : GoodIn wsX8_missedSchedules (wsV RX8 147 RX8 yX8_isNode wsX8_isNode) := goodIn_app (goodIn_of _ (by decide +kernel)) ggX8_missedSchedules_X8_isNode
theorem dX8_missedSchedules_0 : decode cX8_missedSchedules 0 = .ok (.aload_n 0, 1) := by decide +kernel
theorem dX8_missedSchedules_1 : decode cX8_missedSchedules 1 = .ok (.iload_n 1, 1) := by decide +kernel
theorem dX8_missedSchedules_2 : decode cX8_missedSchedules 2 = .ok (.invokevirtual 147, 3) := by decide +kernel
theorem dX8_missedSchedules_5 : decode cX8_missedSchedules 5 = .ok (.ifCond .eq 12, 3) := by decide +kernel
theorem dX8_missedSchedules_8 : decode cX8_missedSchedules 8 = .ok (.aload_n 0, 1) := by decide +kernel
theorem dX8_missedSchedules_9 : decode cX8_missedSchedules 9 = .ok (.getfield 38, 3) := by decide +kernel
theorem dX8_missedSchedules_12 : decode cX8_missedSchedules 12 = .ok (.iload_n 1, 1) := by decide +kernel
theorem dX8_missedSchedules_13 : decode cX8_missedSchedules 13 = .ok (.iaload, 1) := by decide +kernel
theorem dX8_missedSchedules_14 : decode cX8_missedSchedules 14 = .ok (.goto 6, 3) := by decide +kernel
theorem dX8_missedSchedules_17 : decode cX8_missedSchedules 17 = .ok (.sipush (-1001), 3) := by decide +kernel
theorem dX8_missedSchedules_20 : decode cX8_missedSchedules 20 = .ok (.ireturn, 1) := by decide +kernel
set_option maxRecDepth 20000 in
theorem ggX8_transmissions_X8_isNode : GoodIn wsX8_transmissions wsX8_isNode := goodIn_r _ [6, 7, 8, 9, 5, 10, 11, 12, 13, 14, 15, 16, 17, 18, 19, 20, 21, 22, 23, 24, 25, 26, 27, 28, 29, 30, 31, 32, 33, 34, 35, 36, 37, 38, 39, 40, 41, 42, 43, 44, 45, 46, 47, 48, 49, 50, 51, 52] (by decide +kernel) (by decide +kernel)
set_option maxRecDepth 20000 in
theorem gX8_transmissions_X8_isNode : GoodIn wsX8_transmissions (wsV RX8 147 RX8 yX8_isNode wsX8_isNode) := goodIn_app (goodIn_of _ (by decide +kernel)) ggX8_transmissions_X8_isNode
theorem dX8_transmissions_0 : decode cX8_transmissions 0 = .ok (.aload_n 0, 1) := by decide +kernel
theorem dX8_transmissions_1 : decode cX8_transmissions 1 = .ok (.iload_n 1, 1) := by decide +kernel
theorem dX8_transmissions_2 : decode cX8_transmissions 2 = .ok (.invokevirtual 147, 3) := by decide +kernel
theorem dX8_transmissions_5 : decode cX8_transmissions 5 = .ok (.ifCond .eq 12, 3) := by decide +kernel
theorem dX8_transmissions_8 : decode cX8_transmissions 8 = .ok (.aload_n 0, 1) := by decide +kernel
theorem dX8_transmissions_9 : decode cX8_transmissions 9 = .ok (.getfield 35, 3) := by decide +kernel
theorem dX8_transmissions_12 : decode cX8_transmissions 12 = .ok (.iload_n 1, 1) := by decide +kernel
theorem dX8_transmissions_13 : decode cX8_transmissions 13 = .ok (.iaload, 1) := by decide +kernel
theorem dX8_transmissions_14 : decode cX8_transmissions 14 = .ok (.goto 6, 3) := by decide +kernel
theorem dX8_transmissions_17 : decode cX8_transmissions 17 = .ok (.sipush (-1001), 3) := by decide +kernel
theorem dX8_transmissions_20 : decode cX8_transmissions 20 = .ok (.ireturn, 1) := by decide +kernel
theorem dX8_roundNumber_0 : decode cX8_roundNumber 0 = .ok (.aload_n 0, 1) := by decide +kernel
theorem dX8_roundNumber_1 : decode cX8_roundNumber 1 = .ok (.getfield 138, 3) := by decide +kernel
theorem dX8_roundNumber_4 : decode cX8_roundNumber 4 = .ok (.ireturn, 1) := by decide +kernel
theorem dX8_mix_0 : decode cX8_mix 0 = .ok (.aload_n 0, 1) := by decide +kernel
theorem dX8_mix_1 : decode cX8_mix 1 = .ok (.ldc2_w 207, 3) := by decide +kernel
theorem dX8_mix_4 : decode cX8_mix 4 = .ok (.aload_n 0, 1) := by decide +kernel
theorem dX8_mix_5 : decode cX8_mix 5 = .ok (.getfield 209, 3) := by decide +kernel
theorem dX8_mix_8 : decode cX8_mix 8 = .ok (.lmul, 1) := by decide +kernel
theorem dX8_mix_9 : decode cX8_mix 9 = .ok (.lload_n 1, 1) := by decide +kernel
theorem dX8_mix_10 : decode cX8_mix 10 = .ok (.ladd, 1) := by decide +kernel
theorem dX8_mix_11 : decode cX8_mix 11 = .ok (.putfield 209, 3) := by decide +kernel
theorem dX8_mix_14 : decode cX8_mix 14 = .ok (.return_, 1) := by decide +kernel
set_option maxRecDepth 20000 in
theorem ggX8_digest_X8_mix : GoodIn wsX8_digest wsX8_mix := goodIn_r _ [23, 24, 2, 39, 40, 41, 42, 43, 44, 45, 46, 47, 48, 49, 50, 51, 52, 53, 54, 55, 56, 57, 58, 59, 60, 61, 62, 63, 64, 65, 66, 67, 68, 69, 70, 71, 72, 73, 74, 75, 76, 77, 78, 79, 80] (by decide +kernel) (by decide +kernel)
set_option maxRecDepth 20000 in
theorem gX8_digest_X8_mix : GoodIn wsX8_digest (wsV RX8 215 RX8 yX8_mix wsX8_mix) := goodIn_app (goodIn_of _ (by decide +kernel)) ggX8_digest_X8_mix
set_option maxRecDepth 20000 in
theorem ggX8_digest_X8_hops : GoodIn wsX8_digest wsX8_hops := goodIn_r _ [28, 29, 39, 40, 41, 42, 43, 44, 45, 46, 47, 48, 49, 50, 51, 52, 53, 54, 55, 56, 57, 58, 59, 60, 61, 62, 63, 64, 65, 66, 67, 68, 69, 70, 71, 72, 73, 74, 75, 76, 77, 78, 79, 80] (by decide +kernel) (by decide +kernel)
set_option maxRecDepth 20000 in
theorem gX8_digest_X8_hops : GoodIn wsX8_digest (wsV RX8 172 RX8 yX8_hops wsX8_hops) := goodIn_app (goodIn_of _ (by decide +kernel)) ggX8_digest_X8_hops
set_option maxRecDepth 20000 in
theorem ggX8_digest_X8_scheduleBits : GoodIn wsX8_digest wsX8_scheduleBits := goodIn_r _ [33, 13, 34, 35, 36, 22, 37, 38, 14, 39, 40, 41, 42, 43, 44, 45, 46, 47, 48, 49, 50, 51, 52, 53, 54, 55, 56, 57, 58, 59, 60, 61, 62, 63, 64, 65, 66, 67, 68, 69, 70, 71, 72, 73, 74, 75, 76, 77, 78, 79, 80] (by decide +kernel) (by decide +kernel)
set_option maxRecDepth 20000 in
theorem gX8_digest_X8_scheduleBits : GoodIn wsX8_digest (wsV RX8 219 RX8 yX8_scheduleBits wsX8_scheduleBits) := goodIn_app (goodIn_of _ (by decide +kernel)) ggX8_digest_X8_scheduleBits
theorem dX8_digest_0 : decode cX8_digest 0 = .ok (.aload_n 0, 1) := by decide +kernel
theorem dX8_digest_1 : decode cX8_digest 1 = .ok (.ldc2_w 213, 3) := by decide +kernel
theorem dX8_digest_4 : decode cX8_digest 4 = .ok (.putfield 209, 3) := by decide +kernel
theorem dX8_digest_7 : decode cX8_digest 7 = .ok (.iconst 0, 1) := by decide +kernel
theorem dX8_digest_8 : decode cX8_digest 8 = .ok (.istore_n 1, 1) := by decide +kernel
theorem dX8_digest_9 : decode cX8_digest 9 = .ok (.iload_n 1, 1) := by decide +kernel
theorem dX8_digest_10 : decode cX8_digest 10 = .ok (.aload_n 0, 1) := by decide +kernel
theorem dX8_digest_11 : decode cX8_digest 11 = .ok (.getfield 129, 3) := by decide +kernel
theorem dX8_digest_14 : decode cX8_digest 14 = .ok (.if_icmp .ge 70, 3) := by decide +kernel
theorem dX8_digest_17 : decode cX8_digest 17 = .ok (.aload_n 0, 1) := by decide +kernel
theorem dX8_digest_18 : decode cX8_digest 18 = .ok (.aload_n 0, 1) := by decide +kernel
theorem dX8_digest_19 : decode cX8_digest 19 = .ok (.getfield 29, 3) := by decide +kernel
theorem dX8_digest_22 : decode cX8_digest 22 = .ok (.iload_n 1, 1) := by decide +kernel
theorem dX8_digest_23 : decode cX8_digest 23 = .ok (.iaload, 1) := by decide +kernel
theorem dX8_digest_24 : decode cX8_digest 24 = .ok (.i2l, 1) := by decide +kernel
theorem dX8_digest_25 : decode cX8_digest 25 = .ok (.invokevirtual 215, 3) := by decide +kernel
theorem dX8_digest_28 : decode cX8_digest 28 = .ok (.aload_n 0, 1) := by decide +kernel
theorem dX8_digest_29 : decode cX8_digest 29 = .ok (.aload_n 0, 1) := by decide +kernel
theorem dX8_digest_30 : decode cX8_digest 30 = .ok (.iload_n 1, 1) := by decide +kernel
theorem dX8_digest_31 : decode cX8_digest 31 = .ok (.invokevirtual 172, 3) := by decide +kernel
theorem dX8_digest_34 : decode cX8_digest 34 = .ok (.i2l, 1) := by decide +kernel
theorem dX8_digest_35 : decode cX8_digest 35 = .ok (.invokevirtual 215, 3) := by decide +kernel
theorem dX8_digest_38 : decode cX8_digest 38 = .ok (.aload_n 0, 1) := by decide +kernel
theorem dX8_digest_39 : decode cX8_digest 39 = .ok (.aload_n 0, 1) := by decide +kernel
theorem dX8_digest_40 : decode cX8_digest 40 = .ok (.getfield 38, 3) := by decide +kernel
theorem dX8_digest_43 : decode cX8_digest 43 = .ok (.iload_n 1, 1) := by decide +kernel
theorem dX8_digest_44 : decode cX8_digest 44 = .ok (.iaload, 1) := by decide +kernel
theorem dX8_digest_45 : decode cX8_digest 45 = .ok (.i2l, 1) := by decide +kernel
theorem dX8_digest_46 : decode cX8_digest 46 = .ok (.invokevirtual 215, 3) := by decide +kernel
theorem dX8_digest_49 : decode cX8_digest 49 = .ok (.aload_n 0, 1) := by decide +kernel
theorem dX8_digest_50 : decode cX8_digest 50 = .ok (.aload_n 0, 1) := by decide +kernel
theorem dX8_digest_51 : decode cX8_digest 51 = .ok (.getfield 35, 3) := by decide +kernel
theorem dX8_digest_54 : decode cX8_digest 54 = .ok (.iload_n 1, 1) := by decide +kernel
theorem dX8_digest_55 : decode cX8_digest 55 = .ok (.iaload, 1) := by decide +kernel
theorem dX8_digest_56 : decode cX8_digest 56 = .ok (.i2l, 1) := by decide +kernel
theorem dX8_digest_57 : decode cX8_digest 57 = .ok (.invokevirtual 215, 3) := by decide +kernel
theorem dX8_digest_60 : decode cX8_digest 60 = .ok (.aload_n 0, 1) := by decide +kernel
theorem dX8_digest_61 : decode cX8_digest 61 = .ok (.aload_n 0, 1) := by decide +kernel
theorem dX8_digest_62 : decode cX8_digest 62 = .ok (.getfield 25, 3) := by decide +kernel
theorem dX8_digest_65 : decode cX8_digest 65 = .ok (.iload_n 1, 1) := by decide +kernel
theorem dX8_digest_66 : decode cX8_digest 66 = .ok (.baload, 1) := by decide +kernel
theorem dX8_digest_67 : decode cX8_digest 67 = .ok (.ifCond .eq 7, 3) := by decide +kernel
theorem dX8_digest_70 : decode cX8_digest 70 = .ok (.lconst 1, 1) := by decide +kernel
theorem dX8_digest_71 : decode cX8_digest 71 = .ok (.goto 4, 3) := by decide +kernel
theorem dX8_digest_74 : decode cX8_digest 74 = .ok (.lconst 0, 1) := by decide +kernel
theorem dX8_digest_75 : decode cX8_digest 75 = .ok (.invokevirtual 215, 3) := by decide +kernel
theorem dX8_digest_78 : decode cX8_digest 78 = .ok (.iinc 1 1, 3) := by decide +kernel
theorem dX8_digest_81 : decode cX8_digest 81 = .ok (.goto (-72), 3) := by decide +kernel
theorem dX8_digest_84 : decode cX8_digest 84 = .ok (.aload_n 0, 1) := by decide +kernel
theorem dX8_digest_85 : decode cX8_digest 85 = .ok (.aload_n 0, 1) := by decide +kernel
theorem dX8_digest_86 : decode cX8_digest 86 = .ok (.getfield 151, 3) := by decide +kernel
theorem dX8_digest_89 : decode cX8_digest 89 = .ok (.i2l, 1) := by decide +kernel
theorem dX8_digest_90 : decode cX8_digest 90 = .ok (.invokevirtual 215, 3) := by decide +kernel
theorem dX8_digest_93 : decode cX8_digest 93 = .ok (.iconst 0, 1) := by decide +kernel
theorem dX8_digest_94 : decode cX8_digest 94 = .ok (.istore_n 1, 1) := by decide +kernel
theorem dX8_digest_95 : decode cX8_digest 95 = .ok (.iload_n 1, 1) := by decide +kernel
theorem dX8_digest_96 : decode cX8_digest 96 = .ok (.aload_n 0, 1) := by decide +kernel
theorem dX8_digest_97 : decode cX8_digest 97 = .ok (.getfield 141, 3) := by decide +kernel
theorem dX8_digest_100 : decode cX8_digest 100 = .ok (.if_icmp .ge 42, 3) := by decide +kernel
theorem dX8_digest_103 : decode cX8_digest 103 = .ok (.aload_n 0, 1) := by decide +kernel
theorem dX8_digest_104 : decode cX8_digest 104 = .ok (.aload_n 0, 1) := by decide +kernel
theorem dX8_digest_105 : decode cX8_digest 105 = .ok (.getfield 66, 3) := by decide +kernel
theorem dX8_digest_108 : decode cX8_digest 108 = .ok (.iload_n 1, 1) := by decide +kernel
theorem dX8_digest_109 : decode cX8_digest 109 = .ok (.iaload, 1) := by decide +kernel
theorem dX8_digest_110 : decode cX8_digest 110 = .ok (.i2l, 1) := by decide +kernel
theorem dX8_digest_111 : decode cX8_digest 111 = .ok (.invokevirtual 215, 3) := by decide +kernel
theorem dX8_digest_114 : decode cX8_digest 114 = .ok (.aload_n 0, 1) := by decide +kernel
theorem dX8_digest_115 : decode cX8_digest 115 = .ok (.aload_n 0, 1) := by decide +kernel
theorem dX8_digest_116 : decode cX8_digest 116 = .ok (.getfield 72, 3) := by decide +kernel
theorem dX8_digest_119 : decode cX8_digest 119 = .ok (.iload_n 1, 1) := by decide +kernel
theorem dX8_digest_120 : decode cX8_digest 120 = .ok (.iaload, 1) := by decide +kernel
theorem dX8_digest_121 : decode cX8_digest 121 = .ok (.i2l, 1) := by decide +kernel
theorem dX8_digest_122 : decode cX8_digest 122 = .ok (.invokevirtual 215, 3) := by decide +kernel
theorem dX8_digest_125 : decode cX8_digest 125 = .ok (.aload_n 0, 1) := by decide +kernel
theorem dX8_digest_126 : decode cX8_digest 126 = .ok (.aload_n 0, 1) := by decide +kernel
theorem dX8_digest_127 : decode cX8_digest 127 = .ok (.getfield 75, 3) := by decide +kernel
theorem dX8_digest_130 : decode cX8_digest 130 = .ok (.iload_n 1, 1) := by decide +kernel
theorem dX8_digest_131 : decode cX8_digest 131 = .ok (.iaload, 1) := by decide +kernel
theorem dX8_digest_132 : decode cX8_digest 132 = .ok (.i2l, 1) := by decide +kernel
theorem dX8_digest_133 : decode cX8_digest 133 = .ok (.invokevirtual 215, 3) := by decide +kernel
theorem dX8_digest_136 : decode cX8_digest 136 = .ok (.iinc 1 1, 3) := by decide +kernel
theorem dX8_digest_139 : decode cX8_digest 139 = .ok (.goto (-44), 3) := by decide +kernel
theorem dX8_digest_142 : decode cX8_digest 142 = .ok (.iconst 0, 1) := by decide +kernel
theorem dX8_digest_143 : decode cX8_digest 143 = .ok (.istore_n 1, 1) := by decide +kernel
theorem dX8_digest_144 : decode cX8_digest 144 = .ok (.iload_n 1, 1) := by decide +kernel
theorem dX8_digest_145 : decode cX8_digest 145 = .ok (.aload_n 0, 1) := by decide +kernel
theorem dX8_digest_146 : decode cX8_digest 146 = .ok (.getfield 144, 3) := by decide +kernel
theorem dX8_digest_149 : decode cX8_digest 149 = .ok (.if_icmp .ge 20, 3) := by decide +kernel
theorem dX8_digest_152 : decode cX8_digest 152 = .ok (.aload_n 0, 1) := by decide +kernel
theorem dX8_digest_153 : decode cX8_digest 153 = .ok (.aload_n 0, 1) := by decide +kernel
theorem dX8_digest_154 : decode cX8_digest 154 = .ok (.getfield 78, 3) := by decide +kernel
theorem dX8_digest_157 : decode cX8_digest 157 = .ok (.iload_n 1, 1) := by decide +kernel
theorem dX8_digest_158 : decode cX8_digest 158 = .ok (.iaload, 1) := by decide +kernel
theorem dX8_digest_159 : decode cX8_digest 159 = .ok (.i2l, 1) := by decide +kernel
theorem dX8_digest_160 : decode cX8_digest 160 = .ok (.invokevirtual 215, 3) := by decide +kernel
theorem dX8_digest_163 : decode cX8_digest 163 = .ok (.iinc 1 1, 3) := by decide +kernel
theorem dX8_digest_166 : decode cX8_digest 166 = .ok (.goto (-22), 3) := by decide +kernel
theorem dX8_digest_169 : decode cX8_digest 169 = .ok (.aload_n 0, 1) := by decide +kernel
theorem dX8_digest_170 : decode cX8_digest 170 = .ok (.aload_n 0, 1) := by decide +kernel
theorem dX8_digest_171 : decode cX8_digest 171 = .ok (.invokevirtual 219, 3) := by decide +kernel
theorem dX8_digest_174 : decode cX8_digest 174 = .ok (.i2l, 1) := by decide +kernel
theorem dX8_digest_175 : decode cX8_digest 175 = .ok (.invokevirtual 215, 3) := by decide +kernel
theorem dX8_digest_178 : decode cX8_digest 178 = .ok (.aload_n 0, 1) := by decide +kernel
theorem dX8_digest_179 : decode cX8_digest 179 = .ok (.aload_n 0, 1) := by decide +kernel
theorem dX8_digest_180 : decode cX8_digest 180 = .ok (.getfield 41, 3) := by decide +kernel
theorem dX8_digest_183 : decode cX8_digest 183 = .ok (.i2l, 1) := by decide +kernel
theorem dX8_digest_184 : decode cX8_digest 184 = .ok (.invokevirtual 215, 3) := by decide +kernel
theorem dX8_digest_187 : decode cX8_digest 187 = .ok (.aload_n 0, 1) := by decide +kernel
theorem dX8_digest_188 : decode cX8_digest 188 = .ok (.aload_n 0, 1) := by decide +kernel
theorem dX8_digest_189 : decode cX8_digest 189 = .ok (.getfield 138, 3) := by decide +kernel
theorem dX8_digest_192 : decode cX8_digest 192 = .ok (.i2l, 1) := by decide +kernel
theorem dX8_digest_193 : decode cX8_digest 193 = .ok (.invokevirtual 215, 3) := by decide +kernel
theorem dX8_digest_196 : decode cX8_digest 196 = .ok (.iconst 0, 1) := by decide +kernel
theorem dX8_digest_197 : decode cX8_digest 197 = .ok (.istore_n 1, 1) := by decide +kernel
theorem dX8_digest_198 : decode cX8_digest 198 = .ok (.iload_n 1, 1) := by decide +kernel
theorem dX8_digest_199 : decode cX8_digest 199 = .ok (.aload_n 0, 1) := by decide +kernel
theorem dX8_digest_200 : decode cX8_digest 200 = .ok (.getfield 106, 3) := by decide +kernel
theorem dX8_digest_203 : decode cX8_digest 203 = .ok (.if_icmp .ge 20, 3) := by decide +kernel
theorem dX8_digest_206 : decode cX8_digest 206 = .ok (.aload_n 0, 1) := by decide +kernel
theorem dX8_digest_207 : decode cX8_digest 207 = .ok (.aload_n 0, 1) := by decide +kernel
theorem dX8_digest_208 : decode cX8_digest 208 = .ok (.getfield 7, 3) := by decide +kernel
theorem dX8_digest_211 : decode cX8_digest 211 = .ok (.iload_n 1, 1) := by decide +kernel
theorem dX8_digest_212 : decode cX8_digest 212 = .ok (.iaload, 1) := by decide +kernel
theorem dX8_digest_213 : decode cX8_digest 213 = .ok (.i2l, 1) := by decide +kernel
theorem dX8_digest_214 : decode cX8_digest 214 = .ok (.invokevirtual 215, 3) := by decide +kernel
theorem dX8_digest_217 : decode cX8_digest 217 = .ok (.iinc 1 1, 3) := by decide +kernel
theorem dX8_digest_220 : decode cX8_digest 220 = .ok (.goto (-22), 3) := by decide +kernel
theorem dX8_digest_223 : decode cX8_digest 223 = .ok (.aload_n 0, 1) := by decide +kernel
theorem dX8_digest_224 : decode cX8_digest 224 = .ok (.aload_n 0, 1) := by decide +kernel
theorem dX8_digest_225 : decode cX8_digest 225 = .ok (.getfield 106, 3) := by decide +kernel
theorem dX8_digest_228 : decode cX8_digest 228 = .ok (.i2l, 1) := by decide +kernel
theorem dX8_digest_229 : decode cX8_digest 229 = .ok (.invokevirtual 215, 3) := by decide +kernel
theorem dX8_digest_232 : decode cX8_digest 232 = .ok (.aload_n 0, 1) := by decide +kernel
theorem dX8_digest_233 : decode cX8_digest 233 = .ok (.getfield 209, 3) := by decide +kernel
theorem dX8_digest_236 : decode cX8_digest 236 = .ok (.lreturn, 1) := by decide +kernel
theorem dJ9_max_7cf53_0 : decode cJ9_max_7cf53 0 = .ok (.iload_n 0, 1) := by decide +kernel
theorem dJ9_max_7cf53_1 : decode cJ9_max_7cf53 1 = .ok (.iload_n 1, 1) := by decide +kernel
theorem dJ9_max_7cf53_2 : decode cJ9_max_7cf53 2 = .ok (.if_icmp .lt 7, 3) := by decide +kernel
theorem dJ9_max_7cf53_5 : decode cJ9_max_7cf53 5 = .ok (.iload_n 0, 1) := by decide +kernel
theorem dJ9_max_7cf53_6 : decode cJ9_max_7cf53 6 = .ok (.goto 4, 3) := by decide +kernel
theorem dJ9_max_7cf53_9 : decode cJ9_max_7cf53 9 = .ok (.iload_n 1, 1) := by decide +kernel
theorem dJ9_max_7cf53_10 : decode cJ9_max_7cf53 10 = .ok (.ireturn, 1) := by decide +kernel
theorem dJ9_min_7cf53_0 : decode cJ9_min_7cf53 0 = .ok (.iload_n 0, 1) := by decide +kernel
theorem dJ9_min_7cf53_1 : decode cJ9_min_7cf53 1 = .ok (.iload_n 1, 1) := by decide +kernel
theorem dJ9_min_7cf53_2 : decode cJ9_min_7cf53 2 = .ok (.if_icmp .gt 7, 3) := by decide +kernel
theorem dJ9_min_7cf53_5 : decode cJ9_min_7cf53 5 = .ok (.iload_n 0, 1) := by decide +kernel
theorem dJ9_min_7cf53_6 : decode cJ9_min_7cf53 6 = .ok (.goto 4, 3) := by decide +kernel
theorem dJ9_min_7cf53_9 : decode cJ9_min_7cf53 9 = .ok (.iload_n 1, 1) := by decide +kernel
theorem dJ9_min_7cf53_10 : decode cJ9_min_7cf53 10 = .ok (.ireturn, 1) := by decide +kernel
theorem dJ7_fill_53178_0 : decode cJ7_fill_53178 0 = .ok (.iconst 0, 1) := by decide +kernel
theorem dJ7_fill_53178_1 : decode cJ7_fill_53178 1 = .ok (.istore_n 2, 1) := by decide +kernel
theorem dJ7_fill_53178_2 : decode cJ7_fill_53178 2 = .ok (.aload_n 0, 1) := by decide +kernel
theorem dJ7_fill_53178_3 : decode cJ7_fill_53178 3 = .ok (.arraylength, 1) := by decide +kernel
theorem dJ7_fill_53178_4 : decode cJ7_fill_53178 4 = .ok (.istore_n 3, 1) := by decide +kernel
theorem dJ7_fill_53178_5 : decode cJ7_fill_53178 5 = .ok (.iload_n 2, 1) := by decide +kernel
theorem dJ7_fill_53178_6 : decode cJ7_fill_53178 6 = .ok (.iload_n 3, 1) := by decide +kernel
theorem dJ7_fill_53178_7 : decode cJ7_fill_53178 7 = .ok (.if_icmp .ge 13, 3) := by decide +kernel
theorem dJ7_fill_53178_10 : decode cJ7_fill_53178 10 = .ok (.aload_n 0, 1) := by decide +kernel
theorem dJ7_fill_53178_11 : decode cJ7_fill_53178 11 = .ok (.iload_n 2, 1) := by decide +kernel
theorem dJ7_fill_53178_12 : decode cJ7_fill_53178 12 = .ok (.iload_n 1, 1) := by decide +kernel
theorem dJ7_fill_53178_13 : decode cJ7_fill_53178 13 = .ok (.iastore, 1) := by decide +kernel
theorem dJ7_fill_53178_14 : decode cJ7_fill_53178 14 = .ok (.iinc 2 1, 3) := by decide +kernel
theorem dJ7_fill_53178_17 : decode cJ7_fill_53178 17 = .ok (.goto (-12), 3) := by decide +kernel
theorem dJ7_fill_53178_20 : decode cJ7_fill_53178 20 = .ok (.return_, 1) := by decide +kernel
