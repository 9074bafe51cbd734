theorem dX7_standing_9 : decode cX7_standing 9 = .ok (.if_icmp .ge 94, 3) := by decide +kernel
theorem dX7_standing_12 : decode cX7_standing 12 = .ok (.iload_n 1, 1) := by decide +kernel
theorem dX7_standing_13 : decode cX7_standing 13 = .ok (.ifCond .eq 32, 3) := by decide +kernel
theorem dX7_standing_16 : decode cX7_standing 16 = .ok (.iload_n 3, 1) := by decide +kernel
theorem dX7_standing_17 : decode cX7_standing 17 = .ok (.ifCond .eq 20, 3) := by decide +kernel
theorem dX7_standing_20 : decode cX7_standing 20 = .ok (.aload_n 0, 1) := by decide +kernel
theorem dX7_standing_21 : decode cX7_standing 21 = .ok (.iconst 0, 1) := by decide +kernel
theorem dX7_standing_22 : decode cX7_standing 22 = .ok (.iload_n 3, 1) := by decide +kernel
theorem dX7_standing_23 : decode cX7_standing 23 = .ok (.iconst 1, 1) := by decide +kernel
theorem dX7_standing_24 : decode cX7_standing 24 = .ok (.isub, 1) := by decide +kernel
theorem dX7_standing_25 : decode cX7_standing 25 = .ok (.invokevirtual 78, 3) := by decide +kernel
theorem dX7_standing_28 : decode cX7_standing 28 = .ok (.aload_n 0, 1) := by decide +kernel
theorem dX7_standing_29 : decode cX7_standing 29 = .ok (.getfield 7, 3) := by decide +kernel
theorem dX7_standing_32 : decode cX7_standing 32 = .ok (.iload_n 3, 1) := by decide +kernel
theorem dX7_standing_33 : decode cX7_standing 33 = .ok (.iaload, 1) := by decide +kernel
theorem dX7_standing_34 : decode cX7_standing 34 = .ok (.if_icmp .ge 7, 3) := by decide +kernel
theorem dX7_standing_37 : decode cX7_standing 37 = .ok (.iconst 1, 1) := by decide +kernel
theorem dX7_standing_38 : decode cX7_standing 38 = .ok (.goto 44, 3) := by decide +kernel
theorem dX7_standing_41 : decode cX7_standing 41 = .ok (.iconst 0, 1) := by decide +kernel
theorem dX7_standing_42 : decode cX7_standing 42 = .ok (.goto 40, 3) := by decide +kernel
theorem dX7_standing_45 : decode cX7_standing 45 = .ok (.iload_n 3, 1) := by decide +kernel
theorem dX7_standing_46 : decode cX7_standing 46 = .ok (.aload_n 0, 1) := by decide +kernel
theorem dX7_standing_47 : decode cX7_standing 47 = .ok (.invokevirtual 37, 3) := by decide +kernel
theorem dX7_standing_50 : decode cX7_standing 50 = .ok (.iconst 1, 1) := by decide +kernel
theorem dX7_standing_51 : decode cX7_standing 51 = .ok (.isub, 1) := by decide +kernel
theorem dX7_standing_52 : decode cX7_standing 52 = .ok (.if_icmp .eq 25, 3) := by decide +kernel
theorem dX7_standing_55 : decode cX7_standing 55 = .ok (.aload_n 0, 1) := by decide +kernel
theorem dX7_standing_56 : decode cX7_standing 56 = .ok (.iload_n 3, 1) := by decide +kernel
theorem dX7_standing_57 : decode cX7_standing 57 = .ok (.iconst 1, 1) := by decide +kernel
theorem dX7_standing_58 : decode cX7_standing 58 = .ok (.iadd, 1) := by decide +kernel
theorem dX7_standing_59 : decode cX7_standing 59 = .ok (.aload_n 0, 1) := by decide +kernel
theorem dX7_standing_60 : decode cX7_standing 60 = .ok (.invokevirtual 37, 3) := by decide +kernel
theorem dX7_standing_63 : decode cX7_standing 63 = .ok (.iconst 1, 1) := by decide +kernel
theorem dX7_standing_64 : decode cX7_standing 64 = .ok (.isub, 1) := by decide +kernel
theorem dX7_standing_65 : decode cX7_standing 65 = .ok (.invokevirtual 78, 3) := by decide +kernel
theorem dX7_standing_68 : decode cX7_standing 68 = .ok (.aload_n 0, 1) := by decide +kernel
theorem dX7_standing_69 : decode cX7_standing 69 = .ok (.getfield 7, 3) := by decide +kernel
theorem dX7_standing_72 : decode cX7_standing 72 = .ok (.iload_n 3, 1) := by decide +kernel
theorem dX7_standing_73 : decode cX7_standing 73 = .ok (.iaload, 1) := by decide +kernel
theorem dX7_standing_74 : decode cX7_standing 74 = .ok (.if_icmp .ge 7, 3) := by decide +kernel
theorem dX7_standing_77 : decode cX7_standing 77 = .ok (.iconst 1, 1) := by decide +kernel
theorem dX7_standing_78 : decode cX7_standing 78 = .ok (.goto 4, 3) := by decide +kernel
theorem dX7_standing_81 : decode cX7_standing 81 = .ok (.iconst 0, 1) := by decide +kernel
theorem dX7_standing_82 : decode cX7_standing 82 = .ok (.istore 4, 2) := by decide +kernel
theorem dX7_standing_84 : decode cX7_standing 84 = .ok (.iload_n 2, 1) := by decide +kernel
theorem dX7_standing_85 : decode cX7_standing 85 = .ok (.iload 4, 2) := by decide +kernel
theorem dX7_standing_87 : decode cX7_standing 87 = .ok (.ifCond .eq 7, 3) := by decide +kernel
theorem dX7_standing_90 : decode cX7_standing 90 = .ok (.iconst 1, 1) := by decide +kernel
theorem dX7_standing_91 : decode cX7_standing 91 = .ok (.goto 4, 3) := by decide +kernel
theorem dX7_standing_94 : decode cX7_standing 94 = .ok (.iconst 0, 1) := by decide +kernel
theorem dX7_standing_95 : decode cX7_standing 95 = .ok (.iadd, 1) := by decide +kernel
theorem dX7_standing_96 : decode cX7_standing 96 = .ok (.istore_n 2, 1) := by decide +kernel
theorem dX7_standing_97 : decode cX7_standing 97 = .ok (.iinc 3 1, 3) := by decide +kernel
theorem dX7_standing_100 : decode cX7_standing 100 = .ok (.goto (-96), 3) := by decide +kernel
theorem dX7_standing_103 : decode cX7_standing 103 = .ok (.iload_n 2, 1) := by decide +kernel
theorem dX7_standing_104 : decode cX7_standing 104 = .ok (.ireturn, 1) := by decide +kernel
set_option maxRecDepth 20000 in
theorem ggX7_told_X7_many : GoodIn wsX7_told wsX7_many := goodIn_r _ [6, 7, 101, 102, 103, 104, 105, 106, 107, 108, 109, 110, 111, 112] (by decide +kernel) (by decide +kernel)
set_option maxRecDepth 20000 in
theorem gX7_told_X7_many : GoodIn wsX7_told (wsV RX7 37 RX7 yX7_many wsX7_many) := goodIn_app (goodIn_of _ (by decide +kernel)) ggX7_told_X7_many
set_option maxRecDepth 20000 in
theorem ggX7_told_X7_sum : GoodIn wsX7_told wsX7_sum := goodIn_r _ [11, 7, 101, 102, 103, 104, 105, 106, 107, 108, 109, 110, 111, 112] (by decide +kernel) (by decide +kernel)
set_option maxRecDepth 20000 in
theorem gX7_told_X7_sum : GoodIn wsX7_told (wsV RX7 115 RX7 yX7_sum wsX7_sum) := goodIn_app (goodIn_of _ (by decide +kernel)) ggX7_told_X7_sum
set_option maxRecDepth 20000 in
theorem ggX7_told_X7_greatest : GoodIn wsX7_told wsX7_greatest := goodIn_r _ [15, 7, 101, 102, 103, 104, 105, 106, 107, 108, 109, 110, 111, 112] (by decide +kernel) (by decide +kernel)
set_option maxRecDepth 20000 in
theorem gX7_told_X7_greatest : GoodIn wsX7_told (wsV RX7 78 RX7 yX7_greatest wsX7_greatest) := goodIn_app (goodIn_of _ (by decide +kernel)) ggX7_told_X7_greatest
set_option maxRecDepth 20000 in
theorem ggX7_told_X7_water : GoodIn wsX7_told wsX7_water := goodIn_r _ [19, 20, 21, 22, 5, 23, 7, 12, 13, 14, 15, 101, 102, 103, 104, 105, 106, 107, 108, 109, 110, 111, 112] (by decide +kernel) (by decide +kernel)
set_option maxRecDepth 20000 in
theorem gX7_told_X7_water : GoodIn wsX7_told (wsV RX7 71 RX7 yX7_water wsX7_water) := goodIn_app (goodIn_of _ (by decide +kernel)) ggX7_told_X7_water
set_option maxRecDepth 20000 in
theorem ggX7_told_X7_pools : GoodIn wsX7_told wsX7_pools := goodIn_r _ [27, 2, 3, 4, 5, 6, 7, 28, 29, 30, 31, 32, 33, 34, 35, 36, 37, 38, 39, 40, 41, 42, 20, 21, 22, 23, 12, 13, 14, 15, 101, 102, 103, 104, 105, 106, 107, 108, 109, 110, 111, 112] (by decide +kernel) (by decide +kernel)
set_option maxRecDepth 20000 in
theorem gX7_told_X7_pools : GoodIn wsX7_told (wsV RX7 118 RX7 yX7_pools wsX7_pools) := goodIn_app (goodIn_of _ (by decide +kernel)) ggX7_told_X7_pools
set_option maxRecDepth 20000 in
theorem ggX7_told_X7_layRectangles : GoodIn wsX7_told wsX7_layRectangles := goodIn_r _ [46, 47, 48, 49, 2, 3, 4, 5, 6, 7, 50, 51, 52, 53, 54, 55, 56, 57, 58, 59, 60, 61, 101, 102, 103, 104, 105, 106, 107, 108, 109, 110, 111, 112] (by decide +kernel) (by decide +kernel)
set_option maxRecDepth 20000 in
theorem gX7_told_X7_layRectangles : GoodIn wsX7_told (wsV RX7 121 RX7 yX7_layRectangles wsX7_layRectangles) := goodIn_app (goodIn_of _ (by decide +kernel)) ggX7_told_X7_layRectangles
set_option maxRecDepth 20000 in
theorem ggX7_told_X7_standing : GoodIn wsX7_told wsX7_standing := goodIn_r _ [65, 7, 2, 3, 4, 5, 6, 12, 13, 14, 15, 101, 102, 103, 104, 105, 106, 107, 108, 109, 110, 111, 112] (by decide +kernel) (by decide +kernel)
set_option maxRecDepth 20000 in
theorem gX7_told_X7_standing : GoodIn wsX7_told (wsV RX7 124 RX7 yX7_standing wsX7_standing) := goodIn_app (goodIn_of _ (by decide +kernel)) ggX7_told_X7_standing
set_option maxRecDepth 20000 in
theorem ggX7_told_X7_deepest : GoodIn wsX7_told wsX7_deepest := goodIn_r _ [69, 2, 3, 4, 5, 6, 7, 70, 71, 72, 73, 74, 75, 76, 77, 78, 54, 55, 56, 57, 79, 80, 81, 82, 101, 102, 103, 104, 105, 106, 107, 108, 109, 110, 111, 112] (by decide +kernel) (by decide +kernel)
set_option maxRecDepth 20000 in
theorem gX7_told_X7_deepest : GoodIn wsX7_told (wsV RX7 128 RX7 yX7_deepest wsX7_deepest) := goodIn_app (goodIn_of _ (by decide +kernel)) ggX7_told_X7_deepest
set_option maxRecDepth 20000 in
theorem ggX7_told_X7_horizontal : GoodIn wsX7_told wsX7_horizontal := goodIn_r _ [86, 7, 2, 3, 4, 5, 6, 101, 102, 103, 104, 105, 106, 107, 108, 109, 110, 111, 112] (by decide +kernel) (by decide +kernel)
set_option maxRecDepth 20000 in
theorem gX7_told_X7_horizontal : GoodIn wsX7_told (wsV RX7 131 RX7 yX7_horizontal wsX7_horizontal) := goodIn_app (goodIn_of _ (by decide +kernel)) ggX7_told_X7_horizontal
set_option maxRecDepth 20000 in
theorem ggX7_told_X7_strokes : GoodIn wsX7_told wsX7_strokes := goodIn_r _ [90, 91, 92, 93, 94, 5, 95, 96, 7, 2, 3, 4, 6, 97, 98, 99, 100, 101, 102, 103, 104, 105, 106, 107, 108, 109, 110, 111, 112] (by decide +kernel) (by decide +kernel)
set_option maxRecDepth 20000 in
theorem gX7_told_X7_strokes : GoodIn wsX7_told (wsV RX7 134 RX7 yX7_strokes wsX7_strokes) := goodIn_app (goodIn_of _ (by decide +kernel)) ggX7_told_X7_strokes
theorem dX7_told_0 : decode cX7_told 0 = .ok (.iload_n 1, 1) := by decide +kernel
theorem dX7_told_1 : decode cX7_told 1 = .ok (.tableswitch 157 0 11 #[63, 68, 80, 103, 115, 120, 125, 131, 137, 142, 147, 152], 63) := by decide +kernel
theorem dX7_told_64 : decode cX7_told 64 = .ok (.aload_n 0, 1) := by decide +kernel
theorem dX7_told_65 : decode cX7_told 65 = .ok (.invokevirtual 37, 3) := by decide +kernel
theorem dX7_told_68 : decode cX7_told 68 = .ok (.ireturn, 1) := by decide +kernel
theorem dX7_told_69 : decode cX7_told 69 = .ok (.aload_n 0, 1) := by decide +kernel
theorem dX7_told_70 : decode cX7_told 70 = .ok (.iconst 0, 1) := by decide +kernel
theorem dX7_told_71 : decode cX7_told 71 = .ok (.aload_n 0, 1) := by decide +kernel
theorem dX7_told_72 : decode cX7_told 72 = .ok (.invokevirtual 37, 3) := by decide +kernel
theorem dX7_told_75 : decode cX7_told 75 = .ok (.iconst 1, 1) := by decide +kernel
theorem dX7_told_76 : decode cX7_told 76 = .ok (.isub, 1) := by decide +kernel
theorem dX7_told_77 : decode cX7_told 77 = .ok (.invokevirtual 115, 3) := by decide +kernel
theorem dX7_told_80 : decode cX7_told 80 = .ok (.ireturn, 1) := by decide +kernel
theorem dX7_told_81 : decode cX7_told 81 = .ok (.aload_n 0, 1) := by decide +kernel
theorem dX7_told_82 : decode cX7_told 82 = .ok (.invokevirtual 37, 3) := by decide +kernel
theorem dX7_told_85 : decode cX7_told 85 = .ok (.ifCond .ne 7, 3) := by decide +kernel
theorem dX7_told_88 : decode cX7_told 88 = .ok (.iconst 0, 1) := by decide +kernel
theorem dX7_told_89 : decode cX7_told 89 = .ok (.goto 14, 3) := by decide +kernel
theorem dX7_told_92 : decode cX7_told 92 = .ok (.aload_n 0, 1) := by decide +kernel
theorem dX7_told_93 : decode cX7_told 93 = .ok (.iconst 0, 1) := by decide +kernel
theorem dX7_told_94 : decode cX7_told 94 = .ok (.aload_n 0, 1) := by decide +kernel
theorem dX7_told_95 : decode cX7_told 95 = .ok (.invokevirtual 37, 3) := by decide +kernel
theorem dX7_told_98 : decode cX7_told 98 = .ok (.iconst 1, 1) := by decide +kernel
theorem dX7_told_99 : decode cX7_told 99 = .ok (.isub, 1) := by decide +kernel
theorem dX7_told_100 : decode cX7_told 100 = .ok (.invokevirtual 78, 3) := by decide +kernel
theorem dX7_told_103 : decode cX7_told 103 = .ok (.ireturn, 1) := by decide +kernel
theorem dX7_told_104 : decode cX7_told 104 = .ok (.aload_n 0, 1) := by decide +kernel
theorem dX7_told_105 : decode cX7_told 105 = .ok (.iconst 0, 1) := by decide +kernel
theorem dX7_told_106 : decode cX7_told 106 = .ok (.aload_n 0, 1) := by decide +kernel
theorem dX7_told_107 : decode cX7_told 107 = .ok (.invokevirtual 37, 3) := by decide +kernel
theorem dX7_told_110 : decode cX7_told 110 = .ok (.iconst 1, 1) := by decide +kernel
theorem dX7_told_111 : decode cX7_told 111 = .ok (.isub, 1) := by decide +kernel
theorem dX7_told_112 : decode cX7_told 112 = .ok (.invokevirtual 71, 3) := by decide +kernel
theorem dX7_told_115 : decode cX7_told 115 = .ok (.ireturn, 1) := by decide +kernel
theorem dX7_told_116 : decode cX7_told 116 = .ok (.aload_n 0, 1) := by decide +kernel
theorem dX7_told_117 : decode cX7_told 117 = .ok (.invokevirtual 118, 3) := by decide +kernel
theorem dX7_told_120 : decode cX7_told 120 = .ok (.ireturn, 1) := by decide +kernel
theorem dX7_told_121 : decode cX7_told 121 = .ok (.aload_n 0, 1) := by decide +kernel
theorem dX7_told_122 : decode cX7_told 122 = .ok (.invokevirtual 121, 3) := by decide +kernel
theorem dX7_told_125 : decode cX7_told 125 = .ok (.ireturn, 1) := by decide +kernel
theorem dX7_told_126 : decode cX7_told 126 = .ok (.aload_n 0, 1) := by decide +kernel
theorem dX7_told_127 : decode cX7_told 127 = .ok (.iconst 1, 1) := by decide +kernel
theorem dX7_told_128 : decode cX7_told 128 = .ok (.invokevirtual 124, 3) := by decide +kernel
theorem dX7_told_131 : decode cX7_told 131 = .ok (.ireturn, 1) := by decide +kernel
theorem dX7_told_132 : decode cX7_told 132 = .ok (.aload_n 0, 1) := by decide +kernel
theorem dX7_told_133 : decode cX7_told 133 = .ok (.iconst 0, 1) := by decide +kernel
theorem dX7_told_134 : decode cX7_told 134 = .ok (.invokevirtual 124, 3) := by decide +kernel
theorem dX7_told_137 : decode cX7_told 137 = .ok (.ireturn, 1) := by decide +kernel
theorem dX7_told_138 : decode cX7_told 138 = .ok (.aload_n 0, 1) := by decide +kernel
theorem dX7_told_139 : decode cX7_told 139 = .ok (.invokevirtual 128, 3) := by decide +kernel
theorem dX7_told_142 : decode cX7_told 142 = .ok (.ireturn, 1) := by decide +kernel
theorem dX7_told_143 : decode cX7_told 143 = .ok (.aload_n 0, 1) := by decide +kernel
theorem dX7_told_144 : decode cX7_told 144 = .ok (.invokevirtual 131, 3) := by decide +kernel
theorem dX7_told_147 : decode cX7_told 147 = .ok (.ireturn, 1) := by decide +kernel
theorem dX7_told_148 : decode cX7_told 148 = .ok (.aload_n 0, 1) := by decide +kernel
theorem dX7_told_149 : decode cX7_told 149 = .ok (.invokevirtual 134, 3) := by decide +kernel
theorem dX7_told_152 : decode cX7_told 152 = .ok (.ireturn, 1) := by decide +kernel
theorem dX7_told_153 : decode cX7_told 153 = .ok (.aload_n 0, 1) := by decide +kernel
theorem dX7_told_154 : decode cX7_told 154 = .ok (.getfield 49, 3) := by decide +kernel
theorem dX7_told_157 : decode cX7_told 157 = .ok (.ireturn, 1) := by decide +kernel
theorem dX7_told_158 : decode cX7_told 158 = .ok (.iconst (-1), 1) := by decide +kernel
theorem dX7_told_159 : decode cX7_told 159 = .ok (.ireturn, 1) := by decide +kernel
set_option maxRecDepth 20000 in
theorem ggX7_nearest_X7_isColumn : GoodIn wsX7_nearest wsX7_isColumn := goodIn_r _ [6, 7, 8, 9, 5, 10, 1, 11, 12, 13, 14, 15, 16, 17, 18, 19, 20, 21, 22, 23, 24, 25] (by decide +kernel) (by decide +kernel)
set_option maxRecDepth 20000 in
theorem gX7_nearest_X7_isColumn : GoodIn wsX7_nearest (wsV RX7 45 RX7 yX7_isColumn wsX7_isColumn) := goodIn_app (goodIn_of _ (by decide +kernel)) ggX7_nearest_X7_isColumn
theorem dX7_nearest_0 : decode cX7_nearest 0 = .ok (.iload_n 1, 1) := by decide +kernel
theorem dX7_nearest_1 : decode cX7_nearest 1 = .ok (.iload_n 2, 1) := by decide +kernel
theorem dX7_nearest_2 : decode cX7_nearest 2 = .ok (.iadd, 1) := by decide +kernel
theorem dX7_nearest_3 : decode cX7_nearest 3 = .ok (.istore 4, 2) := by decide +kernel
theorem dX7_nearest_5 : decode cX7_nearest 5 = .ok (.aload_n 0, 1) := by decide +kernel
theorem dX7_nearest_6 : decode cX7_nearest 6 = .ok (.iload 4, 2) := by decide +kernel
theorem dX7_nearest_8 : decode cX7_nearest 8 = .ok (.invokevirtual 45, 3) := by decide +kernel
theorem dX7_nearest_11 : decode cX7_nearest 11 = .ok (.ifCond .eq 51, 3) := by decide +kernel
theorem dX7_nearest_14 : decode cX7_nearest 14 = .ok (.iload_n 3, 1) := by decide +kernel
theorem dX7_nearest_15 : decode cX7_nearest 15 = .ok (.ifCond .eq 22, 3) := by decide +kernel
theorem dX7_nearest_18 : decode cX7_nearest 18 = .ok (.aload_n 0, 1) := by decide +kernel
theorem dX7_nearest_19 : decode cX7_nearest 19 = .ok (.getfield 7, 3) := by decide +kernel
theorem dX7_nearest_22 : decode cX7_nearest 22 = .ok (.iload 4, 2) := by decide +kernel
theorem dX7_nearest_24 : decode cX7_nearest 24 = .ok (.iaload, 1) := by decide +kernel
theorem dX7_nearest_25 : decode cX7_nearest 25 = .ok (.aload_n 0, 1) := by decide +kernel
theorem dX7_nearest_26 : decode cX7_nearest 26 = .ok (.getfield 7, 3) := by decide +kernel
theorem dX7_nearest_29 : decode cX7_nearest 29 = .ok (.iload_n 1, 1) := by decide +kernel
theorem dX7_nearest_30 : decode cX7_nearest 30 = .ok (.iaload, 1) := by decide +kernel
theorem dX7_nearest_31 : decode cX7_nearest 31 = .ok (.if_icmp .lt 31, 3) := by decide +kernel
theorem dX7_nearest_34 : decode cX7_nearest 34 = .ok (.goto 19, 3) := by decide +kernel
theorem dX7_nearest_37 : decode cX7_nearest 37 = .ok (.aload_n 0, 1) := by decide +kernel
theorem dX7_nearest_38 : decode cX7_nearest 38 = .ok (.getfield 7, 3) := by decide +kernel
theorem dX7_nearest_41 : decode cX7_nearest 41 = .ok (.iload 4, 2) := by decide +kernel
theorem dX7_nearest_43 : decode cX7_nearest 43 = .ok (.iaload, 1) := by decide +kernel
theorem dX7_nearest_44 : decode cX7_nearest 44 = .ok (.aload_n 0, 1) := by decide +kernel
theorem dX7_nearest_45 : decode cX7_nearest 45 = .ok (.getfield 7, 3) := by decide +kernel
theorem dX7_nearest_48 : decode cX7_nearest 48 = .ok (.iload_n 1, 1) := by decide +kernel
theorem dX7_nearest_49 : decode cX7_nearest 49 = .ok (.iaload, 1) := by decide +kernel
theorem dX7_nearest_50 : decode cX7_nearest 50 = .ok (.if_icmp .gt 12, 3) := by decide +kernel
theorem dX7_nearest_53 : decode cX7_nearest 53 = .ok (.iload 4, 2) := by decide +kernel
theorem dX7_nearest_55 : decode cX7_nearest 55 = .ok (.iload_n 2, 1) := by decide +kernel
theorem dX7_nearest_56 : decode cX7_nearest 56 = .ok (.iadd, 1) := by decide +kernel
theorem dX7_nearest_57 : decode cX7_nearest 57 = .ok (.istore 4, 2) := by decide +kernel
theorem dX7_nearest_59 : decode cX7_nearest 59 = .ok (.goto (-54), 3) := by decide +kernel
theorem dX7_nearest_62 : decode cX7_nearest 62 = .ok (.aload_n 0, 1) := by decide +kernel
theorem dX7_nearest_63 : decode cX7_nearest 63 = .ok (.iload 4, 2) := by decide +kernel
theorem dX7_nearest_65 : decode cX7_nearest 65 = .ok (.invokevirtual 45, 3) := by decide +kernel
theorem dX7_nearest_68 : decode cX7_nearest 68 = .ok (.ifCond .eq 8, 3) := by decide +kernel
theorem dX7_nearest_71 : decode cX7_nearest 71 = .ok (.iload 4, 2) := by decide +kernel
theorem dX7_nearest_73 : decode cX7_nearest 73 = .ok (.goto 5, 3) := by decide +kernel
theorem dX7_nearest_76 : decode cX7_nearest 76 = .ok (.bipush (-9), 2) := by decide +kernel
theorem dX7_nearest_78 : decode cX7_nearest 78 = .ok (.ireturn, 1) := by decide +kernel
set_option maxRecDepth 20000 in
theorem ggX7_reach_X7_many : GoodIn wsX7_reach wsX7_many := goodIn_r _ [6, 1, 7, 8, 9, 10, 11, 12, 13, 14, 15, 16, 17, 18] (by decide +kernel) (by decide +kernel)
set_option maxRecDepth 20000 in
theorem gX7_reach_X7_many : GoodIn wsX7_reach (wsV RX7 37 RX7 yX7_many wsX7_many) := goodIn_app (goodIn_of _ (by decide +kernel)) ggX7_reach_X7_many
theorem dX7_reach_0 : decode cX7_reach 0 = .ok (.iload_n 1, 1) := by decide +kernel
theorem dX7_reach_1 : decode cX7_reach 1 = .ok (.istore_n 2, 1) := by decide +kernel
theorem dX7_reach_2 : decode cX7_reach 2 = .ok (.iload_n 1, 1) := by decide +kernel
theorem dX7_reach_3 : decode cX7_reach 3 = .ok (.istore_n 3, 1) := by decide +kernel
theorem dX7_reach_4 : decode cX7_reach 4 = .ok (.iload_n 2, 1) := by decide +kernel
theorem dX7_reach_5 : decode cX7_reach 5 = .ok (.ifCond .le 26, 3) := by decide +kernel
theorem dX7_reach_8 : decode cX7_reach 8 = .ok (.aload_n 0, 1) := by decide +kernel
theorem dX7_reach_9 : decode cX7_reach 9 = .ok (.getfield 7, 3) := by decide +kernel
theorem dX7_reach_12 : decode cX7_reach 12 = .ok (.iload_n 2, 1) := by decide +kernel
theorem dX7_reach_13 : decode cX7_reach 13 = .ok (.iconst 1, 1) := by decide +kernel
theorem dX7_reach_14 : decode cX7_reach 14 = .ok (.isub, 1) := by decide +kernel
theorem dX7_reach_15 : decode cX7_reach 15 = .ok (.iaload, 1) := by decide +kernel
theorem dX7_reach_16 : decode cX7_reach 16 = .ok (.aload_n 0, 1) := by decide +kernel
theorem dX7_reach_17 : decode cX7_reach 17 = .ok (.getfield 7, 3) := by decide +kernel
theorem dX7_reach_20 : decode cX7_reach 20 = .ok (.iload_n 1, 1) := by decide +kernel
theorem dX7_reach_21 : decode cX7_reach 21 = .ok (.iaload, 1) := by decide +kernel
theorem dX7_reach_22 : decode cX7_reach 22 = .ok (.if_icmp .lt 9, 3) := by decide +kernel
theorem dX7_reach_25 : decode cX7_reach 25 = .ok (.iinc 2 (-1), 3) := by decide +kernel
theorem dX7_reach_28 : decode cX7_reach 28 = .ok (.goto (-24), 3) := by decide +kernel
theorem dX7_reach_31 : decode cX7_reach 31 = .ok (.iload_n 3, 1) := by decide +kernel
theorem dX7_reach_32 : decode cX7_reach 32 = .ok (.aload_n 0, 1) := by decide +kernel
theorem dX7_reach_33 : decode cX7_reach 33 = .ok (.invokevirtual 37, 3) := by decide +kernel
theorem dX7_reach_36 : decode cX7_reach 36 = .ok (.iconst 1, 1) := by decide +kernel
theorem dX7_reach_37 : decode cX7_reach 37 = .ok (.isub, 1) := by decide +kernel
theorem dX7_reach_38 : decode cX7_reach 38 = .ok (.if_icmp .ge 26, 3) := by decide +kernel
theorem dX7_reach_41 : decode cX7_reach 41 = .ok (.aload_n 0, 1) := by decide +kernel
theorem dX7_reach_42 : decode cX7_reach 42 = .ok (.getfield 7, 3) := by decide +kernel
theorem dX7_reach_45 : decode cX7_reach 45 = .ok (.iload_n 3, 1) := by decide +kernel
theorem dX7_reach_46 : decode cX7_reach 46 = .ok (.iconst 1, 1) := by decide +kernel
theorem dX7_reach_47 : decode cX7_reach 47 = .ok (.iadd, 1) := by decide +kernel
theorem dX7_reach_48 : decode cX7_reach 48 = .ok (.iaload, 1) := by decide +kernel
theorem dX7_reach_49 : decode cX7_reach 49 = .ok (.aload_n 0, 1) := by decide +kernel
theorem dX7_reach_50 : decode cX7_reach 50 = .ok (.getfield 7, 3) := by decide +kernel
theorem dX7_reach_53 : decode cX7_reach 53 = .ok (.iload_n 1, 1) := by decide +kernel
theorem dX7_reach_54 : decode cX7_reach 54 = .ok (.iaload, 1) := by decide +kernel
theorem dX7_reach_55 : decode cX7_reach 55 = .ok (.if_icmp .lt 9, 3) := by decide +kernel
theorem dX7_reach_58 : decode cX7_reach 58 = .ok (.iinc 3 1, 3) := by decide +kernel
theorem dX7_reach_61 : decode cX7_reach 61 = .ok (.goto (-30), 3) := by decide +kernel
theorem dX7_reach_64 : decode cX7_reach 64 = .ok (.iload_n 3, 1) := by decide +kernel
theorem dX7_reach_65 : decode cX7_reach 65 = .ok (.iload_n 2, 1) := by decide +kernel
theorem dX7_reach_66 : decode cX7_reach 66 = .ok (.isub, 1) := by decide +kernel
theorem dX7_reach_67 : decode cX7_reach 67 = .ok (.iconst 1, 1) := by decide +kernel
theorem dX7_reach_68 : decode cX7_reach 68 = .ok (.iadd, 1) := by decide +kernel
theorem dX7_reach_69 : decode cX7_reach 69 = .ok (.ireturn, 1) := by decide +kernel
set_option maxRecDepth 20000 in
theorem ggX7_stairLength_X7_nearest : GoodIn wsX7_stairLength wsX7_nearest := goodIn_r _ [5, 6, 7, 8, 9, 4, 10, 11, 12, 13, 14, 15, 16, 17, 18, 19, 20, 21, 22, 23, 24, 25, 26, 27, 28, 29] (by decide +kernel) (by decide +kernel)
set_option maxRecDepth 20000 in
theorem gX7_stairLength_X7_nearest : GoodIn wsX7_stairLength (wsV RX7 137 RX7 yX7_nearest wsX7_nearest) := goodIn_app (goodIn_of _ (by decide +kernel)) ggX7_stairLength_X7_nearest
theorem dX7_stairLength_0 : decode cX7_stairLength 0 = .ok (.iconst 0, 1) := by decide +kernel
theorem dX7_stairLength_1 : decode cX7_stairLength 1 = .ok (.istore_n 2, 1) := by decide +kernel
theorem dX7_stairLength_2 : decode cX7_stairLength 2 = .ok (.iload_n 1, 1) := by decide +kernel
theorem dX7_stairLength_3 : decode cX7_stairLength 3 = .ok (.istore_n 3, 1) := by decide +kernel
theorem dX7_stairLength_4 : decode cX7_stairLength 4 = .ok (.iload_n 3, 1) := by decide +kernel
theorem dX7_stairLength_5 : decode cX7_stairLength 5 = .ok (.bipush (-9), 2) := by decide +kernel
theorem dX7_stairLength_7 : decode cX7_stairLength 7 = .ok (.if_icmp .eq 17, 3) := by decide +kernel
theorem dX7_stairLength_10 : decode cX7_stairLength 10 = .ok (.iinc 2 1, 3) := by decide +kernel
theorem dX7_stairLength_13 : decode cX7_stairLength 13 = .ok (.aload_n 0, 1) := by decide +kernel
theorem dX7_stairLength_14 : decode cX7_stairLength 14 = .ok (.iload_n 3, 1) := by decide +kernel
theorem dX7_stairLength_15 : decode cX7_stairLength 15 = .ok (.iconst (-1), 1) := by decide +kernel
theorem dX7_stairLength_16 : decode cX7_stairLength 16 = .ok (.iconst 1, 1) := by decide +kernel
theorem dX7_stairLength_17 : decode cX7_stairLength 17 = .ok (.invokevirtual 137, 3) := by decide +kernel
theorem dX7_stairLength_20 : decode cX7_stairLength 20 = .ok (.istore_n 3, 1) := by decide +kernel
theorem dX7_stairLength_21 : decode cX7_stairLength 21 = .ok (.goto (-17), 3) := by decide +kernel
theorem dX7_stairLength_24 : decode cX7_stairLength 24 = .ok (.iload_n 2, 1) := by decide +kernel
theorem dX7_stairLength_25 : decode cX7_stairLength 25 = .ok (.ireturn, 1) := by decide +kernel
set_option maxRecDepth 20000 in
theorem ggX7_column_X7_isColumn : GoodIn wsX7_column wsX7_isColumn := goodIn_r _ [6, 7, 8, 9, 5, 10, 1, 11, 12, 13, 55, 56, 57, 58, 59, 60, 61, 62, 63, 64, 65, 66] (by decide +kernel) (by decide +kernel)
set_option maxRecDepth 20000 in
theorem gX7_column_X7_isColumn : GoodIn wsX7_column (wsV RX7 45 RX7 yX7_isColumn wsX7_isColumn) := goodIn_app (goodIn_of _ (by decide +kernel)) ggX7_column_X7_isColumn
set_option maxRecDepth 20000 in
theorem ggX7_column_X7_nearest : GoodIn wsX7_column wsX7_nearest := goodIn_r _ [17, 1, 2, 3, 4, 5, 6, 7, 8, 9, 10, 11, 12, 13, 55, 56, 57, 58, 59, 60, 61, 62, 63, 64, 65, 66] (by decide +kernel) (by decide +kernel)
set_option maxRecDepth 20000 in
theorem gX7_column_X7_nearest : GoodIn wsX7_column (wsV RX7 137 RX7 yX7_nearest wsX7_nearest) := goodIn_app (goodIn_of _ (by decide +kernel)) ggX7_column_X7_nearest
set_option maxRecDepth 20000 in
theorem ggX7_column_X7_many : GoodIn wsX7_column wsX7_many := goodIn_r _ [10, 1, 55, 56, 57, 58, 59, 60, 61, 62, 63, 64, 65, 66] (by decide +kernel) (by decide +kernel)
set_option maxRecDepth 20000 in
theorem gX7_column_X7_many : GoodIn wsX7_column (wsV RX7 37 RX7 yX7_many wsX7_many) := goodIn_app (goodIn_of _ (by decide +kernel)) ggX7_column_X7_many
set_option maxRecDepth 20000 in
theorem ggX7_column_X7_depth : GoodIn wsX7_column wsX7_depth := goodIn_r _ [21, 1, 22, 23, 24, 5, 25, 55, 56, 57, 58, 59, 60, 61, 62, 63, 64, 65, 66] (by decide +kernel) (by decide +kernel)
set_option maxRecDepth 20000 in
theorem gX7_column_X7_depth : GoodIn wsX7_column (wsV RX7 74 RX7 yX7_depth wsX7_depth) := goodIn_app (goodIn_of _ (by decide +kernel)) ggX7_column_X7_depth
set_option maxRecDepth 20000 in
theorem ggX7_column_X7_parentOf : GoodIn wsX7_column wsX7_parentOf := goodIn_r _ [29, 30, 31, 32, 33, 5, 34, 7, 8, 9, 10, 1, 35, 36, 37, 38, 39, 40, 41, 42, 43, 44, 45, 46, 55, 56, 57, 58, 59, 60, 61, 62, 63, 64, 65, 66] (by decide +kernel) (by decide +kernel)
set_option maxRecDepth 20000 in
theorem gX7_column_X7_parentOf : GoodIn wsX7_column (wsV RX7 141 RX7 yX7_parentOf wsX7_parentOf) := goodIn_app (goodIn_of _ (by decide +kernel)) ggX7_column_X7_parentOf
set_option maxRecDepth 20000 in
theorem ggX7_column_X7_treeDepth : GoodIn wsX7_column wsX7_treeDepth := goodIn_r _ [34, 30, 7, 8, 9, 5, 10, 1, 35, 36, 37, 38, 39, 40, 41, 42, 43, 44, 45, 46, 55, 56, 57, 58, 59, 60, 61, 62, 63, 64, 65, 66] (by decide +kernel) (by decide +kernel)
set_option maxRecDepth 20000 in
theorem gX7_column_X7_treeDepth : GoodIn wsX7_column (wsV RX7 105 RX7 yX7_treeDepth wsX7_treeDepth) := goodIn_app (goodIn_of _ (by decide +kernel)) ggX7_column_X7_treeDepth
set_option maxRecDepth 20000 in
theorem ggX7_column_X7_reach : GoodIn wsX7_column wsX7_reach := goodIn_r _ [50, 1, 7, 8, 9, 5, 10, 55, 56, 57, 58, 59, 60, 61, 62, 63, 64, 65, 66] (by decide +kernel) (by decide +kernel)
set_option maxRecDepth 20000 in
theorem gX7_column_X7_reach : GoodIn wsX7_column (wsV RX7 144 RX7 yX7_reach wsX7_reach) := goodIn_app (goodIn_of _ (by decide +kernel)) ggX7_column_X7_reach
set_option maxRecDepth 20000 in
theorem ggX7_column_X7_stairLength : GoodIn wsX7_column wsX7_stairLength := goodIn_r _ [54, 14, 15, 16, 5, 17, 1, 2, 3, 4, 6, 7, 8, 9, 10, 11, 12, 13, 55, 56, 57, 58, 59, 60, 61, 62, 63, 64, 65, 66] (by decide +kernel) (by decide +kernel)
set_option maxRecDepth 20000 in
theorem gX7_column_X7_stairLength : GoodIn wsX7_column (wsV RX7 147 RX7 yX7_stairLength wsX7_stairLength) := goodIn_app (goodIn_of _ (by decide +kernel)) ggX7_column_X7_stairLength
theorem dX7_column_0 : decode cX7_column 0 = .ok (.aload_n 0, 1) := by decide +kernel
theorem dX7_column_1 : decode cX7_column 1 = .ok (.iload_n 1, 1) := by decide +kernel
theorem dX7_column_2 : decode cX7_column 2 = .ok (.invokevirtual 45, 3) := by decide +kernel
theorem dX7_column_5 : decode cX7_column 5 = .ok (.ifCond .ne 5, 3) := by decide +kernel
theorem dX7_column_8 : decode cX7_column 8 = .ok (.iconst (-1), 1) := by decide +kernel
theorem dX7_column_9 : decode cX7_column 9 = .ok (.ireturn, 1) := by decide +kernel
theorem dX7_column_10 : decode cX7_column 10 = .ok (.iload_n 2, 1) := by decide +kernel
theorem dX7_column_11 : decode cX7_column 11 = .ok (.tableswitch 129 0 9 #[53, 60, 68, 76, 84, 92, 105, 111, 117, 123], 53) := by decide +kernel
theorem dX7_column_64 : decode cX7_column 64 = .ok (.aload_n 0, 1) := by decide +kernel
theorem dX7_column_65 : decode cX7_column 65 = .ok (.getfield 7, 3) := by decide +kernel
theorem dX7_column_68 : decode cX7_column 68 = .ok (.iload_n 1, 1) := by decide +kernel
theorem dX7_column_69 : decode cX7_column 69 = .ok (.iaload, 1) := by decide +kernel
theorem dX7_column_70 : decode cX7_column 70 = .ok (.ireturn, 1) := by decide +kernel
theorem dX7_column_71 : decode cX7_column 71 = .ok (.aload_n 0, 1) := by decide +kernel
theorem dX7_column_72 : decode cX7_column 72 = .ok (.iload_n 1, 1) := by decide +kernel
theorem dX7_column_73 : decode cX7_column 73 = .ok (.iconst (-1), 1) := by decide +kernel
theorem dX7_column_74 : decode cX7_column 74 = .ok (.iconst 1, 1) := by decide +kernel
theorem dX7_column_75 : decode cX7_column 75 = .ok (.invokevirtual 137, 3) := by decide +kernel
theorem dX7_column_78 : decode cX7_column 78 = .ok (.ireturn, 1) := by decide +kernel
theorem dX7_column_79 : decode cX7_column 79 = .ok (.aload_n 0, 1) := by decide +kernel
theorem dX7_column_80 : decode cX7_column 80 = .ok (.iload_n 1, 1) := by decide +kernel
theorem dX7_column_81 : decode cX7_column 81 = .ok (.iconst 1, 1) := by decide +kernel
theorem dX7_column_82 : decode cX7_column 82 = .ok (.iconst 1, 1) := by decide +kernel
theorem dX7_column_83 : decode cX7_column 83 = .ok (.invokevirtual 137, 3) := by decide +kernel
theorem dX7_column_86 : decode cX7_column 86 = .ok (.ireturn, 1) := by decide +kernel
theorem dX7_column_87 : decode cX7_column 87 = .ok (.aload_n 0, 1) := by decide +kernel
theorem dX7_column_88 : decode cX7_column 88 = .ok (.iload_n 1, 1) := by decide +kernel
theorem dX7_column_89 : decode cX7_column 89 = .ok (.iconst (-1), 1) := by decide +kernel
theorem dX7_column_90 : decode cX7_column 90 = .ok (.iconst 0, 1) := by decide +kernel
theorem dX7_column_91 : decode cX7_column 91 = .ok (.invokevirtual 137, 3) := by decide +kernel
theorem dX7_column_94 : decode cX7_column 94 = .ok (.ireturn, 1) := by decide +kernel
theorem dX7_column_95 : decode cX7_column 95 = .ok (.aload_n 0, 1) := by decide +kernel
theorem dX7_column_96 : decode cX7_column 96 = .ok (.iload_n 1, 1) := by decide +kernel
theorem dX7_column_97 : decode cX7_column 97 = .ok (.iconst 1, 1) := by decide +kernel
theorem dX7_column_98 : decode cX7_column 98 = .ok (.iconst 0, 1) := by decide +kernel
theorem dX7_column_99 : decode cX7_column 99 = .ok (.invokevirtual 137, 3) := by decide +kernel
theorem dX7_column_102 : decode cX7_column 102 = .ok (.ireturn, 1) := by decide +kernel
theorem dX7_column_103 : decode cX7_column 103 = .ok (.aload_n 0, 1) := by decide +kernel
theorem dX7_column_104 : decode cX7_column 104 = .ok (.iconst 0, 1) := by decide +kernel
theorem dX7_column_105 : decode cX7_column 105 = .ok (.aload_n 0, 1) := by decide +kernel
theorem dX7_column_106 : decode cX7_column 106 = .ok (.invokevirtual 37, 3) := by decide +kernel
theorem dX7_column_109 : decode cX7_column 109 = .ok (.iconst 1, 1) := by decide +kernel
theorem dX7_column_110 : decode cX7_column 110 = .ok (.isub, 1) := by decide +kernel
theorem dX7_column_111 : decode cX7_column 111 = .ok (.iload_n 1, 1) := by decide +kernel
theorem dX7_column_112 : decode cX7_column 112 = .ok (.invokevirtual 74, 3) := by decide +kernel
theorem dX7_column_115 : decode cX7_column 115 = .ok (.ireturn, 1) := by decide +kernel
theorem dX7_column_116 : decode cX7_column 116 = .ok (.aload_n 0, 1) := by decide +kernel
theorem dX7_column_117 : decode cX7_column 117 = .ok (.iload_n 1, 1) := by decide +kernel
theorem dX7_column_118 : decode cX7_column 118 = .ok (.invokevirtual 141, 3) := by decide +kernel
theorem dX7_column_121 : decode cX7_column 121 = .ok (.ireturn, 1) := by decide +kernel
theorem dX7_column_122 : decode cX7_column 122 = .ok (.aload_n 0, 1) := by decide +kernel
theorem dX7_column_123 : decode cX7_column 123 = .ok (.iload_n 1, 1) := by decide +kernel
theorem dX7_column_124 : decode cX7_column 124 = .ok (.invokevirtual 105, 3) := by decide +kernel
theorem dX7_column_127 : decode cX7_column 127 = .ok (.ireturn, 1) := by decide +kernel
theorem dX7_column_128 : decode cX7_column 128 = .ok (.aload_n 0, 1) := by decide +kernel
theorem dX7_column_129 : decode cX7_column 129 = .ok (.iload_n 1, 1) := by decide +kernel
theorem dX7_column_130 : decode cX7_column 130 = .ok (.invokevirtual 144, 3) := by decide +kernel
theorem dX7_column_133 : decode cX7_column 133 = .ok (.ireturn, 1) := by decide +kernel
theorem dX7_column_134 : decode cX7_column 134 = .ok (.aload_n 0, 1) := by decide +kernel
theorem dX7_column_135 : decode cX7_column 135 = .ok (.iload_n 1, 1) := by decide +kernel
theorem dX7_column_136 : decode cX7_column 136 = .ok (.invokevirtual 147, 3) := by decide +kernel
theorem dX7_column_139 : decode cX7_column 139 = .ok (.ireturn, 1) := by decide +kernel
theorem dX7_column_140 : decode cX7_column 140 = .ok (.iconst (-1), 1) := by decide +kernel
theorem dX7_column_141 : decode cX7_column 141 = .ok (.ireturn, 1) := by decide +kernel
set_option maxRecDepth 20000 in
theorem ggX7_stair_X7_isColumn : GoodIn wsX7_stair wsX7_isColumn := goodIn_r _ [5, 6, 7, 8, 4, 9, 10, 11, 12, 13, 18, 19, 20, 21, 22, 23, 24, 25, 26, 27, 28, 29] (by decide +kernel) (by decide +kernel)
set_option maxRecDepth 20000 in
theorem gX7_stair_X7_isColumn : GoodIn wsX7_stair (wsV RX7 45 RX7 yX7_isColumn wsX7_isColumn) := goodIn_app (goodIn_of _ (by decide +kernel)) ggX7_stair_X7_isColumn
set_option maxRecDepth 20000 in
theorem ggX7_stair_X7_nearest : GoodIn wsX7_stair wsX7_nearest := goodIn_r _ [17, 10, 1, 2, 3, 4, 5, 6, 7, 8, 9, 11, 12, 13, 18, 19, 20, 21, 22, 23, 24, 25, 26, 27, 28, 29] (by decide +kernel) (by decide +kernel)
set_option maxRecDepth 20000 in
theorem gX7_stair_X7_nearest : GoodIn wsX7_stair (wsV RX7 137 RX7 yX7_nearest wsX7_nearest) := goodIn_app (goodIn_of _ (by decide +kernel)) ggX7_stair_X7_nearest
theorem dX7_stair_0 : decode cX7_stair 0 = .ok (.aload_n 0, 1) := by decide +kernel
theorem dX7_stair_1 : decode cX7_stair 1 = .ok (.iload_n 1, 1) := by decide +kernel
theorem dX7_stair_2 : decode cX7_stair 2 = .ok (.invokevirtual 45, 3) := by decide +kernel
theorem dX7_stair_5 : decode cX7_stair 5 = .ok (.ifCond .eq 7, 3) := by decide +kernel
theorem dX7_stair_8 : decode cX7_stair 8 = .ok (.iload_n 2, 1) := by decide +kernel
theorem dX7_stair_9 : decode cX7_stair 9 = .ok (.ifCond .ge 5, 3) := by decide +kernel
theorem dX7_stair_12 : decode cX7_stair 12 = .ok (.iconst (-1), 1) := by decide +kernel
theorem dX7_stair_13 : decode cX7_stair 13 = .ok (.ireturn, 1) := by decide +kernel
theorem dX7_stair_14 : decode cX7_stair 14 = .ok (.iload_n 1, 1) := by decide +kernel
theorem dX7_stair_15 : decode cX7_stair 15 = .ok (.istore_n 3, 1) := by decide +kernel
theorem dX7_stair_16 : decode cX7_stair 16 = .ok (.iconst 0, 1) := by decide +kernel
theorem dX7_stair_17 : decode cX7_stair 17 = .ok (.istore 4, 2) := by decide +kernel
theorem dX7_stair_19 : decode cX7_stair 19 = .ok (.iload 4, 2) := by decide +kernel
theorem dX7_stair_21 : decode cX7_stair 21 = .ok (.iload_n 2, 1) := by decide +kernel
theorem dX7_stair_22 : decode cX7_stair 22 = .ok (.if_icmp .ge 23, 3) := by decide +kernel
theorem dX7_stair_25 : decode cX7_stair 25 = .ok (.iload_n 3, 1) := by decide +kernel
theorem dX7_stair_26 : decode cX7_stair 26 = .ok (.bipush (-9), 2) := by decide +kernel
theorem dX7_stair_28 : decode cX7_stair 28 = .ok (.if_icmp .eq 17, 3) := by decide +kernel
theorem dX7_stair_31 : decode cX7_stair 31 = .ok (.aload_n 0, 1) := by decide +kernel
theorem dX7_stair_32 : decode cX7_stair 32 = .ok (.iload_n 3, 1) := by decide +kernel
theorem dX7_stair_33 : decode cX7_stair 33 = .ok (.iconst (-1), 1) := by decide +kernel
theorem dX7_stair_34 : decode cX7_stair 34 = .ok (.iconst 1, 1) := by decide +kernel
theorem dX7_stair_35 : decode cX7_stair 35 = .ok (.invokevirtual 137, 3) := by decide +kernel
theorem dX7_stair_38 : decode cX7_stair 38 = .ok (.istore_n 3, 1) := by decide +kernel
theorem dX7_stair_39 : decode cX7_stair 39 = .ok (.iinc 4 1, 3) := by decide +kernel
theorem dX7_stair_42 : decode cX7_stair 42 = .ok (.goto (-23), 3) := by decide +kernel
theorem dX7_stair_45 : decode cX7_stair 45 = .ok (.iload_n 3, 1) := by decide +kernel
theorem dX7_stair_46 : decode cX7_stair 46 = .ok (.ireturn, 1) := by decide +kernel
set_option maxRecDepth 20000 in
theorem ggX7_largest_X7_area : GoodIn wsX7_largest wsX7_area := goodIn_r _ [5, 6, 7, 8, 4, 9, 10, 11, 12, 13, 14, 15, 16, 17, 18, 19, 20, 21, 22] (by decide +kernel) (by decide +kernel)
set_option maxRecDepth 20000 in
theorem gX7_largest_X7_area : GoodIn wsX7_largest (wsV RX7 93 RX7 yX7_area wsX7_area) := goodIn_app (goodIn_of _ (by decide +kernel)) ggX7_largest_X7_area
set_option maxRecDepth 20000 in
theorem ggX7_largest_X7_least : GoodIn wsX7_largest wsX7_least := goodIn_r _ [9, 10, 11, 12, 13, 14, 15, 16, 17, 18, 19, 20, 21, 22] (by decide +kernel) (by decide +kernel)
set_option maxRecDepth 20000 in
theorem gX7_largest_X7_least : GoodIn wsX7_largest (wsV RX7 87 RX7 yX7_least wsX7_least) := goodIn_app (goodIn_of _ (by decide +kernel)) ggX7_largest_X7_least
theorem dX7_largest_0 : decode cX7_largest 0 = .ok (.iconst 0, 1) := by decide +kernel
theorem dX7_largest_1 : decode cX7_largest 1 = .ok (.istore 4, 2) := by decide +kernel
theorem dX7_largest_3 : decode cX7_largest 3 = .ok (.bipush (-9), 2) := by decide +kernel
theorem dX7_largest_5 : decode cX7_largest 5 = .ok (.istore 5, 2) := by decide +kernel
theorem dX7_largest_7 : decode cX7_largest 7 = .ok (.bipush (-9), 2) := by decide +kernel
theorem dX7_largest_9 : decode cX7_largest 9 = .ok (.istore 6, 2) := by decide +kernel
theorem dX7_largest_11 : decode cX7_largest 11 = .ok (.iload_n 1, 1) := by decide +kernel
theorem dX7_largest_12 : decode cX7_largest 12 = .ok (.istore 7, 2) := by decide +kernel
theorem dX7_largest_14 : decode cX7_largest 14 = .ok (.iload 7, 2) := by decide +kernel
theorem dX7_largest_16 : decode cX7_largest 16 = .ok (.iload_n 2, 1) := by decide +kernel
theorem dX7_largest_17 : decode cX7_largest 17 = .ok (.if_icmp .gt 56, 3) := by decide +kernel
theorem dX7_largest_20 : decode cX7_largest 20 = .ok (.iload 7, 2) := by decide +kernel
theorem dX7_largest_22 : decode cX7_largest 22 = .ok (.istore 8, 2) := by decide +kernel
theorem dX7_largest_24 : decode cX7_largest 24 = .ok (.iload 8, 2) := by decide +kernel
theorem dX7_largest_26 : decode cX7_largest 26 = .ok (.iload_n 2, 1) := by decide +kernel
theorem dX7_largest_27 : decode cX7_largest 27 = .ok (.if_icmp .gt 40, 3) := by decide +kernel
theorem dX7_largest_30 : decode cX7_largest 30 = .ok (.aload_n 0, 1) := by decide +kernel
theorem dX7_largest_31 : decode cX7_largest 31 = .ok (.iload 7, 2) := by decide +kernel
theorem dX7_largest_33 : decode cX7_largest 33 = .ok (.iload 8, 2) := by decide +kernel
theorem dX7_largest_35 : decode cX7_largest 35 = .ok (.invokevirtual 93, 3) := by decide +kernel
theorem dX7_largest_38 : decode cX7_largest 38 = .ok (.iload 4, 2) := by decide +kernel
theorem dX7_largest_40 : decode cX7_largest 40 = .ok (.if_icmp .le 21, 3) := by decide +kernel
theorem dX7_largest_43 : decode cX7_largest 43 = .ok (.aload_n 0, 1) := by decide +kernel
theorem dX7_largest_44 : decode cX7_largest 44 = .ok (.iload 7, 2) := by decide +kernel
theorem dX7_largest_46 : decode cX7_largest 46 = .ok (.iload 8, 2) := by decide +kernel
theorem dX7_largest_48 : decode cX7_largest 48 = .ok (.invokevirtual 93, 3) := by decide +kernel
theorem dX7_largest_51 : decode cX7_largest 51 = .ok (.istore 4, 2) := by decide +kernel
theorem dX7_largest_53 : decode cX7_largest 53 = .ok (.iload 7, 2) := by decide +kernel
theorem dX7_largest_55 : decode cX7_largest 55 = .ok (.istore 5, 2) := by decide +kernel
theorem dX7_largest_57 : decode cX7_largest 57 = .ok (.iload 8, 2) := by decide +kernel
theorem dX7_largest_59 : decode cX7_largest 59 = .ok (.istore 6, 2) := by decide +kernel
theorem dX7_largest_61 : decode cX7_largest 61 = .ok (.iinc 8 1, 3) := by decide +kernel
theorem dX7_largest_64 : decode cX7_largest 64 = .ok (.goto (-40), 3) := by decide +kernel
theorem dX7_largest_67 : decode cX7_largest 67 = .ok (.iinc 7 1, 3) := by decide +kernel
theorem dX7_largest_70 : decode cX7_largest 70 = .ok (.goto (-56), 3) := by decide +kernel
theorem dX7_largest_73 : decode cX7_largest 73 = .ok (.iload_n 3, 1) := by decide +kernel
theorem dX7_largest_74 : decode cX7_largest 74 = .ok (.tableswitch 35 5 7 #[26, 29, 32], 26) := by decide +kernel
theorem dX7_largest_100 : decode cX7_largest 100 = .ok (.iload 4, 2) := by decide +kernel
theorem dX7_largest_102 : decode cX7_largest 102 = .ok (.ireturn, 1) := by decide +kernel
theorem dX7_largest_103 : decode cX7_largest 103 = .ok (.iload 5, 2) := by decide +kernel
theorem dX7_largest_105 : decode cX7_largest 105 = .ok (.ireturn, 1) := by decide +kernel
theorem dX7_largest_106 : decode cX7_largest 106 = .ok (.iload 6, 2) := by decide +kernel
theorem dX7_largest_108 : decode cX7_largest 108 = .ok (.ireturn, 1) := by decide +kernel
theorem dX7_largest_109 : decode cX7_largest 109 = .ok (.iload 5, 2) := by decide +kernel
theorem dX7_largest_111 : decode cX7_largest 111 = .ok (.bipush (-9), 2) := by decide +kernel
theorem dX7_largest_113 : decode cX7_largest 113 = .ok (.if_icmp .ne 8, 3) := by decide +kernel
theorem dX7_largest_116 : decode cX7_largest 116 = .ok (.bipush (-9), 2) := by decide +kernel
theorem dX7_largest_118 : decode cX7_largest 118 = .ok (.goto 11, 3) := by decide +kernel
theorem dX7_largest_121 : decode cX7_largest 121 = .ok (.aload_n 0, 1) := by decide +kernel
theorem dX7_largest_122 : decode cX7_largest 122 = .ok (.iload 5, 2) := by decide +kernel
theorem dX7_largest_124 : decode cX7_largest 124 = .ok (.iload 6, 2) := by decide +kernel
theorem dX7_largest_126 : decode cX7_largest 126 = .ok (.invokevirtual 87, 3) := by decide +kernel
theorem dX7_largest_129 : decode cX7_largest 129 = .ok (.ireturn, 1) := by decide +kernel
set_option maxRecDepth 20000 in
theorem ggX7_range_X7_isRange : GoodIn wsX7_range wsX7_isRange := goodIn_r _ [5, 6, 7, 8, 4, 9, 10, 11, 12, 13, 14, 15, 16, 17, 42, 43, 44, 45, 46, 47, 48, 49, 50, 51, 52, 53] (by decide +kernel) (by decide +kernel)
set_option maxRecDepth 20000 in
theorem gX7_range_X7_isRange : GoodIn wsX7_range (wsV RX7 60 RX7 yX7_isRange wsX7_isRange) := goodIn_app (goodIn_of _ (by decide +kernel)) ggX7_range_X7_isRange
set_option maxRecDepth 20000 in
theorem ggX7_range_X7_isIn : GoodIn wsX7_range wsX7_isIn := goodIn_r _ [17] (by decide +kernel) (by decide +kernel)
set_option maxRecDepth 20000 in
theorem gX7_range_X7_isIn : GoodIn wsX7_range (va_wsS RX7 41 yX7_isIn wsX7_isIn) := goodIn_app (goodIn_of _ (by decide +kernel)) ggX7_range_X7_isIn
set_option maxRecDepth 20000 in
theorem ggX7_range_X7_least : GoodIn wsX7_range wsX7_least := goodIn_r _ [21, 14, 42, 43, 44, 45, 46, 47, 48, 49, 50, 51, 52, 53] (by decide +kernel) (by decide +kernel)
set_option maxRecDepth 20000 in
theorem gX7_range_X7_least : GoodIn wsX7_range (wsV RX7 87 RX7 yX7_least wsX7_least) := goodIn_app (goodIn_of _ (by decide +kernel)) ggX7_range_X7_least
set_option maxRecDepth 20000 in
theorem ggX7_range_X7_firstWith : GoodIn wsX7_range wsX7_firstWith := goodIn_r _ [25, 14, 42, 43, 44, 45, 46, 47, 48, 49, 50, 51, 52, 53] (by decide +kernel) (by decide +kernel)
set_option maxRecDepth 20000 in
theorem gX7_range_X7_firstWith : GoodIn wsX7_range (wsV RX7 96 RX7 yX7_firstWith wsX7_firstWith) := goodIn_app (goodIn_of _ (by decide +kernel)) ggX7_range_X7_firstWith
set_option maxRecDepth 20000 in
theorem ggX7_range_X7_greatest : GoodIn wsX7_range wsX7_greatest := goodIn_r _ [29, 14, 42, 43, 44, 45, 46, 47, 48, 49, 50, 51, 52, 53] (by decide +kernel) (by decide +kernel)
set_option maxRecDepth 20000 in
theorem gX7_range_X7_greatest : GoodIn wsX7_range (wsV RX7 78 RX7 yX7_greatest wsX7_greatest) := goodIn_app (goodIn_of _ (by decide +kernel)) ggX7_range_X7_greatest
set_option maxRecDepth 20000 in
theorem ggX7_range_X7_sum : GoodIn wsX7_range wsX7_sum := goodIn_r _ [33, 14, 42, 43, 44, 45, 46, 47, 48, 49, 50, 51, 52, 53] (by decide +kernel) (by decide +kernel)
set_option maxRecDepth 20000 in
theorem gX7_range_X7_sum : GoodIn wsX7_range (wsV RX7 115 RX7 yX7_sum wsX7_sum) := goodIn_app (goodIn_of _ (by decide +kernel)) ggX7_range_X7_sum
set_option maxRecDepth 20000 in
theorem ggX7_range_X7_largest : GoodIn wsX7_range wsX7_largest := goodIn_r _ [37, 38, 39, 40, 4, 41, 18, 19, 20, 21, 14, 42, 43, 44, 45, 46, 47, 48, 49, 50, 51, 52, 53] (by decide +kernel) (by decide +kernel)
set_option maxRecDepth 20000 in
theorem gX7_range_X7_largest : GoodIn wsX7_range (wsV RX7 150 RX7 yX7_largest wsX7_largest) := goodIn_app (goodIn_of _ (by decide +kernel)) ggX7_range_X7_largest
theorem dX7_range_0 : decode cX7_range 0 = .ok (.aload_n 0, 1) := by decide +kernel
theorem dX7_range_1 : decode cX7_range 1 = .ok (.iload_n 1, 1) := by decide +kernel
theorem dX7_range_2 : decode cX7_range 2 = .ok (.iload_n 2, 1) := by decide +kernel
theorem dX7_range_3 : decode cX7_range 3 = .ok (.invokevirtual 60, 3) := by decide +kernel
theorem dX7_range_6 : decode cX7_range 6 = .ok (.ifCond .eq 13, 3) := by decide +kernel
theorem dX7_range_9 : decode cX7_range 9 = .ok (.iload_n 3, 1) := by decide +kernel
theorem dX7_range_10 : decode cX7_range 10 = .ok (.iconst 0, 1) := by decide +kernel
theorem dX7_range_11 : decode cX7_range 11 = .ok (.bipush 8, 2) := by decide +kernel
theorem dX7_range_13 : decode cX7_range 13 = .ok (.invokestatic 41, 3) := by decide +kernel
theorem dX7_range_16 : decode cX7_range 16 = .ok (.ifCond .ne 5, 3) := by decide +kernel
theorem dX7_range_19 : decode cX7_range 19 = .ok (.iconst (-1), 1) := by decide +kernel
theorem dX7_range_20 : decode cX7_range 20 = .ok (.ireturn, 1) := by decide +kernel
theorem dX7_range_21 : decode cX7_range 21 = .ok (.iload_n 3, 1) := by decide +kernel
theorem dX7_range_22 : decode cX7_range 22 = .ok (.tableswitch 79 0 4 #[34, 41, 53, 60, 72], 34) := by decide +kernel
theorem dX7_range_56 : decode cX7_range 56 = .ok (.aload_n 0, 1) := by decide +kernel
theorem dX7_range_57 : decode cX7_range 57 = .ok (.iload_n 1, 1) := by decide +kernel
theorem dX7_range_58 : decode cX7_range 58 = .ok (.iload_n 2, 1) := by decide +kernel
theorem dX7_range_59 : decode cX7_range 59 = .ok (.invokevirtual 87, 3) := by decide +kernel
theorem dX7_range_62 : decode cX7_range 62 = .ok (.ireturn, 1) := by decide +kernel
theorem dX7_range_63 : decode cX7_range 63 = .ok (.aload_n 0, 1) := by decide +kernel
theorem dX7_range_64 : decode cX7_range 64 = .ok (.iload_n 1, 1) := by decide +kernel
theorem dX7_range_65 : decode cX7_range 65 = .ok (.aload_n 0, 1) := by decide +kernel
theorem dX7_range_66 : decode cX7_range 66 = .ok (.iload_n 1, 1) := by decide +kernel
theorem dX7_range_67 : decode cX7_range 67 = .ok (.iload_n 2, 1) := by decide +kernel
theorem dX7_range_68 : decode cX7_range 68 = .ok (.invokevirtual 87, 3) := by decide +kernel
theorem dX7_range_71 : decode cX7_range 71 = .ok (.invokevirtual 96, 3) := by decide +kernel
theorem dX7_range_74 : decode cX7_range 74 = .ok (.ireturn, 1) := by decide +kernel
theorem dX7_range_75 : decode cX7_range 75 = .ok (.aload_n 0, 1) := by decide +kernel
theorem dX7_range_76 : decode cX7_range 76 = .ok (.iload_n 1, 1) := by decide +kernel
theorem dX7_range_77 : decode cX7_range 77 = .ok (.iload_n 2, 1) := by decide +kernel
theorem dX7_range_78 : decode cX7_range 78 = .ok (.invokevirtual 78, 3) := by decide +kernel
theorem dX7_range_81 : decode cX7_range 81 = .ok (.ireturn, 1) := by decide +kernel
theorem dX7_range_82 : decode cX7_range 82 = .ok (.aload_n 0, 1) := by decide +kernel
theorem dX7_range_83 : decode cX7_range 83 = .ok (.iload_n 1, 1) := by decide +kernel
theorem dX7_range_84 : decode cX7_range 84 = .ok (.aload_n 0, 1) := by decide +kernel
theorem dX7_range_85 : decode cX7_range 85 = .ok (.iload_n 1, 1) := by decide +kernel
theorem dX7_range_86 : decode cX7_range 86 = .ok (.iload_n 2, 1) := by decide +kernel
theorem dX7_range_87 : decode cX7_range 87 = .ok (.invokevirtual 78, 3) := by decide +kernel
theorem dX7_range_90 : decode cX7_range 90 = .ok (.invokevirtual 96, 3) := by decide +kernel
theorem dX7_range_93 : decode cX7_range 93 = .ok (.ireturn, 1) := by decide +kernel
theorem dX7_range_94 : decode cX7_range 94 = .ok (.aload_n 0, 1) := by decide +kernel
theorem dX7_range_95 : decode cX7_range 95 = .ok (.iload_n 1, 1) := by decide +kernel
theorem dX7_range_96 : decode cX7_range 96 = .ok (.iload_n 2, 1) := by decide +kernel
theorem dX7_range_97 : decode cX7_range 97 = .ok (.invokevirtual 115, 3) := by decide +kernel
theorem dX7_range_100 : decode cX7_range 100 = .ok (.ireturn, 1) := by decide +kernel
theorem dX7_range_101 : decode cX7_range 101 = .ok (.aload_n 0, 1) := by decide +kernel
theorem dX7_range_102 : decode cX7_range 102 = .ok (.iload_n 1, 1) := by decide +kernel
theorem dX7_range_103 : decode cX7_range 103 = .ok (.iload_n 2, 1) := by decide +kernel
theorem dX7_range_104 : decode cX7_range 104 = .ok (.iload_n 3, 1) := by decide +kernel
theorem dX7_range_105 : decode cX7_range 105 = .ok (.invokevirtual 150, 3) := by decide +kernel
theorem dX7_range_108 : decode cX7_range 108 = .ok (.ireturn, 1) := by decide +kernel
set_option maxRecDepth 20000 in
theorem ggX7_owners_X7_least : GoodIn wsX7_owners wsX7_least := goodIn_r _ [8, 3, 9, 10, 11, 12, 13, 14, 15, 16, 17, 18, 19, 20] (by decide +kernel) (by decide +kernel)
set_option maxRecDepth 20000 in
theorem gX7_owners_X7_least : GoodIn wsX7_owners (wsV RX7 87 RX7 yX7_least wsX7_least) := goodIn_app (goodIn_of _ (by decide +kernel)) ggX7_owners_X7_least
theorem dX7_owners_0 : decode cX7_owners 0 = .ok (.iconst 0, 1) := by decide +kernel
theorem dX7_owners_1 : decode cX7_owners 1 = .ok (.istore_n 2, 1) := by decide +kernel
theorem dX7_owners_2 : decode cX7_owners 2 = .ok (.aload_n 0, 1) := by decide +kernel
theorem dX7_owners_3 : decode cX7_owners 3 = .ok (.getfield 25, 3) := by decide +kernel
theorem dX7_owners_6 : decode cX7_owners 6 = .ok (.iload_n 1, 1) := by decide +kernel
theorem dX7_owners_7 : decode cX7_owners 7 = .ok (.iaload, 1) := by decide +kernel
theorem dX7_owners_8 : decode cX7_owners 8 = .ok (.istore_n 3, 1) := by decide +kernel
theorem dX7_owners_9 : decode cX7_owners 9 = .ok (.iload_n 3, 1) := by decide +kernel
theorem dX7_owners_10 : decode cX7_owners 10 = .ok (.aload_n 0, 1) := by decide +kernel
theorem dX7_owners_11 : decode cX7_owners 11 = .ok (.getfield 28, 3) := by decide +kernel
theorem dX7_owners_14 : decode cX7_owners 14 = .ok (.iload_n 1, 1) := by decide +kernel
theorem dX7_owners_15 : decode cX7_owners 15 = .ok (.iaload, 1) := by decide +kernel
theorem dX7_owners_16 : decode cX7_owners 16 = .ok (.if_icmp .gt 42, 3) := by decide +kernel
theorem dX7_owners_19 : decode cX7_owners 19 = .ok (.iload_n 2, 1) := by decide +kernel
theorem dX7_owners_20 : decode cX7_owners 20 = .ok (.aload_n 0, 1) := by decide +kernel
theorem dX7_owners_21 : decode cX7_owners 21 = .ok (.getfield 7, 3) := by decide +kernel
theorem dX7_owners_24 : decode cX7_owners 24 = .ok (.iload_n 3, 1) := by decide +kernel
theorem dX7_owners_25 : decode cX7_owners 25 = .ok (.iaload, 1) := by decide +kernel
theorem dX7_owners_26 : decode cX7_owners 26 = .ok (.aload_n 0, 1) := by decide +kernel
theorem dX7_owners_27 : decode cX7_owners 27 = .ok (.aload_n 0, 1) := by decide +kernel
theorem dX7_owners_28 : decode cX7_owners 28 = .ok (.getfield 25, 3) := by decide +kernel
theorem dX7_owners_31 : decode cX7_owners 31 = .ok (.iload_n 1, 1) := by decide +kernel
theorem dX7_owners_32 : decode cX7_owners 32 = .ok (.iaload, 1) := by decide +kernel
theorem dX7_owners_33 : decode cX7_owners 33 = .ok (.aload_n 0, 1) := by decide +kernel
theorem dX7_owners_34 : decode cX7_owners 34 = .ok (.getfield 28, 3) := by decide +kernel
theorem dX7_owners_37 : decode cX7_owners 37 = .ok (.iload_n 1, 1) := by decide +kernel
theorem dX7_owners_38 : decode cX7_owners 38 = .ok (.iaload, 1) := by decide +kernel
theorem dX7_owners_39 : decode cX7_owners 39 = .ok (.invokevirtual 87, 3) := by decide +kernel
theorem dX7_owners_42 : decode cX7_owners 42 = .ok (.if_icmp .ne 7, 3) := by decide +kernel
theorem dX7_owners_45 : decode cX7_owners 45 = .ok (.iconst 1, 1) := by decide +kernel
theorem dX7_owners_46 : decode cX7_owners 46 = .ok (.goto 4, 3) := by decide +kernel
theorem dX7_owners_49 : decode cX7_owners 49 = .ok (.iconst 0, 1) := by decide +kernel
theorem dX7_owners_50 : decode cX7_owners 50 = .ok (.iadd, 1) := by decide +kernel
theorem dX7_owners_51 : decode cX7_owners 51 = .ok (.istore_n 2, 1) := by decide +kernel
theorem dX7_owners_52 : decode cX7_owners 52 = .ok (.iinc 3 1, 3) := by decide +kernel
theorem dX7_owners_55 : decode cX7_owners 55 = .ok (.goto (-46), 3) := by decide +kernel
theorem dX7_owners_58 : decode cX7_owners 58 = .ok (.iload_n 2, 1) := by decide +kernel
theorem dX7_owners_59 : decode cX7_owners 59 = .ok (.ireturn, 1) := by decide +kernel
set_option maxRecDepth 20000 in
theorem ggX7_rectangle_X7_isIn : GoodIn wsX7_rectangle wsX7_isIn := goodIn_r _ [7] (by decide +kernel) (by decide +kernel)
set_option maxRecDepth 20000 in
theorem gX7_rectangle_X7_isIn : GoodIn wsX7_rectangle (va_wsS RX7 41 yX7_isIn wsX7_isIn) := goodIn_app (goodIn_of _ (by decide +kernel)) ggX7_rectangle_X7_isIn
set_option maxRecDepth 20000 in
theorem ggX7_rectangle_X7_layRectangles : GoodIn wsX7_rectangle wsX7_layRectangles := goodIn_r _ [11, 3, 1, 2, 12, 13, 14, 6, 15, 16, 17, 18, 19, 20, 21, 22, 23, 24, 25, 26, 27, 28, 37, 38, 39, 40, 41, 42, 43, 44, 45, 46, 47, 48] (by decide +kernel) (by decide +kernel)
set_option maxRecDepth 20000 in
theorem gX7_rectangle_X7_layRectangles : GoodIn wsX7_rectangle (wsV RX7 121 RX7 yX7_layRectangles wsX7_layRectangles) := goodIn_app (goodIn_of _ (by decide +kernel)) ggX7_rectangle_X7_layRectangles
set_option maxRecDepth 20000 in
theorem ggX7_rectangle_X7_least : GoodIn wsX7_rectangle wsX7_least := goodIn_r _ [24, 16, 37, 38, 39, 40, 41, 42, 43, 44, 45, 46, 47, 48] (by decide +kernel) (by decide +kernel)
set_option maxRecDepth 20000 in
theorem gX7_rectangle_X7_least : GoodIn wsX7_rectangle (wsV RX7 87 RX7 yX7_least wsX7_least) := goodIn_app (goodIn_of _ (by decide +kernel)) ggX7_rectangle_X7_least
set_option maxRecDepth 20000 in
theorem ggX7_rectangle_X7_owners : GoodIn wsX7_rectangle wsX7_owners := goodIn_r _ [32, 1, 2, 16, 21, 22, 23, 6, 24, 37, 38, 39, 40, 41, 42, 43, 44, 45, 46, 47, 48] (by decide +kernel) (by decide +kernel)
set_option maxRecDepth 20000 in
theorem gX7_rectangle_X7_owners : GoodIn wsX7_rectangle (wsV RX7 153 RX7 yX7_owners wsX7_owners) := goodIn_app (goodIn_of _ (by decide +kernel)) ggX7_rectangle_X7_owners
set_option maxRecDepth 20000 in
theorem ggX7_rectangle_X7_firstWith : GoodIn wsX7_rectangle wsX7_firstWith := goodIn_r _ [36, 16, 37, 38, 39, 40, 41, 42, 43, 44, 45, 46, 47, 48] (by decide +kernel) (by decide +kernel)
set_option maxRecDepth 20000 in
theorem gX7_rectangle_X7_firstWith : GoodIn wsX7_rectangle (wsV RX7 96 RX7 yX7_firstWith wsX7_firstWith) := goodIn_app (goodIn_of _ (by decide +kernel)) ggX7_rectangle_X7_firstWith
theorem dX7_rectangle_0 : decode cX7_rectangle 0 = .ok (.iload_n 1, 1) := by decide +kernel
theorem dX7_rectangle_1 : decode cX7_rectangle 1 = .ok (.ifCond .lt 12, 3) := by decide +kernel
theorem dX7_rectangle_4 : decode cX7_rectangle 4 = .ok (.iload_n 2, 1) := by decide +kernel
theorem dX7_rectangle_5 : decode cX7_rectangle 5 = .ok (.iconst 0, 1) := by decide +kernel
theorem dX7_rectangle_6 : decode cX7_rectangle 6 = .ok (.iconst 5, 1) := by decide +kernel
theorem dX7_rectangle_7 : decode cX7_rectangle 7 = .ok (.invokestatic 41, 3) := by decide +kernel
theorem dX7_rectangle_10 : decode cX7_rectangle 10 = .ok (.ifCond .ne 5, 3) := by decide +kernel
theorem dX7_rectangle_13 : decode cX7_rectangle 13 = .ok (.iconst (-1), 1) := by decide +kernel
theorem dX7_rectangle_14 : decode cX7_rectangle 14 = .ok (.ireturn, 1) := by decide +kernel
theorem dX7_rectangle_15 : decode cX7_rectangle 15 = .ok (.iload_n 1, 1) := by decide +kernel
theorem dX7_rectangle_16 : decode cX7_rectangle 16 = .ok (.aload_n 0, 1) := by decide +kernel
theorem dX7_rectangle_17 : decode cX7_rectangle 17 = .ok (.invokevirtual 121, 3) := by decide +kernel
theorem dX7_rectangle_20 : decode cX7_rectangle 20 = .ok (.if_icmp .lt 6, 3) := by decide +kernel
theorem dX7_rectangle_23 : decode cX7_rectangle 23 = .ok (.bipush (-9), 2) := by decide +kernel
theorem dX7_rectangle_25 : decode cX7_rectangle 25 = .ok (.ireturn, 1) := by decide +kernel
theorem dX7_rectangle_26 : decode cX7_rectangle 26 = .ok (.aload_n 0, 1) := by decide +kernel
theorem dX7_rectangle_27 : decode cX7_rectangle 27 = .ok (.aload_n 0, 1) := by decide +kernel
theorem dX7_rectangle_28 : decode cX7_rectangle 28 = .ok (.getfield 25, 3) := by decide +kernel
theorem dX7_rectangle_31 : decode cX7_rectangle 31 = .ok (.iload_n 1, 1) := by decide +kernel
theorem dX7_rectangle_32 : decode cX7_rectangle 32 = .ok (.iaload, 1) := by decide +kernel
theorem dX7_rectangle_33 : decode cX7_rectangle 33 = .ok (.aload_n 0, 1) := by decide +kernel
theorem dX7_rectangle_34 : decode cX7_rectangle 34 = .ok (.getfield 28, 3) := by decide +kernel
theorem dX7_rectangle_37 : decode cX7_rectangle 37 = .ok (.iload_n 1, 1) := by decide +kernel
theorem dX7_rectangle_38 : decode cX7_rectangle 38 = .ok (.iaload, 1) := by decide +kernel
theorem dX7_rectangle_39 : decode cX7_rectangle 39 = .ok (.invokevirtual 87, 3) := by decide +kernel
theorem dX7_rectangle_42 : decode cX7_rectangle 42 = .ok (.istore_n 3, 1) := by decide +kernel
theorem dX7_rectangle_43 : decode cX7_rectangle 43 = .ok (.iload_n 2, 1) := by decide +kernel
theorem dX7_rectangle_44 : decode cX7_rectangle 44 = .ok (.tableswitch 65 0 4 #[36, 43, 50, 57, 59], 36) := by decide +kernel
theorem dX7_rectangle_80 : decode cX7_rectangle 80 = .ok (.aload_n 0, 1) := by decide +kernel
theorem dX7_rectangle_81 : decode cX7_rectangle 81 = .ok (.getfield 22, 3) := by decide +kernel
theorem dX7_rectangle_84 : decode cX7_rectangle 84 = .ok (.iload_n 1, 1) := by decide +kernel
theorem dX7_rectangle_85 : decode cX7_rectangle 85 = .ok (.iaload, 1) := by decide +kernel
theorem dX7_rectangle_86 : decode cX7_rectangle 86 = .ok (.ireturn, 1) := by decide +kernel
theorem dX7_rectangle_87 : decode cX7_rectangle 87 = .ok (.aload_n 0, 1) := by decide +kernel
theorem dX7_rectangle_88 : decode cX7_rectangle 88 = .ok (.getfield 25, 3) := by decide +kernel
theorem dX7_rectangle_91 : decode cX7_rectangle 91 = .ok (.iload_n 1, 1) := by decide +kernel
theorem dX7_rectangle_92 : decode cX7_rectangle 92 = .ok (.iaload, 1) := by decide +kernel
theorem dX7_rectangle_93 : decode cX7_rectangle 93 = .ok (.ireturn, 1) := by decide +kernel
theorem dX7_rectangle_94 : decode cX7_rectangle 94 = .ok (.aload_n 0, 1) := by decide +kernel
theorem dX7_rectangle_95 : decode cX7_rectangle 95 = .ok (.getfield 28, 3) := by decide +kernel
theorem dX7_rectangle_98 : decode cX7_rectangle 98 = .ok (.iload_n 1, 1) := by decide +kernel
theorem dX7_rectangle_99 : decode cX7_rectangle 99 = .ok (.iaload, 1) := by decide +kernel
theorem dX7_rectangle_100 : decode cX7_rectangle 100 = .ok (.ireturn, 1) := by decide +kernel
theorem dX7_rectangle_101 : decode cX7_rectangle 101 = .ok (.iload_n 3, 1) := by decide +kernel
theorem dX7_rectangle_102 : decode cX7_rectangle 102 = .ok (.ireturn, 1) := by decide +kernel
theorem dX7_rectangle_103 : decode cX7_rectangle 103 = .ok (.aload_n 0, 1) := by decide +kernel
theorem dX7_rectangle_104 : decode cX7_rectangle 104 = .ok (.iload_n 1, 1) := by decide +kernel
theorem dX7_rectangle_105 : decode cX7_rectangle 105 = .ok (.invokevirtual 153, 3) := by decide +kernel
theorem dX7_rectangle_108 : decode cX7_rectangle 108 = .ok (.ireturn, 1) := by decide +kernel
theorem dX7_rectangle_109 : decode cX7_rectangle 109 = .ok (.aload_n 0, 1) := by decide +kernel
theorem dX7_rectangle_110 : decode cX7_rectangle 110 = .ok (.aload_n 0, 1) := by decide +kernel
theorem dX7_rectangle_111 : decode cX7_rectangle 111 = .ok (.getfield 25, 3) := by decide +kernel
theorem dX7_rectangle_114 : decode cX7_rectangle 114 = .ok (.iload_n 1, 1) := by decide +kernel
theorem dX7_rectangle_115 : decode cX7_rectangle 115 = .ok (.iaload, 1) := by decide +kernel
theorem dX7_rectangle_116 : decode cX7_rectangle 116 = .ok (.iload_n 3, 1) := by decide +kernel
theorem dX7_rectangle_117 : decode cX7_rectangle 117 = .ok (.invokevirtual 96, 3) := by decide +kernel
theorem dX7_rectangle_120 : decode cX7_rectangle 120 = .ok (.ireturn, 1) := by decide +kernel
set_option maxRecDepth 20000 in
theorem ggX7_container_X7_isIn : GoodIn wsX7_container wsX7_isIn := goodIn_r _ [5] (by decide +kernel) (by decide +kernel)
set_option maxRecDepth 20000 in
theorem gX7_container_X7_isIn : GoodIn wsX7_container (va_wsS RX7 41 yX7_isIn wsX7_isIn) := goodIn_app (goodIn_of _ (by decide +kernel)) ggX7_container_X7_isIn
set_option maxRecDepth 20000 in
theorem ggX7_container_X7_many : GoodIn wsX7_container wsX7_many := goodIn_r _ [9, 1, 10, 11, 12, 13, 14, 15, 16, 17, 18, 19, 20, 21] (by decide +kernel) (by decide +kernel)
set_option maxRecDepth 20000 in
theorem gX7_container_X7_many : GoodIn wsX7_container (wsV RX7 37 RX7 yX7_many wsX7_many) := goodIn_app (goodIn_of _ (by decide +kernel)) ggX7_container_X7_many
theorem dX7_container_0 : decode cX7_container 0 = .ok (.iload_n 1, 1) := by decide +kernel
theorem dX7_container_1 : decode cX7_container 1 = .ok (.iconst 0, 1) := by decide +kernel
theorem dX7_container_2 : decode cX7_container 2 = .ok (.iconst 2, 1) := by decide +kernel
theorem dX7_container_3 : decode cX7_container 3 = .ok (.invokestatic 41, 3) := by decide +kernel
theorem dX7_container_6 : decode cX7_container 6 = .ok (.ifCond .ne 5, 3) := by decide +kernel
theorem dX7_container_9 : decode cX7_container 9 = .ok (.iconst (-1), 1) := by decide +kernel
theorem dX7_container_10 : decode cX7_container 10 = .ok (.ireturn, 1) := by decide +kernel
theorem dX7_container_11 : decode cX7_container 11 = .ok (.bipush (-9), 2) := by decide +kernel
theorem dX7_container_13 : decode cX7_container 13 = .ok (.istore_n 2, 1) := by decide +kernel
theorem dX7_container_14 : decode cX7_container 14 = .ok (.bipush (-9), 2) := by decide +kernel
theorem dX7_container_16 : decode cX7_container 16 = .ok (.istore_n 3, 1) := by decide +kernel
theorem dX7_container_17 : decode cX7_container 17 = .ok (.bipush (-9), 2) := by decide +kernel
theorem dX7_container_19 : decode cX7_container 19 = .ok (.istore 4, 2) := by decide +kernel
theorem dX7_container_21 : decode cX7_container 21 = .ok (.iconst 0, 1) := by decide +kernel
theorem dX7_container_22 : decode cX7_container 22 = .ok (.istore 5, 2) := by decide +kernel
theorem dX7_container_24 : decode cX7_container 24 = .ok (.iload 5, 2) := by decide +kernel
theorem dX7_container_26 : decode cX7_container 26 = .ok (.aload_n 0, 1) := by decide +kernel
theorem dX7_container_27 : decode cX7_container 27 = .ok (.invokevirtual 37, 3) := by decide +kernel
theorem dX7_container_30 : decode cX7_container 30 = .ok (.if_icmp .ge 88, 3) := by decide +kernel
theorem dX7_container_33 : decode cX7_container 33 = .ok (.iload 5, 2) := by decide +kernel
theorem dX7_container_35 : decode cX7_container 35 = .ok (.iconst 1, 1) := by decide +kernel
theorem dX7_container_36 : decode cX7_container 36 = .ok (.iadd, 1) := by decide +kernel
theorem dX7_container_37 : decode cX7_container 37 = .ok (.istore 6, 2) := by decide +kernel
theorem dX7_container_39 : decode cX7_container 39 = .ok (.iload 6, 2) := by decide +kernel
theorem dX7_container_41 : decode cX7_container 41 = .ok (.aload_n 0, 1) := by decide +kernel
theorem dX7_container_42 : decode cX7_container 42 = .ok (.invokevirtual 37, 3) := by decide +kernel
theorem dX7_container_45 : decode cX7_container 45 = .ok (.if_icmp .ge 67, 3) := by decide +kernel
theorem dX7_container_48 : decode cX7_container 48 = .ok (.aload_n 0, 1) := by decide +kernel
theorem dX7_container_49 : decode cX7_container 49 = .ok (.getfield 7, 3) := by decide +kernel
theorem dX7_container_52 : decode cX7_container 52 = .ok (.iload 5, 2) := by decide +kernel
theorem dX7_container_54 : decode cX7_container 54 = .ok (.iaload, 1) := by decide +kernel
theorem dX7_container_55 : decode cX7_container 55 = .ok (.aload_n 0, 1) := by decide +kernel
theorem dX7_container_56 : decode cX7_container 56 = .ok (.getfield 7, 3) := by decide +kernel
theorem dX7_container_59 : decode cX7_container 59 = .ok (.iload 6, 2) := by decide +kernel
theorem dX7_container_61 : decode cX7_container 61 = .ok (.iaload, 1) := by decide +kernel
theorem dX7_container_62 : decode cX7_container 62 = .ok (.if_icmp .ge 13, 3) := by decide +kernel
theorem dX7_container_65 : decode cX7_container 65 = .ok (.aload_n 0, 1) := by decide +kernel
theorem dX7_container_66 : decode cX7_container 66 = .ok (.getfield 7, 3) := by decide +kernel
theorem dX7_container_69 : decode cX7_container 69 = .ok (.iload 5, 2) := by decide +kernel
theorem dX7_container_71 : decode cX7_container 71 = .ok (.iaload, 1) := by decide +kernel
theorem dX7_container_72 : decode cX7_container 72 = .ok (.goto 10, 3) := by decide +kernel
theorem dX7_container_75 : decode cX7_container 75 = .ok (.aload_n 0, 1) := by decide +kernel
theorem dX7_container_76 : decode cX7_container 76 = .ok (.getfield 7, 3) := by decide +kernel
theorem dX7_container_79 : decode cX7_container 79 = .ok (.iload 6, 2) := by decide +kernel
theorem dX7_container_81 : decode cX7_container 81 = .ok (.iaload, 1) := by decide +kernel
theorem dX7_container_82 : decode cX7_container 82 = .ok (.iload 6, 2) := by decide +kernel
theorem dX7_container_84 : decode cX7_container 84 = .ok (.iload 5, 2) := by decide +kernel
theorem dX7_container_86 : decode cX7_container 86 = .ok (.isub, 1) := by decide +kernel
theorem dX7_container_87 : decode cX7_container 87 = .ok (.imul, 1) := by decide +kernel
theorem dX7_container_88 : decode cX7_container 88 = .ok (.istore 7, 2) := by decide +kernel
theorem dX7_container_90 : decode cX7_container 90 = .ok (.iload 7, 2) := by decide +kernel
theorem dX7_container_92 : decode cX7_container 92 = .ok (.iload_n 2, 1) := by decide +kernel
theorem dX7_container_93 : decode cX7_container 93 = .ok (.if_icmp .le 13, 3) := by decide +kernel
theorem dX7_container_96 : decode cX7_container 96 = .ok (.iload 7, 2) := by decide +kernel
theorem dX7_container_98 : decode cX7_container 98 = .ok (.istore_n 2, 1) := by decide +kernel
theorem dX7_container_99 : decode cX7_container 99 = .ok (.iload 5, 2) := by decide +kernel
theorem dX7_container_101 : decode cX7_container 101 = .ok (.istore_n 3, 1) := by decide +kernel
theorem dX7_container_102 : decode cX7_container 102 = .ok (.iload 6, 2) := by decide +kernel
theorem dX7_container_104 : decode cX7_container 104 = .ok (.istore 4, 2) := by decide +kernel
theorem dX7_container_106 : decode cX7_container 106 = .ok (.iinc 6 1, 3) := by decide +kernel
theorem dX7_container_109 : decode cX7_container 109 = .ok (.goto (-70), 3) := by decide +kernel
theorem dX7_container_112 : decode cX7_container 112 = .ok (.iinc 5 1, 3) := by decide +kernel
theorem dX7_container_115 : decode cX7_container 115 = .ok (.goto (-91), 3) := by decide +kernel
theorem dX7_container_118 : decode cX7_container 118 = .ok (.iload_n 1, 1) := by decide +kernel
theorem dX7_container_119 : decode cX7_container 119 = .ok (.ifCond .ne 7, 3) := by decide +kernel
theorem dX7_container_122 : decode cX7_container 122 = .ok (.iload_n 2, 1) := by decide +kernel
theorem dX7_container_123 : decode cX7_container 123 = .ok (.goto 14, 3) := by decide +kernel
theorem dX7_container_126 : decode cX7_container 126 = .ok (.iload_n 1, 1) := by decide +kernel
theorem dX7_container_127 : decode cX7_container 127 = .ok (.iconst 1, 1) := by decide +kernel
theorem dX7_container_128 : decode cX7_container 128 = .ok (.if_icmp .ne 7, 3) := by decide +kernel
theorem dX7_container_131 : decode cX7_container 131 = .ok (.iload_n 3, 1) := by decide +kernel
theorem dX7_container_132 : decode cX7_container 132 = .ok (.goto 5, 3) := by decide +kernel
theorem dX7_container_135 : decode cX7_container 135 = .ok (.iload 4, 2) := by decide +kernel
theorem dX7_container_137 : decode cX7_container 137 = .ok (.ireturn, 1) := by decide +kernel
set_option maxRecDepth 20000 in
theorem ggX7_poolBegin_X7_many : GoodIn wsX7_poolBegin wsX7_many := goodIn_r _ [5, 6, 30, 31, 32, 33, 34, 35, 36, 37, 38, 39, 40, 41] (by decide +kernel) (by decide +kernel)
set_option maxRecDepth 20000 in
theorem gX7_poolBegin_X7_many : GoodIn wsX7_poolBegin (wsV RX7 37 RX7 yX7_many wsX7_many) := goodIn_app (goodIn_of _ (by decide +kernel)) ggX7_poolBegin_X7_many
set_option maxRecDepth 20000 in
theorem ggX7_poolBegin_X7_beginsPool : GoodIn wsX7_poolBegin wsX7_beginsPool := goodIn_r _ [10, 11, 12, 13, 4, 14, 15, 16, 17, 18, 1, 2, 3, 5, 6, 19, 20, 21, 22, 23, 24, 25, 26, 27, 28, 29, 30, 31, 32, 33, 34, 35, 36, 37, 38, 39, 40, 41] (by decide +kernel) (by decide +kernel)
set_option maxRecDepth 20000 in
theorem gX7_poolBegin_X7_beginsPool : GoodIn wsX7_poolBegin (wsV RX7 84 RX7 yX7_beginsPool wsX7_beginsPool) := goodIn_app (goodIn_of _ (by decide +kernel)) ggX7_poolBegin_X7_beginsPool
theorem dX7_poolBegin_0 : decode cX7_poolBegin 0 = .ok (.iload_n 1, 1) := by decide +kernel
theorem dX7_poolBegin_1 : decode cX7_poolBegin 1 = .ok (.istore_n 2, 1) := by decide +kernel
theorem dX7_poolBegin_2 : decode cX7_poolBegin 2 = .ok (.iconst 0, 1) := by decide +kernel
theorem dX7_poolBegin_3 : decode cX7_poolBegin 3 = .ok (.istore_n 3, 1) := by decide +kernel
theorem dX7_poolBegin_4 : decode cX7_poolBegin 4 = .ok (.iload_n 3, 1) := by decide +kernel
theorem dX7_poolBegin_5 : decode cX7_poolBegin 5 = .ok (.aload_n 0, 1) := by decide +kernel
theorem dX7_poolBegin_6 : decode cX7_poolBegin 6 = .ok (.invokevirtual 37, 3) := by decide +kernel
theorem dX7_poolBegin_9 : decode cX7_poolBegin 9 = .ok (.if_icmp .ge 26, 3) := by decide +kernel
theorem dX7_poolBegin_12 : decode cX7_poolBegin 12 = .ok (.aload_n 0, 1) := by decide +kernel
theorem dX7_poolBegin_13 : decode cX7_poolBegin 13 = .ok (.iload_n 3, 1) := by decide +kernel
theorem dX7_poolBegin_14 : decode cX7_poolBegin 14 = .ok (.invokevirtual 84, 3) := by decide +kernel
theorem dX7_poolBegin_17 : decode cX7_poolBegin 17 = .ok (.ifCond .eq 12, 3) := by decide +kernel
theorem dX7_poolBegin_20 : decode cX7_poolBegin 20 = .ok (.iload_n 2, 1) := by decide +kernel
theorem dX7_poolBegin_21 : decode cX7_poolBegin 21 = .ok (.ifCond .ne 5, 3) := by decide +kernel
theorem dX7_poolBegin_24 : decode cX7_poolBegin 24 = .ok (.iload_n 3, 1) := by decide +kernel
theorem dX7_poolBegin_25 : decode cX7_poolBegin 25 = .ok (.ireturn, 1) := by decide +kernel
theorem dX7_poolBegin_26 : decode cX7_poolBegin 26 = .ok (.iinc 2 (-1), 3) := by decide +kernel
theorem dX7_poolBegin_29 : decode cX7_poolBegin 29 = .ok (.iinc 3 1, 3) := by decide +kernel
theorem dX7_poolBegin_32 : decode cX7_poolBegin 32 = .ok (.goto (-28), 3) := by decide +kernel
theorem dX7_poolBegin_35 : decode cX7_poolBegin 35 = .ok (.bipush (-9), 2) := by decide +kernel
theorem dX7_poolBegin_37 : decode cX7_poolBegin 37 = .ok (.ireturn, 1) := by decide +kernel
set_option maxRecDepth 20000 in
theorem ggX7_pool_X7_isIn : GoodIn wsX7_pool wsX7_isIn := goodIn_r _ [5] (by decide +kernel) (by decide +kernel)
set_option maxRecDepth 20000 in
theorem gX7_pool_X7_isIn : GoodIn wsX7_pool (va_wsS RX7 41 yX7_isIn wsX7_isIn) := goodIn_app (goodIn_of _ (by decide +kernel)) ggX7_pool_X7_isIn
set_option maxRecDepth 20000 in
theorem ggX7_pool_X7_poolBegin : GoodIn wsX7_pool wsX7_poolBegin := goodIn_r _ [9, 10, 11, 12, 4, 13, 1, 14, 15, 16, 17, 18, 19, 20, 21, 22, 23, 24, 25, 2, 3, 5, 26, 27, 28, 29, 30, 31, 32, 33, 34, 35, 36, 37, 38, 39, 40, 41, 42, 43, 44, 45] (by decide +kernel) (by decide +kernel)
set_option maxRecDepth 20000 in
theorem gX7_pool_X7_poolBegin : GoodIn wsX7_pool (wsV RX7 156 RX7 yX7_poolBegin wsX7_poolBegin) := goodIn_app (goodIn_of _ (by decide +kernel)) ggX7_pool_X7_poolBegin
set_option maxRecDepth 20000 in
theorem ggX7_pool_X7_isWet : GoodIn wsX7_pool wsX7_isWet := goodIn_r _ [21, 22, 23, 24, 4, 25, 10, 11, 12, 13, 1, 2, 3, 5, 26, 27, 28, 29, 30, 31, 32, 33, 34, 35, 36, 37, 38, 39, 40, 41, 42, 43, 44, 45] (by decide +kernel) (by decide +kernel)
set_option maxRecDepth 20000 in
theorem gX7_pool_X7_isWet : GoodIn wsX7_pool (wsV RX7 81 RX7 yX7_isWet wsX7_isWet) := goodIn_app (goodIn_of _ (by decide +kernel)) ggX7_pool_X7_isWet
set_option maxRecDepth 20000 in
theorem ggX7_pool_X7_many : GoodIn wsX7_pool wsX7_many := goodIn_r _ [13, 1, 34, 35, 36, 37, 38, 39, 40, 41, 42, 43, 44, 45] (by decide +kernel) (by decide +kernel)
set_option maxRecDepth 20000 in
theorem gX7_pool_X7_many : GoodIn wsX7_pool (wsV RX7 37 RX7 yX7_many wsX7_many) := goodIn_app (goodIn_of _ (by decide +kernel)) ggX7_pool_X7_many
set_option maxRecDepth 20000 in
theorem ggX7_pool_X7_depth : GoodIn wsX7_pool wsX7_depth := goodIn_r _ [29, 1, 30, 31, 32, 4, 33, 34, 35, 36, 37, 38, 39, 40, 41, 42, 43, 44, 45] (by decide +kernel) (by decide +kernel)
set_option maxRecDepth 20000 in
theorem gX7_pool_X7_depth : GoodIn wsX7_pool (wsV RX7 74 RX7 yX7_depth wsX7_depth) := goodIn_app (goodIn_of _ (by decide +kernel)) ggX7_pool_X7_depth
theorem dX7_pool_0 : decode cX7_pool 0 = .ok (.iload_n 1, 1) := by decide +kernel
theorem dX7_pool_1 : decode cX7_pool 1 = .ok (.ifCond .lt 12, 3) := by decide +kernel
theorem dX7_pool_4 : decode cX7_pool 4 = .ok (.iload_n 2, 1) := by decide +kernel
theorem dX7_pool_5 : decode cX7_pool 5 = .ok (.iconst 0, 1) := by decide +kernel
theorem dX7_pool_6 : decode cX7_pool 6 = .ok (.iconst 4, 1) := by decide +kernel
theorem dX7_pool_7 : decode cX7_pool 7 = .ok (.invokestatic 41, 3) := by decide +kernel
theorem dX7_pool_10 : decode cX7_pool 10 = .ok (.ifCond .ne 5, 3) := by decide +kernel
theorem dX7_pool_13 : decode cX7_pool 13 = .ok (.iconst (-1), 1) := by decide +kernel
theorem dX7_pool_14 : decode cX7_pool 14 = .ok (.ireturn, 1) := by decide +kernel
theorem dX7_pool_15 : decode cX7_pool 15 = .ok (.aload_n 0, 1) := by decide +kernel
theorem dX7_pool_16 : decode cX7_pool 16 = .ok (.iload_n 1, 1) := by decide +kernel
theorem dX7_pool_17 : decode cX7_pool 17 = .ok (.invokevirtual 156, 3) := by decide +kernel
theorem dX7_pool_20 : decode cX7_pool 20 = .ok (.istore_n 3, 1) := by decide +kernel
theorem dX7_pool_21 : decode cX7_pool 21 = .ok (.iload_n 3, 1) := by decide +kernel
theorem dX7_pool_22 : decode cX7_pool 22 = .ok (.bipush (-9), 2) := by decide +kernel
theorem dX7_pool_24 : decode cX7_pool 24 = .ok (.if_icmp .ne 6, 3) := by decide +kernel
theorem dX7_pool_27 : decode cX7_pool 27 = .ok (.bipush (-9), 2) := by decide +kernel
theorem dX7_pool_29 : decode cX7_pool 29 = .ok (.ireturn, 1) := by decide +kernel
theorem dX7_pool_30 : decode cX7_pool 30 = .ok (.iload_n 3, 1) := by decide +kernel
theorem dX7_pool_31 : decode cX7_pool 31 = .ok (.istore 4, 2) := by decide +kernel
theorem dX7_pool_33 : decode cX7_pool 33 = .ok (.iconst 0, 1) := by decide +kernel
theorem dX7_pool_34 : decode cX7_pool 34 = .ok (.istore 5, 2) := by decide +kernel
theorem dX7_pool_36 : decode cX7_pool 36 = .ok (.iconst 0, 1) := by decide +kernel
theorem dX7_pool_37 : decode cX7_pool 37 = .ok (.istore 6, 2) := by decide +kernel
theorem dX7_pool_39 : decode cX7_pool 39 = .ok (.aload_n 0, 1) := by decide +kernel
theorem dX7_pool_40 : decode cX7_pool 40 = .ok (.iload 4, 2) := by decide +kernel
theorem dX7_pool_42 : decode cX7_pool 42 = .ok (.invokevirtual 81, 3) := by decide +kernel
theorem dX7_pool_45 : decode cX7_pool 45 = .ok (.ifCond .eq 47, 3) := by decide +kernel
theorem dX7_pool_48 : decode cX7_pool 48 = .ok (.aload_n 0, 1) := by decide +kernel
theorem dX7_pool_49 : decode cX7_pool 49 = .ok (.iconst 0, 1) := by decide +kernel
theorem dX7_pool_50 : decode cX7_pool 50 = .ok (.aload_n 0, 1) := by decide +kernel
theorem dX7_pool_51 : decode cX7_pool 51 = .ok (.invokevirtual 37, 3) := by decide +kernel
theorem dX7_pool_54 : decode cX7_pool 54 = .ok (.iconst 1, 1) := by decide +kernel
theorem dX7_pool_55 : decode cX7_pool 55 = .ok (.isub, 1) := by decide +kernel
theorem dX7_pool_56 : decode cX7_pool 56 = .ok (.iload 4, 2) := by decide +kernel
theorem dX7_pool_58 : decode cX7_pool 58 = .ok (.invokevirtual 74, 3) := by decide +kernel
theorem dX7_pool_61 : decode cX7_pool 61 = .ok (.istore 7, 2) := by decide +kernel
theorem dX7_pool_63 : decode cX7_pool 63 = .ok (.iload 5, 2) := by decide +kernel
theorem dX7_pool_65 : decode cX7_pool 65 = .ok (.iload 7, 2) := by decide +kernel
theorem dX7_pool_67 : decode cX7_pool 67 = .ok (.iadd, 1) := by decide +kernel
theorem dX7_pool_68 : decode cX7_pool 68 = .ok (.istore 5, 2) := by decide +kernel
theorem dX7_pool_70 : decode cX7_pool 70 = .ok (.iload 7, 2) := by decide +kernel
theorem dX7_pool_72 : decode cX7_pool 72 = .ok (.iload 6, 2) := by decide +kernel
theorem dX7_pool_74 : decode cX7_pool 74 = .ok (.if_icmp .le 8, 3) := by decide +kernel
theorem dX7_pool_77 : decode cX7_pool 77 = .ok (.iload 7, 2) := by decide +kernel
theorem dX7_pool_79 : decode cX7_pool 79 = .ok (.goto 5, 3) := by decide +kernel
theorem dX7_pool_82 : decode cX7_pool 82 = .ok (.iload 6, 2) := by decide +kernel
theorem dX7_pool_84 : decode cX7_pool 84 = .ok (.istore 6, 2) := by decide +kernel
theorem dX7_pool_86 : decode cX7_pool 86 = .ok (.iinc 4 1, 3) := by decide +kernel
theorem dX7_pool_89 : decode cX7_pool 89 = .ok (.goto (-50), 3) := by decide +kernel
theorem dX7_pool_92 : decode cX7_pool 92 = .ok (.iload_n 2, 1) := by decide +kernel
theorem dX7_pool_93 : decode cX7_pool 93 = .ok (.tableswitch 61 0 3 #[31, 33, 38, 41], 31) := by decide +kernel
theorem dX7_pool_124 : decode cX7_pool 124 = .ok (.iload_n 3, 1) := by decide +kernel
theorem dX7_pool_125 : decode cX7_pool 125 = .ok (.ireturn, 1) := by decide +kernel
theorem dX7_pool_126 : decode cX7_pool 126 = .ok (.iload 4, 2) := by decide +kernel
theorem dX7_pool_128 : decode cX7_pool 128 = .ok (.iconst 1, 1) := by decide +kernel
theorem dX7_pool_129 : decode cX7_pool 129 = .ok (.isub, 1) := by decide +kernel
theorem dX7_pool_130 : decode cX7_pool 130 = .ok (.ireturn, 1) := by decide +kernel
theorem dX7_pool_131 : decode cX7_pool 131 = .ok (.iload 5, 2) := by decide +kernel
theorem dX7_pool_133 : decode cX7_pool 133 = .ok (.ireturn, 1) := by decide +kernel
theorem dX7_pool_134 : decode cX7_pool 134 = .ok (.aload_n 0, 1) := by decide +kernel
theorem dX7_pool_135 : decode cX7_pool 135 = .ok (.getfield 7, 3) := by decide +kernel
theorem dX7_pool_138 : decode cX7_pool 138 = .ok (.iload_n 3, 1) := by decide +kernel
theorem dX7_pool_139 : decode cX7_pool 139 = .ok (.iaload, 1) := by decide +kernel
theorem dX7_pool_140 : decode cX7_pool 140 = .ok (.aload_n 0, 1) := by decide +kernel
theorem dX7_pool_141 : decode cX7_pool 141 = .ok (.iconst 0, 1) := by decide +kernel
theorem dX7_pool_142 : decode cX7_pool 142 = .ok (.aload_n 0, 1) := by decide +kernel
theorem dX7_pool_143 : decode cX7_pool 143 = .ok (.invokevirtual 37, 3) := by decide +kernel
theorem dX7_pool_146 : decode cX7_pool 146 = .ok (.iconst 1, 1) := by decide +kernel
theorem dX7_pool_147 : decode cX7_pool 147 = .ok (.isub, 1) := by decide +kernel
theorem dX7_pool_148 : decode cX7_pool 148 = .ok (.iload_n 3, 1) := by decide +kernel
theorem dX7_pool_149 : decode cX7_pool 149 = .ok (.invokevirtual 74, 3) := by decide +kernel
theorem dX7_pool_152 : decode cX7_pool 152 = .ok (.iadd, 1) := by decide +kernel
theorem dX7_pool_153 : decode cX7_pool 153 = .ok (.ireturn, 1) := by decide +kernel
theorem dX7_pool_154 : decode cX7_pool 154 = .ok (.iload 6, 2) := by decide +kernel
theorem dX7_pool_156 : decode cX7_pool 156 = .ok (.ireturn, 1) := by decide +kernel
set_option maxRecDepth 20000 in
theorem ggX7_drained_X7_isColumn : GoodIn wsX7_drained wsX7_isColumn := goodIn_r _ [5, 6, 7, 8, 4, 9, 10, 11, 12, 13, 26, 27, 28, 29, 30, 31, 32, 33, 34, 35, 36, 37] (by decide +kernel) (by decide +kernel)
set_option maxRecDepth 20000 in
theorem gX7_drained_X7_isColumn : GoodIn wsX7_drained (wsV RX7 45 RX7 yX7_isColumn wsX7_isColumn) := goodIn_app (goodIn_of _ (by decide +kernel)) ggX7_drained_X7_isColumn
set_option maxRecDepth 20000 in
theorem ggX7_drained_X7_many : GoodIn wsX7_drained wsX7_many := goodIn_r _ [9, 10, 26, 27, 28, 29, 30, 31, 32, 33, 34, 35, 36, 37] (by decide +kernel) (by decide +kernel)
set_option maxRecDepth 20000 in
theorem gX7_drained_X7_many : GoodIn wsX7_drained (wsV RX7 37 RX7 yX7_many wsX7_many) := goodIn_app (goodIn_of _ (by decide +kernel)) ggX7_drained_X7_many
set_option maxRecDepth 20000 in
theorem ggX7_drained_X7_water : GoodIn wsX7_drained wsX7_water := goodIn_r _ [17, 18, 19, 20, 4, 21, 10, 22, 23, 24, 25, 26, 27, 28, 29, 30, 31, 32, 33, 34, 35, 36, 37] (by decide +kernel) (by decide +kernel)
set_option maxRecDepth 20000 in
theorem gX7_drained_X7_water : GoodIn wsX7_drained (wsV RX7 71 RX7 yX7_water wsX7_water) := goodIn_app (goodIn_of _ (by decide +kernel)) ggX7_drained_X7_water
theorem dX7_drained_0 : decode cX7_drained 0 = .ok (.aload_n 0, 1) := by decide +kernel
theorem dX7_drained_1 : decode cX7_drained 1 = .ok (.iload_n 1, 1) := by decide +kernel
theorem dX7_drained_2 : decode cX7_drained 2 = .ok (.invokevirtual 45, 3) := by decide +kernel
theorem dX7_drained_5 : decode cX7_drained 5 = .ok (.ifCond .eq 36, 3) := by decide +kernel
theorem dX7_drained_8 : decode cX7_drained 8 = .ok (.aload_n 0, 1) := by decide +kernel
theorem dX7_drained_9 : decode cX7_drained 9 = .ok (.iconst 0, 1) := by decide +kernel
theorem dX7_drained_10 : decode cX7_drained 10 = .ok (.aload_n 0, 1) := by decide +kernel
theorem dX7_drained_11 : decode cX7_drained 11 = .ok (.invokevirtual 37, 3) := by decide +kernel
theorem dX7_drained_14 : decode cX7_drained 14 = .ok (.iconst 1, 1) := by decide +kernel
theorem dX7_drained_15 : decode cX7_drained 15 = .ok (.isub, 1) := by decide +kernel
theorem dX7_drained_16 : decode cX7_drained 16 = .ok (.invokevirtual 71, 3) := by decide +kernel
theorem dX7_drained_19 : decode cX7_drained 19 = .ok (.aload_n 0, 1) := by decide +kernel
theorem dX7_drained_20 : decode cX7_drained 20 = .ok (.iconst 0, 1) := by decide +kernel
theorem dX7_drained_21 : decode cX7_drained 21 = .ok (.iload_n 1, 1) := by decide +kernel
theorem dX7_drained_22 : decode cX7_drained 22 = .ok (.invokevirtual 71, 3) := by decide +kernel
theorem dX7_drained_25 : decode cX7_drained 25 = .ok (.isub, 1) := by decide +kernel
theorem dX7_drained_26 : decode cX7_drained 26 = .ok (.aload_n 0, 1) := by decide +kernel
theorem dX7_drained_27 : decode cX7_drained 27 = .ok (.iload_n 1, 1) := by decide +kernel
theorem dX7_drained_28 : decode cX7_drained 28 = .ok (.aload_n 0, 1) := by decide +kernel
theorem dX7_drained_29 : decode cX7_drained 29 = .ok (.invokevirtual 37, 3) := by decide +kernel
theorem dX7_drained_32 : decode cX7_drained 32 = .ok (.iconst 1, 1) := by decide +kernel
theorem dX7_drained_33 : decode cX7_drained 33 = .ok (.isub, 1) := by decide +kernel
theorem dX7_drained_34 : decode cX7_drained 34 = .ok (.invokevirtual 71, 3) := by decide +kernel
theorem dX7_drained_37 : decode cX7_drained 37 = .ok (.isub, 1) := by decide +kernel
theorem dX7_drained_38 : decode cX7_drained 38 = .ok (.goto 4, 3) := by decide +kernel
theorem dX7_drained_41 : decode cX7_drained 41 = .ok (.iconst (-1), 1) := by decide +kernel
theorem dX7_drained_42 : decode cX7_drained 42 = .ok (.ireturn, 1) := by decide +kernel
set_option maxRecDepth 20000 in
theorem ggX7_dam_X7_isIn : GoodIn wsX7_dam wsX7_isIn := goodIn_r _ [5] (by decide +kernel) (by decide +kernel)
set_option maxRecDepth 20000 in
theorem gX7_dam_X7_isIn : GoodIn wsX7_dam (va_wsS RX7 41 yX7_isIn wsX7_isIn) := goodIn_app (goodIn_of _ (by decide +kernel)) ggX7_dam_X7_isIn
set_option maxRecDepth 20000 in
theorem ggX7_dam_X7_many : GoodIn wsX7_dam wsX7_many := goodIn_r _ [9, 1, 25, 26, 27, 28, 29, 30, 31, 32, 33, 34, 35, 36] (by decide +kernel) (by decide +kernel)
set_option maxRecDepth 20000 in
theorem gX7_dam_X7_many : GoodIn wsX7_dam (wsV RX7 37 RX7 yX7_many wsX7_many) := goodIn_app (goodIn_of _ (by decide +kernel)) ggX7_dam_X7_many
set_option maxRecDepth 20000 in
theorem ggX7_dam_X7_capped : GoodIn wsX7_dam wsX7_capped := goodIn_r _ [12] (by decide +kernel) (by decide +kernel)
set_option maxRecDepth 20000 in
theorem gX7_dam_X7_capped : GoodIn wsX7_dam (va_wsS RX7 64 yX7_capped wsX7_capped) := goodIn_app (goodIn_of _ (by decide +kernel)) ggX7_dam_X7_capped
set_option maxRecDepth 20000 in
theorem ggX7_dam_X7_water : GoodIn wsX7_dam wsX7_water := goodIn_r _ [16, 17, 18, 19, 4, 20, 1, 21, 22, 23, 24, 25, 26, 27, 28, 29, 30, 31, 32, 33, 34, 35, 36] (by decide +kernel) (by decide +kernel)
set_option maxRecDepth 20000 in
theorem gX7_dam_X7_water : GoodIn wsX7_dam (wsV RX7 71 RX7 yX7_water wsX7_water) := goodIn_app (goodIn_of _ (by decide +kernel)) ggX7_dam_X7_water
theorem dX7_dam_0 : decode cX7_dam 0 = .ok (.iload_n 1, 1) := by decide +kernel
theorem dX7_dam_1 : decode cX7_dam 1 = .ok (.iconst 1, 1) := by decide +kernel
theorem dX7_dam_2 : decode cX7_dam 2 = .ok (.bipush 50, 2) := by decide +kernel
theorem dX7_dam_4 : decode cX7_dam 4 = .ok (.invokestatic 41, 3) := by decide +kernel
theorem dX7_dam_7 : decode cX7_dam 7 = .ok (.ifCond .eq 12, 3) := by decide +kernel
theorem dX7_dam_10 : decode cX7_dam 10 = .ok (.iload_n 2, 1) := by decide +kernel
theorem dX7_dam_11 : decode cX7_dam 11 = .ok (.iconst 0, 1) := by decide +kernel
theorem dX7_dam_12 : decode cX7_dam 12 = .ok (.iconst 1, 1) := by decide +kernel
theorem dX7_dam_13 : decode cX7_dam 13 = .ok (.invokestatic 41, 3) := by decide +kernel
theorem dX7_dam_16 : decode cX7_dam 16 = .ok (.ifCond .ne 5, 3) := by decide +kernel
theorem dX7_dam_19 : decode cX7_dam 19 = .ok (.iconst (-1), 1) := by decide +kernel
theorem dX7_dam_20 : decode cX7_dam 20 = .ok (.ireturn, 1) := by decide +kernel
theorem dX7_dam_21 : decode cX7_dam 21 = .ok (.aload_n 0, 1) := by decide +kernel
theorem dX7_dam_22 : decode cX7_dam 22 = .ok (.invokevirtual 37, 3) := by decide +kernel
theorem dX7_dam_25 : decode cX7_dam 25 = .ok (.ifCond .ne 6, 3) := by decide +kernel
theorem dX7_dam_28 : decode cX7_dam 28 = .ok (.bipush (-2), 2) := by decide +kernel
theorem dX7_dam_30 : decode cX7_dam 30 = .ok (.ireturn, 1) := by decide +kernel
theorem dX7_dam_31 : decode cX7_dam 31 = .ok (.bipush (-9), 2) := by decide +kernel
theorem dX7_dam_33 : decode cX7_dam 33 = .ok (.istore_n 3, 1) := by decide +kernel
theorem dX7_dam_34 : decode cX7_dam 34 = .ok (.bipush (-9), 2) := by decide +kernel
theorem dX7_dam_36 : decode cX7_dam 36 = .ok (.istore 4, 2) := by decide +kernel
theorem dX7_dam_38 : decode cX7_dam 38 = .ok (.iconst 0, 1) := by decide +kernel
theorem dX7_dam_39 : decode cX7_dam 39 = .ok (.istore 5, 2) := by decide +kernel
theorem dX7_dam_41 : decode cX7_dam 41 = .ok (.iload 5, 2) := by decide +kernel
theorem dX7_dam_43 : decode cX7_dam 43 = .ok (.aload_n 0, 1) := by decide +kernel
theorem dX7_dam_44 : decode cX7_dam 44 = .ok (.invokevirtual 37, 3) := by decide +kernel
theorem dX7_dam_47 : decode cX7_dam 47 = .ok (.if_icmp .ge 68, 3) := by decide +kernel
theorem dX7_dam_50 : decode cX7_dam 50 = .ok (.aload_n 0, 1) := by decide +kernel
theorem dX7_dam_51 : decode cX7_dam 51 = .ok (.getfield 7, 3) := by decide +kernel
theorem dX7_dam_54 : decode cX7_dam 54 = .ok (.iload 5, 2) := by decide +kernel
theorem dX7_dam_56 : decode cX7_dam 56 = .ok (.iaload, 1) := by decide +kernel
theorem dX7_dam_57 : decode cX7_dam 57 = .ok (.istore 6, 2) := by decide +kernel
theorem dX7_dam_59 : decode cX7_dam 59 = .ok (.aload_n 0, 1) := by decide +kernel
theorem dX7_dam_60 : decode cX7_dam 60 = .ok (.getfield 7, 3) := by decide +kernel
theorem dX7_dam_63 : decode cX7_dam 63 = .ok (.iload 5, 2) := by decide +kernel
theorem dX7_dam_65 : decode cX7_dam 65 = .ok (.iload 6, 2) := by decide +kernel
theorem dX7_dam_67 : decode cX7_dam 67 = .ok (.iload_n 1, 1) := by decide +kernel
theorem dX7_dam_68 : decode cX7_dam 68 = .ok (.iadd, 1) := by decide +kernel
theorem dX7_dam_69 : decode cX7_dam 69 = .ok (.invokestatic 64, 3) := by decide +kernel
theorem dX7_dam_72 : decode cX7_dam 72 = .ok (.iastore, 1) := by decide +kernel
theorem dX7_dam_73 : decode cX7_dam 73 = .ok (.aload_n 0, 1) := by decide +kernel
theorem dX7_dam_74 : decode cX7_dam 74 = .ok (.iconst 0, 1) := by decide +kernel
theorem dX7_dam_75 : decode cX7_dam 75 = .ok (.aload_n 0, 1) := by decide +kernel
theorem dX7_dam_76 : decode cX7_dam 76 = .ok (.invokevirtual 37, 3) := by decide +kernel
theorem dX7_dam_79 : decode cX7_dam 79 = .ok (.iconst 1, 1) := by decide +kernel
theorem dX7_dam_80 : decode cX7_dam 80 = .ok (.isub, 1) := by decide +kernel
theorem dX7_dam_81 : decode cX7_dam 81 = .ok (.invokevirtual 71, 3) := by decide +kernel
theorem dX7_dam_84 : decode cX7_dam 84 = .ok (.istore 7, 2) := by decide +kernel
theorem dX7_dam_86 : decode cX7_dam 86 = .ok (.aload_n 0, 1) := by decide +kernel
theorem dX7_dam_87 : decode cX7_dam 87 = .ok (.getfield 7, 3) := by decide +kernel
theorem dX7_dam_90 : decode cX7_dam 90 = .ok (.iload 5, 2) := by decide +kernel
theorem dX7_dam_92 : decode cX7_dam 92 = .ok (.iload 6, 2) := by decide +kernel
theorem dX7_dam_94 : decode cX7_dam 94 = .ok (.iastore, 1) := by decide +kernel
theorem dX7_dam_95 : decode cX7_dam 95 = .ok (.iload 7, 2) := by decide +kernel
theorem dX7_dam_97 : decode cX7_dam 97 = .ok (.iload 4, 2) := by decide +kernel
theorem dX7_dam_99 : decode cX7_dam 99 = .ok (.if_icmp .le 10, 3) := by decide +kernel
theorem dX7_dam_102 : decode cX7_dam 102 = .ok (.iload 5, 2) := by decide +kernel
theorem dX7_dam_104 : decode cX7_dam 104 = .ok (.istore_n 3, 1) := by decide +kernel
theorem dX7_dam_105 : decode cX7_dam 105 = .ok (.iload 7, 2) := by decide +kernel
theorem dX7_dam_107 : decode cX7_dam 107 = .ok (.istore 4, 2) := by decide +kernel
theorem dX7_dam_109 : decode cX7_dam 109 = .ok (.iinc 5 1, 3) := by decide +kernel
theorem dX7_dam_112 : decode cX7_dam 112 = .ok (.goto (-71), 3) := by decide +kernel
theorem dX7_dam_115 : decode cX7_dam 115 = .ok (.iload_n 2, 1) := by decide +kernel
theorem dX7_dam_116 : decode cX7_dam 116 = .ok (.ifCond .ne 7, 3) := by decide +kernel
theorem dX7_dam_119 : decode cX7_dam 119 = .ok (.iload_n 3, 1) := by decide +kernel
theorem dX7_dam_120 : decode cX7_dam 120 = .ok (.goto 5, 3) := by decide +kernel
theorem dX7_dam_123 : decode cX7_dam 123 = .ok (.iload 4, 2) := by decide +kernel
theorem dX7_dam_125 : decode cX7_dam 125 = .ok (.ireturn, 1) := by decide +kernel
set_option maxRecDepth 20000 in
theorem ggX7_sumOfMinima_X7_many : GoodIn wsX7_sumOfMinima wsX7_many := goodIn_r _ [5, 6, 11, 12, 13, 14, 15, 16, 17, 18, 19, 20, 21, 22] (by decide +kernel) (by decide +kernel)
set_option maxRecDepth 20000 in
theorem gX7_sumOfMinima_X7_many : GoodIn wsX7_sumOfMinima (wsV RX7 37 RX7 yX7_many wsX7_many) := goodIn_app (goodIn_of _ (by decide +kernel)) ggX7_sumOfMinima_X7_many
set_option maxRecDepth 20000 in
theorem ggX7_sumOfMinima_X7_least : GoodIn wsX7_sumOfMinima wsX7_least := goodIn_r _ [10, 6, 11, 12, 13, 14, 15, 16, 17, 18, 19, 20, 21, 22] (by decide +kernel) (by decide +kernel)
set_option maxRecDepth 20000 in
theorem gX7_sumOfMinima_X7_least : GoodIn wsX7_sumOfMinima (wsV RX7 87 RX7 yX7_least wsX7_least) := goodIn_app (goodIn_of _ (by decide +kernel)) ggX7_sumOfMinima_X7_least
theorem dX7_sumOfMinima_0 : decode cX7_sumOfMinima 0 = .ok (.iconst 0, 1) := by decide +kernel
theorem dX7_sumOfMinima_1 : decode cX7_sumOfMinima 1 = .ok (.istore_n 1, 1) := by decide +kernel
theorem dX7_sumOfMinima_2 : decode cX7_sumOfMinima 2 = .ok (.iconst 0, 1) := by decide +kernel
theorem dX7_sumOfMinima_3 : decode cX7_sumOfMinima 3 = .ok (.istore_n 2, 1) := by decide +kernel
theorem dX7_sumOfMinima_4 : decode cX7_sumOfMinima 4 = .ok (.iload_n 2, 1) := by decide +kernel
theorem dX7_sumOfMinima_5 : decode cX7_sumOfMinima 5 = .ok (.aload_n 0, 1) := by decide +kernel
theorem dX7_sumOfMinima_6 : decode cX7_sumOfMinima 6 = .ok (.invokevirtual 37, 3) := by decide +kernel
theorem dX7_sumOfMinima_9 : decode cX7_sumOfMinima 9 = .ok (.if_icmp .ge 34, 3) := by decide +kernel
theorem dX7_sumOfMinima_12 : decode cX7_sumOfMinima 12 = .ok (.iload_n 2, 1) := by decide +kernel
theorem dX7_sumOfMinima_13 : decode cX7_sumOfMinima 13 = .ok (.istore_n 3, 1) := by decide +kernel
theorem dX7_sumOfMinima_14 : decode cX7_sumOfMinima 14 = .ok (.iload_n 3, 1) := by decide +kernel
theorem dX7_sumOfMinima_15 : decode cX7_sumOfMinima 15 = .ok (.aload_n 0, 1) := by decide +kernel
theorem dX7_sumOfMinima_16 : decode cX7_sumOfMinima 16 = .ok (.invokevirtual 37, 3) := by decide +kernel
theorem dX7_sumOfMinima_19 : decode cX7_sumOfMinima 19 = .ok (.if_icmp .ge 18, 3) := by decide +kernel
theorem dX7_sumOfMinima_22 : decode cX7_sumOfMinima 22 = .ok (.iload_n 1, 1) := by decide +kernel
theorem dX7_sumOfMinima_23 : decode cX7_sumOfMinima 23 = .ok (.aload_n 0, 1) := by decide +kernel
theorem dX7_sumOfMinima_24 : decode cX7_sumOfMinima 24 = .ok (.iload_n 2, 1) := by decide +kernel
theorem dX7_sumOfMinima_25 : decode cX7_sumOfMinima 25 = .ok (.iload_n 3, 1) := by decide +kernel
theorem dX7_sumOfMinima_26 : decode cX7_sumOfMinima 26 = .ok (.invokevirtual 87, 3) := by decide +kernel
theorem dX7_sumOfMinima_29 : decode cX7_sumOfMinima 29 = .ok (.iadd, 1) := by decide +kernel
theorem dX7_sumOfMinima_30 : decode cX7_sumOfMinima 30 = .ok (.istore_n 1, 1) := by decide +kernel
theorem dX7_sumOfMinima_31 : decode cX7_sumOfMinima 31 = .ok (.iinc 3 1, 3) := by decide +kernel
theorem dX7_sumOfMinima_34 : decode cX7_sumOfMinima 34 = .ok (.goto (-20), 3) := by decide +kernel
theorem dX7_sumOfMinima_37 : decode cX7_sumOfMinima 37 = .ok (.iinc 2 1, 3) := by decide +kernel
theorem dX7_sumOfMinima_40 : decode cX7_sumOfMinima 40 = .ok (.goto (-36), 3) := by decide +kernel
theorem dX7_sumOfMinima_43 : decode cX7_sumOfMinima 43 = .ok (.iload_n 1, 1) := by decide +kernel
theorem dX7_sumOfMinima_44 : decode cX7_sumOfMinima 44 = .ok (.ireturn, 1) := by decide +kernel
set_option maxRecDepth 20000 in
theorem ggX7_ranges_X7_isIn : GoodIn wsX7_ranges wsX7_isIn := goodIn_r _ [4] (by decide +kernel) (by decide +kernel)
set_option maxRecDepth 20000 in
theorem gX7_ranges_X7_isIn : GoodIn wsX7_ranges (va_wsS RX7 41 yX7_isIn wsX7_isIn) := goodIn_app (goodIn_of _ (by decide +kernel)) ggX7_ranges_X7_isIn
set_option maxRecDepth 20000 in
theorem ggX7_ranges_X7_many : GoodIn wsX7_ranges wsX7_many := goodIn_r _ [8, 9, 14, 15, 16, 17, 18, 19, 20, 21, 22, 23, 24, 25] (by decide +kernel) (by decide +kernel)
set_option maxRecDepth 20000 in
theorem gX7_ranges_X7_many : GoodIn wsX7_ranges (wsV RX7 37 RX7 yX7_many wsX7_many) := goodIn_app (goodIn_of _ (by decide +kernel)) ggX7_ranges_X7_many
set_option maxRecDepth 20000 in
theorem ggX7_ranges_X7_least : GoodIn wsX7_ranges wsX7_least := goodIn_r _ [13, 9, 14, 15, 16, 17, 18, 19, 20, 21, 22, 23, 24, 25] (by decide +kernel) (by decide +kernel)
set_option maxRecDepth 20000 in
theorem gX7_ranges_X7_least : GoodIn wsX7_ranges (wsV RX7 87 RX7 yX7_least wsX7_least) := goodIn_app (goodIn_of _ (by decide +kernel)) ggX7_ranges_X7_least
theorem dX7_ranges_0 : decode cX7_ranges 0 = .ok (.iload_n 1, 1) := by decide +kernel
theorem dX7_ranges_1 : decode cX7_ranges 1 = .ok (.iconst 0, 1) := by decide +kernel
theorem dX7_ranges_2 : decode cX7_ranges 2 = .ok (.bipush 50, 2) := by decide +kernel
theorem dX7_ranges_4 : decode cX7_ranges 4 = .ok (.invokestatic 41, 3) := by decide +kernel
theorem dX7_ranges_7 : decode cX7_ranges 7 = .ok (.ifCond .ne 5, 3) := by decide +kernel
theorem dX7_ranges_10 : decode cX7_ranges 10 = .ok (.iconst (-1), 1) := by decide +kernel
theorem dX7_ranges_11 : decode cX7_ranges 11 = .ok (.ireturn, 1) := by decide +kernel
theorem dX7_ranges_12 : decode cX7_ranges 12 = .ok (.iconst 0, 1) := by decide +kernel
theorem dX7_ranges_13 : decode cX7_ranges 13 = .ok (.istore_n 2, 1) := by decide +kernel
