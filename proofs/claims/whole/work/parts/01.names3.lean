theorem dX6_container_47 : decode cX6_container 47 = .ok (.iload 5, 2) := by decide +kernel
theorem dX6_container_49 : decode cX6_container 49 = .ok (.iconst 1, 1) := by decide +kernel
theorem dX6_container_50 : decode cX6_container 50 = .ok (.iadd, 1) := by decide +kernel
theorem dX6_container_51 : decode cX6_container 51 = .ok (.istore 6, 2) := by decide +kernel
theorem dX6_container_53 : decode cX6_container 53 = .ok (.iload 6, 2) := by decide +kernel
theorem dX6_container_55 : decode cX6_container 55 = .ok (.aload_n 0, 1) := by decide +kernel
theorem dX6_container_56 : decode cX6_container 56 = .ok (.getfield 10, 3) := by decide +kernel
theorem dX6_container_59 : decode cX6_container 59 = .ok (.getfield 55, 3) := by decide +kernel
theorem dX6_container_62 : decode cX6_container 62 = .ok (.if_icmp .ge 56, 3) := by decide +kernel
theorem dX6_container_65 : decode cX6_container 65 = .ok (.aload_n 0, 1) := by decide +kernel
theorem dX6_container_66 : decode cX6_container 66 = .ok (.getfield 10, 3) := by decide +kernel
theorem dX6_container_69 : decode cX6_container 69 = .ok (.getfield 78, 3) := by decide +kernel
theorem dX6_container_72 : decode cX6_container 72 = .ok (.iload 5, 2) := by decide +kernel
theorem dX6_container_74 : decode cX6_container 74 = .ok (.iaload, 1) := by decide +kernel
theorem dX6_container_75 : decode cX6_container 75 = .ok (.aload_n 0, 1) := by decide +kernel
theorem dX6_container_76 : decode cX6_container 76 = .ok (.getfield 10, 3) := by decide +kernel
theorem dX6_container_79 : decode cX6_container 79 = .ok (.getfield 78, 3) := by decide +kernel
theorem dX6_container_82 : decode cX6_container 82 = .ok (.iload 6, 2) := by decide +kernel
theorem dX6_container_84 : decode cX6_container 84 = .ok (.iaload, 1) := by decide +kernel
theorem dX6_container_85 : decode cX6_container 85 = .ok (.invokestatic 192, 3) := by decide +kernel
theorem dX6_container_88 : decode cX6_container 88 = .ok (.iload 6, 2) := by decide +kernel
theorem dX6_container_90 : decode cX6_container 90 = .ok (.iload 5, 2) := by decide +kernel
theorem dX6_container_92 : decode cX6_container 92 = .ok (.isub, 1) := by decide +kernel
theorem dX6_container_93 : decode cX6_container 93 = .ok (.imul, 1) := by decide +kernel
theorem dX6_container_94 : decode cX6_container 94 = .ok (.istore 7, 2) := by decide +kernel
theorem dX6_container_96 : decode cX6_container 96 = .ok (.iload 7, 2) := by decide +kernel
theorem dX6_container_98 : decode cX6_container 98 = .ok (.iload_n 2, 1) := by decide +kernel
theorem dX6_container_99 : decode cX6_container 99 = .ok (.if_icmp .le 13, 3) := by decide +kernel
theorem dX6_container_102 : decode cX6_container 102 = .ok (.iload 7, 2) := by decide +kernel
theorem dX6_container_104 : decode cX6_container 104 = .ok (.istore_n 2, 1) := by decide +kernel
theorem dX6_container_105 : decode cX6_container 105 = .ok (.iload 5, 2) := by decide +kernel
theorem dX6_container_107 : decode cX6_container 107 = .ok (.istore_n 3, 1) := by decide +kernel
theorem dX6_container_108 : decode cX6_container 108 = .ok (.iload 6, 2) := by decide +kernel
theorem dX6_container_110 : decode cX6_container 110 = .ok (.istore 4, 2) := by decide +kernel
theorem dX6_container_112 : decode cX6_container 112 = .ok (.iinc 6 1, 3) := by decide +kernel
theorem dX6_container_115 : decode cX6_container 115 = .ok (.goto (-62), 3) := by decide +kernel
theorem dX6_container_118 : decode cX6_container 118 = .ok (.iinc 5 1, 3) := by decide +kernel
theorem dX6_container_121 : decode cX6_container 121 = .ok (.goto (-86), 3) := by decide +kernel
theorem dX6_container_124 : decode cX6_container 124 = .ok (.iload_n 1, 1) := by decide +kernel
theorem dX6_container_125 : decode cX6_container 125 = .ok (.lookupswitch 31 #[(0, 27), (1, 29)], 27) := by decide +kernel
theorem dX6_container_152 : decode cX6_container 152 = .ok (.iload_n 2, 1) := by decide +kernel
theorem dX6_container_153 : decode cX6_container 153 = .ok (.ireturn, 1) := by decide +kernel
theorem dX6_container_154 : decode cX6_container 154 = .ok (.iload_n 3, 1) := by decide +kernel
theorem dX6_container_155 : decode cX6_container 155 = .ok (.ireturn, 1) := by decide +kernel
theorem dX6_container_156 : decode cX6_container 156 = .ok (.iload 4, 2) := by decide +kernel
theorem dX6_container_158 : decode cX6_container 158 = .ok (.ireturn, 1) := by decide +kernel
set_option maxRecDepth 20000 in
theorem ggX6_pool_X6_pourAll : GoodIn wsX6_pool wsX6_pourAll := goodIn_r _ [7, 1, 2, 8, 9, 10, 11, 12, 13, 14, 15, 16, 17, 18, 19, 20, 39, 40, 41, 42, 43, 44, 45, 46, 47, 48] (by decide +kernel) (by decide +kernel)
set_option maxRecDepth 20000 in
theorem gX6_pool_X6_pourAll : GoodIn wsX6_pool (wsV RX6 98 RX6 yX6_pourAll wsX6_pourAll) := goodIn_app (goodIn_of _ (by decide +kernel)) ggX6_pool_X6_pourAll
set_option maxRecDepth 20000 in
theorem ggX6_pool_X5_poolStart : GoodIn wsX6_pool wsX5_poolStart := goodIn_r _ [24, 25, 26, 27, 11, 28, 17, 48] (by decide +kernel) (by decide +kernel)
set_option maxRecDepth 20000 in
theorem gX6_pool_X5_poolStart : GoodIn wsX6_pool (wsV RX6 197 RX5 yX5_poolStart wsX5_poolStart) := goodIn_app (goodIn_of _ (by decide +kernel)) ggX6_pool_X5_poolStart
set_option maxRecDepth 20000 in
theorem ggX6_pool_X5_poolEnd : GoodIn wsX6_pool wsX5_poolEnd := goodIn_r _ [32, 17, 48] (by decide +kernel) (by decide +kernel)
set_option maxRecDepth 20000 in
theorem gX6_pool_X5_poolEnd : GoodIn wsX6_pool (wsV RX6 200 RX5 yX5_poolEnd wsX5_poolEnd) := goodIn_app (goodIn_of _ (by decide +kernel)) ggX6_pool_X5_poolEnd
set_option maxRecDepth 20000 in
theorem ggX6_pool_X6_sumOf : GoodIn wsX6_pool wsX6_sumOf := goodIn_r _ [35] (by decide +kernel) (by decide +kernel)
set_option maxRecDepth 20000 in
theorem gX6_pool_X6_sumOf : GoodIn wsX6_pool (va_wsS RX6 111 yX6_sumOf wsX6_sumOf) := goodIn_app (goodIn_of _ (by decide +kernel)) ggX6_pool_X6_sumOf
set_option maxRecDepth 20000 in
theorem ggX6_pool_X6_lowestGreatest : GoodIn wsX6_pool wsX6_lowestGreatest := goodIn_r _ [38] (by decide +kernel) (by decide +kernel)
set_option maxRecDepth 20000 in
theorem gX6_pool_X6_lowestGreatest : GoodIn wsX6_pool (va_wsS RX6 171 yX6_lowestGreatest wsX6_lowestGreatest) := goodIn_app (goodIn_of _ (by decide +kernel)) ggX6_pool_X6_lowestGreatest
theorem dX6_pool_0 : decode cX6_pool 0 = .ok (.iload_n 1, 1) := by decide +kernel
theorem dX6_pool_1 : decode cX6_pool 1 = .ok (.ifCond .lt 12, 3) := by decide +kernel
theorem dX6_pool_4 : decode cX6_pool 4 = .ok (.iload_n 2, 1) := by decide +kernel
theorem dX6_pool_5 : decode cX6_pool 5 = .ok (.ifCond .lt 8, 3) := by decide +kernel
theorem dX6_pool_8 : decode cX6_pool 8 = .ok (.iload_n 2, 1) := by decide +kernel
theorem dX6_pool_9 : decode cX6_pool 9 = .ok (.iconst 4, 1) := by decide +kernel
theorem dX6_pool_10 : decode cX6_pool 10 = .ok (.if_icmp .le 5, 3) := by decide +kernel
theorem dX6_pool_13 : decode cX6_pool 13 = .ok (.iconst (-1), 1) := by decide +kernel
theorem dX6_pool_14 : decode cX6_pool 14 = .ok (.ireturn, 1) := by decide +kernel
theorem dX6_pool_15 : decode cX6_pool 15 = .ok (.aload_n 0, 1) := by decide +kernel
theorem dX6_pool_16 : decode cX6_pool 16 = .ok (.invokevirtual 98, 3) := by decide +kernel
theorem dX6_pool_19 : decode cX6_pool 19 = .ok (.pop, 1) := by decide +kernel
theorem dX6_pool_20 : decode cX6_pool 20 = .ok (.aload_n 0, 1) := by decide +kernel
theorem dX6_pool_21 : decode cX6_pool 21 = .ok (.getfield 30, 3) := by decide +kernel
theorem dX6_pool_24 : decode cX6_pool 24 = .ok (.iload_n 1, 1) := by decide +kernel
theorem dX6_pool_25 : decode cX6_pool 25 = .ok (.aload_n 0, 1) := by decide +kernel
theorem dX6_pool_26 : decode cX6_pool 26 = .ok (.getfield 10, 3) := by decide +kernel
theorem dX6_pool_29 : decode cX6_pool 29 = .ok (.getfield 55, 3) := by decide +kernel
theorem dX6_pool_32 : decode cX6_pool 32 = .ok (.invokevirtual 197, 3) := by decide +kernel
theorem dX6_pool_35 : decode cX6_pool 35 = .ok (.istore_n 3, 1) := by decide +kernel
theorem dX6_pool_36 : decode cX6_pool 36 = .ok (.iload_n 3, 1) := by decide +kernel
theorem dX6_pool_37 : decode cX6_pool 37 = .ok (.bipush (-9), 2) := by decide +kernel
theorem dX6_pool_39 : decode cX6_pool 39 = .ok (.if_icmp .ne 6, 3) := by decide +kernel
theorem dX6_pool_42 : decode cX6_pool 42 = .ok (.bipush (-9), 2) := by decide +kernel
theorem dX6_pool_44 : decode cX6_pool 44 = .ok (.ireturn, 1) := by decide +kernel
theorem dX6_pool_45 : decode cX6_pool 45 = .ok (.aload_n 0, 1) := by decide +kernel
theorem dX6_pool_46 : decode cX6_pool 46 = .ok (.getfield 30, 3) := by decide +kernel
theorem dX6_pool_49 : decode cX6_pool 49 = .ok (.iload_n 3, 1) := by decide +kernel
theorem dX6_pool_50 : decode cX6_pool 50 = .ok (.aload_n 0, 1) := by decide +kernel
theorem dX6_pool_51 : decode cX6_pool 51 = .ok (.getfield 10, 3) := by decide +kernel
theorem dX6_pool_54 : decode cX6_pool 54 = .ok (.getfield 55, 3) := by decide +kernel
theorem dX6_pool_57 : decode cX6_pool 57 = .ok (.invokevirtual 200, 3) := by decide +kernel
theorem dX6_pool_60 : decode cX6_pool 60 = .ok (.istore 4, 2) := by decide +kernel
theorem dX6_pool_62 : decode cX6_pool 62 = .ok (.iload_n 2, 1) := by decide +kernel
theorem dX6_pool_63 : decode cX6_pool 63 = .ok (.tableswitch 68 0 3 #[29, 31, 34, 48], 29) := by decide +kernel
theorem dX6_pool_92 : decode cX6_pool 92 = .ok (.iload_n 3, 1) := by decide +kernel
theorem dX6_pool_93 : decode cX6_pool 93 = .ok (.ireturn, 1) := by decide +kernel
theorem dX6_pool_94 : decode cX6_pool 94 = .ok (.iload 4, 2) := by decide +kernel
theorem dX6_pool_96 : decode cX6_pool 96 = .ok (.ireturn, 1) := by decide +kernel
theorem dX6_pool_97 : decode cX6_pool 97 = .ok (.aload_n 0, 1) := by decide +kernel
theorem dX6_pool_98 : decode cX6_pool 98 = .ok (.getfield 30, 3) := by decide +kernel
theorem dX6_pool_101 : decode cX6_pool 101 = .ok (.getfield 102, 3) := by decide +kernel
theorem dX6_pool_104 : decode cX6_pool 104 = .ok (.iload_n 3, 1) := by decide +kernel
theorem dX6_pool_105 : decode cX6_pool 105 = .ok (.iload 4, 2) := by decide +kernel
theorem dX6_pool_107 : decode cX6_pool 107 = .ok (.invokestatic 111, 3) := by decide +kernel
theorem dX6_pool_110 : decode cX6_pool 110 = .ok (.ireturn, 1) := by decide +kernel
theorem dX6_pool_111 : decode cX6_pool 111 = .ok (.aload_n 0, 1) := by decide +kernel
theorem dX6_pool_112 : decode cX6_pool 112 = .ok (.getfield 10, 3) := by decide +kernel
theorem dX6_pool_115 : decode cX6_pool 115 = .ok (.getfield 78, 3) := by decide +kernel
theorem dX6_pool_118 : decode cX6_pool 118 = .ok (.iload_n 3, 1) := by decide +kernel
theorem dX6_pool_119 : decode cX6_pool 119 = .ok (.iaload, 1) := by decide +kernel
theorem dX6_pool_120 : decode cX6_pool 120 = .ok (.aload_n 0, 1) := by decide +kernel
theorem dX6_pool_121 : decode cX6_pool 121 = .ok (.getfield 30, 3) := by decide +kernel
theorem dX6_pool_124 : decode cX6_pool 124 = .ok (.getfield 102, 3) := by decide +kernel
theorem dX6_pool_127 : decode cX6_pool 127 = .ok (.iload_n 3, 1) := by decide +kernel
theorem dX6_pool_128 : decode cX6_pool 128 = .ok (.iaload, 1) := by decide +kernel
theorem dX6_pool_129 : decode cX6_pool 129 = .ok (.iadd, 1) := by decide +kernel
theorem dX6_pool_130 : decode cX6_pool 130 = .ok (.ireturn, 1) := by decide +kernel
theorem dX6_pool_131 : decode cX6_pool 131 = .ok (.aload_n 0, 1) := by decide +kernel
theorem dX6_pool_132 : decode cX6_pool 132 = .ok (.getfield 30, 3) := by decide +kernel
theorem dX6_pool_135 : decode cX6_pool 135 = .ok (.getfield 102, 3) := by decide +kernel
theorem dX6_pool_138 : decode cX6_pool 138 = .ok (.aload_n 0, 1) := by decide +kernel
theorem dX6_pool_139 : decode cX6_pool 139 = .ok (.getfield 30, 3) := by decide +kernel
theorem dX6_pool_142 : decode cX6_pool 142 = .ok (.getfield 102, 3) := by decide +kernel
theorem dX6_pool_145 : decode cX6_pool 145 = .ok (.iload_n 3, 1) := by decide +kernel
theorem dX6_pool_146 : decode cX6_pool 146 = .ok (.iload 4, 2) := by decide +kernel
theorem dX6_pool_148 : decode cX6_pool 148 = .ok (.invokestatic 171, 3) := by decide +kernel
theorem dX6_pool_151 : decode cX6_pool 151 = .ok (.iaload, 1) := by decide +kernel
theorem dX6_pool_152 : decode cX6_pool 152 = .ok (.ireturn, 1) := by decide +kernel
set_option maxRecDepth 20000 in
theorem ggX6_drained_X0_has : GoodIn wsX6_drained wsX0_has := goodIn_r _ [7, 8, 34, 35] (by decide +kernel) (by decide +kernel)
set_option maxRecDepth 20000 in
theorem gX6_drained_X0_has : GoodIn wsX6_drained (wsV RX6 71 RX0 yX0_has wsX0_has) := goodIn_app (goodIn_of _ (by decide +kernel)) ggX6_drained_X0_has
set_option maxRecDepth 20000 in
theorem ggX6_drained_X5_pour : GoodIn wsX6_drained wsX5_pour := goodIn_r _ [13, 14, 15, 16, 17, 18, 19, 20, 21, 36] (by decide +kernel) (by decide +kernel)
set_option maxRecDepth 20000 in
theorem gX6_drained_X5_pour : GoodIn wsX6_drained (wsV RX6 203 RX5 yX5_pour wsX5_pour) := goodIn_app (goodIn_of _ (by decide +kernel)) ggX6_drained_X5_pour
set_option maxRecDepth 20000 in
theorem ggX6_drained_X6_pourAll : GoodIn wsX6_drained wsX6_pourAll := goodIn_r _ [26, 2, 1, 9, 10, 11, 12, 13, 14, 15, 16, 17, 18, 19, 20, 21, 27, 28, 29, 30, 31, 32, 33, 34, 35, 36] (by decide +kernel) (by decide +kernel)
set_option maxRecDepth 20000 in
theorem gX6_drained_X6_pourAll : GoodIn wsX6_drained (wsV RX6 98 RX6 yX6_pourAll wsX6_pourAll) := goodIn_app (goodIn_of _ (by decide +kernel)) ggX6_drained_X6_pourAll
theorem dX6_drained_0 : decode cX6_drained 0 = .ok (.aload_n 0, 1) := by decide +kernel
theorem dX6_drained_1 : decode cX6_drained 1 = .ok (.getfield 10, 3) := by decide +kernel
theorem dX6_drained_4 : decode cX6_drained 4 = .ok (.iload_n 1, 1) := by decide +kernel
theorem dX6_drained_5 : decode cX6_drained 5 = .ok (.invokevirtual 71, 3) := by decide +kernel
theorem dX6_drained_8 : decode cX6_drained 8 = .ok (.ifCond .ne 5, 3) := by decide +kernel
theorem dX6_drained_11 : decode cX6_drained 11 = .ok (.iconst (-1), 1) := by decide +kernel
theorem dX6_drained_12 : decode cX6_drained 12 = .ok (.ireturn, 1) := by decide +kernel
theorem dX6_drained_13 : decode cX6_drained 13 = .ok (.aload_n 0, 1) := by decide +kernel
theorem dX6_drained_14 : decode cX6_drained 14 = .ok (.getfield 30, 3) := by decide +kernel
theorem dX6_drained_17 : decode cX6_drained 17 = .ok (.aload_n 0, 1) := by decide +kernel
theorem dX6_drained_18 : decode cX6_drained 18 = .ok (.getfield 10, 3) := by decide +kernel
theorem dX6_drained_21 : decode cX6_drained 21 = .ok (.getfield 78, 3) := by decide +kernel
theorem dX6_drained_24 : decode cX6_drained 24 = .ok (.iconst 0, 1) := by decide +kernel
theorem dX6_drained_25 : decode cX6_drained 25 = .ok (.iload_n 1, 1) := by decide +kernel
theorem dX6_drained_26 : decode cX6_drained 26 = .ok (.invokevirtual 203, 3) := by decide +kernel
theorem dX6_drained_29 : decode cX6_drained 29 = .ok (.istore_n 2, 1) := by decide +kernel
theorem dX6_drained_30 : decode cX6_drained 30 = .ok (.aload_n 0, 1) := by decide +kernel
theorem dX6_drained_31 : decode cX6_drained 31 = .ok (.getfield 30, 3) := by decide +kernel
theorem dX6_drained_34 : decode cX6_drained 34 = .ok (.aload_n 0, 1) := by decide +kernel
theorem dX6_drained_35 : decode cX6_drained 35 = .ok (.getfield 10, 3) := by decide +kernel
theorem dX6_drained_38 : decode cX6_drained 38 = .ok (.getfield 78, 3) := by decide +kernel
theorem dX6_drained_41 : decode cX6_drained 41 = .ok (.iload_n 1, 1) := by decide +kernel
theorem dX6_drained_42 : decode cX6_drained 42 = .ok (.aload_n 0, 1) := by decide +kernel
theorem dX6_drained_43 : decode cX6_drained 43 = .ok (.getfield 10, 3) := by decide +kernel
theorem dX6_drained_46 : decode cX6_drained 46 = .ok (.getfield 55, 3) := by decide +kernel
theorem dX6_drained_49 : decode cX6_drained 49 = .ok (.iconst 1, 1) := by decide +kernel
theorem dX6_drained_50 : decode cX6_drained 50 = .ok (.isub, 1) := by decide +kernel
theorem dX6_drained_51 : decode cX6_drained 51 = .ok (.invokevirtual 203, 3) := by decide +kernel
theorem dX6_drained_54 : decode cX6_drained 54 = .ok (.istore_n 3, 1) := by decide +kernel
theorem dX6_drained_55 : decode cX6_drained 55 = .ok (.aload_n 0, 1) := by decide +kernel
theorem dX6_drained_56 : decode cX6_drained 56 = .ok (.invokevirtual 98, 3) := by decide +kernel
theorem dX6_drained_59 : decode cX6_drained 59 = .ok (.iload_n 2, 1) := by decide +kernel
theorem dX6_drained_60 : decode cX6_drained 60 = .ok (.isub, 1) := by decide +kernel
theorem dX6_drained_61 : decode cX6_drained 61 = .ok (.iload_n 3, 1) := by decide +kernel
theorem dX6_drained_62 : decode cX6_drained 62 = .ok (.isub, 1) := by decide +kernel
theorem dX6_drained_63 : decode cX6_drained 63 = .ok (.ireturn, 1) := by decide +kernel
set_option maxRecDepth 20000 in
theorem ggX6_dam_X6_waterWithDam : GoodIn wsX6_dam wsX6_waterWithDam := goodIn_r _ [6, 1, 7, 8, 9, 10, 11, 12, 13, 5, 14, 15, 16, 17, 18, 19, 20, 21, 22, 23, 24, 25, 26, 27, 28, 29, 30, 31, 32, 33, 34, 35] (by decide +kernel) (by decide +kernel)
set_option maxRecDepth 20000 in
theorem gX6_dam_X6_waterWithDam : GoodIn wsX6_dam (wsV RX6 206 RX6 yX6_waterWithDam wsX6_waterWithDam) := goodIn_app (goodIn_of _ (by decide +kernel)) ggX6_dam_X6_waterWithDam
theorem dX6_dam_0 : decode cX6_dam 0 = .ok (.iload_n 1, 1) := by decide +kernel
theorem dX6_dam_1 : decode cX6_dam 1 = .ok (.iconst 1, 1) := by decide +kernel
theorem dX6_dam_2 : decode cX6_dam 2 = .ok (.if_icmp .lt 18, 3) := by decide +kernel
theorem dX6_dam_5 : decode cX6_dam 5 = .ok (.iload_n 1, 1) := by decide +kernel
theorem dX6_dam_6 : decode cX6_dam 6 = .ok (.bipush 50, 2) := by decide +kernel
theorem dX6_dam_8 : decode cX6_dam 8 = .ok (.if_icmp .gt 12, 3) := by decide +kernel
theorem dX6_dam_11 : decode cX6_dam 11 = .ok (.iload_n 2, 1) := by decide +kernel
theorem dX6_dam_12 : decode cX6_dam 12 = .ok (.ifCond .lt 8, 3) := by decide +kernel
theorem dX6_dam_15 : decode cX6_dam 15 = .ok (.iload_n 2, 1) := by decide +kernel
theorem dX6_dam_16 : decode cX6_dam 16 = .ok (.iconst 1, 1) := by decide +kernel
theorem dX6_dam_17 : decode cX6_dam 17 = .ok (.if_icmp .le 5, 3) := by decide +kernel
theorem dX6_dam_20 : decode cX6_dam 20 = .ok (.iconst (-1), 1) := by decide +kernel
theorem dX6_dam_21 : decode cX6_dam 21 = .ok (.ireturn, 1) := by decide +kernel
theorem dX6_dam_22 : decode cX6_dam 22 = .ok (.aload_n 0, 1) := by decide +kernel
theorem dX6_dam_23 : decode cX6_dam 23 = .ok (.getfield 10, 3) := by decide +kernel
theorem dX6_dam_26 : decode cX6_dam 26 = .ok (.getfield 55, 3) := by decide +kernel
theorem dX6_dam_29 : decode cX6_dam 29 = .ok (.ifCond .ne 6, 3) := by decide +kernel
theorem dX6_dam_32 : decode cX6_dam 32 = .ok (.bipush (-2), 2) := by decide +kernel
theorem dX6_dam_34 : decode cX6_dam 34 = .ok (.ireturn, 1) := by decide +kernel
theorem dX6_dam_35 : decode cX6_dam 35 = .ok (.iconst 0, 1) := by decide +kernel
theorem dX6_dam_36 : decode cX6_dam 36 = .ok (.istore_n 3, 1) := by decide +kernel
theorem dX6_dam_37 : decode cX6_dam 37 = .ok (.iconst (-1), 1) := by decide +kernel
theorem dX6_dam_38 : decode cX6_dam 38 = .ok (.istore 4, 2) := by decide +kernel
theorem dX6_dam_40 : decode cX6_dam 40 = .ok (.iconst 0, 1) := by decide +kernel
theorem dX6_dam_41 : decode cX6_dam 41 = .ok (.istore 5, 2) := by decide +kernel
theorem dX6_dam_43 : decode cX6_dam 43 = .ok (.iload 5, 2) := by decide +kernel
theorem dX6_dam_45 : decode cX6_dam 45 = .ok (.aload_n 0, 1) := by decide +kernel
theorem dX6_dam_46 : decode cX6_dam 46 = .ok (.getfield 10, 3) := by decide +kernel
theorem dX6_dam_49 : decode cX6_dam 49 = .ok (.getfield 55, 3) := by decide +kernel
theorem dX6_dam_52 : decode cX6_dam 52 = .ok (.if_icmp .ge 32, 3) := by decide +kernel
theorem dX6_dam_55 : decode cX6_dam 55 = .ok (.aload_n 0, 1) := by decide +kernel
theorem dX6_dam_56 : decode cX6_dam 56 = .ok (.iload 5, 2) := by decide +kernel
theorem dX6_dam_58 : decode cX6_dam 58 = .ok (.iload_n 1, 1) := by decide +kernel
theorem dX6_dam_59 : decode cX6_dam 59 = .ok (.invokevirtual 206, 3) := by decide +kernel
theorem dX6_dam_62 : decode cX6_dam 62 = .ok (.istore 6, 2) := by decide +kernel
theorem dX6_dam_64 : decode cX6_dam 64 = .ok (.iload 6, 2) := by decide +kernel
theorem dX6_dam_66 : decode cX6_dam 66 = .ok (.iload 4, 2) := by decide +kernel
theorem dX6_dam_68 : decode cX6_dam 68 = .ok (.if_icmp .le 10, 3) := by decide +kernel
theorem dX6_dam_71 : decode cX6_dam 71 = .ok (.iload 6, 2) := by decide +kernel
theorem dX6_dam_73 : decode cX6_dam 73 = .ok (.istore 4, 2) := by decide +kernel
theorem dX6_dam_75 : decode cX6_dam 75 = .ok (.iload 5, 2) := by decide +kernel
theorem dX6_dam_77 : decode cX6_dam 77 = .ok (.istore_n 3, 1) := by decide +kernel
theorem dX6_dam_78 : decode cX6_dam 78 = .ok (.iinc 5 1, 3) := by decide +kernel
theorem dX6_dam_81 : decode cX6_dam 81 = .ok (.goto (-38), 3) := by decide +kernel
theorem dX6_dam_84 : decode cX6_dam 84 = .ok (.iload_n 2, 1) := by decide +kernel
theorem dX6_dam_85 : decode cX6_dam 85 = .ok (.ifCond .ne 7, 3) := by decide +kernel
theorem dX6_dam_88 : decode cX6_dam 88 = .ok (.iload_n 3, 1) := by decide +kernel
theorem dX6_dam_89 : decode cX6_dam 89 = .ok (.goto 5, 3) := by decide +kernel
theorem dX6_dam_92 : decode cX6_dam 92 = .ok (.iload 4, 2) := by decide +kernel
theorem dX6_dam_94 : decode cX6_dam 94 = .ok (.ireturn, 1) := by decide +kernel
theorem dX6_sumOfMinima_0 : decode cX6_sumOfMinima 0 = .ok (.iconst 0, 1) := by decide +kernel
theorem dX6_sumOfMinima_1 : decode cX6_sumOfMinima 1 = .ok (.istore_n 1, 1) := by decide +kernel
theorem dX6_sumOfMinima_2 : decode cX6_sumOfMinima 2 = .ok (.iconst 0, 1) := by decide +kernel
theorem dX6_sumOfMinima_3 : decode cX6_sumOfMinima 3 = .ok (.istore_n 2, 1) := by decide +kernel
theorem dX6_sumOfMinima_4 : decode cX6_sumOfMinima 4 = .ok (.iload_n 2, 1) := by decide +kernel
theorem dX6_sumOfMinima_5 : decode cX6_sumOfMinima 5 = .ok (.aload_n 0, 1) := by decide +kernel
theorem dX6_sumOfMinima_6 : decode cX6_sumOfMinima 6 = .ok (.getfield 10, 3) := by decide +kernel
theorem dX6_sumOfMinima_9 : decode cX6_sumOfMinima 9 = .ok (.getfield 55, 3) := by decide +kernel
theorem dX6_sumOfMinima_12 : decode cX6_sumOfMinima 12 = .ok (.if_icmp .ge 52, 3) := by decide +kernel
theorem dX6_sumOfMinima_15 : decode cX6_sumOfMinima 15 = .ok (.bipush 50, 2) := by decide +kernel
theorem dX6_sumOfMinima_17 : decode cX6_sumOfMinima 17 = .ok (.istore_n 3, 1) := by decide +kernel
theorem dX6_sumOfMinima_18 : decode cX6_sumOfMinima 18 = .ok (.iload_n 2, 1) := by decide +kernel
theorem dX6_sumOfMinima_19 : decode cX6_sumOfMinima 19 = .ok (.istore 4, 2) := by decide +kernel
theorem dX6_sumOfMinima_21 : decode cX6_sumOfMinima 21 = .ok (.iload 4, 2) := by decide +kernel
theorem dX6_sumOfMinima_23 : decode cX6_sumOfMinima 23 = .ok (.aload_n 0, 1) := by decide +kernel
theorem dX6_sumOfMinima_24 : decode cX6_sumOfMinima 24 = .ok (.getfield 10, 3) := by decide +kernel
theorem dX6_sumOfMinima_27 : decode cX6_sumOfMinima 27 = .ok (.getfield 55, 3) := by decide +kernel
theorem dX6_sumOfMinima_30 : decode cX6_sumOfMinima 30 = .ok (.if_icmp .ge 28, 3) := by decide +kernel
theorem dX6_sumOfMinima_33 : decode cX6_sumOfMinima 33 = .ok (.iload_n 3, 1) := by decide +kernel
theorem dX6_sumOfMinima_34 : decode cX6_sumOfMinima 34 = .ok (.aload_n 0, 1) := by decide +kernel
theorem dX6_sumOfMinima_35 : decode cX6_sumOfMinima 35 = .ok (.getfield 10, 3) := by decide +kernel
theorem dX6_sumOfMinima_38 : decode cX6_sumOfMinima 38 = .ok (.getfield 78, 3) := by decide +kernel
theorem dX6_sumOfMinima_41 : decode cX6_sumOfMinima 41 = .ok (.iload 4, 2) := by decide +kernel
theorem dX6_sumOfMinima_43 : decode cX6_sumOfMinima 43 = .ok (.iaload, 1) := by decide +kernel
theorem dX6_sumOfMinima_44 : decode cX6_sumOfMinima 44 = .ok (.invokestatic 192, 3) := by decide +kernel
theorem dX6_sumOfMinima_47 : decode cX6_sumOfMinima 47 = .ok (.istore_n 3, 1) := by decide +kernel
theorem dX6_sumOfMinima_48 : decode cX6_sumOfMinima 48 = .ok (.iload_n 1, 1) := by decide +kernel
theorem dX6_sumOfMinima_49 : decode cX6_sumOfMinima 49 = .ok (.iload_n 3, 1) := by decide +kernel
theorem dX6_sumOfMinima_50 : decode cX6_sumOfMinima 50 = .ok (.iadd, 1) := by decide +kernel
theorem dX6_sumOfMinima_51 : decode cX6_sumOfMinima 51 = .ok (.istore_n 1, 1) := by decide +kernel
theorem dX6_sumOfMinima_52 : decode cX6_sumOfMinima 52 = .ok (.iinc 4 1, 3) := by decide +kernel
theorem dX6_sumOfMinima_55 : decode cX6_sumOfMinima 55 = .ok (.goto (-34), 3) := by decide +kernel
theorem dX6_sumOfMinima_58 : decode cX6_sumOfMinima 58 = .ok (.iinc 2 1, 3) := by decide +kernel
theorem dX6_sumOfMinima_61 : decode cX6_sumOfMinima 61 = .ok (.goto (-57), 3) := by decide +kernel
theorem dX6_sumOfMinima_64 : decode cX6_sumOfMinima 64 = .ok (.iload_n 1, 1) := by decide +kernel
theorem dX6_sumOfMinima_65 : decode cX6_sumOfMinima 65 = .ok (.ireturn, 1) := by decide +kernel
set_option maxRecDepth 20000 in
theorem ggX6_ranges_X6_isHeight : GoodIn wsX6_ranges wsX6_isHeight := goodIn_r _ [5] (by decide +kernel) (by decide +kernel)
set_option maxRecDepth 20000 in
theorem gX6_ranges_X6_isHeight : GoodIn wsX6_ranges (va_wsS RX6 59 yX6_isHeight wsX6_isHeight) := goodIn_app (goodIn_of _ (by decide +kernel)) ggX6_ranges_X6_isHeight
theorem dX6_ranges_0 : decode cX6_ranges 0 = .ok (.iload_n 1, 1) := by decide +kernel
theorem dX6_ranges_1 : decode cX6_ranges 1 = .ok (.invokestatic 59, 3) := by decide +kernel
theorem dX6_ranges_4 : decode cX6_ranges 4 = .ok (.ifCond .ne 5, 3) := by decide +kernel
theorem dX6_ranges_7 : decode cX6_ranges 7 = .ok (.iconst (-1), 1) := by decide +kernel
theorem dX6_ranges_8 : decode cX6_ranges 8 = .ok (.ireturn, 1) := by decide +kernel
theorem dX6_ranges_9 : decode cX6_ranges 9 = .ok (.iconst 0, 1) := by decide +kernel
theorem dX6_ranges_10 : decode cX6_ranges 10 = .ok (.istore_n 2, 1) := by decide +kernel
theorem dX6_ranges_11 : decode cX6_ranges 11 = .ok (.iconst 0, 1) := by decide +kernel
theorem dX6_ranges_12 : decode cX6_ranges 12 = .ok (.istore_n 3, 1) := by decide +kernel
theorem dX6_ranges_13 : decode cX6_ranges 13 = .ok (.iconst 0, 1) := by decide +kernel
theorem dX6_ranges_14 : decode cX6_ranges 14 = .ok (.istore 4, 2) := by decide +kernel
theorem dX6_ranges_16 : decode cX6_ranges 16 = .ok (.iload 4, 2) := by decide +kernel
theorem dX6_ranges_18 : decode cX6_ranges 18 = .ok (.aload_n 0, 1) := by decide +kernel
theorem dX6_ranges_19 : decode cX6_ranges 19 = .ok (.getfield 10, 3) := by decide +kernel
theorem dX6_ranges_22 : decode cX6_ranges 22 = .ok (.getfield 55, 3) := by decide +kernel
theorem dX6_ranges_25 : decode cX6_ranges 25 = .ok (.if_icmp .ge 35, 3) := by decide +kernel
theorem dX6_ranges_28 : decode cX6_ranges 28 = .ok (.aload_n 0, 1) := by decide +kernel
theorem dX6_ranges_29 : decode cX6_ranges 29 = .ok (.getfield 10, 3) := by decide +kernel
theorem dX6_ranges_32 : decode cX6_ranges 32 = .ok (.getfield 78, 3) := by decide +kernel
theorem dX6_ranges_35 : decode cX6_ranges 35 = .ok (.iload 4, 2) := by decide +kernel
theorem dX6_ranges_37 : decode cX6_ranges 37 = .ok (.iaload, 1) := by decide +kernel
theorem dX6_ranges_38 : decode cX6_ranges 38 = .ok (.iload_n 1, 1) := by decide +kernel
theorem dX6_ranges_39 : decode cX6_ranges 39 = .ok (.if_icmp .lt 9, 3) := by decide +kernel
theorem dX6_ranges_42 : decode cX6_ranges 42 = .ok (.iload_n 3, 1) := by decide +kernel
theorem dX6_ranges_43 : decode cX6_ranges 43 = .ok (.iconst 1, 1) := by decide +kernel
theorem dX6_ranges_44 : decode cX6_ranges 44 = .ok (.iadd, 1) := by decide +kernel
theorem dX6_ranges_45 : decode cX6_ranges 45 = .ok (.goto 4, 3) := by decide +kernel
theorem dX6_ranges_48 : decode cX6_ranges 48 = .ok (.iconst 0, 1) := by decide +kernel
theorem dX6_ranges_49 : decode cX6_ranges 49 = .ok (.istore_n 3, 1) := by decide +kernel
theorem dX6_ranges_50 : decode cX6_ranges 50 = .ok (.iload_n 2, 1) := by decide +kernel
theorem dX6_ranges_51 : decode cX6_ranges 51 = .ok (.iload_n 3, 1) := by decide +kernel
theorem dX6_ranges_52 : decode cX6_ranges 52 = .ok (.iadd, 1) := by decide +kernel
theorem dX6_ranges_53 : decode cX6_ranges 53 = .ok (.istore_n 2, 1) := by decide +kernel
theorem dX6_ranges_54 : decode cX6_ranges 54 = .ok (.iinc 4 1, 3) := by decide +kernel
theorem dX6_ranges_57 : decode cX6_ranges 57 = .ok (.goto (-41), 3) := by decide +kernel
theorem dX6_ranges_60 : decode cX6_ranges 60 = .ok (.iload_n 2, 1) := by decide +kernel
theorem dX6_ranges_61 : decode cX6_ranges 61 = .ok (.ireturn, 1) := by decide +kernel
set_option maxRecDepth 20000 in
theorem ggX6_keep_X6_isImage : GoodIn wsX6_keep wsX6_isImage := goodIn_r _ [9] (by decide +kernel) (by decide +kernel)
set_option maxRecDepth 20000 in
theorem gX6_keep_X6_isImage : GoodIn wsX6_keep (va_wsS RX6 209 yX6_isImage wsX6_isImage) := goodIn_app (goodIn_of _ (by decide +kernel)) ggX6_keep_X6_isImage
set_option maxRecDepth 20000 in
theorem ggX6_keep_X0_init : GoodIn wsX6_keep wsX0_init := goodIn_r _ [11, 12, 13, 14, 15, 16, 17, 33, 34] (by decide +kernel) (by decide +kernel)
set_option maxRecDepth 20000 in
theorem gX6_keep_X0_init_n9 : GoodIn wsX6_keep (wsX0_init) := ggX6_keep_X0_init
set_option maxRecDepth 20000 in
theorem ggX6_keep_X0_copyFrom : GoodIn wsX6_keep wsX0_copyFrom := goodIn_r _ [21, 16, 17, 22, 23, 24, 25, 33, 34] (by decide +kernel) (by decide +kernel)
set_option maxRecDepth 20000 in
theorem gX6_keep_X0_copyFrom : GoodIn wsX6_keep (wsV RX6 212 RX0 yX0_copyFrom wsX0_copyFrom) := goodIn_app (goodIn_of _ (by decide +kernel)) ggX6_keep_X0_copyFrom
theorem dX6_keep_0 : decode cX6_keep 0 = .ok (.iload_n 1, 1) := by decide +kernel
theorem dX6_keep_1 : decode cX6_keep 1 = .ok (.invokestatic 209, 3) := by decide +kernel
theorem dX6_keep_4 : decode cX6_keep 4 = .ok (.ifCond .ne 5, 3) := by decide +kernel
theorem dX6_keep_7 : decode cX6_keep 7 = .ok (.iconst (-1), 1) := by decide +kernel
theorem dX6_keep_8 : decode cX6_keep 8 = .ok (.ireturn, 1) := by decide +kernel
theorem dX6_keep_9 : decode cX6_keep 9 = .ok (.aload_n 0, 1) := by decide +kernel
theorem dX6_keep_10 : decode cX6_keep 10 = .ok (.getfield 23, 3) := by decide +kernel
theorem dX6_keep_13 : decode cX6_keep 13 = .ok (.iload_n 1, 1) := by decide +kernel
theorem dX6_keep_14 : decode cX6_keep 14 = .ok (.aaload, 1) := by decide +kernel
theorem dX6_keep_15 : decode cX6_keep 15 = .ok (.astore_n 2, 1) := by decide +kernel
theorem dX6_keep_16 : decode cX6_keep 16 = .ok (.aload_n 2, 1) := by decide +kernel
theorem dX6_keep_17 : decode cX6_keep 17 = .ok (.ifnonnull 18, 3) := by decide +kernel
theorem dX6_keep_20 : decode cX6_keep 20 = .ok (.new 7, 3) := by decide +kernel
theorem dX6_keep_23 : decode cX6_keep 23 = .ok (.dup, 1) := by decide +kernel
theorem dX6_keep_24 : decode cX6_keep 24 = .ok (.invokespecial 9, 3) := by decide +kernel
theorem dX6_keep_27 : decode cX6_keep 27 = .ok (.astore_n 2, 1) := by decide +kernel
theorem dX6_keep_28 : decode cX6_keep 28 = .ok (.aload_n 0, 1) := by decide +kernel
theorem dX6_keep_29 : decode cX6_keep 29 = .ok (.getfield 23, 3) := by decide +kernel
theorem dX6_keep_32 : decode cX6_keep 32 = .ok (.iload_n 1, 1) := by decide +kernel
theorem dX6_keep_33 : decode cX6_keep 33 = .ok (.aload_n 2, 1) := by decide +kernel
theorem dX6_keep_34 : decode cX6_keep 34 = .ok (.aastore, 1) := by decide +kernel
theorem dX6_keep_35 : decode cX6_keep 35 = .ok (.aload_n 2, 1) := by decide +kernel
theorem dX6_keep_36 : decode cX6_keep 36 = .ok (.aload_n 0, 1) := by decide +kernel
theorem dX6_keep_37 : decode cX6_keep 37 = .ok (.getfield 10, 3) := by decide +kernel
theorem dX6_keep_40 : decode cX6_keep 40 = .ok (.invokevirtual 212, 3) := by decide +kernel
theorem dX6_keep_43 : decode cX6_keep 43 = .ok (.aload_n 0, 1) := by decide +kernel
theorem dX6_keep_44 : decode cX6_keep 44 = .ok (.getfield 10, 3) := by decide +kernel
theorem dX6_keep_47 : decode cX6_keep 47 = .ok (.getfield 55, 3) := by decide +kernel
theorem dX6_keep_50 : decode cX6_keep 50 = .ok (.ireturn, 1) := by decide +kernel
set_option maxRecDepth 20000 in
theorem ggX6_back_X6_isImage : GoodIn wsX6_back wsX6_isImage := goodIn_r _ [7] (by decide +kernel) (by decide +kernel)
set_option maxRecDepth 20000 in
theorem gX6_back_X6_isImage : GoodIn wsX6_back (va_wsS RX6 209 yX6_isImage wsX6_isImage) := goodIn_app (goodIn_of _ (by decide +kernel)) ggX6_back_X6_isImage
set_option maxRecDepth 20000 in
theorem ggX6_back_X1_remember : GoodIn wsX6_back wsX1_remember := goodIn_r _ [12, 13, 14, 15, 16, 17, 11, 18, 19, 20, 21, 22, 23, 24, 25, 26, 27, 28, 29, 40, 41, 38, 39] (by decide +kernel) (by decide +kernel)
set_option maxRecDepth 20000 in
theorem gX6_back_X1_remember : GoodIn wsX6_back (wsV RX6 63 RX1 yX1_remember wsX1_remember) := goodIn_app (goodIn_of _ (by decide +kernel)) ggX6_back_X1_remember
set_option maxRecDepth 20000 in
theorem ggX6_back_X0_copyFrom : GoodIn wsX6_back wsX0_copyFrom := goodIn_r _ [23, 24, 25, 26, 27, 28, 29, 38, 39] (by decide +kernel) (by decide +kernel)
set_option maxRecDepth 20000 in
theorem gX6_back_X0_copyFrom : GoodIn wsX6_back (wsV RX6 212 RX0 yX0_copyFrom wsX0_copyFrom) := goodIn_app (goodIn_of _ (by decide +kernel)) ggX6_back_X0_copyFrom
theorem dX6_back_0 : decode cX6_back 0 = .ok (.iload_n 1, 1) := by decide +kernel
theorem dX6_back_1 : decode cX6_back 1 = .ok (.invokestatic 209, 3) := by decide +kernel
theorem dX6_back_4 : decode cX6_back 4 = .ok (.ifCond .ne 5, 3) := by decide +kernel
theorem dX6_back_7 : decode cX6_back 7 = .ok (.iconst (-1), 1) := by decide +kernel
theorem dX6_back_8 : decode cX6_back 8 = .ok (.ireturn, 1) := by decide +kernel
theorem dX6_back_9 : decode cX6_back 9 = .ok (.aload_n 0, 1) := by decide +kernel
theorem dX6_back_10 : decode cX6_back 10 = .ok (.getfield 23, 3) := by decide +kernel
theorem dX6_back_13 : decode cX6_back 13 = .ok (.iload_n 1, 1) := by decide +kernel
theorem dX6_back_14 : decode cX6_back 14 = .ok (.aaload, 1) := by decide +kernel
theorem dX6_back_15 : decode cX6_back 15 = .ok (.astore_n 2, 1) := by decide +kernel
theorem dX6_back_16 : decode cX6_back 16 = .ok (.aload_n 2, 1) := by decide +kernel
theorem dX6_back_17 : decode cX6_back 17 = .ok (.ifnonnull 6, 3) := by decide +kernel
theorem dX6_back_20 : decode cX6_back 20 = .ok (.bipush (-2), 2) := by decide +kernel
theorem dX6_back_22 : decode cX6_back 22 = .ok (.ireturn, 1) := by decide +kernel
theorem dX6_back_23 : decode cX6_back 23 = .ok (.aload_n 0, 1) := by decide +kernel
theorem dX6_back_24 : decode cX6_back 24 = .ok (.getfield 19, 3) := by decide +kernel
theorem dX6_back_27 : decode cX6_back 27 = .ok (.aload_n 0, 1) := by decide +kernel
theorem dX6_back_28 : decode cX6_back 28 = .ok (.getfield 10, 3) := by decide +kernel
theorem dX6_back_31 : decode cX6_back 31 = .ok (.invokevirtual 63, 3) := by decide +kernel
theorem dX6_back_34 : decode cX6_back 34 = .ok (.aload_n 0, 1) := by decide +kernel
theorem dX6_back_35 : decode cX6_back 35 = .ok (.getfield 10, 3) := by decide +kernel
theorem dX6_back_38 : decode cX6_back 38 = .ok (.aload_n 2, 1) := by decide +kernel
theorem dX6_back_39 : decode cX6_back 39 = .ok (.invokevirtual 212, 3) := by decide +kernel
theorem dX6_back_42 : decode cX6_back 42 = .ok (.aload_n 0, 1) := by decide +kernel
theorem dX6_back_43 : decode cX6_back 43 = .ok (.getfield 10, 3) := by decide +kernel
theorem dX6_back_46 : decode cX6_back 46 = .ok (.getfield 55, 3) := by decide +kernel
theorem dX6_back_49 : decode cX6_back 49 = .ok (.ireturn, 1) := by decide +kernel
set_option maxRecDepth 20000 in
theorem ggX6_parting_X6_isImage : GoodIn wsX6_parting wsX6_isImage := goodIn_r _ [6] (by decide +kernel) (by decide +kernel)
set_option maxRecDepth 20000 in
theorem gX6_parting_X6_isImage : GoodIn wsX6_parting (va_wsS RX6 209 yX6_isImage wsX6_isImage) := goodIn_app (goodIn_of _ (by decide +kernel)) ggX6_parting_X6_isImage
set_option maxRecDepth 20000 in
theorem ggX6_parting_X0_firstDifference : GoodIn wsX6_parting wsX0_firstDifference := goodIn_r _ [11, 12, 13, 14, 15, 16, 17, 25, 26] (by decide +kernel) (by decide +kernel)
set_option maxRecDepth 20000 in
theorem gX6_parting_X0_firstDifference : GoodIn wsX6_parting (wsV RX6 215 RX0 yX0_firstDifference wsX0_firstDifference) := goodIn_app (goodIn_of _ (by decide +kernel)) ggX6_parting_X0_firstDifference
theorem dX6_parting_0 : decode cX6_parting 0 = .ok (.iload_n 1, 1) := by decide +kernel
theorem dX6_parting_1 : decode cX6_parting 1 = .ok (.invokestatic 209, 3) := by decide +kernel
theorem dX6_parting_4 : decode cX6_parting 4 = .ok (.ifCond .ne 5, 3) := by decide +kernel
theorem dX6_parting_7 : decode cX6_parting 7 = .ok (.iconst (-1), 1) := by decide +kernel
theorem dX6_parting_8 : decode cX6_parting 8 = .ok (.ireturn, 1) := by decide +kernel
theorem dX6_parting_9 : decode cX6_parting 9 = .ok (.aload_n 0, 1) := by decide +kernel
theorem dX6_parting_10 : decode cX6_parting 10 = .ok (.getfield 23, 3) := by decide +kernel
theorem dX6_parting_13 : decode cX6_parting 13 = .ok (.iload_n 1, 1) := by decide +kernel
theorem dX6_parting_14 : decode cX6_parting 14 = .ok (.aaload, 1) := by decide +kernel
theorem dX6_parting_15 : decode cX6_parting 15 = .ok (.astore_n 2, 1) := by decide +kernel
theorem dX6_parting_16 : decode cX6_parting 16 = .ok (.aload_n 2, 1) := by decide +kernel
theorem dX6_parting_17 : decode cX6_parting 17 = .ok (.ifnonnull 6, 3) := by decide +kernel
theorem dX6_parting_20 : decode cX6_parting 20 = .ok (.bipush (-2), 2) := by decide +kernel
theorem dX6_parting_22 : decode cX6_parting 22 = .ok (.ireturn, 1) := by decide +kernel
theorem dX6_parting_23 : decode cX6_parting 23 = .ok (.aload_n 0, 1) := by decide +kernel
theorem dX6_parting_24 : decode cX6_parting 24 = .ok (.getfield 10, 3) := by decide +kernel
theorem dX6_parting_27 : decode cX6_parting 27 = .ok (.aload_n 2, 1) := by decide +kernel
theorem dX6_parting_28 : decode cX6_parting 28 = .ok (.invokevirtual 215, 3) := by decide +kernel
theorem dX6_parting_31 : decode cX6_parting 31 = .ok (.ireturn, 1) := by decide +kernel
theorem dX6_isHeight_0 : decode cX6_isHeight 0 = .ok (.iload_n 0, 1) := by decide +kernel
theorem dX6_isHeight_1 : decode cX6_isHeight 1 = .ok (.ifCond .lt 13, 3) := by decide +kernel
theorem dX6_isHeight_4 : decode cX6_isHeight 4 = .ok (.iload_n 0, 1) := by decide +kernel
theorem dX6_isHeight_5 : decode cX6_isHeight 5 = .ok (.bipush 50, 2) := by decide +kernel
theorem dX6_isHeight_7 : decode cX6_isHeight 7 = .ok (.if_icmp .gt 7, 3) := by decide +kernel
theorem dX6_isHeight_10 : decode cX6_isHeight 10 = .ok (.iconst 1, 1) := by decide +kernel
theorem dX6_isHeight_11 : decode cX6_isHeight 11 = .ok (.goto 4, 3) := by decide +kernel
theorem dX6_isHeight_14 : decode cX6_isHeight 14 = .ok (.iconst 0, 1) := by decide +kernel
theorem dX6_isHeight_15 : decode cX6_isHeight 15 = .ok (.ireturn, 1) := by decide +kernel
theorem dX6_isImage_0 : decode cX6_isImage 0 = .ok (.iload_n 0, 1) := by decide +kernel
theorem dX6_isImage_1 : decode cX6_isImage 1 = .ok (.ifCond .lt 12, 3) := by decide +kernel
theorem dX6_isImage_4 : decode cX6_isImage 4 = .ok (.iload_n 0, 1) := by decide +kernel
theorem dX6_isImage_5 : decode cX6_isImage 5 = .ok (.iconst 2, 1) := by decide +kernel
theorem dX6_isImage_6 : decode cX6_isImage 6 = .ok (.if_icmp .ge 7, 3) := by decide +kernel
theorem dX6_isImage_9 : decode cX6_isImage 9 = .ok (.iconst 1, 1) := by decide +kernel
theorem dX6_isImage_10 : decode cX6_isImage 10 = .ok (.goto 4, 3) := by decide +kernel
theorem dX6_isImage_13 : decode cX6_isImage 13 = .ok (.iconst 0, 1) := by decide +kernel
theorem dX6_isImage_14 : decode cX6_isImage 14 = .ok (.ireturn, 1) := by decide +kernel
set_option maxRecDepth 20000 in
theorem ggX6_pourAll_X5_pour : GoodIn wsX6_pourAll wsX5_pour := goodIn_r _ [7, 8, 9, 10, 11, 12, 13, 14, 15, 25] (by decide +kernel) (by decide +kernel)
set_option maxRecDepth 20000 in
theorem gX6_pourAll_X5_pour : GoodIn wsX6_pourAll (wsV RX6 203 RX5 yX5_pour wsX5_pour) := goodIn_app (goodIn_of _ (by decide +kernel)) ggX6_pourAll_X5_pour
theorem dX6_pourAll_0 : decode cX6_pourAll 0 = .ok (.aload_n 0, 1) := by decide +kernel
theorem dX6_pourAll_1 : decode cX6_pourAll 1 = .ok (.getfield 30, 3) := by decide +kernel
theorem dX6_pourAll_4 : decode cX6_pourAll 4 = .ok (.aload_n 0, 1) := by decide +kernel
theorem dX6_pourAll_5 : decode cX6_pourAll 5 = .ok (.getfield 10, 3) := by decide +kernel
theorem dX6_pourAll_8 : decode cX6_pourAll 8 = .ok (.getfield 78, 3) := by decide +kernel
theorem dX6_pourAll_11 : decode cX6_pourAll 11 = .ok (.iconst 0, 1) := by decide +kernel
theorem dX6_pourAll_12 : decode cX6_pourAll 12 = .ok (.aload_n 0, 1) := by decide +kernel
theorem dX6_pourAll_13 : decode cX6_pourAll 13 = .ok (.getfield 10, 3) := by decide +kernel
theorem dX6_pourAll_16 : decode cX6_pourAll 16 = .ok (.getfield 55, 3) := by decide +kernel
theorem dX6_pourAll_19 : decode cX6_pourAll 19 = .ok (.iconst 1, 1) := by decide +kernel
theorem dX6_pourAll_20 : decode cX6_pourAll 20 = .ok (.isub, 1) := by decide +kernel
theorem dX6_pourAll_21 : decode cX6_pourAll 21 = .ok (.invokevirtual 203, 3) := by decide +kernel
theorem dX6_pourAll_24 : decode cX6_pourAll 24 = .ok (.ireturn, 1) := by decide +kernel
set_option maxRecDepth 20000 in
theorem ggX6_countPools_X6_pourAll : GoodIn wsX6_countPools wsX6_pourAll := goodIn_r _ [7, 1, 2, 8, 9, 10, 11, 12, 13, 14, 15, 16, 17, 18, 19, 20, 29, 30, 31, 32, 33, 34, 35, 36, 37, 38] (by decide +kernel) (by decide +kernel)
set_option maxRecDepth 20000 in
theorem gX6_countPools_X6_pourAll : GoodIn wsX6_countPools (wsV RX6 98 RX6 yX6_pourAll wsX6_pourAll) := goodIn_app (goodIn_of _ (by decide +kernel)) ggX6_countPools_X6_pourAll
set_option maxRecDepth 20000 in
theorem ggX6_countPools_X5_poolCount : GoodIn wsX6_countPools wsX5_poolCount := goodIn_r _ [24, 25, 26, 27, 11, 28, 17, 38] (by decide +kernel) (by decide +kernel)
set_option maxRecDepth 20000 in
theorem gX6_countPools_X5_poolCount : GoodIn wsX6_countPools (wsV RX6 218 RX5 yX5_poolCount wsX5_poolCount) := goodIn_app (goodIn_of _ (by decide +kernel)) ggX6_countPools_X5_poolCount
theorem dX6_countPools_0 : decode cX6_countPools 0 = .ok (.aload_n 0, 1) := by decide +kernel
theorem dX6_countPools_1 : decode cX6_countPools 1 = .ok (.invokevirtual 98, 3) := by decide +kernel
theorem dX6_countPools_4 : decode cX6_countPools 4 = .ok (.pop, 1) := by decide +kernel
theorem dX6_countPools_5 : decode cX6_countPools 5 = .ok (.aload_n 0, 1) := by decide +kernel
theorem dX6_countPools_6 : decode cX6_countPools 6 = .ok (.getfield 30, 3) := by decide +kernel
theorem dX6_countPools_9 : decode cX6_countPools 9 = .ok (.aload_n 0, 1) := by decide +kernel
theorem dX6_countPools_10 : decode cX6_countPools 10 = .ok (.getfield 10, 3) := by decide +kernel
theorem dX6_countPools_13 : decode cX6_countPools 13 = .ok (.getfield 55, 3) := by decide +kernel
theorem dX6_countPools_16 : decode cX6_countPools 16 = .ok (.invokevirtual 218, 3) := by decide +kernel
theorem dX6_countPools_19 : decode cX6_countPools 19 = .ok (.ireturn, 1) := by decide +kernel
set_option maxRecDepth 20000 in
theorem ggX6_depthOfWater_X6_pourAll : GoodIn wsX6_depthOfWater wsX6_pourAll := goodIn_r _ [6, 1, 7, 8, 9, 10, 11, 12, 13, 14, 15, 16, 17, 18, 19, 20, 21, 22, 23, 24, 25, 26, 27, 29, 30, 28] (by decide +kernel) (by decide +kernel)
set_option maxRecDepth 20000 in
theorem gX6_depthOfWater_X6_pourAll : GoodIn wsX6_depthOfWater (wsV RX6 98 RX6 yX6_pourAll wsX6_pourAll) := goodIn_app (goodIn_of _ (by decide +kernel)) ggX6_depthOfWater_X6_pourAll
theorem dX6_depthOfWater_0 : decode cX6_depthOfWater 0 = .ok (.aload_n 0, 1) := by decide +kernel
theorem dX6_depthOfWater_1 : decode cX6_depthOfWater 1 = .ok (.invokevirtual 98, 3) := by decide +kernel
theorem dX6_depthOfWater_4 : decode cX6_depthOfWater 4 = .ok (.pop, 1) := by decide +kernel
theorem dX6_depthOfWater_5 : decode cX6_depthOfWater 5 = .ok (.aload_n 0, 1) := by decide +kernel
theorem dX6_depthOfWater_6 : decode cX6_depthOfWater 6 = .ok (.getfield 30, 3) := by decide +kernel
theorem dX6_depthOfWater_9 : decode cX6_depthOfWater 9 = .ok (.getfield 102, 3) := by decide +kernel
theorem dX6_depthOfWater_12 : decode cX6_depthOfWater 12 = .ok (.iload_n 1, 1) := by decide +kernel
theorem dX6_depthOfWater_13 : decode cX6_depthOfWater 13 = .ok (.iaload, 1) := by decide +kernel
theorem dX6_depthOfWater_14 : decode cX6_depthOfWater 14 = .ok (.ireturn, 1) := by decide +kernel
set_option maxRecDepth 20000 in
theorem ggX6_waterWithDam_X6_pourAll : GoodIn wsX6_waterWithDam wsX6_pourAll := goodIn_r _ [10, 11, 1, 12, 13, 14, 15, 16, 17, 18, 4, 19, 20, 21, 3, 5, 22, 23, 24, 25, 26, 27, 28, 29, 30, 31] (by decide +kernel) (by decide +kernel)
set_option maxRecDepth 20000 in
theorem gX6_waterWithDam_X6_pourAll : GoodIn wsX6_waterWithDam (wsV RX6 98 RX6 yX6_pourAll wsX6_pourAll) := goodIn_app (goodIn_of _ (by decide +kernel)) ggX6_waterWithDam_X6_pourAll
theorem dX6_waterWithDam_0 : decode cX6_waterWithDam 0 = .ok (.aload_n 0, 1) := by decide +kernel
theorem dX6_waterWithDam_1 : decode cX6_waterWithDam 1 = .ok (.getfield 10, 3) := by decide +kernel
theorem dX6_waterWithDam_4 : decode cX6_waterWithDam 4 = .ok (.getfield 78, 3) := by decide +kernel
theorem dX6_waterWithDam_7 : decode cX6_waterWithDam 7 = .ok (.iload_n 1, 1) := by decide +kernel
theorem dX6_waterWithDam_8 : decode cX6_waterWithDam 8 = .ok (.iaload, 1) := by decide +kernel
theorem dX6_waterWithDam_9 : decode cX6_waterWithDam 9 = .ok (.istore_n 3, 1) := by decide +kernel
theorem dX6_waterWithDam_10 : decode cX6_waterWithDam 10 = .ok (.aload_n 0, 1) := by decide +kernel
theorem dX6_waterWithDam_11 : decode cX6_waterWithDam 11 = .ok (.getfield 10, 3) := by decide +kernel
theorem dX6_waterWithDam_14 : decode cX6_waterWithDam 14 = .ok (.getfield 78, 3) := by decide +kernel
theorem dX6_waterWithDam_17 : decode cX6_waterWithDam 17 = .ok (.iload_n 1, 1) := by decide +kernel
theorem dX6_waterWithDam_18 : decode cX6_waterWithDam 18 = .ok (.iload_n 3, 1) := by decide +kernel
theorem dX6_waterWithDam_19 : decode cX6_waterWithDam 19 = .ok (.iload_n 2, 1) := by decide +kernel
theorem dX6_waterWithDam_20 : decode cX6_waterWithDam 20 = .ok (.iadd, 1) := by decide +kernel
theorem dX6_waterWithDam_21 : decode cX6_waterWithDam 21 = .ok (.bipush 50, 2) := by decide +kernel
theorem dX6_waterWithDam_23 : decode cX6_waterWithDam 23 = .ok (.invokestatic 192, 3) := by decide +kernel
theorem dX6_waterWithDam_26 : decode cX6_waterWithDam 26 = .ok (.iastore, 1) := by decide +kernel
theorem dX6_waterWithDam_27 : decode cX6_waterWithDam 27 = .ok (.aload_n 0, 1) := by decide +kernel
theorem dX6_waterWithDam_28 : decode cX6_waterWithDam 28 = .ok (.invokevirtual 98, 3) := by decide +kernel
theorem dX6_waterWithDam_31 : decode cX6_waterWithDam 31 = .ok (.istore 4, 2) := by decide +kernel
theorem dX6_waterWithDam_33 : decode cX6_waterWithDam 33 = .ok (.aload_n 0, 1) := by decide +kernel
theorem dX6_waterWithDam_34 : decode cX6_waterWithDam 34 = .ok (.getfield 10, 3) := by decide +kernel
theorem dX6_waterWithDam_37 : decode cX6_waterWithDam 37 = .ok (.getfield 78, 3) := by decide +kernel
theorem dX6_waterWithDam_40 : decode cX6_waterWithDam 40 = .ok (.iload_n 1, 1) := by decide +kernel
theorem dX6_waterWithDam_41 : decode cX6_waterWithDam 41 = .ok (.iload_n 3, 1) := by decide +kernel
theorem dX6_waterWithDam_42 : decode cX6_waterWithDam 42 = .ok (.iastore, 1) := by decide +kernel
theorem dX6_waterWithDam_43 : decode cX6_waterWithDam 43 = .ok (.iload 4, 2) := by decide +kernel
theorem dX6_waterWithDam_45 : decode cX6_waterWithDam 45 = .ok (.ireturn, 1) := by decide +kernel
set_option maxRecDepth 20000 in
theorem ggX6_countRectangles_X3_find : GoodIn wsX6_countRectangles wsX3_find := goodIn_r _ [7, 8, 9, 10, 11, 6, 12, 13, 14, 15, 16, 17, 18, 19, 20, 21, 22, 23, 24, 25, 26, 27, 28, 38, 39, 40, 41, 42] (by decide +kernel) (by decide +kernel)
set_option maxRecDepth 20000 in
theorem gX6_countRectangles_X3_find : GoodIn wsX6_countRectangles (wsV RX6 177 RX3 yX3_find wsX3_find) := goodIn_app (goodIn_of _ (by decide +kernel)) ggX6_countRectangles_X3_find
theorem dX6_countRectangles_0 : decode cX6_countRectangles 0 = .ok (.aload_n 0, 1) := by decide +kernel
theorem dX6_countRectangles_1 : decode cX6_countRectangles 1 = .ok (.getfield 37, 3) := by decide +kernel
theorem dX6_countRectangles_4 : decode cX6_countRectangles 4 = .ok (.aload_n 0, 1) := by decide +kernel
theorem dX6_countRectangles_5 : decode cX6_countRectangles 5 = .ok (.getfield 10, 3) := by decide +kernel
theorem dX6_countRectangles_8 : decode cX6_countRectangles 8 = .ok (.getfield 78, 3) := by decide +kernel
theorem dX6_countRectangles_11 : decode cX6_countRectangles 11 = .ok (.iconst 0, 1) := by decide +kernel
theorem dX6_countRectangles_12 : decode cX6_countRectangles 12 = .ok (.aload_n 0, 1) := by decide +kernel
theorem dX6_countRectangles_13 : decode cX6_countRectangles 13 = .ok (.getfield 10, 3) := by decide +kernel
theorem dX6_countRectangles_16 : decode cX6_countRectangles 16 = .ok (.getfield 55, 3) := by decide +kernel
theorem dX6_countRectangles_19 : decode cX6_countRectangles 19 = .ok (.iconst 1, 1) := by decide +kernel
theorem dX6_countRectangles_20 : decode cX6_countRectangles 20 = .ok (.isub, 1) := by decide +kernel
theorem dX6_countRectangles_21 : decode cX6_countRectangles 21 = .ok (.invokevirtual 177, 3) := by decide +kernel
theorem dX6_countRectangles_24 : decode cX6_countRectangles 24 = .ok (.aload_n 0, 1) := by decide +kernel
theorem dX6_countRectangles_25 : decode cX6_countRectangles 25 = .ok (.getfield 37, 3) := by decide +kernel
theorem dX6_countRectangles_28 : decode cX6_countRectangles 28 = .ok (.getfield 181, 3) := by decide +kernel
theorem dX6_countRectangles_31 : decode cX6_countRectangles 31 = .ok (.ireturn, 1) := by decide +kernel
set_option maxRecDepth 20000 in
theorem ggX6_largestRectangle_X3_find : GoodIn wsX6_largestRectangle wsX3_find := goodIn_r _ [7, 8, 9, 10, 11, 6, 12, 13, 14, 15, 16, 17, 18, 19, 20, 21, 22, 23, 24, 25, 26, 27, 28, 42, 43, 44, 45, 46] (by decide +kernel) (by decide +kernel)
set_option maxRecDepth 20000 in
theorem gX6_largestRectangle_X3_find : GoodIn wsX6_largestRectangle (wsV RX6 177 RX3 yX3_find wsX3_find) := goodIn_app (goodIn_of _ (by decide +kernel)) ggX6_largestRectangle_X3_find
set_option maxRecDepth 20000 in
theorem ggX6_largestRectangle_X3_property : GoodIn wsX6_largestRectangle wsX3_property := goodIn_r _ [32, 17, 18, 19, 25, 26, 27, 6, 28, 42, 43, 44, 45, 46] (by decide +kernel) (by decide +kernel)
set_option maxRecDepth 20000 in
theorem gX6_largestRectangle_X3_property : GoodIn wsX6_largestRectangle (wsV RX6 189 RX3 yX3_property wsX3_property) := goodIn_app (goodIn_of _ (by decide +kernel)) ggX6_largestRectangle_X3_property
theorem dX6_largestRectangle_0 : decode cX6_largestRectangle 0 = .ok (.aload_n 0, 1) := by decide +kernel
theorem dX6_largestRectangle_1 : decode cX6_largestRectangle 1 = .ok (.getfield 37, 3) := by decide +kernel
theorem dX6_largestRectangle_4 : decode cX6_largestRectangle 4 = .ok (.aload_n 0, 1) := by decide +kernel
theorem dX6_largestRectangle_5 : decode cX6_largestRectangle 5 = .ok (.getfield 10, 3) := by decide +kernel
theorem dX6_largestRectangle_8 : decode cX6_largestRectangle 8 = .ok (.getfield 78, 3) := by decide +kernel
theorem dX6_largestRectangle_11 : decode cX6_largestRectangle 11 = .ok (.iload_n 1, 1) := by decide +kernel
theorem dX6_largestRectangle_12 : decode cX6_largestRectangle 12 = .ok (.iload_n 2, 1) := by decide +kernel
theorem dX6_largestRectangle_13 : decode cX6_largestRectangle 13 = .ok (.invokevirtual 177, 3) := by decide +kernel
theorem dX6_largestRectangle_16 : decode cX6_largestRectangle 16 = .ok (.aload_n 0, 1) := by decide +kernel
theorem dX6_largestRectangle_17 : decode cX6_largestRectangle 17 = .ok (.getfield 37, 3) := by decide +kernel
theorem dX6_largestRectangle_20 : decode cX6_largestRectangle 20 = .ok (.getfield 181, 3) := by decide +kernel
theorem dX6_largestRectangle_23 : decode cX6_largestRectangle 23 = .ok (.ifCond .ne 14, 3) := by decide +kernel
theorem dX6_largestRectangle_26 : decode cX6_largestRectangle 26 = .ok (.iload_n 3, 1) := by decide +kernel
theorem dX6_largestRectangle_27 : decode cX6_largestRectangle 27 = .ok (.ifCond .ne 7, 3) := by decide +kernel
theorem dX6_largestRectangle_30 : decode cX6_largestRectangle 30 = .ok (.iconst 0, 1) := by decide +kernel
theorem dX6_largestRectangle_31 : decode cX6_largestRectangle 31 = .ok (.goto 5, 3) := by decide +kernel
theorem dX6_largestRectangle_34 : decode cX6_largestRectangle 34 = .ok (.bipush (-9), 2) := by decide +kernel
theorem dX6_largestRectangle_36 : decode cX6_largestRectangle 36 = .ok (.ireturn, 1) := by decide +kernel
theorem dX6_largestRectangle_37 : decode cX6_largestRectangle 37 = .ok (.aload_n 0, 1) := by decide +kernel
theorem dX6_largestRectangle_38 : decode cX6_largestRectangle 38 = .ok (.getfield 37, 3) := by decide +kernel
theorem dX6_largestRectangle_41 : decode cX6_largestRectangle 41 = .ok (.iconst 0, 1) := by decide +kernel
theorem dX6_largestRectangle_42 : decode cX6_largestRectangle 42 = .ok (.iload_n 3, 1) := by decide +kernel
theorem dX6_largestRectangle_43 : decode cX6_largestRectangle 43 = .ok (.invokevirtual 189, 3) := by decide +kernel
theorem dX6_largestRectangle_46 : decode cX6_largestRectangle 46 = .ok (.ireturn, 1) := by decide +kernel
set_option maxRecDepth 20000 in
theorem ggX6_treeParent_X4_grow : GoodIn wsX6_treeParent wsX4_grow := goodIn_r _ [7, 8, 9, 19, 20, 17, 18] (by decide +kernel) (by decide +kernel)
set_option maxRecDepth 20000 in
theorem gX6_treeParent_X4_grow : GoodIn wsX6_treeParent (wsV RX6 221 RX4 yX4_grow wsX4_grow) := goodIn_app (goodIn_of _ (by decide +kernel)) ggX6_treeParent_X4_grow
theorem dX6_treeParent_0 : decode cX6_treeParent 0 = .ok (.aload_n 0, 1) := by decide +kernel
theorem dX6_treeParent_1 : decode cX6_treeParent 1 = .ok (.getfield 44, 3) := by decide +kernel
theorem dX6_treeParent_4 : decode cX6_treeParent 4 = .ok (.aload_n 0, 1) := by decide +kernel
theorem dX6_treeParent_5 : decode cX6_treeParent 5 = .ok (.getfield 10, 3) := by decide +kernel
theorem dX6_treeParent_8 : decode cX6_treeParent 8 = .ok (.invokevirtual 221, 3) := by decide +kernel
theorem dX6_treeParent_11 : decode cX6_treeParent 11 = .ok (.aload_n 0, 1) := by decide +kernel
theorem dX6_treeParent_12 : decode cX6_treeParent 12 = .ok (.getfield 44, 3) := by decide +kernel
theorem dX6_treeParent_15 : decode cX6_treeParent 15 = .ok (.getfield 224, 3) := by decide +kernel
theorem dX6_treeParent_18 : decode cX6_treeParent 18 = .ok (.iload_n 1, 1) := by decide +kernel
theorem dX6_treeParent_19 : decode cX6_treeParent 19 = .ok (.iaload, 1) := by decide +kernel
theorem dX6_treeParent_20 : decode cX6_treeParent 20 = .ok (.ireturn, 1) := by decide +kernel
set_option maxRecDepth 20000 in
theorem ggX6_treeDepth_X4_grow : GoodIn wsX6_treeDepth wsX4_grow := goodIn_r _ [7, 8, 9, 21, 22, 23, 24] (by decide +kernel) (by decide +kernel)
set_option maxRecDepth 20000 in
theorem gX6_treeDepth_X4_grow : GoodIn wsX6_treeDepth (wsV RX6 221 RX4 yX4_grow wsX4_grow) := goodIn_app (goodIn_of _ (by decide +kernel)) ggX6_treeDepth_X4_grow
set_option maxRecDepth 20000 in
theorem ggX6_treeDepth_X4_depthOf : GoodIn wsX6_treeDepth wsX4_depthOf := goodIn_r _ [13, 9, 23, 24] (by decide +kernel) (by decide +kernel)
set_option maxRecDepth 20000 in
theorem gX6_treeDepth_X4_depthOf : GoodIn wsX6_treeDepth (wsV RX6 227 RX4 yX4_depthOf wsX4_depthOf) := goodIn_app (goodIn_of _ (by decide +kernel)) ggX6_treeDepth_X4_depthOf
theorem dX6_treeDepth_0 : decode cX6_treeDepth 0 = .ok (.aload_n 0, 1) := by decide +kernel
theorem dX6_treeDepth_1 : decode cX6_treeDepth 1 = .ok (.getfield 44, 3) := by decide +kernel
theorem dX6_treeDepth_4 : decode cX6_treeDepth 4 = .ok (.aload_n 0, 1) := by decide +kernel
theorem dX6_treeDepth_5 : decode cX6_treeDepth 5 = .ok (.getfield 10, 3) := by decide +kernel
theorem dX6_treeDepth_8 : decode cX6_treeDepth 8 = .ok (.invokevirtual 221, 3) := by decide +kernel
theorem dX6_treeDepth_11 : decode cX6_treeDepth 11 = .ok (.aload_n 0, 1) := by decide +kernel
theorem dX6_treeDepth_12 : decode cX6_treeDepth 12 = .ok (.getfield 44, 3) := by decide +kernel
theorem dX6_treeDepth_15 : decode cX6_treeDepth 15 = .ok (.iload_n 1, 1) := by decide +kernel
theorem dX6_treeDepth_16 : decode cX6_treeDepth 16 = .ok (.invokevirtual 227, 3) := by decide +kernel
theorem dX6_treeDepth_19 : decode cX6_treeDepth 19 = .ok (.ireturn, 1) := by decide +kernel
set_option maxRecDepth 20000 in
theorem ggX6_greatestTreeDepth_X4_grow : GoodIn wsX6_greatestTreeDepth wsX4_grow := goodIn_r _ [11, 12, 13, 25, 26, 27, 28] (by decide +kernel) (by decide +kernel)
set_option maxRecDepth 20000 in
theorem gX6_greatestTreeDepth_X4_grow : GoodIn wsX6_greatestTreeDepth (wsV RX6 221 RX4 yX4_grow wsX4_grow) := goodIn_app (goodIn_of _ (by decide +kernel)) ggX6_greatestTreeDepth_X4_grow
set_option maxRecDepth 20000 in
theorem ggX6_greatestTreeDepth_X4_depthOf : GoodIn wsX6_greatestTreeDepth wsX4_depthOf := goodIn_r _ [17, 13, 27, 28] (by decide +kernel) (by decide +kernel)
set_option maxRecDepth 20000 in
theorem gX6_greatestTreeDepth_X4_depthOf : GoodIn wsX6_greatestTreeDepth (wsV RX6 227 RX4 yX4_depthOf wsX4_depthOf) := goodIn_app (goodIn_of _ (by decide +kernel)) ggX6_greatestTreeDepth_X4_depthOf
theorem dX6_greatestTreeDepth_0 : decode cX6_greatestTreeDepth 0 = .ok (.aload_n 0, 1) := by decide +kernel
theorem dX6_greatestTreeDepth_1 : decode cX6_greatestTreeDepth 1 = .ok (.getfield 44, 3) := by decide +kernel
theorem dX6_greatestTreeDepth_4 : decode cX6_greatestTreeDepth 4 = .ok (.aload_n 0, 1) := by decide +kernel
theorem dX6_greatestTreeDepth_5 : decode cX6_greatestTreeDepth 5 = .ok (.getfield 10, 3) := by decide +kernel
theorem dX6_greatestTreeDepth_8 : decode cX6_greatestTreeDepth 8 = .ok (.invokevirtual 221, 3) := by decide +kernel
theorem dX6_greatestTreeDepth_11 : decode cX6_greatestTreeDepth 11 = .ok (.bipush (-9), 2) := by decide +kernel
theorem dX6_greatestTreeDepth_13 : decode cX6_greatestTreeDepth 13 = .ok (.istore_n 1, 1) := by decide +kernel
theorem dX6_greatestTreeDepth_14 : decode cX6_greatestTreeDepth 14 = .ok (.iconst 0, 1) := by decide +kernel
theorem dX6_greatestTreeDepth_15 : decode cX6_greatestTreeDepth 15 = .ok (.istore_n 2, 1) := by decide +kernel
theorem dX6_greatestTreeDepth_16 : decode cX6_greatestTreeDepth 16 = .ok (.iload_n 2, 1) := by decide +kernel
theorem dX6_greatestTreeDepth_17 : decode cX6_greatestTreeDepth 17 = .ok (.aload_n 0, 1) := by decide +kernel
theorem dX6_greatestTreeDepth_18 : decode cX6_greatestTreeDepth 18 = .ok (.getfield 10, 3) := by decide +kernel
theorem dX6_greatestTreeDepth_21 : decode cX6_greatestTreeDepth 21 = .ok (.getfield 55, 3) := by decide +kernel
theorem dX6_greatestTreeDepth_24 : decode cX6_greatestTreeDepth 24 = .ok (.if_icmp .ge 22, 3) := by decide +kernel
theorem dX6_greatestTreeDepth_27 : decode cX6_greatestTreeDepth 27 = .ok (.iload_n 1, 1) := by decide +kernel
theorem dX6_greatestTreeDepth_28 : decode cX6_greatestTreeDepth 28 = .ok (.aload_n 0, 1) := by decide +kernel
theorem dX6_greatestTreeDepth_29 : decode cX6_greatestTreeDepth 29 = .ok (.getfield 44, 3) := by decide +kernel
theorem dX6_greatestTreeDepth_32 : decode cX6_greatestTreeDepth 32 = .ok (.iload_n 2, 1) := by decide +kernel
theorem dX6_greatestTreeDepth_33 : decode cX6_greatestTreeDepth 33 = .ok (.invokevirtual 227, 3) := by decide +kernel
theorem dX6_greatestTreeDepth_36 : decode cX6_greatestTreeDepth 36 = .ok (.invokestatic 230, 3) := by decide +kernel
theorem dX6_greatestTreeDepth_39 : decode cX6_greatestTreeDepth 39 = .ok (.istore_n 1, 1) := by decide +kernel
theorem dX6_greatestTreeDepth_40 : decode cX6_greatestTreeDepth 40 = .ok (.iinc 2 1, 3) := by decide +kernel
theorem dX6_greatestTreeDepth_43 : decode cX6_greatestTreeDepth 43 = .ok (.goto (-27), 3) := by decide +kernel
theorem dX6_greatestTreeDepth_46 : decode cX6_greatestTreeDepth 46 = .ok (.iload_n 1, 1) := by decide +kernel
theorem dX6_greatestTreeDepth_47 : decode cX6_greatestTreeDepth 47 = .ok (.ireturn, 1) := by decide +kernel
theorem dX6_sumOf_0 : decode cX6_sumOf 0 = .ok (.iconst 0, 1) := by decide +kernel
theorem dX6_sumOf_1 : decode cX6_sumOf 1 = .ok (.istore_n 3, 1) := by decide +kernel
theorem dX6_sumOf_2 : decode cX6_sumOf 2 = .ok (.iload_n 1, 1) := by decide +kernel
theorem dX6_sumOf_3 : decode cX6_sumOf 3 = .ok (.istore 4, 2) := by decide +kernel
theorem dX6_sumOf_5 : decode cX6_sumOf 5 = .ok (.iload 4, 2) := by decide +kernel
theorem dX6_sumOf_7 : decode cX6_sumOf 7 = .ok (.iload_n 2, 1) := by decide +kernel
theorem dX6_sumOf_8 : decode cX6_sumOf 8 = .ok (.if_icmp .gt 16, 3) := by decide +kernel
theorem dX6_sumOf_11 : decode cX6_sumOf 11 = .ok (.iload_n 3, 1) := by decide +kernel
theorem dX6_sumOf_12 : decode cX6_sumOf 12 = .ok (.aload_n 0, 1) := by decide +kernel
theorem dX6_sumOf_13 : decode cX6_sumOf 13 = .ok (.iload 4, 2) := by decide +kernel
theorem dX6_sumOf_15 : decode cX6_sumOf 15 = .ok (.iaload, 1) := by decide +kernel
theorem dX6_sumOf_16 : decode cX6_sumOf 16 = .ok (.iadd, 1) := by decide +kernel
theorem dX6_sumOf_17 : decode cX6_sumOf 17 = .ok (.istore_n 3, 1) := by decide +kernel
theorem dX6_sumOf_18 : decode cX6_sumOf 18 = .ok (.iinc 4 1, 3) := by decide +kernel
theorem dX6_sumOf_21 : decode cX6_sumOf 21 = .ok (.goto (-16), 3) := by decide +kernel
theorem dX6_sumOf_24 : decode cX6_sumOf 24 = .ok (.iload_n 3, 1) := by decide +kernel
theorem dX6_sumOf_25 : decode cX6_sumOf 25 = .ok (.ireturn, 1) := by decide +kernel
theorem dX6_lowestLeast_0 : decode cX6_lowestLeast 0 = .ok (.iload_n 1, 1) := by decide +kernel
theorem dX6_lowestLeast_1 : decode cX6_lowestLeast 1 = .ok (.istore_n 3, 1) := by decide +kernel
theorem dX6_lowestLeast_2 : decode cX6_lowestLeast 2 = .ok (.iload_n 1, 1) := by decide +kernel
theorem dX6_lowestLeast_3 : decode cX6_lowestLeast 3 = .ok (.iconst 1, 1) := by decide +kernel
theorem dX6_lowestLeast_4 : decode cX6_lowestLeast 4 = .ok (.iadd, 1) := by decide +kernel
theorem dX6_lowestLeast_5 : decode cX6_lowestLeast 5 = .ok (.istore 4, 2) := by decide +kernel
theorem dX6_lowestLeast_7 : decode cX6_lowestLeast 7 = .ok (.iload 4, 2) := by decide +kernel
theorem dX6_lowestLeast_9 : decode cX6_lowestLeast 9 = .ok (.iload_n 2, 1) := by decide +kernel
theorem dX6_lowestLeast_10 : decode cX6_lowestLeast 10 = .ok (.if_icmp .gt 22, 3) := by decide +kernel
theorem dX6_lowestLeast_13 : decode cX6_lowestLeast 13 = .ok (.aload_n 0, 1) := by decide +kernel
theorem dX6_lowestLeast_14 : decode cX6_lowestLeast 14 = .ok (.iload 4, 2) := by decide +kernel
theorem dX6_lowestLeast_16 : decode cX6_lowestLeast 16 = .ok (.iaload, 1) := by decide +kernel
theorem dX6_lowestLeast_17 : decode cX6_lowestLeast 17 = .ok (.aload_n 0, 1) := by decide +kernel
theorem dX6_lowestLeast_18 : decode cX6_lowestLeast 18 = .ok (.iload_n 3, 1) := by decide +kernel
theorem dX6_lowestLeast_19 : decode cX6_lowestLeast 19 = .ok (.iaload, 1) := by decide +kernel
theorem dX6_lowestLeast_20 : decode cX6_lowestLeast 20 = .ok (.if_icmp .ge 6, 3) := by decide +kernel
theorem dX6_lowestLeast_23 : decode cX6_lowestLeast 23 = .ok (.iload 4, 2) := by decide +kernel
theorem dX6_lowestLeast_25 : decode cX6_lowestLeast 25 = .ok (.istore_n 3, 1) := by decide +kernel
theorem dX6_lowestLeast_26 : decode cX6_lowestLeast 26 = .ok (.iinc 4 1, 3) := by decide +kernel
theorem dX6_lowestLeast_29 : decode cX6_lowestLeast 29 = .ok (.goto (-22), 3) := by decide +kernel
theorem dX6_lowestLeast_32 : decode cX6_lowestLeast 32 = .ok (.iload_n 3, 1) := by decide +kernel
theorem dX6_lowestLeast_33 : decode cX6_lowestLeast 33 = .ok (.ireturn, 1) := by decide +kernel
theorem dX6_lowestGreatest_0 : decode cX6_lowestGreatest 0 = .ok (.iload_n 1, 1) := by decide +kernel
theorem dX6_lowestGreatest_1 : decode cX6_lowestGreatest 1 = .ok (.istore_n 3, 1) := by decide +kernel
theorem dX6_lowestGreatest_2 : decode cX6_lowestGreatest 2 = .ok (.iload_n 1, 1) := by decide +kernel
theorem dX6_lowestGreatest_3 : decode cX6_lowestGreatest 3 = .ok (.iconst 1, 1) := by decide +kernel
theorem dX6_lowestGreatest_4 : decode cX6_lowestGreatest 4 = .ok (.iadd, 1) := by decide +kernel
theorem dX6_lowestGreatest_5 : decode cX6_lowestGreatest 5 = .ok (.istore 4, 2) := by decide +kernel
theorem dX6_lowestGreatest_7 : decode cX6_lowestGreatest 7 = .ok (.iload 4, 2) := by decide +kernel
theorem dX6_lowestGreatest_9 : decode cX6_lowestGreatest 9 = .ok (.iload_n 2, 1) := by decide +kernel
theorem dX6_lowestGreatest_10 : decode cX6_lowestGreatest 10 = .ok (.if_icmp .gt 22, 3) := by decide +kernel
theorem dX6_lowestGreatest_13 : decode cX6_lowestGreatest 13 = .ok (.aload_n 0, 1) := by decide +kernel
theorem dX6_lowestGreatest_14 : decode cX6_lowestGreatest 14 = .ok (.iload 4, 2) := by decide +kernel
theorem dX6_lowestGreatest_16 : decode cX6_lowestGreatest 16 = .ok (.iaload, 1) := by decide +kernel
theorem dX6_lowestGreatest_17 : decode cX6_lowestGreatest 17 = .ok (.aload_n 0, 1) := by decide +kernel
theorem dX6_lowestGreatest_18 : decode cX6_lowestGreatest 18 = .ok (.iload_n 3, 1) := by decide +kernel
theorem dX6_lowestGreatest_19 : decode cX6_lowestGreatest 19 = .ok (.iaload, 1) := by decide +kernel
theorem dX6_lowestGreatest_20 : decode cX6_lowestGreatest 20 = .ok (.if_icmp .le 6, 3) := by decide +kernel
theorem dX6_lowestGreatest_23 : decode cX6_lowestGreatest 23 = .ok (.iload 4, 2) := by decide +kernel
theorem dX6_lowestGreatest_25 : decode cX6_lowestGreatest 25 = .ok (.istore_n 3, 1) := by decide +kernel
theorem dX6_lowestGreatest_26 : decode cX6_lowestGreatest 26 = .ok (.iinc 4 1, 3) := by decide +kernel
theorem dX6_lowestGreatest_29 : decode cX6_lowestGreatest 29 = .ok (.goto (-22), 3) := by decide +kernel
theorem dX6_lowestGreatest_32 : decode cX6_lowestGreatest 32 = .ok (.iload_n 3, 1) := by decide +kernel
theorem dX6_lowestGreatest_33 : decode cX6_lowestGreatest 33 = .ok (.ireturn, 1) := by decide +kernel
theorem dX7_init_0 : decode cX7_init 0 = .ok (.aload_n 0, 1) := by decide +kernel
theorem dX7_init_1 : decode cX7_init 1 = .ok (.invokespecial 1, 3) := by decide +kernel
theorem dX7_init_4 : decode cX7_init 4 = .ok (.aload_n 0, 1) := by decide +kernel
theorem dX7_init_5 : decode cX7_init 5 = .ok (.bipush 41, 2) := by decide +kernel
theorem dX7_init_7 : decode cX7_init 7 = .ok (.newarray .int, 2) := by decide +kernel
theorem dX7_init_9 : decode cX7_init 9 = .ok (.putfield 7, 3) := by decide +kernel
theorem dX7_init_12 : decode cX7_init 12 = .ok (.aload_n 0, 1) := by decide +kernel
theorem dX7_init_13 : decode cX7_init 13 = .ok (.sipush 328, 3) := by decide +kernel
theorem dX7_init_16 : decode cX7_init 16 = .ok (.newarray .int, 2) := by decide +kernel
theorem dX7_init_18 : decode cX7_init 18 = .ok (.putfield 13, 3) := by decide +kernel
theorem dX7_init_21 : decode cX7_init 21 = .ok (.aload_n 0, 1) := by decide +kernel
theorem dX7_init_22 : decode cX7_init 22 = .ok (.bipush 82, 2) := by decide +kernel
theorem dX7_init_24 : decode cX7_init 24 = .ok (.newarray .int, 2) := by decide +kernel
theorem dX7_init_26 : decode cX7_init 26 = .ok (.putfield 16, 3) := by decide +kernel
theorem dX7_init_29 : decode cX7_init 29 = .ok (.aload_n 0, 1) := by decide +kernel
theorem dX7_init_30 : decode cX7_init 30 = .ok (.bipush 40, 2) := by decide +kernel
theorem dX7_init_32 : decode cX7_init 32 = .ok (.newarray .int, 2) := by decide +kernel
theorem dX7_init_34 : decode cX7_init 34 = .ok (.putfield 19, 3) := by decide +kernel
theorem dX7_init_37 : decode cX7_init 37 = .ok (.aload_n 0, 1) := by decide +kernel
theorem dX7_init_38 : decode cX7_init 38 = .ok (.bipush 60, 2) := by decide +kernel
theorem dX7_init_40 : decode cX7_init 40 = .ok (.newarray .int, 2) := by decide +kernel
theorem dX7_init_42 : decode cX7_init 42 = .ok (.putfield 22, 3) := by decide +kernel
theorem dX7_init_45 : decode cX7_init 45 = .ok (.aload_n 0, 1) := by decide +kernel
theorem dX7_init_46 : decode cX7_init 46 = .ok (.bipush 60, 2) := by decide +kernel
theorem dX7_init_48 : decode cX7_init 48 = .ok (.newarray .int, 2) := by decide +kernel
theorem dX7_init_50 : decode cX7_init 50 = .ok (.putfield 25, 3) := by decide +kernel
theorem dX7_init_53 : decode cX7_init 53 = .ok (.aload_n 0, 1) := by decide +kernel
theorem dX7_init_54 : decode cX7_init 54 = .ok (.bipush 60, 2) := by decide +kernel
theorem dX7_init_56 : decode cX7_init 56 = .ok (.newarray .int, 2) := by decide +kernel
theorem dX7_init_58 : decode cX7_init 58 = .ok (.putfield 28, 3) := by decide +kernel
theorem dX7_init_61 : decode cX7_init 61 = .ok (.aload_n 0, 1) := by decide +kernel
theorem dX7_init_62 : decode cX7_init 62 = .ok (.bipush 41, 2) := by decide +kernel
theorem dX7_init_64 : decode cX7_init 64 = .ok (.newarray .int, 2) := by decide +kernel
theorem dX7_init_66 : decode cX7_init 66 = .ok (.putfield 31, 3) := by decide +kernel
theorem dX7_init_69 : decode cX7_init 69 = .ok (.aload_n 0, 1) := by decide +kernel
theorem dX7_init_70 : decode cX7_init 70 = .ok (.bipush 41, 2) := by decide +kernel
theorem dX7_init_72 : decode cX7_init 72 = .ok (.newarray .int, 2) := by decide +kernel
theorem dX7_init_74 : decode cX7_init 74 = .ok (.putfield 34, 3) := by decide +kernel
theorem dX7_init_77 : decode cX7_init 77 = .ok (.aload_n 0, 1) := by decide +kernel
theorem dX7_init_78 : decode cX7_init 78 = .ok (.getfield 7, 3) := by decide +kernel
theorem dX7_init_81 : decode cX7_init 81 = .ok (.bipush 40, 2) := by decide +kernel
theorem dX7_init_83 : decode cX7_init 83 = .ok (.iconst 0, 1) := by decide +kernel
theorem dX7_init_84 : decode cX7_init 84 = .ok (.iastore, 1) := by decide +kernel
theorem dX7_init_85 : decode cX7_init 85 = .ok (.return_, 1) := by decide +kernel
theorem dX7_isIn_0 : decode cX7_isIn 0 = .ok (.iload_n 0, 1) := by decide +kernel
theorem dX7_isIn_1 : decode cX7_isIn 1 = .ok (.iload_n 1, 1) := by decide +kernel
theorem dX7_isIn_2 : decode cX7_isIn 2 = .ok (.if_icmp .lt 12, 3) := by decide +kernel
theorem dX7_isIn_5 : decode cX7_isIn 5 = .ok (.iload_n 0, 1) := by decide +kernel
theorem dX7_isIn_6 : decode cX7_isIn 6 = .ok (.iload_n 2, 1) := by decide +kernel
theorem dX7_isIn_7 : decode cX7_isIn 7 = .ok (.if_icmp .gt 7, 3) := by decide +kernel
theorem dX7_isIn_10 : decode cX7_isIn 10 = .ok (.iconst 1, 1) := by decide +kernel
theorem dX7_isIn_11 : decode cX7_isIn 11 = .ok (.goto 4, 3) := by decide +kernel
theorem dX7_isIn_14 : decode cX7_isIn 14 = .ok (.iconst 0, 1) := by decide +kernel
theorem dX7_isIn_15 : decode cX7_isIn 15 = .ok (.ireturn, 1) := by decide +kernel
theorem dX7_many_0 : decode cX7_many 0 = .ok (.aload_n 0, 1) := by decide +kernel
theorem dX7_many_1 : decode cX7_many 1 = .ok (.getfield 7, 3) := by decide +kernel
theorem dX7_many_4 : decode cX7_many 4 = .ok (.bipush 40, 2) := by decide +kernel
theorem dX7_many_6 : decode cX7_many 6 = .ok (.iaload, 1) := by decide +kernel
theorem dX7_many_7 : decode cX7_many 7 = .ok (.ireturn, 1) := by decide +kernel
set_option maxRecDepth 20000 in
theorem ggX7_isColumn_X7_many : GoodIn wsX7_isColumn wsX7_many := goodIn_r _ [5, 6, 10, 11, 12, 13, 14, 15, 16, 17, 18, 19, 20, 21] (by decide +kernel) (by decide +kernel)
set_option maxRecDepth 20000 in
theorem gX7_isColumn_X7_many : GoodIn wsX7_isColumn (wsV RX7 37 RX7 yX7_many wsX7_many) := goodIn_app (goodIn_of _ (by decide +kernel)) ggX7_isColumn_X7_many
set_option maxRecDepth 20000 in
theorem ggX7_isColumn_X7_isIn : GoodIn wsX7_isColumn wsX7_isIn := goodIn_r _ [9] (by decide +kernel) (by decide +kernel)
set_option maxRecDepth 20000 in
theorem gX7_isColumn_X7_isIn : GoodIn wsX7_isColumn (va_wsS RX7 41 yX7_isIn wsX7_isIn) := goodIn_app (goodIn_of _ (by decide +kernel)) ggX7_isColumn_X7_isIn
theorem dX7_isColumn_0 : decode cX7_isColumn 0 = .ok (.iload_n 1, 1) := by decide +kernel
theorem dX7_isColumn_1 : decode cX7_isColumn 1 = .ok (.iconst 0, 1) := by decide +kernel
theorem dX7_isColumn_2 : decode cX7_isColumn 2 = .ok (.aload_n 0, 1) := by decide +kernel
theorem dX7_isColumn_3 : decode cX7_isColumn 3 = .ok (.invokevirtual 37, 3) := by decide +kernel
theorem dX7_isColumn_6 : decode cX7_isColumn 6 = .ok (.iconst 1, 1) := by decide +kernel
theorem dX7_isColumn_7 : decode cX7_isColumn 7 = .ok (.isub, 1) := by decide +kernel
theorem dX7_isColumn_8 : decode cX7_isColumn 8 = .ok (.invokestatic 41, 3) := by decide +kernel
theorem dX7_isColumn_11 : decode cX7_isColumn 11 = .ok (.ireturn, 1) := by decide +kernel
set_option maxRecDepth 20000 in
theorem ggX7_isRange_X7_isColumn : GoodIn wsX7_isRange wsX7_isColumn := goodIn_r _ [5, 6, 7, 8, 4, 9, 10, 11, 12, 13, 14, 15, 16, 17, 18, 19, 20, 21, 22, 23, 24, 25] (by decide +kernel) (by decide +kernel)
set_option maxRecDepth 20000 in
theorem gX7_isRange_X7_isColumn : GoodIn wsX7_isRange (wsV RX7 45 RX7 yX7_isColumn wsX7_isColumn) := goodIn_app (goodIn_of _ (by decide +kernel)) ggX7_isRange_X7_isColumn
theorem dX7_isRange_0 : decode cX7_isRange 0 = .ok (.aload_n 0, 1) := by decide +kernel
theorem dX7_isRange_1 : decode cX7_isRange 1 = .ok (.iload_n 1, 1) := by decide +kernel
theorem dX7_isRange_2 : decode cX7_isRange 2 = .ok (.invokevirtual 45, 3) := by decide +kernel
theorem dX7_isRange_5 : decode cX7_isRange 5 = .ok (.ifCond .eq 20, 3) := by decide +kernel
theorem dX7_isRange_8 : decode cX7_isRange 8 = .ok (.aload_n 0, 1) := by decide +kernel
theorem dX7_isRange_9 : decode cX7_isRange 9 = .ok (.iload_n 2, 1) := by decide +kernel
theorem dX7_isRange_10 : decode cX7_isRange 10 = .ok (.invokevirtual 45, 3) := by decide +kernel
theorem dX7_isRange_13 : decode cX7_isRange 13 = .ok (.ifCond .eq 12, 3) := by decide +kernel
theorem dX7_isRange_16 : decode cX7_isRange 16 = .ok (.iload_n 1, 1) := by decide +kernel
theorem dX7_isRange_17 : decode cX7_isRange 17 = .ok (.iload_n 2, 1) := by decide +kernel
theorem dX7_isRange_18 : decode cX7_isRange 18 = .ok (.if_icmp .gt 7, 3) := by decide +kernel
theorem dX7_isRange_21 : decode cX7_isRange 21 = .ok (.iconst 1, 1) := by decide +kernel
theorem dX7_isRange_22 : decode cX7_isRange 22 = .ok (.goto 4, 3) := by decide +kernel
theorem dX7_isRange_25 : decode cX7_isRange 25 = .ok (.iconst 0, 1) := by decide +kernel
theorem dX7_isRange_26 : decode cX7_isRange 26 = .ok (.ireturn, 1) := by decide +kernel
theorem dX7_remember_0 : decode cX7_remember 0 = .ok (.aload_n 0, 1) := by decide +kernel
theorem dX7_remember_1 : decode cX7_remember 1 = .ok (.getfield 49, 3) := by decide +kernel
theorem dX7_remember_4 : decode cX7_remember 4 = .ok (.bipush 8, 2) := by decide +kernel
theorem dX7_remember_6 : decode cX7_remember 6 = .ok (.if_icmp .ne 43, 3) := by decide +kernel
theorem dX7_remember_9 : decode cX7_remember 9 = .ok (.iconst 0, 1) := by decide +kernel
theorem dX7_remember_10 : decode cX7_remember 10 = .ok (.istore_n 1, 1) := by decide +kernel
theorem dX7_remember_11 : decode cX7_remember 11 = .ok (.iload_n 1, 1) := by decide +kernel
theorem dX7_remember_12 : decode cX7_remember 12 = .ok (.sipush 287, 3) := by decide +kernel
theorem dX7_remember_15 : decode cX7_remember 15 = .ok (.if_icmp .ge 24, 3) := by decide +kernel
theorem dX7_remember_18 : decode cX7_remember 18 = .ok (.aload_n 0, 1) := by decide +kernel
theorem dX7_remember_19 : decode cX7_remember 19 = .ok (.getfield 13, 3) := by decide +kernel
theorem dX7_remember_22 : decode cX7_remember 22 = .ok (.iload_n 1, 1) := by decide +kernel
theorem dX7_remember_23 : decode cX7_remember 23 = .ok (.aload_n 0, 1) := by decide +kernel
theorem dX7_remember_24 : decode cX7_remember 24 = .ok (.getfield 13, 3) := by decide +kernel
theorem dX7_remember_27 : decode cX7_remember 27 = .ok (.iload_n 1, 1) := by decide +kernel
theorem dX7_remember_28 : decode cX7_remember 28 = .ok (.bipush 41, 2) := by decide +kernel
theorem dX7_remember_30 : decode cX7_remember 30 = .ok (.iadd, 1) := by decide +kernel
theorem dX7_remember_31 : decode cX7_remember 31 = .ok (.iaload, 1) := by decide +kernel
theorem dX7_remember_32 : decode cX7_remember 32 = .ok (.iastore, 1) := by decide +kernel
theorem dX7_remember_33 : decode cX7_remember 33 = .ok (.iinc 1 1, 3) := by decide +kernel
theorem dX7_remember_36 : decode cX7_remember 36 = .ok (.goto (-25), 3) := by decide +kernel
theorem dX7_remember_39 : decode cX7_remember 39 = .ok (.aload_n 0, 1) := by decide +kernel
theorem dX7_remember_40 : decode cX7_remember 40 = .ok (.dup, 1) := by decide +kernel
theorem dX7_remember_41 : decode cX7_remember 41 = .ok (.getfield 49, 3) := by decide +kernel
theorem dX7_remember_44 : decode cX7_remember 44 = .ok (.iconst 1, 1) := by decide +kernel
theorem dX7_remember_45 : decode cX7_remember 45 = .ok (.isub, 1) := by decide +kernel
theorem dX7_remember_46 : decode cX7_remember 46 = .ok (.putfield 49, 3) := by decide +kernel
theorem dX7_remember_49 : decode cX7_remember 49 = .ok (.iconst 0, 1) := by decide +kernel
theorem dX7_remember_50 : decode cX7_remember 50 = .ok (.istore_n 1, 1) := by decide +kernel
theorem dX7_remember_51 : decode cX7_remember 51 = .ok (.iload_n 1, 1) := by decide +kernel
theorem dX7_remember_52 : decode cX7_remember 52 = .ok (.bipush 41, 2) := by decide +kernel
theorem dX7_remember_54 : decode cX7_remember 54 = .ok (.if_icmp .ge 29, 3) := by decide +kernel
theorem dX7_remember_57 : decode cX7_remember 57 = .ok (.aload_n 0, 1) := by decide +kernel
theorem dX7_remember_58 : decode cX7_remember 58 = .ok (.getfield 13, 3) := by decide +kernel
theorem dX7_remember_61 : decode cX7_remember 61 = .ok (.bipush 41, 2) := by decide +kernel
theorem dX7_remember_63 : decode cX7_remember 63 = .ok (.aload_n 0, 1) := by decide +kernel
theorem dX7_remember_64 : decode cX7_remember 64 = .ok (.getfield 49, 3) := by decide +kernel
theorem dX7_remember_67 : decode cX7_remember 67 = .ok (.imul, 1) := by decide +kernel
theorem dX7_remember_68 : decode cX7_remember 68 = .ok (.iload_n 1, 1) := by decide +kernel
theorem dX7_remember_69 : decode cX7_remember 69 = .ok (.iadd, 1) := by decide +kernel
theorem dX7_remember_70 : decode cX7_remember 70 = .ok (.aload_n 0, 1) := by decide +kernel
theorem dX7_remember_71 : decode cX7_remember 71 = .ok (.getfield 7, 3) := by decide +kernel
theorem dX7_remember_74 : decode cX7_remember 74 = .ok (.iload_n 1, 1) := by decide +kernel
theorem dX7_remember_75 : decode cX7_remember 75 = .ok (.iaload, 1) := by decide +kernel
theorem dX7_remember_76 : decode cX7_remember 76 = .ok (.iastore, 1) := by decide +kernel
theorem dX7_remember_77 : decode cX7_remember 77 = .ok (.iinc 1 1, 3) := by decide +kernel
theorem dX7_remember_80 : decode cX7_remember 80 = .ok (.goto (-29), 3) := by decide +kernel
theorem dX7_remember_83 : decode cX7_remember 83 = .ok (.aload_n 0, 1) := by decide +kernel
theorem dX7_remember_84 : decode cX7_remember 84 = .ok (.dup, 1) := by decide +kernel
theorem dX7_remember_85 : decode cX7_remember 85 = .ok (.getfield 49, 3) := by decide +kernel
theorem dX7_remember_88 : decode cX7_remember 88 = .ok (.iconst 1, 1) := by decide +kernel
theorem dX7_remember_89 : decode cX7_remember 89 = .ok (.iadd, 1) := by decide +kernel
theorem dX7_remember_90 : decode cX7_remember 90 = .ok (.putfield 49, 3) := by decide +kernel
theorem dX7_remember_93 : decode cX7_remember 93 = .ok (.return_, 1) := by decide +kernel
theorem dX7_before_0 : decode cX7_before 0 = .ok (.aload_n 0, 1) := by decide +kernel
theorem dX7_before_1 : decode cX7_before 1 = .ok (.getfield 13, 3) := by decide +kernel
theorem dX7_before_4 : decode cX7_before 4 = .ok (.bipush 41, 2) := by decide +kernel
theorem dX7_before_6 : decode cX7_before 6 = .ok (.aload_n 0, 1) := by decide +kernel
theorem dX7_before_7 : decode cX7_before 7 = .ok (.getfield 49, 3) := by decide +kernel
theorem dX7_before_10 : decode cX7_before 10 = .ok (.iconst 1, 1) := by decide +kernel
theorem dX7_before_11 : decode cX7_before 11 = .ok (.isub, 1) := by decide +kernel
theorem dX7_before_12 : decode cX7_before 12 = .ok (.imul, 1) := by decide +kernel
theorem dX7_before_13 : decode cX7_before 13 = .ok (.iload_n 1, 1) := by decide +kernel
theorem dX7_before_14 : decode cX7_before 14 = .ok (.iadd, 1) := by decide +kernel
theorem dX7_before_15 : decode cX7_before 15 = .ok (.iaload, 1) := by decide +kernel
theorem dX7_before_16 : decode cX7_before 16 = .ok (.ireturn, 1) := by decide +kernel
set_option maxRecDepth 20000 in
theorem ggX7_changed_X7_before : GoodIn wsX7_changed wsX7_before := goodIn_r _ [6, 7, 8, 9, 10, 11, 12, 13, 14, 15, 16, 17, 18, 19, 20] (by decide +kernel) (by decide +kernel)
set_option maxRecDepth 20000 in
theorem gX7_changed_X7_before : GoodIn wsX7_changed (wsV RX7 53 RX7 yX7_before wsX7_before) := goodIn_app (goodIn_of _ (by decide +kernel)) ggX7_changed_X7_before
theorem dX7_changed_0 : decode cX7_changed 0 = .ok (.iconst 0, 1) := by decide +kernel
theorem dX7_changed_1 : decode cX7_changed 1 = .ok (.istore_n 3, 1) := by decide +kernel
theorem dX7_changed_2 : decode cX7_changed 2 = .ok (.iload_n 1, 1) := by decide +kernel
theorem dX7_changed_3 : decode cX7_changed 3 = .ok (.istore 4, 2) := by decide +kernel
theorem dX7_changed_5 : decode cX7_changed 5 = .ok (.iload 4, 2) := by decide +kernel
theorem dX7_changed_7 : decode cX7_changed 7 = .ok (.iload_n 2, 1) := by decide +kernel
theorem dX7_changed_8 : decode cX7_changed 8 = .ok (.if_icmp .gt 33, 3) := by decide +kernel
theorem dX7_changed_11 : decode cX7_changed 11 = .ok (.iload_n 3, 1) := by decide +kernel
theorem dX7_changed_12 : decode cX7_changed 12 = .ok (.aload_n 0, 1) := by decide +kernel
theorem dX7_changed_13 : decode cX7_changed 13 = .ok (.getfield 7, 3) := by decide +kernel
theorem dX7_changed_16 : decode cX7_changed 16 = .ok (.iload 4, 2) := by decide +kernel
theorem dX7_changed_18 : decode cX7_changed 18 = .ok (.iaload, 1) := by decide +kernel
theorem dX7_changed_19 : decode cX7_changed 19 = .ok (.aload_n 0, 1) := by decide +kernel
theorem dX7_changed_20 : decode cX7_changed 20 = .ok (.iload 4, 2) := by decide +kernel
theorem dX7_changed_22 : decode cX7_changed 22 = .ok (.invokevirtual 53, 3) := by decide +kernel
theorem dX7_changed_25 : decode cX7_changed 25 = .ok (.if_icmp .eq 7, 3) := by decide +kernel
theorem dX7_changed_28 : decode cX7_changed 28 = .ok (.iconst 1, 1) := by decide +kernel
theorem dX7_changed_29 : decode cX7_changed 29 = .ok (.goto 4, 3) := by decide +kernel
theorem dX7_changed_32 : decode cX7_changed 32 = .ok (.iconst 0, 1) := by decide +kernel
theorem dX7_changed_33 : decode cX7_changed 33 = .ok (.iadd, 1) := by decide +kernel
theorem dX7_changed_34 : decode cX7_changed 34 = .ok (.istore_n 3, 1) := by decide +kernel
theorem dX7_changed_35 : decode cX7_changed 35 = .ok (.iinc 4 1, 3) := by decide +kernel
theorem dX7_changed_38 : decode cX7_changed 38 = .ok (.goto (-33), 3) := by decide +kernel
theorem dX7_changed_41 : decode cX7_changed 41 = .ok (.iload_n 3, 1) := by decide +kernel
theorem dX7_changed_42 : decode cX7_changed 42 = .ok (.ireturn, 1) := by decide +kernel
set_option maxRecDepth 20000 in
theorem ggX7_insert_X7_many : GoodIn wsX7_insert wsX7_many := goodIn_r _ [6, 1, 20, 21, 22, 23, 24, 25, 26, 27, 28, 29, 30, 31] (by decide +kernel) (by decide +kernel)
set_option maxRecDepth 20000 in
theorem gX7_insert_X7_many : GoodIn wsX7_insert (wsV RX7 37 RX7 yX7_many wsX7_many) := goodIn_app (goodIn_of _ (by decide +kernel)) ggX7_insert_X7_many
set_option maxRecDepth 20000 in
theorem ggX7_insert_X7_isIn : GoodIn wsX7_insert wsX7_isIn := goodIn_r _ [9] (by decide +kernel) (by decide +kernel)
set_option maxRecDepth 20000 in
theorem gX7_insert_X7_isIn : GoodIn wsX7_insert (va_wsS RX7 41 yX7_isIn wsX7_isIn) := goodIn_app (goodIn_of _ (by decide +kernel)) ggX7_insert_X7_isIn
set_option maxRecDepth 20000 in
theorem ggX7_insert_X7_remember : GoodIn wsX7_insert wsX7_remember := goodIn_r _ [13, 14, 15, 1, 20, 21, 22, 23, 24, 25, 26, 27, 28, 29, 30, 31] (by decide +kernel) (by decide +kernel)
set_option maxRecDepth 20000 in
theorem gX7_insert_X7_remember : GoodIn wsX7_insert (wsV RX7 57 RX7 yX7_remember wsX7_remember) := goodIn_app (goodIn_of _ (by decide +kernel)) ggX7_insert_X7_remember
set_option maxRecDepth 20000 in
theorem ggX7_insert_X7_before : GoodIn wsX7_insert wsX7_before := goodIn_r _ [19, 15, 14, 20, 21, 22, 23, 24, 25, 26, 27, 28, 29, 30, 31] (by decide +kernel) (by decide +kernel)
set_option maxRecDepth 20000 in
theorem gX7_insert_X7_before : GoodIn wsX7_insert (wsV RX7 53 RX7 yX7_before wsX7_before) := goodIn_app (goodIn_of _ (by decide +kernel)) ggX7_insert_X7_before
theorem dX7_insert_0 : decode cX7_insert 0 = .ok (.iload_n 1, 1) := by decide +kernel
theorem dX7_insert_1 : decode cX7_insert 1 = .ok (.iconst 0, 1) := by decide +kernel
theorem dX7_insert_2 : decode cX7_insert 2 = .ok (.aload_n 0, 1) := by decide +kernel
theorem dX7_insert_3 : decode cX7_insert 3 = .ok (.invokevirtual 37, 3) := by decide +kernel
theorem dX7_insert_6 : decode cX7_insert 6 = .ok (.invokestatic 41, 3) := by decide +kernel
theorem dX7_insert_9 : decode cX7_insert 9 = .ok (.ifCond .eq 13, 3) := by decide +kernel
theorem dX7_insert_12 : decode cX7_insert 12 = .ok (.iload_n 2, 1) := by decide +kernel
theorem dX7_insert_13 : decode cX7_insert 13 = .ok (.iconst 0, 1) := by decide +kernel
theorem dX7_insert_14 : decode cX7_insert 14 = .ok (.bipush 50, 2) := by decide +kernel
theorem dX7_insert_16 : decode cX7_insert 16 = .ok (.invokestatic 41, 3) := by decide +kernel
theorem dX7_insert_19 : decode cX7_insert 19 = .ok (.ifCond .ne 5, 3) := by decide +kernel
theorem dX7_insert_22 : decode cX7_insert 22 = .ok (.iconst (-1), 1) := by decide +kernel
theorem dX7_insert_23 : decode cX7_insert 23 = .ok (.ireturn, 1) := by decide +kernel
theorem dX7_insert_24 : decode cX7_insert 24 = .ok (.aload_n 0, 1) := by decide +kernel
theorem dX7_insert_25 : decode cX7_insert 25 = .ok (.invokevirtual 37, 3) := by decide +kernel
theorem dX7_insert_28 : decode cX7_insert 28 = .ok (.bipush 40, 2) := by decide +kernel
theorem dX7_insert_30 : decode cX7_insert 30 = .ok (.if_icmp .ne 6, 3) := by decide +kernel
theorem dX7_insert_33 : decode cX7_insert 33 = .ok (.bipush (-3), 2) := by decide +kernel
theorem dX7_insert_35 : decode cX7_insert 35 = .ok (.ireturn, 1) := by decide +kernel
theorem dX7_insert_36 : decode cX7_insert 36 = .ok (.aload_n 0, 1) := by decide +kernel
theorem dX7_insert_37 : decode cX7_insert 37 = .ok (.invokevirtual 57, 3) := by decide +kernel
theorem dX7_insert_40 : decode cX7_insert 40 = .ok (.aload_n 0, 1) := by decide +kernel
theorem dX7_insert_41 : decode cX7_insert 41 = .ok (.invokevirtual 37, 3) := by decide +kernel
theorem dX7_insert_44 : decode cX7_insert 44 = .ok (.istore_n 3, 1) := by decide +kernel
theorem dX7_insert_45 : decode cX7_insert 45 = .ok (.iload_n 3, 1) := by decide +kernel
theorem dX7_insert_46 : decode cX7_insert 46 = .ok (.iload_n 1, 1) := by decide +kernel
theorem dX7_insert_47 : decode cX7_insert 47 = .ok (.if_icmp .le 22, 3) := by decide +kernel
theorem dX7_insert_50 : decode cX7_insert 50 = .ok (.aload_n 0, 1) := by decide +kernel
theorem dX7_insert_51 : decode cX7_insert 51 = .ok (.getfield 7, 3) := by decide +kernel
theorem dX7_insert_54 : decode cX7_insert 54 = .ok (.iload_n 3, 1) := by decide +kernel
theorem dX7_insert_55 : decode cX7_insert 55 = .ok (.aload_n 0, 1) := by decide +kernel
theorem dX7_insert_56 : decode cX7_insert 56 = .ok (.iload_n 3, 1) := by decide +kernel
theorem dX7_insert_57 : decode cX7_insert 57 = .ok (.iconst 1, 1) := by decide +kernel
theorem dX7_insert_58 : decode cX7_insert 58 = .ok (.isub, 1) := by decide +kernel
theorem dX7_insert_59 : decode cX7_insert 59 = .ok (.invokevirtual 53, 3) := by decide +kernel
theorem dX7_insert_62 : decode cX7_insert 62 = .ok (.iastore, 1) := by decide +kernel
theorem dX7_insert_63 : decode cX7_insert 63 = .ok (.iinc 3 (-1), 3) := by decide +kernel
theorem dX7_insert_66 : decode cX7_insert 66 = .ok (.goto (-21), 3) := by decide +kernel
theorem dX7_insert_69 : decode cX7_insert 69 = .ok (.aload_n 0, 1) := by decide +kernel
theorem dX7_insert_70 : decode cX7_insert 70 = .ok (.getfield 7, 3) := by decide +kernel
theorem dX7_insert_73 : decode cX7_insert 73 = .ok (.bipush 40, 2) := by decide +kernel
theorem dX7_insert_75 : decode cX7_insert 75 = .ok (.aload_n 0, 1) := by decide +kernel
theorem dX7_insert_76 : decode cX7_insert 76 = .ok (.bipush 40, 2) := by decide +kernel
theorem dX7_insert_78 : decode cX7_insert 78 = .ok (.invokevirtual 53, 3) := by decide +kernel
theorem dX7_insert_81 : decode cX7_insert 81 = .ok (.iconst 1, 1) := by decide +kernel
theorem dX7_insert_82 : decode cX7_insert 82 = .ok (.iadd, 1) := by decide +kernel
theorem dX7_insert_83 : decode cX7_insert 83 = .ok (.iastore, 1) := by decide +kernel
theorem dX7_insert_84 : decode cX7_insert 84 = .ok (.aload_n 0, 1) := by decide +kernel
theorem dX7_insert_85 : decode cX7_insert 85 = .ok (.getfield 7, 3) := by decide +kernel
theorem dX7_insert_88 : decode cX7_insert 88 = .ok (.iload_n 1, 1) := by decide +kernel
theorem dX7_insert_89 : decode cX7_insert 89 = .ok (.iload_n 2, 1) := by decide +kernel
theorem dX7_insert_90 : decode cX7_insert 90 = .ok (.iastore, 1) := by decide +kernel
theorem dX7_insert_91 : decode cX7_insert 91 = .ok (.aload_n 0, 1) := by decide +kernel
theorem dX7_insert_92 : decode cX7_insert 92 = .ok (.invokevirtual 37, 3) := by decide +kernel
theorem dX7_insert_95 : decode cX7_insert 95 = .ok (.ireturn, 1) := by decide +kernel
set_option maxRecDepth 20000 in
theorem ggX7_remove_X7_isColumn : GoodIn wsX7_remove wsX7_isColumn := goodIn_r _ [6, 7, 8, 9, 5, 10, 1, 11, 12, 13, 24, 25, 26, 27, 28, 29, 30, 31, 32, 33, 34, 35] (by decide +kernel) (by decide +kernel)
set_option maxRecDepth 20000 in
theorem gX7_remove_X7_isColumn : GoodIn wsX7_remove (wsV RX7 45 RX7 yX7_isColumn wsX7_isColumn) := goodIn_app (goodIn_of _ (by decide +kernel)) ggX7_remove_X7_isColumn
set_option maxRecDepth 20000 in
theorem ggX7_remove_X7_remember : GoodIn wsX7_remove wsX7_remember := goodIn_r _ [17, 18, 19, 1, 24, 25, 26, 27, 28, 29, 30, 31, 32, 33, 34, 35] (by decide +kernel) (by decide +kernel)
set_option maxRecDepth 20000 in
theorem gX7_remove_X7_remember : GoodIn wsX7_remove (wsV RX7 57 RX7 yX7_remember wsX7_remember) := goodIn_app (goodIn_of _ (by decide +kernel)) ggX7_remove_X7_remember
set_option maxRecDepth 20000 in
theorem ggX7_remove_X7_many : GoodIn wsX7_remove wsX7_many := goodIn_r _ [10, 1, 24, 25, 26, 27, 28, 29, 30, 31, 32, 33, 34, 35] (by decide +kernel) (by decide +kernel)
set_option maxRecDepth 20000 in
theorem gX7_remove_X7_many : GoodIn wsX7_remove (wsV RX7 37 RX7 yX7_many wsX7_many) := goodIn_app (goodIn_of _ (by decide +kernel)) ggX7_remove_X7_many
set_option maxRecDepth 20000 in
theorem ggX7_remove_X7_before : GoodIn wsX7_remove wsX7_before := goodIn_r _ [23, 19, 18, 24, 25, 26, 27, 28, 29, 30, 31, 32, 33, 34, 35] (by decide +kernel) (by decide +kernel)
set_option maxRecDepth 20000 in
theorem gX7_remove_X7_before : GoodIn wsX7_remove (wsV RX7 53 RX7 yX7_before wsX7_before) := goodIn_app (goodIn_of _ (by decide +kernel)) ggX7_remove_X7_before
theorem dX7_remove_0 : decode cX7_remove 0 = .ok (.aload_n 0, 1) := by decide +kernel
theorem dX7_remove_1 : decode cX7_remove 1 = .ok (.iload_n 1, 1) := by decide +kernel
theorem dX7_remove_2 : decode cX7_remove 2 = .ok (.invokevirtual 45, 3) := by decide +kernel
theorem dX7_remove_5 : decode cX7_remove 5 = .ok (.ifCond .ne 5, 3) := by decide +kernel
theorem dX7_remove_8 : decode cX7_remove 8 = .ok (.iconst (-1), 1) := by decide +kernel
theorem dX7_remove_9 : decode cX7_remove 9 = .ok (.ireturn, 1) := by decide +kernel
theorem dX7_remove_10 : decode cX7_remove 10 = .ok (.aload_n 0, 1) := by decide +kernel
theorem dX7_remove_11 : decode cX7_remove 11 = .ok (.invokevirtual 57, 3) := by decide +kernel
theorem dX7_remove_14 : decode cX7_remove 14 = .ok (.aload_n 0, 1) := by decide +kernel
theorem dX7_remove_15 : decode cX7_remove 15 = .ok (.getfield 7, 3) := by decide +kernel
theorem dX7_remove_18 : decode cX7_remove 18 = .ok (.bipush 40, 2) := by decide +kernel
theorem dX7_remove_20 : decode cX7_remove 20 = .ok (.dup2, 1) := by decide +kernel
theorem dX7_remove_21 : decode cX7_remove 21 = .ok (.iaload, 1) := by decide +kernel
theorem dX7_remove_22 : decode cX7_remove 22 = .ok (.iconst 1, 1) := by decide +kernel
theorem dX7_remove_23 : decode cX7_remove 23 = .ok (.isub, 1) := by decide +kernel
theorem dX7_remove_24 : decode cX7_remove 24 = .ok (.iastore, 1) := by decide +kernel
theorem dX7_remove_25 : decode cX7_remove 25 = .ok (.iload_n 1, 1) := by decide +kernel
theorem dX7_remove_26 : decode cX7_remove 26 = .ok (.istore_n 2, 1) := by decide +kernel
theorem dX7_remove_27 : decode cX7_remove 27 = .ok (.iload_n 2, 1) := by decide +kernel
theorem dX7_remove_28 : decode cX7_remove 28 = .ok (.aload_n 0, 1) := by decide +kernel
theorem dX7_remove_29 : decode cX7_remove 29 = .ok (.invokevirtual 37, 3) := by decide +kernel
theorem dX7_remove_32 : decode cX7_remove 32 = .ok (.if_icmp .ge 23, 3) := by decide +kernel
theorem dX7_remove_35 : decode cX7_remove 35 = .ok (.aload_n 0, 1) := by decide +kernel
theorem dX7_remove_36 : decode cX7_remove 36 = .ok (.getfield 7, 3) := by decide +kernel
theorem dX7_remove_39 : decode cX7_remove 39 = .ok (.iload_n 2, 1) := by decide +kernel
theorem dX7_remove_40 : decode cX7_remove 40 = .ok (.aload_n 0, 1) := by decide +kernel
theorem dX7_remove_41 : decode cX7_remove 41 = .ok (.getfield 7, 3) := by decide +kernel
theorem dX7_remove_44 : decode cX7_remove 44 = .ok (.iload_n 2, 1) := by decide +kernel
theorem dX7_remove_45 : decode cX7_remove 45 = .ok (.iconst 1, 1) := by decide +kernel
theorem dX7_remove_46 : decode cX7_remove 46 = .ok (.iadd, 1) := by decide +kernel
theorem dX7_remove_47 : decode cX7_remove 47 = .ok (.iaload, 1) := by decide +kernel
theorem dX7_remove_48 : decode cX7_remove 48 = .ok (.iastore, 1) := by decide +kernel
theorem dX7_remove_49 : decode cX7_remove 49 = .ok (.iinc 2 1, 3) := by decide +kernel
theorem dX7_remove_52 : decode cX7_remove 52 = .ok (.goto (-25), 3) := by decide +kernel
theorem dX7_remove_55 : decode cX7_remove 55 = .ok (.aload_n 0, 1) := by decide +kernel
theorem dX7_remove_56 : decode cX7_remove 56 = .ok (.iload_n 1, 1) := by decide +kernel
theorem dX7_remove_57 : decode cX7_remove 57 = .ok (.invokevirtual 53, 3) := by decide +kernel
theorem dX7_remove_60 : decode cX7_remove 60 = .ok (.ireturn, 1) := by decide +kernel
set_option maxRecDepth 20000 in
theorem ggX7_set_X7_isColumn : GoodIn wsX7_set wsX7_isColumn := goodIn_r _ [6, 7, 8, 9, 5, 10, 1, 11, 12, 13, 24, 25, 26, 27, 28, 29, 30, 31, 32, 33, 34, 35] (by decide +kernel) (by decide +kernel)
set_option maxRecDepth 20000 in
theorem gX7_set_X7_isColumn : GoodIn wsX7_set (wsV RX7 45 RX7 yX7_isColumn wsX7_isColumn) := goodIn_app (goodIn_of _ (by decide +kernel)) ggX7_set_X7_isColumn
set_option maxRecDepth 20000 in
theorem ggX7_set_X7_isIn : GoodIn wsX7_set wsX7_isIn := goodIn_r _ [13] (by decide +kernel) (by decide +kernel)
set_option maxRecDepth 20000 in
theorem gX7_set_X7_isIn : GoodIn wsX7_set (va_wsS RX7 41 yX7_isIn wsX7_isIn) := goodIn_app (goodIn_of _ (by decide +kernel)) ggX7_set_X7_isIn
set_option maxRecDepth 20000 in
theorem ggX7_set_X7_remember : GoodIn wsX7_set wsX7_remember := goodIn_r _ [17, 18, 19, 1, 24, 25, 26, 27, 28, 29, 30, 31, 32, 33, 34, 35] (by decide +kernel) (by decide +kernel)
set_option maxRecDepth 20000 in
theorem gX7_set_X7_remember : GoodIn wsX7_set (wsV RX7 57 RX7 yX7_remember wsX7_remember) := goodIn_app (goodIn_of _ (by decide +kernel)) ggX7_set_X7_remember
set_option maxRecDepth 20000 in
theorem ggX7_set_X7_before : GoodIn wsX7_set wsX7_before := goodIn_r _ [23, 19, 18, 24, 25, 26, 27, 28, 29, 30, 31, 32, 33, 34, 35] (by decide +kernel) (by decide +kernel)
set_option maxRecDepth 20000 in
theorem gX7_set_X7_before : GoodIn wsX7_set (wsV RX7 53 RX7 yX7_before wsX7_before) := goodIn_app (goodIn_of _ (by decide +kernel)) ggX7_set_X7_before
theorem dX7_set_0 : decode cX7_set 0 = .ok (.aload_n 0, 1) := by decide +kernel
theorem dX7_set_1 : decode cX7_set 1 = .ok (.iload_n 1, 1) := by decide +kernel
theorem dX7_set_2 : decode cX7_set 2 = .ok (.invokevirtual 45, 3) := by decide +kernel
theorem dX7_set_5 : decode cX7_set 5 = .ok (.ifCond .eq 13, 3) := by decide +kernel
theorem dX7_set_8 : decode cX7_set 8 = .ok (.iload_n 2, 1) := by decide +kernel
theorem dX7_set_9 : decode cX7_set 9 = .ok (.iconst 0, 1) := by decide +kernel
theorem dX7_set_10 : decode cX7_set 10 = .ok (.bipush 50, 2) := by decide +kernel
theorem dX7_set_12 : decode cX7_set 12 = .ok (.invokestatic 41, 3) := by decide +kernel
theorem dX7_set_15 : decode cX7_set 15 = .ok (.ifCond .ne 5, 3) := by decide +kernel
theorem dX7_set_18 : decode cX7_set 18 = .ok (.iconst (-1), 1) := by decide +kernel
theorem dX7_set_19 : decode cX7_set 19 = .ok (.ireturn, 1) := by decide +kernel
theorem dX7_set_20 : decode cX7_set 20 = .ok (.aload_n 0, 1) := by decide +kernel
theorem dX7_set_21 : decode cX7_set 21 = .ok (.invokevirtual 57, 3) := by decide +kernel
theorem dX7_set_24 : decode cX7_set 24 = .ok (.aload_n 0, 1) := by decide +kernel
theorem dX7_set_25 : decode cX7_set 25 = .ok (.getfield 7, 3) := by decide +kernel
theorem dX7_set_28 : decode cX7_set 28 = .ok (.iload_n 1, 1) := by decide +kernel
theorem dX7_set_29 : decode cX7_set 29 = .ok (.iload_n 2, 1) := by decide +kernel
theorem dX7_set_30 : decode cX7_set 30 = .ok (.iastore, 1) := by decide +kernel
theorem dX7_set_31 : decode cX7_set 31 = .ok (.aload_n 0, 1) := by decide +kernel
theorem dX7_set_32 : decode cX7_set 32 = .ok (.iload_n 1, 1) := by decide +kernel
theorem dX7_set_33 : decode cX7_set 33 = .ok (.invokevirtual 53, 3) := by decide +kernel
theorem dX7_set_36 : decode cX7_set 36 = .ok (.ireturn, 1) := by decide +kernel
theorem dX7_capped_0 : decode cX7_capped 0 = .ok (.iload_n 0, 1) := by decide +kernel
