theorem dX7_capped_1 : decode cX7_capped 1 = .ok (.ifCond .ge 7, 3) := by decide +kernel
theorem dX7_capped_4 : decode cX7_capped 4 = .ok (.iconst 0, 1) := by decide +kernel
theorem dX7_capped_5 : decode cX7_capped 5 = .ok (.goto 15, 3) := by decide +kernel
theorem dX7_capped_8 : decode cX7_capped 8 = .ok (.iload_n 0, 1) := by decide +kernel
theorem dX7_capped_9 : decode cX7_capped 9 = .ok (.bipush 50, 2) := by decide +kernel
theorem dX7_capped_11 : decode cX7_capped 11 = .ok (.if_icmp .le 8, 3) := by decide +kernel
theorem dX7_capped_14 : decode cX7_capped 14 = .ok (.bipush 50, 2) := by decide +kernel
theorem dX7_capped_16 : decode cX7_capped 16 = .ok (.goto 4, 3) := by decide +kernel
theorem dX7_capped_19 : decode cX7_capped 19 = .ok (.iload_n 0, 1) := by decide +kernel
theorem dX7_capped_20 : decode cX7_capped 20 = .ok (.ireturn, 1) := by decide +kernel
set_option maxRecDepth 20000 in
theorem ggX7_raise_X7_isRange : GoodIn wsX7_raise wsX7_isRange := goodIn_r _ [6, 7, 8, 9, 5, 10, 11, 12, 13, 14, 1, 15, 16, 17, 35, 36, 37, 38, 39, 40, 41, 42, 43, 44, 45, 46] (by decide +kernel) (by decide +kernel)
set_option maxRecDepth 20000 in
theorem gX7_raise_X7_isRange : GoodIn wsX7_raise (wsV RX7 60 RX7 yX7_isRange wsX7_isRange) := goodIn_app (goodIn_of _ (by decide +kernel)) ggX7_raise_X7_isRange
set_option maxRecDepth 20000 in
theorem ggX7_raise_X7_isIn : GoodIn wsX7_raise wsX7_isIn := goodIn_r _ [17] (by decide +kernel) (by decide +kernel)
set_option maxRecDepth 20000 in
theorem gX7_raise_X7_isIn : GoodIn wsX7_raise (va_wsS RX7 41 yX7_isIn wsX7_isIn) := goodIn_app (goodIn_of _ (by decide +kernel)) ggX7_raise_X7_isIn
set_option maxRecDepth 20000 in
theorem ggX7_raise_X7_remember : GoodIn wsX7_raise wsX7_remember := goodIn_r _ [21, 22, 23, 1, 35, 36, 37, 38, 39, 40, 41, 42, 43, 44, 45, 46] (by decide +kernel) (by decide +kernel)
set_option maxRecDepth 20000 in
theorem gX7_raise_X7_remember : GoodIn wsX7_raise (wsV RX7 57 RX7 yX7_remember wsX7_remember) := goodIn_app (goodIn_of _ (by decide +kernel)) ggX7_raise_X7_remember
set_option maxRecDepth 20000 in
theorem ggX7_raise_X7_capped : GoodIn wsX7_raise wsX7_capped := goodIn_r _ [26] (by decide +kernel) (by decide +kernel)
set_option maxRecDepth 20000 in
theorem gX7_raise_X7_capped : GoodIn wsX7_raise (va_wsS RX7 64 yX7_capped wsX7_capped) := goodIn_app (goodIn_of _ (by decide +kernel)) ggX7_raise_X7_capped
set_option maxRecDepth 20000 in
theorem ggX7_raise_X7_changed : GoodIn wsX7_raise wsX7_changed := goodIn_r _ [30, 1, 31, 32, 33, 5, 34, 23, 22, 35, 36, 37, 38, 39, 40, 41, 42, 43, 44, 45, 46] (by decide +kernel) (by decide +kernel)
set_option maxRecDepth 20000 in
theorem gX7_raise_X7_changed : GoodIn wsX7_raise (wsV RX7 67 RX7 yX7_changed wsX7_changed) := goodIn_app (goodIn_of _ (by decide +kernel)) ggX7_raise_X7_changed
theorem dX7_raise_0 : decode cX7_raise 0 = .ok (.aload_n 0, 1) := by decide +kernel
theorem dX7_raise_1 : decode cX7_raise 1 = .ok (.iload_n 1, 1) := by decide +kernel
theorem dX7_raise_2 : decode cX7_raise 2 = .ok (.iload_n 2, 1) := by decide +kernel
theorem dX7_raise_3 : decode cX7_raise 3 = .ok (.invokevirtual 60, 3) := by decide +kernel
theorem dX7_raise_6 : decode cX7_raise 6 = .ok (.ifCond .eq 14, 3) := by decide +kernel
theorem dX7_raise_9 : decode cX7_raise 9 = .ok (.iload_n 3, 1) := by decide +kernel
theorem dX7_raise_10 : decode cX7_raise 10 = .ok (.bipush (-50), 2) := by decide +kernel
theorem dX7_raise_12 : decode cX7_raise 12 = .ok (.bipush 50, 2) := by decide +kernel
theorem dX7_raise_14 : decode cX7_raise 14 = .ok (.invokestatic 41, 3) := by decide +kernel
theorem dX7_raise_17 : decode cX7_raise 17 = .ok (.ifCond .ne 5, 3) := by decide +kernel
theorem dX7_raise_20 : decode cX7_raise 20 = .ok (.iconst (-1), 1) := by decide +kernel
theorem dX7_raise_21 : decode cX7_raise 21 = .ok (.ireturn, 1) := by decide +kernel
theorem dX7_raise_22 : decode cX7_raise 22 = .ok (.aload_n 0, 1) := by decide +kernel
theorem dX7_raise_23 : decode cX7_raise 23 = .ok (.invokevirtual 57, 3) := by decide +kernel
theorem dX7_raise_26 : decode cX7_raise 26 = .ok (.iload_n 1, 1) := by decide +kernel
theorem dX7_raise_27 : decode cX7_raise 27 = .ok (.istore 4, 2) := by decide +kernel
theorem dX7_raise_29 : decode cX7_raise 29 = .ok (.iload 4, 2) := by decide +kernel
theorem dX7_raise_31 : decode cX7_raise 31 = .ok (.iload_n 2, 1) := by decide +kernel
theorem dX7_raise_32 : decode cX7_raise 32 = .ok (.if_icmp .gt 28, 3) := by decide +kernel
theorem dX7_raise_35 : decode cX7_raise 35 = .ok (.aload_n 0, 1) := by decide +kernel
theorem dX7_raise_36 : decode cX7_raise 36 = .ok (.getfield 7, 3) := by decide +kernel
theorem dX7_raise_39 : decode cX7_raise 39 = .ok (.iload 4, 2) := by decide +kernel
theorem dX7_raise_41 : decode cX7_raise 41 = .ok (.aload_n 0, 1) := by decide +kernel
theorem dX7_raise_42 : decode cX7_raise 42 = .ok (.getfield 7, 3) := by decide +kernel
theorem dX7_raise_45 : decode cX7_raise 45 = .ok (.iload 4, 2) := by decide +kernel
theorem dX7_raise_47 : decode cX7_raise 47 = .ok (.iaload, 1) := by decide +kernel
theorem dX7_raise_48 : decode cX7_raise 48 = .ok (.iload_n 3, 1) := by decide +kernel
theorem dX7_raise_49 : decode cX7_raise 49 = .ok (.iadd, 1) := by decide +kernel
theorem dX7_raise_50 : decode cX7_raise 50 = .ok (.invokestatic 64, 3) := by decide +kernel
theorem dX7_raise_53 : decode cX7_raise 53 = .ok (.iastore, 1) := by decide +kernel
theorem dX7_raise_54 : decode cX7_raise 54 = .ok (.iinc 4 1, 3) := by decide +kernel
theorem dX7_raise_57 : decode cX7_raise 57 = .ok (.goto (-28), 3) := by decide +kernel
theorem dX7_raise_60 : decode cX7_raise 60 = .ok (.aload_n 0, 1) := by decide +kernel
theorem dX7_raise_61 : decode cX7_raise 61 = .ok (.iload_n 1, 1) := by decide +kernel
theorem dX7_raise_62 : decode cX7_raise 62 = .ok (.iload_n 2, 1) := by decide +kernel
theorem dX7_raise_63 : decode cX7_raise 63 = .ok (.invokevirtual 67, 3) := by decide +kernel
theorem dX7_raise_66 : decode cX7_raise 66 = .ok (.ireturn, 1) := by decide +kernel
set_option maxRecDepth 20000 in
theorem ggX7_reverse_X7_isRange : GoodIn wsX7_reverse wsX7_isRange := goodIn_r _ [6, 7, 8, 9, 5, 10, 11, 12, 13, 14, 1, 15, 16, 17, 32, 33, 34, 35, 36, 37, 38, 39, 40, 41, 42, 43] (by decide +kernel) (by decide +kernel)
set_option maxRecDepth 20000 in
theorem gX7_reverse_X7_isRange : GoodIn wsX7_reverse (wsV RX7 60 RX7 yX7_isRange wsX7_isRange) := goodIn_app (goodIn_of _ (by decide +kernel)) ggX7_reverse_X7_isRange
set_option maxRecDepth 20000 in
theorem ggX7_reverse_X7_remember : GoodIn wsX7_reverse wsX7_remember := goodIn_r _ [21, 22, 23, 1, 32, 33, 34, 35, 36, 37, 38, 39, 40, 41, 42, 43] (by decide +kernel) (by decide +kernel)
set_option maxRecDepth 20000 in
theorem gX7_reverse_X7_remember : GoodIn wsX7_reverse (wsV RX7 57 RX7 yX7_remember wsX7_remember) := goodIn_app (goodIn_of _ (by decide +kernel)) ggX7_reverse_X7_remember
set_option maxRecDepth 20000 in
theorem ggX7_reverse_X7_before : GoodIn wsX7_reverse wsX7_before := goodIn_r _ [27, 23, 22, 32, 33, 34, 35, 36, 37, 38, 39, 40, 41, 42, 43] (by decide +kernel) (by decide +kernel)
set_option maxRecDepth 20000 in
theorem gX7_reverse_X7_before : GoodIn wsX7_reverse (wsV RX7 53 RX7 yX7_before wsX7_before) := goodIn_app (goodIn_of _ (by decide +kernel)) ggX7_reverse_X7_before
set_option maxRecDepth 20000 in
theorem ggX7_reverse_X7_changed : GoodIn wsX7_reverse wsX7_changed := goodIn_r _ [31, 1, 24, 25, 26, 5, 27, 23, 22, 32, 33, 34, 35, 36, 37, 38, 39, 40, 41, 42, 43] (by decide +kernel) (by decide +kernel)
set_option maxRecDepth 20000 in
theorem gX7_reverse_X7_changed : GoodIn wsX7_reverse (wsV RX7 67 RX7 yX7_changed wsX7_changed) := goodIn_app (goodIn_of _ (by decide +kernel)) ggX7_reverse_X7_changed
theorem dX7_reverse_0 : decode cX7_reverse 0 = .ok (.aload_n 0, 1) := by decide +kernel
theorem dX7_reverse_1 : decode cX7_reverse 1 = .ok (.iload_n 1, 1) := by decide +kernel
theorem dX7_reverse_2 : decode cX7_reverse 2 = .ok (.iload_n 2, 1) := by decide +kernel
theorem dX7_reverse_3 : decode cX7_reverse 3 = .ok (.invokevirtual 60, 3) := by decide +kernel
theorem dX7_reverse_6 : decode cX7_reverse 6 = .ok (.ifCond .ne 5, 3) := by decide +kernel
theorem dX7_reverse_9 : decode cX7_reverse 9 = .ok (.iconst (-1), 1) := by decide +kernel
theorem dX7_reverse_10 : decode cX7_reverse 10 = .ok (.ireturn, 1) := by decide +kernel
theorem dX7_reverse_11 : decode cX7_reverse 11 = .ok (.aload_n 0, 1) := by decide +kernel
theorem dX7_reverse_12 : decode cX7_reverse 12 = .ok (.invokevirtual 57, 3) := by decide +kernel
theorem dX7_reverse_15 : decode cX7_reverse 15 = .ok (.iload_n 1, 1) := by decide +kernel
theorem dX7_reverse_16 : decode cX7_reverse 16 = .ok (.istore_n 3, 1) := by decide +kernel
theorem dX7_reverse_17 : decode cX7_reverse 17 = .ok (.iload_n 3, 1) := by decide +kernel
theorem dX7_reverse_18 : decode cX7_reverse 18 = .ok (.iload_n 2, 1) := by decide +kernel
theorem dX7_reverse_19 : decode cX7_reverse 19 = .ok (.if_icmp .gt 24, 3) := by decide +kernel
theorem dX7_reverse_22 : decode cX7_reverse 22 = .ok (.aload_n 0, 1) := by decide +kernel
theorem dX7_reverse_23 : decode cX7_reverse 23 = .ok (.getfield 7, 3) := by decide +kernel
theorem dX7_reverse_26 : decode cX7_reverse 26 = .ok (.iload_n 3, 1) := by decide +kernel
theorem dX7_reverse_27 : decode cX7_reverse 27 = .ok (.aload_n 0, 1) := by decide +kernel
theorem dX7_reverse_28 : decode cX7_reverse 28 = .ok (.iload_n 1, 1) := by decide +kernel
theorem dX7_reverse_29 : decode cX7_reverse 29 = .ok (.iload_n 2, 1) := by decide +kernel
theorem dX7_reverse_30 : decode cX7_reverse 30 = .ok (.iadd, 1) := by decide +kernel
theorem dX7_reverse_31 : decode cX7_reverse 31 = .ok (.iload_n 3, 1) := by decide +kernel
theorem dX7_reverse_32 : decode cX7_reverse 32 = .ok (.isub, 1) := by decide +kernel
theorem dX7_reverse_33 : decode cX7_reverse 33 = .ok (.invokevirtual 53, 3) := by decide +kernel
theorem dX7_reverse_36 : decode cX7_reverse 36 = .ok (.iastore, 1) := by decide +kernel
theorem dX7_reverse_37 : decode cX7_reverse 37 = .ok (.iinc 3 1, 3) := by decide +kernel
theorem dX7_reverse_40 : decode cX7_reverse 40 = .ok (.goto (-23), 3) := by decide +kernel
theorem dX7_reverse_43 : decode cX7_reverse 43 = .ok (.aload_n 0, 1) := by decide +kernel
theorem dX7_reverse_44 : decode cX7_reverse 44 = .ok (.iload_n 1, 1) := by decide +kernel
theorem dX7_reverse_45 : decode cX7_reverse 45 = .ok (.iload_n 2, 1) := by decide +kernel
theorem dX7_reverse_46 : decode cX7_reverse 46 = .ok (.invokevirtual 67, 3) := by decide +kernel
theorem dX7_reverse_49 : decode cX7_reverse 49 = .ok (.ireturn, 1) := by decide +kernel
set_option maxRecDepth 20000 in
theorem ggX7_sort_X7_isRange : GoodIn wsX7_sort wsX7_isRange := goodIn_r _ [6, 7, 8, 9, 5, 10, 11, 12, 13, 14, 1, 15, 16, 17, 24, 25, 26, 27, 28, 29, 30, 31, 32, 33, 34, 35] (by decide +kernel) (by decide +kernel)
set_option maxRecDepth 20000 in
theorem gX7_sort_X7_isRange : GoodIn wsX7_sort (wsV RX7 60 RX7 yX7_isRange wsX7_isRange) := goodIn_app (goodIn_of _ (by decide +kernel)) ggX7_sort_X7_isRange
set_option maxRecDepth 20000 in
theorem ggX7_sort_X7_isIn : GoodIn wsX7_sort wsX7_isIn := goodIn_r _ [17] (by decide +kernel) (by decide +kernel)
set_option maxRecDepth 20000 in
theorem gX7_sort_X7_isIn : GoodIn wsX7_sort (va_wsS RX7 41 yX7_isIn wsX7_isIn) := goodIn_app (goodIn_of _ (by decide +kernel)) ggX7_sort_X7_isIn
set_option maxRecDepth 20000 in
theorem ggX7_sort_X7_remember : GoodIn wsX7_sort wsX7_remember := goodIn_r _ [21, 22, 23, 1, 24, 25, 26, 27, 28, 29, 30, 31, 32, 33, 34, 35] (by decide +kernel) (by decide +kernel)
set_option maxRecDepth 20000 in
theorem gX7_sort_X7_remember : GoodIn wsX7_sort (wsV RX7 57 RX7 yX7_remember wsX7_remember) := goodIn_app (goodIn_of _ (by decide +kernel)) ggX7_sort_X7_remember
theorem dX7_sort_0 : decode cX7_sort 0 = .ok (.aload_n 0, 1) := by decide +kernel
theorem dX7_sort_1 : decode cX7_sort 1 = .ok (.iload_n 1, 1) := by decide +kernel
theorem dX7_sort_2 : decode cX7_sort 2 = .ok (.iload_n 2, 1) := by decide +kernel
theorem dX7_sort_3 : decode cX7_sort 3 = .ok (.invokevirtual 60, 3) := by decide +kernel
theorem dX7_sort_6 : decode cX7_sort 6 = .ok (.ifCond .eq 12, 3) := by decide +kernel
theorem dX7_sort_9 : decode cX7_sort 9 = .ok (.iload_n 3, 1) := by decide +kernel
theorem dX7_sort_10 : decode cX7_sort 10 = .ok (.iconst 0, 1) := by decide +kernel
theorem dX7_sort_11 : decode cX7_sort 11 = .ok (.iconst 1, 1) := by decide +kernel
theorem dX7_sort_12 : decode cX7_sort 12 = .ok (.invokestatic 41, 3) := by decide +kernel
theorem dX7_sort_15 : decode cX7_sort 15 = .ok (.ifCond .ne 5, 3) := by decide +kernel
theorem dX7_sort_18 : decode cX7_sort 18 = .ok (.iconst (-1), 1) := by decide +kernel
theorem dX7_sort_19 : decode cX7_sort 19 = .ok (.ireturn, 1) := by decide +kernel
theorem dX7_sort_20 : decode cX7_sort 20 = .ok (.aload_n 0, 1) := by decide +kernel
theorem dX7_sort_21 : decode cX7_sort 21 = .ok (.invokevirtual 57, 3) := by decide +kernel
theorem dX7_sort_24 : decode cX7_sort 24 = .ok (.iconst 0, 1) := by decide +kernel
theorem dX7_sort_25 : decode cX7_sort 25 = .ok (.istore 4, 2) := by decide +kernel
theorem dX7_sort_27 : decode cX7_sort 27 = .ok (.iload_n 1, 1) := by decide +kernel
theorem dX7_sort_28 : decode cX7_sort 28 = .ok (.istore 5, 2) := by decide +kernel
theorem dX7_sort_30 : decode cX7_sort 30 = .ok (.iload 5, 2) := by decide +kernel
theorem dX7_sort_32 : decode cX7_sort 32 = .ok (.iload_n 2, 1) := by decide +kernel
theorem dX7_sort_33 : decode cX7_sort 33 = .ok (.if_icmp .gt 110, 3) := by decide +kernel
theorem dX7_sort_36 : decode cX7_sort 36 = .ok (.iload 5, 2) := by decide +kernel
theorem dX7_sort_38 : decode cX7_sort 38 = .ok (.istore 6, 2) := by decide +kernel
theorem dX7_sort_40 : decode cX7_sort 40 = .ok (.iload 6, 2) := by decide +kernel
theorem dX7_sort_42 : decode cX7_sort 42 = .ok (.iload_n 1, 1) := by decide +kernel
theorem dX7_sort_43 : decode cX7_sort 43 = .ok (.if_icmp .le 94, 3) := by decide +kernel
theorem dX7_sort_46 : decode cX7_sort 46 = .ok (.iload_n 3, 1) := by decide +kernel
theorem dX7_sort_47 : decode cX7_sort 47 = .ok (.iconst 1, 1) := by decide +kernel
theorem dX7_sort_48 : decode cX7_sort 48 = .ok (.if_icmp .ne 25, 3) := by decide +kernel
theorem dX7_sort_51 : decode cX7_sort 51 = .ok (.aload_n 0, 1) := by decide +kernel
theorem dX7_sort_52 : decode cX7_sort 52 = .ok (.getfield 7, 3) := by decide +kernel
theorem dX7_sort_55 : decode cX7_sort 55 = .ok (.iload 6, 2) := by decide +kernel
theorem dX7_sort_57 : decode cX7_sort 57 = .ok (.iconst 1, 1) := by decide +kernel
theorem dX7_sort_58 : decode cX7_sort 58 = .ok (.isub, 1) := by decide +kernel
theorem dX7_sort_59 : decode cX7_sort 59 = .ok (.iaload, 1) := by decide +kernel
theorem dX7_sort_60 : decode cX7_sort 60 = .ok (.aload_n 0, 1) := by decide +kernel
theorem dX7_sort_61 : decode cX7_sort 61 = .ok (.getfield 7, 3) := by decide +kernel
theorem dX7_sort_64 : decode cX7_sort 64 = .ok (.iload 6, 2) := by decide +kernel
theorem dX7_sort_66 : decode cX7_sort 66 = .ok (.iaload, 1) := by decide +kernel
theorem dX7_sort_67 : decode cX7_sort 67 = .ok (.if_icmp .le 70, 3) := by decide +kernel
theorem dX7_sort_70 : decode cX7_sort 70 = .ok (.goto 22, 3) := by decide +kernel
theorem dX7_sort_73 : decode cX7_sort 73 = .ok (.aload_n 0, 1) := by decide +kernel
theorem dX7_sort_74 : decode cX7_sort 74 = .ok (.getfield 7, 3) := by decide +kernel
theorem dX7_sort_77 : decode cX7_sort 77 = .ok (.iload 6, 2) := by decide +kernel
theorem dX7_sort_79 : decode cX7_sort 79 = .ok (.iconst 1, 1) := by decide +kernel
theorem dX7_sort_80 : decode cX7_sort 80 = .ok (.isub, 1) := by decide +kernel
theorem dX7_sort_81 : decode cX7_sort 81 = .ok (.iaload, 1) := by decide +kernel
theorem dX7_sort_82 : decode cX7_sort 82 = .ok (.aload_n 0, 1) := by decide +kernel
theorem dX7_sort_83 : decode cX7_sort 83 = .ok (.getfield 7, 3) := by decide +kernel
theorem dX7_sort_86 : decode cX7_sort 86 = .ok (.iload 6, 2) := by decide +kernel
theorem dX7_sort_88 : decode cX7_sort 88 = .ok (.iaload, 1) := by decide +kernel
theorem dX7_sort_89 : decode cX7_sort 89 = .ok (.if_icmp .ge 48, 3) := by decide +kernel
theorem dX7_sort_92 : decode cX7_sort 92 = .ok (.aload_n 0, 1) := by decide +kernel
theorem dX7_sort_93 : decode cX7_sort 93 = .ok (.getfield 7, 3) := by decide +kernel
theorem dX7_sort_96 : decode cX7_sort 96 = .ok (.iload 6, 2) := by decide +kernel
theorem dX7_sort_98 : decode cX7_sort 98 = .ok (.iaload, 1) := by decide +kernel
theorem dX7_sort_99 : decode cX7_sort 99 = .ok (.istore 7, 2) := by decide +kernel
theorem dX7_sort_101 : decode cX7_sort 101 = .ok (.aload_n 0, 1) := by decide +kernel
theorem dX7_sort_102 : decode cX7_sort 102 = .ok (.getfield 7, 3) := by decide +kernel
theorem dX7_sort_105 : decode cX7_sort 105 = .ok (.iload 6, 2) := by decide +kernel
theorem dX7_sort_107 : decode cX7_sort 107 = .ok (.aload_n 0, 1) := by decide +kernel
theorem dX7_sort_108 : decode cX7_sort 108 = .ok (.getfield 7, 3) := by decide +kernel
theorem dX7_sort_111 : decode cX7_sort 111 = .ok (.iload 6, 2) := by decide +kernel
theorem dX7_sort_113 : decode cX7_sort 113 = .ok (.iconst 1, 1) := by decide +kernel
theorem dX7_sort_114 : decode cX7_sort 114 = .ok (.isub, 1) := by decide +kernel
theorem dX7_sort_115 : decode cX7_sort 115 = .ok (.iaload, 1) := by decide +kernel
theorem dX7_sort_116 : decode cX7_sort 116 = .ok (.iastore, 1) := by decide +kernel
theorem dX7_sort_117 : decode cX7_sort 117 = .ok (.aload_n 0, 1) := by decide +kernel
theorem dX7_sort_118 : decode cX7_sort 118 = .ok (.getfield 7, 3) := by decide +kernel
theorem dX7_sort_121 : decode cX7_sort 121 = .ok (.iload 6, 2) := by decide +kernel
theorem dX7_sort_123 : decode cX7_sort 123 = .ok (.iconst 1, 1) := by decide +kernel
theorem dX7_sort_124 : decode cX7_sort 124 = .ok (.isub, 1) := by decide +kernel
theorem dX7_sort_125 : decode cX7_sort 125 = .ok (.iload 7, 2) := by decide +kernel
theorem dX7_sort_127 : decode cX7_sort 127 = .ok (.iastore, 1) := by decide +kernel
theorem dX7_sort_128 : decode cX7_sort 128 = .ok (.iinc 6 (-1), 3) := by decide +kernel
theorem dX7_sort_131 : decode cX7_sort 131 = .ok (.iinc 4 1, 3) := by decide +kernel
theorem dX7_sort_134 : decode cX7_sort 134 = .ok (.goto (-94), 3) := by decide +kernel
theorem dX7_sort_137 : decode cX7_sort 137 = .ok (.iinc 5 1, 3) := by decide +kernel
theorem dX7_sort_140 : decode cX7_sort 140 = .ok (.goto (-110), 3) := by decide +kernel
theorem dX7_sort_143 : decode cX7_sort 143 = .ok (.iload 4, 2) := by decide +kernel
theorem dX7_sort_145 : decode cX7_sort 145 = .ok (.ireturn, 1) := by decide +kernel
set_option maxRecDepth 20000 in
theorem ggX7_freeze_X7_remember : GoodIn wsX7_freeze wsX7_remember := goodIn_r _ [7, 8, 9, 2, 26, 27, 28, 29, 30, 31, 32, 33, 34, 35, 36, 37] (by decide +kernel) (by decide +kernel)
set_option maxRecDepth 20000 in
theorem gX7_freeze_X7_remember : GoodIn wsX7_freeze (wsV RX7 57 RX7 yX7_remember wsX7_remember) := goodIn_app (goodIn_of _ (by decide +kernel)) ggX7_freeze_X7_remember
set_option maxRecDepth 20000 in
theorem ggX7_freeze_X7_many : GoodIn wsX7_freeze wsX7_many := goodIn_r _ [13, 2, 26, 27, 28, 29, 30, 31, 32, 33, 34, 35, 36, 37] (by decide +kernel) (by decide +kernel)
set_option maxRecDepth 20000 in
theorem gX7_freeze_X7_many : GoodIn wsX7_freeze (wsV RX7 37 RX7 yX7_many wsX7_many) := goodIn_app (goodIn_of _ (by decide +kernel)) ggX7_freeze_X7_many
set_option maxRecDepth 20000 in
theorem ggX7_freeze_X7_water : GoodIn wsX7_freeze wsX7_water := goodIn_r _ [17, 18, 19, 20, 6, 21, 2, 22, 23, 24, 25, 26, 27, 28, 29, 30, 31, 32, 33, 34, 35, 36, 37] (by decide +kernel) (by decide +kernel)
set_option maxRecDepth 20000 in
theorem gX7_freeze_X7_water : GoodIn wsX7_freeze (wsV RX7 71 RX7 yX7_water wsX7_water) := goodIn_app (goodIn_of _ (by decide +kernel)) ggX7_freeze_X7_water
set_option maxRecDepth 20000 in
theorem ggX7_freeze_X7_depth : GoodIn wsX7_freeze wsX7_depth := goodIn_r _ [21, 2, 22, 23, 24, 6, 25, 26, 27, 28, 29, 30, 31, 32, 33, 34, 35, 36, 37] (by decide +kernel) (by decide +kernel)
set_option maxRecDepth 20000 in
theorem gX7_freeze_X7_depth : GoodIn wsX7_freeze (wsV RX7 74 RX7 yX7_depth wsX7_depth) := goodIn_app (goodIn_of _ (by decide +kernel)) ggX7_freeze_X7_depth
theorem dX7_freeze_0 : decode cX7_freeze 0 = .ok (.aload_n 0, 1) := by decide +kernel
theorem dX7_freeze_1 : decode cX7_freeze 1 = .ok (.invokevirtual 57, 3) := by decide +kernel
theorem dX7_freeze_4 : decode cX7_freeze 4 = .ok (.aload_n 0, 1) := by decide +kernel
theorem dX7_freeze_5 : decode cX7_freeze 5 = .ok (.iconst 0, 1) := by decide +kernel
theorem dX7_freeze_6 : decode cX7_freeze 6 = .ok (.aload_n 0, 1) := by decide +kernel
theorem dX7_freeze_7 : decode cX7_freeze 7 = .ok (.invokevirtual 37, 3) := by decide +kernel
theorem dX7_freeze_10 : decode cX7_freeze 10 = .ok (.iconst 1, 1) := by decide +kernel
theorem dX7_freeze_11 : decode cX7_freeze 11 = .ok (.isub, 1) := by decide +kernel
theorem dX7_freeze_12 : decode cX7_freeze 12 = .ok (.invokevirtual 71, 3) := by decide +kernel
theorem dX7_freeze_15 : decode cX7_freeze 15 = .ok (.istore_n 1, 1) := by decide +kernel
theorem dX7_freeze_16 : decode cX7_freeze 16 = .ok (.iconst 0, 1) := by decide +kernel
theorem dX7_freeze_17 : decode cX7_freeze 17 = .ok (.istore_n 2, 1) := by decide +kernel
theorem dX7_freeze_18 : decode cX7_freeze 18 = .ok (.iload_n 2, 1) := by decide +kernel
theorem dX7_freeze_19 : decode cX7_freeze 19 = .ok (.aload_n 0, 1) := by decide +kernel
theorem dX7_freeze_20 : decode cX7_freeze 20 = .ok (.invokevirtual 37, 3) := by decide +kernel
theorem dX7_freeze_23 : decode cX7_freeze 23 = .ok (.if_icmp .ge 27, 3) := by decide +kernel
theorem dX7_freeze_26 : decode cX7_freeze 26 = .ok (.aload_n 0, 1) := by decide +kernel
theorem dX7_freeze_27 : decode cX7_freeze 27 = .ok (.getfield 19, 3) := by decide +kernel
theorem dX7_freeze_30 : decode cX7_freeze 30 = .ok (.iload_n 2, 1) := by decide +kernel
theorem dX7_freeze_31 : decode cX7_freeze 31 = .ok (.aload_n 0, 1) := by decide +kernel
theorem dX7_freeze_32 : decode cX7_freeze 32 = .ok (.iconst 0, 1) := by decide +kernel
theorem dX7_freeze_33 : decode cX7_freeze 33 = .ok (.aload_n 0, 1) := by decide +kernel
theorem dX7_freeze_34 : decode cX7_freeze 34 = .ok (.invokevirtual 37, 3) := by decide +kernel
theorem dX7_freeze_37 : decode cX7_freeze 37 = .ok (.iconst 1, 1) := by decide +kernel
theorem dX7_freeze_38 : decode cX7_freeze 38 = .ok (.isub, 1) := by decide +kernel
theorem dX7_freeze_39 : decode cX7_freeze 39 = .ok (.iload_n 2, 1) := by decide +kernel
theorem dX7_freeze_40 : decode cX7_freeze 40 = .ok (.invokevirtual 74, 3) := by decide +kernel
theorem dX7_freeze_43 : decode cX7_freeze 43 = .ok (.iastore, 1) := by decide +kernel
theorem dX7_freeze_44 : decode cX7_freeze 44 = .ok (.iinc 2 1, 3) := by decide +kernel
theorem dX7_freeze_47 : decode cX7_freeze 47 = .ok (.goto (-29), 3) := by decide +kernel
theorem dX7_freeze_50 : decode cX7_freeze 50 = .ok (.iconst 0, 1) := by decide +kernel
theorem dX7_freeze_51 : decode cX7_freeze 51 = .ok (.istore_n 2, 1) := by decide +kernel
theorem dX7_freeze_52 : decode cX7_freeze 52 = .ok (.iload_n 2, 1) := by decide +kernel
theorem dX7_freeze_53 : decode cX7_freeze 53 = .ok (.aload_n 0, 1) := by decide +kernel
theorem dX7_freeze_54 : decode cX7_freeze 54 = .ok (.invokevirtual 37, 3) := by decide +kernel
theorem dX7_freeze_57 : decode cX7_freeze 57 = .ok (.if_icmp .ge 24, 3) := by decide +kernel
theorem dX7_freeze_60 : decode cX7_freeze 60 = .ok (.aload_n 0, 1) := by decide +kernel
theorem dX7_freeze_61 : decode cX7_freeze 61 = .ok (.getfield 7, 3) := by decide +kernel
theorem dX7_freeze_64 : decode cX7_freeze 64 = .ok (.iload_n 2, 1) := by decide +kernel
theorem dX7_freeze_65 : decode cX7_freeze 65 = .ok (.dup2, 1) := by decide +kernel
theorem dX7_freeze_66 : decode cX7_freeze 66 = .ok (.iaload, 1) := by decide +kernel
theorem dX7_freeze_67 : decode cX7_freeze 67 = .ok (.aload_n 0, 1) := by decide +kernel
theorem dX7_freeze_68 : decode cX7_freeze 68 = .ok (.getfield 19, 3) := by decide +kernel
theorem dX7_freeze_71 : decode cX7_freeze 71 = .ok (.iload_n 2, 1) := by decide +kernel
theorem dX7_freeze_72 : decode cX7_freeze 72 = .ok (.iaload, 1) := by decide +kernel
theorem dX7_freeze_73 : decode cX7_freeze 73 = .ok (.iadd, 1) := by decide +kernel
theorem dX7_freeze_74 : decode cX7_freeze 74 = .ok (.iastore, 1) := by decide +kernel
theorem dX7_freeze_75 : decode cX7_freeze 75 = .ok (.iinc 2 1, 3) := by decide +kernel
theorem dX7_freeze_78 : decode cX7_freeze 78 = .ok (.goto (-26), 3) := by decide +kernel
theorem dX7_freeze_81 : decode cX7_freeze 81 = .ok (.iload_n 1, 1) := by decide +kernel
theorem dX7_freeze_82 : decode cX7_freeze 82 = .ok (.ireturn, 1) := by decide +kernel
set_option maxRecDepth 20000 in
theorem ggX7_clear_X7_remember : GoodIn wsX7_clear wsX7_remember := goodIn_r _ [6, 7, 8, 1, 13, 14, 15, 16, 17, 18, 19, 20, 21, 22, 23, 24] (by decide +kernel) (by decide +kernel)
set_option maxRecDepth 20000 in
theorem gX7_clear_X7_remember : GoodIn wsX7_clear (wsV RX7 57 RX7 yX7_remember wsX7_remember) := goodIn_app (goodIn_of _ (by decide +kernel)) ggX7_clear_X7_remember
set_option maxRecDepth 20000 in
theorem ggX7_clear_X7_before : GoodIn wsX7_clear wsX7_before := goodIn_r _ [12, 8, 7, 13, 14, 15, 16, 17, 18, 19, 20, 21, 22, 23, 24] (by decide +kernel) (by decide +kernel)
set_option maxRecDepth 20000 in
theorem gX7_clear_X7_before : GoodIn wsX7_clear (wsV RX7 53 RX7 yX7_before wsX7_before) := goodIn_app (goodIn_of _ (by decide +kernel)) ggX7_clear_X7_before
theorem dX7_clear_0 : decode cX7_clear 0 = .ok (.aload_n 0, 1) := by decide +kernel
theorem dX7_clear_1 : decode cX7_clear 1 = .ok (.invokevirtual 57, 3) := by decide +kernel
theorem dX7_clear_4 : decode cX7_clear 4 = .ok (.aload_n 0, 1) := by decide +kernel
theorem dX7_clear_5 : decode cX7_clear 5 = .ok (.getfield 7, 3) := by decide +kernel
theorem dX7_clear_8 : decode cX7_clear 8 = .ok (.bipush 40, 2) := by decide +kernel
theorem dX7_clear_10 : decode cX7_clear 10 = .ok (.iconst 0, 1) := by decide +kernel
theorem dX7_clear_11 : decode cX7_clear 11 = .ok (.iastore, 1) := by decide +kernel
theorem dX7_clear_12 : decode cX7_clear 12 = .ok (.aload_n 0, 1) := by decide +kernel
theorem dX7_clear_13 : decode cX7_clear 13 = .ok (.bipush 40, 2) := by decide +kernel
theorem dX7_clear_15 : decode cX7_clear 15 = .ok (.invokevirtual 53, 3) := by decide +kernel
theorem dX7_clear_18 : decode cX7_clear 18 = .ok (.ireturn, 1) := by decide +kernel
theorem dX7_undo_0 : decode cX7_undo 0 = .ok (.aload_n 0, 1) := by decide +kernel
theorem dX7_undo_1 : decode cX7_undo 1 = .ok (.getfield 49, 3) := by decide +kernel
theorem dX7_undo_4 : decode cX7_undo 4 = .ok (.ifCond .ne 6, 3) := by decide +kernel
theorem dX7_undo_7 : decode cX7_undo 7 = .ok (.bipush (-2), 2) := by decide +kernel
theorem dX7_undo_9 : decode cX7_undo 9 = .ok (.ireturn, 1) := by decide +kernel
theorem dX7_undo_10 : decode cX7_undo 10 = .ok (.aload_n 0, 1) := by decide +kernel
theorem dX7_undo_11 : decode cX7_undo 11 = .ok (.dup, 1) := by decide +kernel
theorem dX7_undo_12 : decode cX7_undo 12 = .ok (.getfield 49, 3) := by decide +kernel
theorem dX7_undo_15 : decode cX7_undo 15 = .ok (.iconst 1, 1) := by decide +kernel
theorem dX7_undo_16 : decode cX7_undo 16 = .ok (.isub, 1) := by decide +kernel
theorem dX7_undo_17 : decode cX7_undo 17 = .ok (.putfield 49, 3) := by decide +kernel
theorem dX7_undo_20 : decode cX7_undo 20 = .ok (.iconst 0, 1) := by decide +kernel
theorem dX7_undo_21 : decode cX7_undo 21 = .ok (.istore_n 1, 1) := by decide +kernel
theorem dX7_undo_22 : decode cX7_undo 22 = .ok (.iload_n 1, 1) := by decide +kernel
theorem dX7_undo_23 : decode cX7_undo 23 = .ok (.bipush 41, 2) := by decide +kernel
theorem dX7_undo_25 : decode cX7_undo 25 = .ok (.if_icmp .ge 29, 3) := by decide +kernel
theorem dX7_undo_28 : decode cX7_undo 28 = .ok (.aload_n 0, 1) := by decide +kernel
theorem dX7_undo_29 : decode cX7_undo 29 = .ok (.getfield 7, 3) := by decide +kernel
theorem dX7_undo_32 : decode cX7_undo 32 = .ok (.iload_n 1, 1) := by decide +kernel
theorem dX7_undo_33 : decode cX7_undo 33 = .ok (.aload_n 0, 1) := by decide +kernel
theorem dX7_undo_34 : decode cX7_undo 34 = .ok (.getfield 13, 3) := by decide +kernel
theorem dX7_undo_37 : decode cX7_undo 37 = .ok (.bipush 41, 2) := by decide +kernel
theorem dX7_undo_39 : decode cX7_undo 39 = .ok (.aload_n 0, 1) := by decide +kernel
theorem dX7_undo_40 : decode cX7_undo 40 = .ok (.getfield 49, 3) := by decide +kernel
theorem dX7_undo_43 : decode cX7_undo 43 = .ok (.imul, 1) := by decide +kernel
theorem dX7_undo_44 : decode cX7_undo 44 = .ok (.iload_n 1, 1) := by decide +kernel
theorem dX7_undo_45 : decode cX7_undo 45 = .ok (.iadd, 1) := by decide +kernel
theorem dX7_undo_46 : decode cX7_undo 46 = .ok (.iaload, 1) := by decide +kernel
theorem dX7_undo_47 : decode cX7_undo 47 = .ok (.iastore, 1) := by decide +kernel
theorem dX7_undo_48 : decode cX7_undo 48 = .ok (.iinc 1 1, 3) := by decide +kernel
theorem dX7_undo_51 : decode cX7_undo 51 = .ok (.goto (-29), 3) := by decide +kernel
theorem dX7_undo_54 : decode cX7_undo 54 = .ok (.aload_n 0, 1) := by decide +kernel
theorem dX7_undo_55 : decode cX7_undo 55 = .ok (.getfield 49, 3) := by decide +kernel
theorem dX7_undo_58 : decode cX7_undo 58 = .ok (.ireturn, 1) := by decide +kernel
theorem dX7_least_0 : decode cX7_least 0 = .ok (.aload_n 0, 1) := by decide +kernel
theorem dX7_least_1 : decode cX7_least 1 = .ok (.getfield 7, 3) := by decide +kernel
theorem dX7_least_4 : decode cX7_least 4 = .ok (.iload_n 1, 1) := by decide +kernel
theorem dX7_least_5 : decode cX7_least 5 = .ok (.iaload, 1) := by decide +kernel
theorem dX7_least_6 : decode cX7_least 6 = .ok (.istore_n 3, 1) := by decide +kernel
theorem dX7_least_7 : decode cX7_least 7 = .ok (.iload_n 1, 1) := by decide +kernel
theorem dX7_least_8 : decode cX7_least 8 = .ok (.istore 4, 2) := by decide +kernel
theorem dX7_least_10 : decode cX7_least 10 = .ok (.iload 4, 2) := by decide +kernel
theorem dX7_least_12 : decode cX7_least 12 = .ok (.iload_n 2, 1) := by decide +kernel
theorem dX7_least_13 : decode cX7_least 13 = .ok (.if_icmp .gt 32, 3) := by decide +kernel
theorem dX7_least_16 : decode cX7_least 16 = .ok (.aload_n 0, 1) := by decide +kernel
theorem dX7_least_17 : decode cX7_least 17 = .ok (.getfield 7, 3) := by decide +kernel
theorem dX7_least_20 : decode cX7_least 20 = .ok (.iload 4, 2) := by decide +kernel
theorem dX7_least_22 : decode cX7_least 22 = .ok (.iaload, 1) := by decide +kernel
theorem dX7_least_23 : decode cX7_least 23 = .ok (.iload_n 3, 1) := by decide +kernel
theorem dX7_least_24 : decode cX7_least 24 = .ok (.if_icmp .ge 13, 3) := by decide +kernel
theorem dX7_least_27 : decode cX7_least 27 = .ok (.aload_n 0, 1) := by decide +kernel
theorem dX7_least_28 : decode cX7_least 28 = .ok (.getfield 7, 3) := by decide +kernel
theorem dX7_least_31 : decode cX7_least 31 = .ok (.iload 4, 2) := by decide +kernel
theorem dX7_least_33 : decode cX7_least 33 = .ok (.iaload, 1) := by decide +kernel
theorem dX7_least_34 : decode cX7_least 34 = .ok (.goto 4, 3) := by decide +kernel
theorem dX7_least_37 : decode cX7_least 37 = .ok (.iload_n 3, 1) := by decide +kernel
theorem dX7_least_38 : decode cX7_least 38 = .ok (.istore_n 3, 1) := by decide +kernel
theorem dX7_least_39 : decode cX7_least 39 = .ok (.iinc 4 1, 3) := by decide +kernel
theorem dX7_least_42 : decode cX7_least 42 = .ok (.goto (-32), 3) := by decide +kernel
theorem dX7_least_45 : decode cX7_least 45 = .ok (.iload_n 3, 1) := by decide +kernel
theorem dX7_least_46 : decode cX7_least 46 = .ok (.ireturn, 1) := by decide +kernel
theorem dX7_greatest_0 : decode cX7_greatest 0 = .ok (.aload_n 0, 1) := by decide +kernel
theorem dX7_greatest_1 : decode cX7_greatest 1 = .ok (.getfield 7, 3) := by decide +kernel
theorem dX7_greatest_4 : decode cX7_greatest 4 = .ok (.iload_n 1, 1) := by decide +kernel
theorem dX7_greatest_5 : decode cX7_greatest 5 = .ok (.iaload, 1) := by decide +kernel
theorem dX7_greatest_6 : decode cX7_greatest 6 = .ok (.istore_n 3, 1) := by decide +kernel
theorem dX7_greatest_7 : decode cX7_greatest 7 = .ok (.iload_n 1, 1) := by decide +kernel
theorem dX7_greatest_8 : decode cX7_greatest 8 = .ok (.istore 4, 2) := by decide +kernel
theorem dX7_greatest_10 : decode cX7_greatest 10 = .ok (.iload 4, 2) := by decide +kernel
theorem dX7_greatest_12 : decode cX7_greatest 12 = .ok (.iload_n 2, 1) := by decide +kernel
theorem dX7_greatest_13 : decode cX7_greatest 13 = .ok (.if_icmp .gt 32, 3) := by decide +kernel
theorem dX7_greatest_16 : decode cX7_greatest 16 = .ok (.aload_n 0, 1) := by decide +kernel
theorem dX7_greatest_17 : decode cX7_greatest 17 = .ok (.getfield 7, 3) := by decide +kernel
theorem dX7_greatest_20 : decode cX7_greatest 20 = .ok (.iload 4, 2) := by decide +kernel
theorem dX7_greatest_22 : decode cX7_greatest 22 = .ok (.iaload, 1) := by decide +kernel
theorem dX7_greatest_23 : decode cX7_greatest 23 = .ok (.iload_n 3, 1) := by decide +kernel
theorem dX7_greatest_24 : decode cX7_greatest 24 = .ok (.if_icmp .le 13, 3) := by decide +kernel
theorem dX7_greatest_27 : decode cX7_greatest 27 = .ok (.aload_n 0, 1) := by decide +kernel
theorem dX7_greatest_28 : decode cX7_greatest 28 = .ok (.getfield 7, 3) := by decide +kernel
theorem dX7_greatest_31 : decode cX7_greatest 31 = .ok (.iload 4, 2) := by decide +kernel
theorem dX7_greatest_33 : decode cX7_greatest 33 = .ok (.iaload, 1) := by decide +kernel
theorem dX7_greatest_34 : decode cX7_greatest 34 = .ok (.goto 4, 3) := by decide +kernel
theorem dX7_greatest_37 : decode cX7_greatest 37 = .ok (.iload_n 3, 1) := by decide +kernel
theorem dX7_greatest_38 : decode cX7_greatest 38 = .ok (.istore_n 3, 1) := by decide +kernel
theorem dX7_greatest_39 : decode cX7_greatest 39 = .ok (.iinc 4 1, 3) := by decide +kernel
theorem dX7_greatest_42 : decode cX7_greatest 42 = .ok (.goto (-32), 3) := by decide +kernel
theorem dX7_greatest_45 : decode cX7_greatest 45 = .ok (.iload_n 3, 1) := by decide +kernel
theorem dX7_greatest_46 : decode cX7_greatest 46 = .ok (.ireturn, 1) := by decide +kernel
theorem dX7_firstWith_0 : decode cX7_firstWith 0 = .ok (.iload_n 1, 1) := by decide +kernel
theorem dX7_firstWith_1 : decode cX7_firstWith 1 = .ok (.istore_n 3, 1) := by decide +kernel
theorem dX7_firstWith_2 : decode cX7_firstWith 2 = .ok (.aload_n 0, 1) := by decide +kernel
theorem dX7_firstWith_3 : decode cX7_firstWith 3 = .ok (.getfield 7, 3) := by decide +kernel
theorem dX7_firstWith_6 : decode cX7_firstWith 6 = .ok (.iload_n 3, 1) := by decide +kernel
theorem dX7_firstWith_7 : decode cX7_firstWith 7 = .ok (.iaload, 1) := by decide +kernel
theorem dX7_firstWith_8 : decode cX7_firstWith 8 = .ok (.iload_n 2, 1) := by decide +kernel
theorem dX7_firstWith_9 : decode cX7_firstWith 9 = .ok (.if_icmp .eq 9, 3) := by decide +kernel
theorem dX7_firstWith_12 : decode cX7_firstWith 12 = .ok (.iinc 3 1, 3) := by decide +kernel
theorem dX7_firstWith_15 : decode cX7_firstWith 15 = .ok (.goto (-13), 3) := by decide +kernel
theorem dX7_firstWith_18 : decode cX7_firstWith 18 = .ok (.iload_n 3, 1) := by decide +kernel
theorem dX7_firstWith_19 : decode cX7_firstWith 19 = .ok (.ireturn, 1) := by decide +kernel
theorem dX7_sum_0 : decode cX7_sum 0 = .ok (.iconst 0, 1) := by decide +kernel
theorem dX7_sum_1 : decode cX7_sum 1 = .ok (.istore_n 3, 1) := by decide +kernel
theorem dX7_sum_2 : decode cX7_sum 2 = .ok (.iload_n 1, 1) := by decide +kernel
theorem dX7_sum_3 : decode cX7_sum 3 = .ok (.istore 4, 2) := by decide +kernel
theorem dX7_sum_5 : decode cX7_sum 5 = .ok (.iload 4, 2) := by decide +kernel
theorem dX7_sum_7 : decode cX7_sum 7 = .ok (.iload_n 2, 1) := by decide +kernel
theorem dX7_sum_8 : decode cX7_sum 8 = .ok (.if_icmp .gt 19, 3) := by decide +kernel
theorem dX7_sum_11 : decode cX7_sum 11 = .ok (.iload_n 3, 1) := by decide +kernel
theorem dX7_sum_12 : decode cX7_sum 12 = .ok (.aload_n 0, 1) := by decide +kernel
theorem dX7_sum_13 : decode cX7_sum 13 = .ok (.getfield 7, 3) := by decide +kernel
theorem dX7_sum_16 : decode cX7_sum 16 = .ok (.iload 4, 2) := by decide +kernel
theorem dX7_sum_18 : decode cX7_sum 18 = .ok (.iaload, 1) := by decide +kernel
theorem dX7_sum_19 : decode cX7_sum 19 = .ok (.iadd, 1) := by decide +kernel
theorem dX7_sum_20 : decode cX7_sum 20 = .ok (.istore_n 3, 1) := by decide +kernel
theorem dX7_sum_21 : decode cX7_sum 21 = .ok (.iinc 4 1, 3) := by decide +kernel
theorem dX7_sum_24 : decode cX7_sum 24 = .ok (.goto (-19), 3) := by decide +kernel
theorem dX7_sum_27 : decode cX7_sum 27 = .ok (.iload_n 3, 1) := by decide +kernel
theorem dX7_sum_28 : decode cX7_sum 28 = .ok (.ireturn, 1) := by decide +kernel
set_option maxRecDepth 20000 in
theorem ggX7_depth_X7_greatest : GoodIn wsX7_depth wsX7_greatest := goodIn_r _ [6, 1, 7, 8, 9, 10, 11, 12, 13, 14, 15, 16, 17, 18] (by decide +kernel) (by decide +kernel)
set_option maxRecDepth 20000 in
theorem gX7_depth_X7_greatest : GoodIn wsX7_depth (wsV RX7 78 RX7 yX7_greatest wsX7_greatest) := goodIn_app (goodIn_of _ (by decide +kernel)) ggX7_depth_X7_greatest
theorem dX7_depth_0 : decode cX7_depth 0 = .ok (.aload_n 0, 1) := by decide +kernel
theorem dX7_depth_1 : decode cX7_depth 1 = .ok (.iload_n 1, 1) := by decide +kernel
theorem dX7_depth_2 : decode cX7_depth 2 = .ok (.iload_n 3, 1) := by decide +kernel
theorem dX7_depth_3 : decode cX7_depth 3 = .ok (.invokevirtual 78, 3) := by decide +kernel
theorem dX7_depth_6 : decode cX7_depth 6 = .ok (.istore 4, 2) := by decide +kernel
theorem dX7_depth_8 : decode cX7_depth 8 = .ok (.aload_n 0, 1) := by decide +kernel
theorem dX7_depth_9 : decode cX7_depth 9 = .ok (.iload_n 3, 1) := by decide +kernel
theorem dX7_depth_10 : decode cX7_depth 10 = .ok (.iload_n 2, 1) := by decide +kernel
theorem dX7_depth_11 : decode cX7_depth 11 = .ok (.invokevirtual 78, 3) := by decide +kernel
theorem dX7_depth_14 : decode cX7_depth 14 = .ok (.istore 5, 2) := by decide +kernel
theorem dX7_depth_16 : decode cX7_depth 16 = .ok (.iload 4, 2) := by decide +kernel
theorem dX7_depth_18 : decode cX7_depth 18 = .ok (.iload 5, 2) := by decide +kernel
theorem dX7_depth_20 : decode cX7_depth 20 = .ok (.if_icmp .ge 8, 3) := by decide +kernel
theorem dX7_depth_23 : decode cX7_depth 23 = .ok (.iload 4, 2) := by decide +kernel
theorem dX7_depth_25 : decode cX7_depth 25 = .ok (.goto 5, 3) := by decide +kernel
theorem dX7_depth_28 : decode cX7_depth 28 = .ok (.iload 5, 2) := by decide +kernel
theorem dX7_depth_30 : decode cX7_depth 30 = .ok (.aload_n 0, 1) := by decide +kernel
theorem dX7_depth_31 : decode cX7_depth 31 = .ok (.getfield 7, 3) := by decide +kernel
theorem dX7_depth_34 : decode cX7_depth 34 = .ok (.iload_n 3, 1) := by decide +kernel
theorem dX7_depth_35 : decode cX7_depth 35 = .ok (.iaload, 1) := by decide +kernel
theorem dX7_depth_36 : decode cX7_depth 36 = .ok (.isub, 1) := by decide +kernel
theorem dX7_depth_37 : decode cX7_depth 37 = .ok (.ireturn, 1) := by decide +kernel
set_option maxRecDepth 20000 in
theorem ggX7_water_X7_depth : GoodIn wsX7_water wsX7_depth := goodIn_r _ [5, 6, 7, 8, 9, 4, 10, 11, 12, 13, 14, 15, 16, 17, 18, 19, 20, 21, 22] (by decide +kernel) (by decide +kernel)
set_option maxRecDepth 20000 in
theorem gX7_water_X7_depth : GoodIn wsX7_water (wsV RX7 74 RX7 yX7_depth wsX7_depth) := goodIn_app (goodIn_of _ (by decide +kernel)) ggX7_water_X7_depth
theorem dX7_water_0 : decode cX7_water 0 = .ok (.iconst 0, 1) := by decide +kernel
theorem dX7_water_1 : decode cX7_water 1 = .ok (.istore_n 3, 1) := by decide +kernel
theorem dX7_water_2 : decode cX7_water 2 = .ok (.iload_n 1, 1) := by decide +kernel
theorem dX7_water_3 : decode cX7_water 3 = .ok (.istore 4, 2) := by decide +kernel
theorem dX7_water_5 : decode cX7_water 5 = .ok (.iload 4, 2) := by decide +kernel
theorem dX7_water_7 : decode cX7_water 7 = .ok (.iload_n 2, 1) := by decide +kernel
theorem dX7_water_8 : decode cX7_water 8 = .ok (.if_icmp .gt 20, 3) := by decide +kernel
theorem dX7_water_11 : decode cX7_water 11 = .ok (.iload_n 3, 1) := by decide +kernel
theorem dX7_water_12 : decode cX7_water 12 = .ok (.aload_n 0, 1) := by decide +kernel
theorem dX7_water_13 : decode cX7_water 13 = .ok (.iload_n 1, 1) := by decide +kernel
theorem dX7_water_14 : decode cX7_water 14 = .ok (.iload_n 2, 1) := by decide +kernel
theorem dX7_water_15 : decode cX7_water 15 = .ok (.iload 4, 2) := by decide +kernel
theorem dX7_water_17 : decode cX7_water 17 = .ok (.invokevirtual 74, 3) := by decide +kernel
theorem dX7_water_20 : decode cX7_water 20 = .ok (.iadd, 1) := by decide +kernel
theorem dX7_water_21 : decode cX7_water 21 = .ok (.istore_n 3, 1) := by decide +kernel
theorem dX7_water_22 : decode cX7_water 22 = .ok (.iinc 4 1, 3) := by decide +kernel
theorem dX7_water_25 : decode cX7_water 25 = .ok (.goto (-20), 3) := by decide +kernel
theorem dX7_water_28 : decode cX7_water 28 = .ok (.iload_n 3, 1) := by decide +kernel
theorem dX7_water_29 : decode cX7_water 29 = .ok (.ireturn, 1) := by decide +kernel
set_option maxRecDepth 20000 in
theorem ggX7_isWet_X7_isColumn : GoodIn wsX7_isWet wsX7_isColumn := goodIn_r _ [5, 6, 7, 8, 4, 9, 10, 11, 12, 13, 22, 23, 24, 25, 26, 27, 28, 29, 30, 31, 32, 33] (by decide +kernel) (by decide +kernel)
set_option maxRecDepth 20000 in
theorem gX7_isWet_X7_isColumn : GoodIn wsX7_isWet (wsV RX7 45 RX7 yX7_isColumn wsX7_isColumn) := goodIn_app (goodIn_of _ (by decide +kernel)) ggX7_isWet_X7_isColumn
set_option maxRecDepth 20000 in
theorem ggX7_isWet_X7_many : GoodIn wsX7_isWet wsX7_many := goodIn_r _ [9, 10, 22, 23, 24, 25, 26, 27, 28, 29, 30, 31, 32, 33] (by decide +kernel) (by decide +kernel)
set_option maxRecDepth 20000 in
theorem gX7_isWet_X7_many : GoodIn wsX7_isWet (wsV RX7 37 RX7 yX7_many wsX7_many) := goodIn_app (goodIn_of _ (by decide +kernel)) ggX7_isWet_X7_many
set_option maxRecDepth 20000 in
theorem ggX7_isWet_X7_depth : GoodIn wsX7_isWet wsX7_depth := goodIn_r _ [17, 10, 18, 19, 20, 4, 21, 22, 23, 24, 25, 26, 27, 28, 29, 30, 31, 32, 33] (by decide +kernel) (by decide +kernel)
set_option maxRecDepth 20000 in
theorem gX7_isWet_X7_depth : GoodIn wsX7_isWet (wsV RX7 74 RX7 yX7_depth wsX7_depth) := goodIn_app (goodIn_of _ (by decide +kernel)) ggX7_isWet_X7_depth
theorem dX7_isWet_0 : decode cX7_isWet 0 = .ok (.aload_n 0, 1) := by decide +kernel
theorem dX7_isWet_1 : decode cX7_isWet 1 = .ok (.iload_n 1, 1) := by decide +kernel
theorem dX7_isWet_2 : decode cX7_isWet 2 = .ok (.invokevirtual 45, 3) := by decide +kernel
theorem dX7_isWet_5 : decode cX7_isWet 5 = .ok (.ifCond .eq 22, 3) := by decide +kernel
theorem dX7_isWet_8 : decode cX7_isWet 8 = .ok (.aload_n 0, 1) := by decide +kernel
theorem dX7_isWet_9 : decode cX7_isWet 9 = .ok (.iconst 0, 1) := by decide +kernel
theorem dX7_isWet_10 : decode cX7_isWet 10 = .ok (.aload_n 0, 1) := by decide +kernel
theorem dX7_isWet_11 : decode cX7_isWet 11 = .ok (.invokevirtual 37, 3) := by decide +kernel
theorem dX7_isWet_14 : decode cX7_isWet 14 = .ok (.iconst 1, 1) := by decide +kernel
theorem dX7_isWet_15 : decode cX7_isWet 15 = .ok (.isub, 1) := by decide +kernel
theorem dX7_isWet_16 : decode cX7_isWet 16 = .ok (.iload_n 1, 1) := by decide +kernel
theorem dX7_isWet_17 : decode cX7_isWet 17 = .ok (.invokevirtual 74, 3) := by decide +kernel
theorem dX7_isWet_20 : decode cX7_isWet 20 = .ok (.ifCond .le 7, 3) := by decide +kernel
theorem dX7_isWet_23 : decode cX7_isWet 23 = .ok (.iconst 1, 1) := by decide +kernel
theorem dX7_isWet_24 : decode cX7_isWet 24 = .ok (.goto 4, 3) := by decide +kernel
theorem dX7_isWet_27 : decode cX7_isWet 27 = .ok (.iconst 0, 1) := by decide +kernel
theorem dX7_isWet_28 : decode cX7_isWet 28 = .ok (.ireturn, 1) := by decide +kernel
set_option maxRecDepth 20000 in
theorem ggX7_beginsPool_X7_isWet : GoodIn wsX7_beginsPool wsX7_isWet := goodIn_r _ [5, 6, 7, 8, 4, 9, 10, 11, 12, 13, 14, 15, 16, 17, 18, 19, 20, 21, 22, 23, 24, 25, 26, 27, 28, 29, 30, 31, 32, 33, 34, 35, 36, 37] (by decide +kernel) (by decide +kernel)
set_option maxRecDepth 20000 in
theorem gX7_beginsPool_X7_isWet : GoodIn wsX7_beginsPool (wsV RX7 81 RX7 yX7_isWet wsX7_isWet) := goodIn_app (goodIn_of _ (by decide +kernel)) ggX7_beginsPool_X7_isWet
theorem dX7_beginsPool_0 : decode cX7_beginsPool 0 = .ok (.aload_n 0, 1) := by decide +kernel
theorem dX7_beginsPool_1 : decode cX7_beginsPool 1 = .ok (.iload_n 1, 1) := by decide +kernel
theorem dX7_beginsPool_2 : decode cX7_beginsPool 2 = .ok (.invokevirtual 81, 3) := by decide +kernel
theorem dX7_beginsPool_5 : decode cX7_beginsPool 5 = .ok (.ifCond .eq 17, 3) := by decide +kernel
theorem dX7_beginsPool_8 : decode cX7_beginsPool 8 = .ok (.aload_n 0, 1) := by decide +kernel
theorem dX7_beginsPool_9 : decode cX7_beginsPool 9 = .ok (.iload_n 1, 1) := by decide +kernel
theorem dX7_beginsPool_10 : decode cX7_beginsPool 10 = .ok (.iconst 1, 1) := by decide +kernel
theorem dX7_beginsPool_11 : decode cX7_beginsPool 11 = .ok (.isub, 1) := by decide +kernel
theorem dX7_beginsPool_12 : decode cX7_beginsPool 12 = .ok (.invokevirtual 81, 3) := by decide +kernel
theorem dX7_beginsPool_15 : decode cX7_beginsPool 15 = .ok (.ifCond .ne 7, 3) := by decide +kernel
theorem dX7_beginsPool_18 : decode cX7_beginsPool 18 = .ok (.iconst 1, 1) := by decide +kernel
theorem dX7_beginsPool_19 : decode cX7_beginsPool 19 = .ok (.goto 4, 3) := by decide +kernel
theorem dX7_beginsPool_22 : decode cX7_beginsPool 22 = .ok (.iconst 0, 1) := by decide +kernel
theorem dX7_beginsPool_23 : decode cX7_beginsPool 23 = .ok (.ireturn, 1) := by decide +kernel
set_option maxRecDepth 20000 in
theorem ggX7_pools_X7_many : GoodIn wsX7_pools wsX7_many := goodIn_r _ [5, 6, 30, 31, 32, 33, 34, 35, 36, 37, 38, 39, 40, 41] (by decide +kernel) (by decide +kernel)
set_option maxRecDepth 20000 in
theorem gX7_pools_X7_many : GoodIn wsX7_pools (wsV RX7 37 RX7 yX7_many wsX7_many) := goodIn_app (goodIn_of _ (by decide +kernel)) ggX7_pools_X7_many
set_option maxRecDepth 20000 in
theorem ggX7_pools_X7_beginsPool : GoodIn wsX7_pools wsX7_beginsPool := goodIn_r _ [10, 11, 12, 13, 4, 14, 15, 16, 17, 18, 1, 2, 3, 5, 6, 19, 20, 21, 22, 23, 24, 25, 26, 27, 28, 29, 30, 31, 32, 33, 34, 35, 36, 37, 38, 39, 40, 41] (by decide +kernel) (by decide +kernel)
set_option maxRecDepth 20000 in
theorem gX7_pools_X7_beginsPool : GoodIn wsX7_pools (wsV RX7 84 RX7 yX7_beginsPool wsX7_beginsPool) := goodIn_app (goodIn_of _ (by decide +kernel)) ggX7_pools_X7_beginsPool
theorem dX7_pools_0 : decode cX7_pools 0 = .ok (.iconst 0, 1) := by decide +kernel
theorem dX7_pools_1 : decode cX7_pools 1 = .ok (.istore_n 1, 1) := by decide +kernel
theorem dX7_pools_2 : decode cX7_pools 2 = .ok (.iconst 0, 1) := by decide +kernel
theorem dX7_pools_3 : decode cX7_pools 3 = .ok (.istore_n 2, 1) := by decide +kernel
theorem dX7_pools_4 : decode cX7_pools 4 = .ok (.iload_n 2, 1) := by decide +kernel
theorem dX7_pools_5 : decode cX7_pools 5 = .ok (.aload_n 0, 1) := by decide +kernel
theorem dX7_pools_6 : decode cX7_pools 6 = .ok (.invokevirtual 37, 3) := by decide +kernel
theorem dX7_pools_9 : decode cX7_pools 9 = .ok (.if_icmp .ge 25, 3) := by decide +kernel
theorem dX7_pools_12 : decode cX7_pools 12 = .ok (.iload_n 1, 1) := by decide +kernel
theorem dX7_pools_13 : decode cX7_pools 13 = .ok (.aload_n 0, 1) := by decide +kernel
theorem dX7_pools_14 : decode cX7_pools 14 = .ok (.iload_n 2, 1) := by decide +kernel
theorem dX7_pools_15 : decode cX7_pools 15 = .ok (.invokevirtual 84, 3) := by decide +kernel
theorem dX7_pools_18 : decode cX7_pools 18 = .ok (.ifCond .eq 7, 3) := by decide +kernel
theorem dX7_pools_21 : decode cX7_pools 21 = .ok (.iconst 1, 1) := by decide +kernel
theorem dX7_pools_22 : decode cX7_pools 22 = .ok (.goto 4, 3) := by decide +kernel
theorem dX7_pools_25 : decode cX7_pools 25 = .ok (.iconst 0, 1) := by decide +kernel
theorem dX7_pools_26 : decode cX7_pools 26 = .ok (.iadd, 1) := by decide +kernel
theorem dX7_pools_27 : decode cX7_pools 27 = .ok (.istore_n 1, 1) := by decide +kernel
theorem dX7_pools_28 : decode cX7_pools 28 = .ok (.iinc 2 1, 3) := by decide +kernel
theorem dX7_pools_31 : decode cX7_pools 31 = .ok (.goto (-27), 3) := by decide +kernel
theorem dX7_pools_34 : decode cX7_pools 34 = .ok (.iload_n 1, 1) := by decide +kernel
theorem dX7_pools_35 : decode cX7_pools 35 = .ok (.ireturn, 1) := by decide +kernel
set_option maxRecDepth 20000 in
theorem ggX7_isMaximal_X7_least : GoodIn wsX7_isMaximal wsX7_least := goodIn_r _ [6, 1, 11, 12, 13, 14, 15, 16, 17, 18, 19, 20, 21, 22] (by decide +kernel) (by decide +kernel)
set_option maxRecDepth 20000 in
theorem gX7_isMaximal_X7_least : GoodIn wsX7_isMaximal (wsV RX7 87 RX7 yX7_least wsX7_least) := goodIn_app (goodIn_of _ (by decide +kernel)) ggX7_isMaximal_X7_least
set_option maxRecDepth 20000 in
theorem ggX7_isMaximal_X7_many : GoodIn wsX7_isMaximal wsX7_many := goodIn_r _ [10, 1, 11, 12, 13, 14, 15, 16, 17, 18, 19, 20, 21, 22] (by decide +kernel) (by decide +kernel)
set_option maxRecDepth 20000 in
theorem gX7_isMaximal_X7_many : GoodIn wsX7_isMaximal (wsV RX7 37 RX7 yX7_many wsX7_many) := goodIn_app (goodIn_of _ (by decide +kernel)) ggX7_isMaximal_X7_many
theorem dX7_isMaximal_0 : decode cX7_isMaximal 0 = .ok (.aload_n 0, 1) := by decide +kernel
theorem dX7_isMaximal_1 : decode cX7_isMaximal 1 = .ok (.iload_n 1, 1) := by decide +kernel
theorem dX7_isMaximal_2 : decode cX7_isMaximal 2 = .ok (.iload_n 2, 1) := by decide +kernel
theorem dX7_isMaximal_3 : decode cX7_isMaximal 3 = .ok (.invokevirtual 87, 3) := by decide +kernel
theorem dX7_isMaximal_6 : decode cX7_isMaximal 6 = .ok (.istore_n 3, 1) := by decide +kernel
theorem dX7_isMaximal_7 : decode cX7_isMaximal 7 = .ok (.iload_n 1, 1) := by decide +kernel
theorem dX7_isMaximal_8 : decode cX7_isMaximal 8 = .ok (.ifCond .eq 15, 3) := by decide +kernel
theorem dX7_isMaximal_11 : decode cX7_isMaximal 11 = .ok (.aload_n 0, 1) := by decide +kernel
theorem dX7_isMaximal_12 : decode cX7_isMaximal 12 = .ok (.getfield 7, 3) := by decide +kernel
theorem dX7_isMaximal_15 : decode cX7_isMaximal 15 = .ok (.iload_n 1, 1) := by decide +kernel
theorem dX7_isMaximal_16 : decode cX7_isMaximal 16 = .ok (.iconst 1, 1) := by decide +kernel
theorem dX7_isMaximal_17 : decode cX7_isMaximal 17 = .ok (.isub, 1) := by decide +kernel
theorem dX7_isMaximal_18 : decode cX7_isMaximal 18 = .ok (.iaload, 1) := by decide +kernel
theorem dX7_isMaximal_19 : decode cX7_isMaximal 19 = .ok (.iload_n 3, 1) := by decide +kernel
theorem dX7_isMaximal_20 : decode cX7_isMaximal 20 = .ok (.if_icmp .ge 7, 3) := by decide +kernel
theorem dX7_isMaximal_23 : decode cX7_isMaximal 23 = .ok (.iconst 1, 1) := by decide +kernel
theorem dX7_isMaximal_24 : decode cX7_isMaximal 24 = .ok (.goto 4, 3) := by decide +kernel
theorem dX7_isMaximal_27 : decode cX7_isMaximal 27 = .ok (.iconst 0, 1) := by decide +kernel
theorem dX7_isMaximal_28 : decode cX7_isMaximal 28 = .ok (.istore 4, 2) := by decide +kernel
theorem dX7_isMaximal_30 : decode cX7_isMaximal 30 = .ok (.iload_n 2, 1) := by decide +kernel
theorem dX7_isMaximal_31 : decode cX7_isMaximal 31 = .ok (.aload_n 0, 1) := by decide +kernel
theorem dX7_isMaximal_32 : decode cX7_isMaximal 32 = .ok (.invokevirtual 37, 3) := by decide +kernel
theorem dX7_isMaximal_35 : decode cX7_isMaximal 35 = .ok (.iconst 1, 1) := by decide +kernel
theorem dX7_isMaximal_36 : decode cX7_isMaximal 36 = .ok (.isub, 1) := by decide +kernel
theorem dX7_isMaximal_37 : decode cX7_isMaximal 37 = .ok (.if_icmp .eq 15, 3) := by decide +kernel
theorem dX7_isMaximal_40 : decode cX7_isMaximal 40 = .ok (.aload_n 0, 1) := by decide +kernel
theorem dX7_isMaximal_41 : decode cX7_isMaximal 41 = .ok (.getfield 7, 3) := by decide +kernel
theorem dX7_isMaximal_44 : decode cX7_isMaximal 44 = .ok (.iload_n 2, 1) := by decide +kernel
theorem dX7_isMaximal_45 : decode cX7_isMaximal 45 = .ok (.iconst 1, 1) := by decide +kernel
theorem dX7_isMaximal_46 : decode cX7_isMaximal 46 = .ok (.iadd, 1) := by decide +kernel
theorem dX7_isMaximal_47 : decode cX7_isMaximal 47 = .ok (.iaload, 1) := by decide +kernel
theorem dX7_isMaximal_48 : decode cX7_isMaximal 48 = .ok (.iload_n 3, 1) := by decide +kernel
theorem dX7_isMaximal_49 : decode cX7_isMaximal 49 = .ok (.if_icmp .ge 7, 3) := by decide +kernel
theorem dX7_isMaximal_52 : decode cX7_isMaximal 52 = .ok (.iconst 1, 1) := by decide +kernel
theorem dX7_isMaximal_53 : decode cX7_isMaximal 53 = .ok (.goto 4, 3) := by decide +kernel
theorem dX7_isMaximal_56 : decode cX7_isMaximal 56 = .ok (.iconst 0, 1) := by decide +kernel
theorem dX7_isMaximal_57 : decode cX7_isMaximal 57 = .ok (.istore 5, 2) := by decide +kernel
theorem dX7_isMaximal_59 : decode cX7_isMaximal 59 = .ok (.iload_n 3, 1) := by decide +kernel
theorem dX7_isMaximal_60 : decode cX7_isMaximal 60 = .ok (.ifCond .le 17, 3) := by decide +kernel
theorem dX7_isMaximal_63 : decode cX7_isMaximal 63 = .ok (.iload 4, 2) := by decide +kernel
theorem dX7_isMaximal_65 : decode cX7_isMaximal 65 = .ok (.ifCond .eq 12, 3) := by decide +kernel
theorem dX7_isMaximal_68 : decode cX7_isMaximal 68 = .ok (.iload 5, 2) := by decide +kernel
theorem dX7_isMaximal_70 : decode cX7_isMaximal 70 = .ok (.ifCond .eq 7, 3) := by decide +kernel
theorem dX7_isMaximal_73 : decode cX7_isMaximal 73 = .ok (.iconst 1, 1) := by decide +kernel
theorem dX7_isMaximal_74 : decode cX7_isMaximal 74 = .ok (.goto 4, 3) := by decide +kernel
theorem dX7_isMaximal_77 : decode cX7_isMaximal 77 = .ok (.iconst 0, 1) := by decide +kernel
theorem dX7_isMaximal_78 : decode cX7_isMaximal 78 = .ok (.ireturn, 1) := by decide +kernel
set_option maxRecDepth 20000 in
theorem ggX7_area_X7_least : GoodIn wsX7_area wsX7_least := goodIn_r _ [5, 6, 7, 8, 9, 10, 11, 12, 13, 14, 15, 16, 17, 18] (by decide +kernel) (by decide +kernel)
set_option maxRecDepth 20000 in
theorem gX7_area_X7_least : GoodIn wsX7_area (wsV RX7 87 RX7 yX7_least wsX7_least) := goodIn_app (goodIn_of _ (by decide +kernel)) ggX7_area_X7_least
theorem dX7_area_0 : decode cX7_area 0 = .ok (.aload_n 0, 1) := by decide +kernel
theorem dX7_area_1 : decode cX7_area 1 = .ok (.iload_n 1, 1) := by decide +kernel
theorem dX7_area_2 : decode cX7_area 2 = .ok (.iload_n 2, 1) := by decide +kernel
theorem dX7_area_3 : decode cX7_area 3 = .ok (.invokevirtual 87, 3) := by decide +kernel
theorem dX7_area_6 : decode cX7_area 6 = .ok (.iload_n 2, 1) := by decide +kernel
theorem dX7_area_7 : decode cX7_area 7 = .ok (.iload_n 1, 1) := by decide +kernel
theorem dX7_area_8 : decode cX7_area 8 = .ok (.isub, 1) := by decide +kernel
theorem dX7_area_9 : decode cX7_area 9 = .ok (.iconst 1, 1) := by decide +kernel
theorem dX7_area_10 : decode cX7_area 10 = .ok (.iadd, 1) := by decide +kernel
theorem dX7_area_11 : decode cX7_area 11 = .ok (.imul, 1) := by decide +kernel
theorem dX7_area_12 : decode cX7_area 12 = .ok (.ireturn, 1) := by decide +kernel
set_option maxRecDepth 20000 in
theorem ggX7_layRectangles_X7_many : GoodIn wsX7_layRectangles wsX7_many := goodIn_r _ [8, 9, 22, 23, 24, 25, 26, 27, 28, 29, 30, 31, 32, 33] (by decide +kernel) (by decide +kernel)
set_option maxRecDepth 20000 in
theorem gX7_layRectangles_X7_many : GoodIn wsX7_layRectangles (wsV RX7 37 RX7 yX7_many wsX7_many) := goodIn_app (goodIn_of _ (by decide +kernel)) ggX7_layRectangles_X7_many
set_option maxRecDepth 20000 in
theorem ggX7_layRectangles_X7_isMaximal : GoodIn wsX7_layRectangles wsX7_isMaximal := goodIn_r _ [13, 9, 14, 15, 16, 7, 17, 4, 5, 6, 8, 22, 23, 24, 25, 26, 27, 28, 29, 30, 31, 32, 33] (by decide +kernel) (by decide +kernel)
set_option maxRecDepth 20000 in
theorem gX7_layRectangles_X7_isMaximal : GoodIn wsX7_layRectangles (wsV RX7 90 RX7 yX7_isMaximal wsX7_isMaximal) := goodIn_app (goodIn_of _ (by decide +kernel)) ggX7_layRectangles_X7_isMaximal
set_option maxRecDepth 20000 in
theorem ggX7_layRectangles_X7_area : GoodIn wsX7_layRectangles wsX7_area := goodIn_r _ [21, 14, 15, 16, 7, 17, 9, 22, 23, 24, 25, 26, 27, 28, 29, 30, 31, 32, 33] (by decide +kernel) (by decide +kernel)
set_option maxRecDepth 20000 in
theorem gX7_layRectangles_X7_area : GoodIn wsX7_layRectangles (wsV RX7 93 RX7 yX7_area wsX7_area) := goodIn_app (goodIn_of _ (by decide +kernel)) ggX7_layRectangles_X7_area
theorem dX7_layRectangles_0 : decode cX7_layRectangles 0 = .ok (.iconst 0, 1) := by decide +kernel
theorem dX7_layRectangles_1 : decode cX7_layRectangles 1 = .ok (.istore_n 1, 1) := by decide +kernel
theorem dX7_layRectangles_2 : decode cX7_layRectangles 2 = .ok (.iconst 0, 1) := by decide +kernel
theorem dX7_layRectangles_3 : decode cX7_layRectangles 3 = .ok (.istore_n 2, 1) := by decide +kernel
theorem dX7_layRectangles_4 : decode cX7_layRectangles 4 = .ok (.iload_n 2, 1) := by decide +kernel
theorem dX7_layRectangles_5 : decode cX7_layRectangles 5 = .ok (.aload_n 0, 1) := by decide +kernel
theorem dX7_layRectangles_6 : decode cX7_layRectangles 6 = .ok (.invokevirtual 37, 3) := by decide +kernel
theorem dX7_layRectangles_9 : decode cX7_layRectangles 9 = .ok (.if_icmp .ge 146, 3) := by decide +kernel
theorem dX7_layRectangles_12 : decode cX7_layRectangles 12 = .ok (.iload_n 2, 1) := by decide +kernel
theorem dX7_layRectangles_13 : decode cX7_layRectangles 13 = .ok (.istore_n 3, 1) := by decide +kernel
theorem dX7_layRectangles_14 : decode cX7_layRectangles 14 = .ok (.iload_n 3, 1) := by decide +kernel
theorem dX7_layRectangles_15 : decode cX7_layRectangles 15 = .ok (.aload_n 0, 1) := by decide +kernel
theorem dX7_layRectangles_16 : decode cX7_layRectangles 16 = .ok (.invokevirtual 37, 3) := by decide +kernel
theorem dX7_layRectangles_19 : decode cX7_layRectangles 19 = .ok (.if_icmp .ge 130, 3) := by decide +kernel
theorem dX7_layRectangles_22 : decode cX7_layRectangles 22 = .ok (.aload_n 0, 1) := by decide +kernel
theorem dX7_layRectangles_23 : decode cX7_layRectangles 23 = .ok (.iload_n 2, 1) := by decide +kernel
theorem dX7_layRectangles_24 : decode cX7_layRectangles 24 = .ok (.iload_n 3, 1) := by decide +kernel
theorem dX7_layRectangles_25 : decode cX7_layRectangles 25 = .ok (.invokevirtual 90, 3) := by decide +kernel
theorem dX7_layRectangles_28 : decode cX7_layRectangles 28 = .ok (.ifCond .eq 115, 3) := by decide +kernel
theorem dX7_layRectangles_31 : decode cX7_layRectangles 31 = .ok (.aload_n 0, 1) := by decide +kernel
theorem dX7_layRectangles_32 : decode cX7_layRectangles 32 = .ok (.iload_n 2, 1) := by decide +kernel
theorem dX7_layRectangles_33 : decode cX7_layRectangles 33 = .ok (.iload_n 3, 1) := by decide +kernel
theorem dX7_layRectangles_34 : decode cX7_layRectangles 34 = .ok (.invokevirtual 93, 3) := by decide +kernel
theorem dX7_layRectangles_37 : decode cX7_layRectangles 37 = .ok (.istore 4, 2) := by decide +kernel
theorem dX7_layRectangles_39 : decode cX7_layRectangles 39 = .ok (.iload_n 1, 1) := by decide +kernel
theorem dX7_layRectangles_40 : decode cX7_layRectangles 40 = .ok (.istore 5, 2) := by decide +kernel
theorem dX7_layRectangles_42 : decode cX7_layRectangles 42 = .ok (.iload 5, 2) := by decide +kernel
theorem dX7_layRectangles_44 : decode cX7_layRectangles 44 = .ok (.ifCond .le 71, 3) := by decide +kernel
theorem dX7_layRectangles_47 : decode cX7_layRectangles 47 = .ok (.aload_n 0, 1) := by decide +kernel
theorem dX7_layRectangles_48 : decode cX7_layRectangles 48 = .ok (.getfield 22, 3) := by decide +kernel
theorem dX7_layRectangles_51 : decode cX7_layRectangles 51 = .ok (.iload 5, 2) := by decide +kernel
theorem dX7_layRectangles_53 : decode cX7_layRectangles 53 = .ok (.iconst 1, 1) := by decide +kernel
theorem dX7_layRectangles_54 : decode cX7_layRectangles 54 = .ok (.isub, 1) := by decide +kernel
theorem dX7_layRectangles_55 : decode cX7_layRectangles 55 = .ok (.iaload, 1) := by decide +kernel
theorem dX7_layRectangles_56 : decode cX7_layRectangles 56 = .ok (.iload 4, 2) := by decide +kernel
theorem dX7_layRectangles_58 : decode cX7_layRectangles 58 = .ok (.if_icmp .ge 57, 3) := by decide +kernel
theorem dX7_layRectangles_61 : decode cX7_layRectangles 61 = .ok (.aload_n 0, 1) := by decide +kernel
theorem dX7_layRectangles_62 : decode cX7_layRectangles 62 = .ok (.getfield 22, 3) := by decide +kernel
theorem dX7_layRectangles_65 : decode cX7_layRectangles 65 = .ok (.iload 5, 2) := by decide +kernel
theorem dX7_layRectangles_67 : decode cX7_layRectangles 67 = .ok (.aload_n 0, 1) := by decide +kernel
theorem dX7_layRectangles_68 : decode cX7_layRectangles 68 = .ok (.getfield 22, 3) := by decide +kernel
theorem dX7_layRectangles_71 : decode cX7_layRectangles 71 = .ok (.iload 5, 2) := by decide +kernel
theorem dX7_layRectangles_73 : decode cX7_layRectangles 73 = .ok (.iconst 1, 1) := by decide +kernel
theorem dX7_layRectangles_74 : decode cX7_layRectangles 74 = .ok (.isub, 1) := by decide +kernel
theorem dX7_layRectangles_75 : decode cX7_layRectangles 75 = .ok (.iaload, 1) := by decide +kernel
theorem dX7_layRectangles_76 : decode cX7_layRectangles 76 = .ok (.iastore, 1) := by decide +kernel
theorem dX7_layRectangles_77 : decode cX7_layRectangles 77 = .ok (.aload_n 0, 1) := by decide +kernel
theorem dX7_layRectangles_78 : decode cX7_layRectangles 78 = .ok (.getfield 25, 3) := by decide +kernel
theorem dX7_layRectangles_81 : decode cX7_layRectangles 81 = .ok (.iload 5, 2) := by decide +kernel
theorem dX7_layRectangles_83 : decode cX7_layRectangles 83 = .ok (.aload_n 0, 1) := by decide +kernel
theorem dX7_layRectangles_84 : decode cX7_layRectangles 84 = .ok (.getfield 25, 3) := by decide +kernel
theorem dX7_layRectangles_87 : decode cX7_layRectangles 87 = .ok (.iload 5, 2) := by decide +kernel
theorem dX7_layRectangles_89 : decode cX7_layRectangles 89 = .ok (.iconst 1, 1) := by decide +kernel
theorem dX7_layRectangles_90 : decode cX7_layRectangles 90 = .ok (.isub, 1) := by decide +kernel
theorem dX7_layRectangles_91 : decode cX7_layRectangles 91 = .ok (.iaload, 1) := by decide +kernel
theorem dX7_layRectangles_92 : decode cX7_layRectangles 92 = .ok (.iastore, 1) := by decide +kernel
theorem dX7_layRectangles_93 : decode cX7_layRectangles 93 = .ok (.aload_n 0, 1) := by decide +kernel
theorem dX7_layRectangles_94 : decode cX7_layRectangles 94 = .ok (.getfield 28, 3) := by decide +kernel
theorem dX7_layRectangles_97 : decode cX7_layRectangles 97 = .ok (.iload 5, 2) := by decide +kernel
theorem dX7_layRectangles_99 : decode cX7_layRectangles 99 = .ok (.aload_n 0, 1) := by decide +kernel
theorem dX7_layRectangles_100 : decode cX7_layRectangles 100 = .ok (.getfield 28, 3) := by decide +kernel
theorem dX7_layRectangles_103 : decode cX7_layRectangles 103 = .ok (.iload 5, 2) := by decide +kernel
theorem dX7_layRectangles_105 : decode cX7_layRectangles 105 = .ok (.iconst 1, 1) := by decide +kernel
theorem dX7_layRectangles_106 : decode cX7_layRectangles 106 = .ok (.isub, 1) := by decide +kernel
theorem dX7_layRectangles_107 : decode cX7_layRectangles 107 = .ok (.iaload, 1) := by decide +kernel
theorem dX7_layRectangles_108 : decode cX7_layRectangles 108 = .ok (.iastore, 1) := by decide +kernel
theorem dX7_layRectangles_109 : decode cX7_layRectangles 109 = .ok (.iinc 5 (-1), 3) := by decide +kernel
theorem dX7_layRectangles_112 : decode cX7_layRectangles 112 = .ok (.goto (-70), 3) := by decide +kernel
theorem dX7_layRectangles_115 : decode cX7_layRectangles 115 = .ok (.aload_n 0, 1) := by decide +kernel
theorem dX7_layRectangles_116 : decode cX7_layRectangles 116 = .ok (.getfield 22, 3) := by decide +kernel
theorem dX7_layRectangles_119 : decode cX7_layRectangles 119 = .ok (.iload 5, 2) := by decide +kernel
theorem dX7_layRectangles_121 : decode cX7_layRectangles 121 = .ok (.iload 4, 2) := by decide +kernel
theorem dX7_layRectangles_123 : decode cX7_layRectangles 123 = .ok (.iastore, 1) := by decide +kernel
theorem dX7_layRectangles_124 : decode cX7_layRectangles 124 = .ok (.aload_n 0, 1) := by decide +kernel
theorem dX7_layRectangles_125 : decode cX7_layRectangles 125 = .ok (.getfield 25, 3) := by decide +kernel
theorem dX7_layRectangles_128 : decode cX7_layRectangles 128 = .ok (.iload 5, 2) := by decide +kernel
theorem dX7_layRectangles_130 : decode cX7_layRectangles 130 = .ok (.iload_n 2, 1) := by decide +kernel
theorem dX7_layRectangles_131 : decode cX7_layRectangles 131 = .ok (.iastore, 1) := by decide +kernel
theorem dX7_layRectangles_132 : decode cX7_layRectangles 132 = .ok (.aload_n 0, 1) := by decide +kernel
theorem dX7_layRectangles_133 : decode cX7_layRectangles 133 = .ok (.getfield 28, 3) := by decide +kernel
theorem dX7_layRectangles_136 : decode cX7_layRectangles 136 = .ok (.iload 5, 2) := by decide +kernel
theorem dX7_layRectangles_138 : decode cX7_layRectangles 138 = .ok (.iload_n 3, 1) := by decide +kernel
theorem dX7_layRectangles_139 : decode cX7_layRectangles 139 = .ok (.iastore, 1) := by decide +kernel
theorem dX7_layRectangles_140 : decode cX7_layRectangles 140 = .ok (.iinc 1 1, 3) := by decide +kernel
theorem dX7_layRectangles_143 : decode cX7_layRectangles 143 = .ok (.iinc 3 1, 3) := by decide +kernel
theorem dX7_layRectangles_146 : decode cX7_layRectangles 146 = .ok (.goto (-132), 3) := by decide +kernel
theorem dX7_layRectangles_149 : decode cX7_layRectangles 149 = .ok (.iinc 2 1, 3) := by decide +kernel
theorem dX7_layRectangles_152 : decode cX7_layRectangles 152 = .ok (.goto (-148), 3) := by decide +kernel
theorem dX7_layRectangles_155 : decode cX7_layRectangles 155 = .ok (.iload_n 1, 1) := by decide +kernel
theorem dX7_layRectangles_156 : decode cX7_layRectangles 156 = .ok (.ireturn, 1) := by decide +kernel
set_option maxRecDepth 20000 in
theorem ggX7_rootOf_X7_least : GoodIn wsX7_rootOf wsX7_least := goodIn_r _ [5, 6, 11, 12, 13, 14, 15, 16, 17, 18, 19, 20, 21, 22] (by decide +kernel) (by decide +kernel)
set_option maxRecDepth 20000 in
theorem gX7_rootOf_X7_least : GoodIn wsX7_rootOf (wsV RX7 87 RX7 yX7_least wsX7_least) := goodIn_app (goodIn_of _ (by decide +kernel)) ggX7_rootOf_X7_least
set_option maxRecDepth 20000 in
theorem ggX7_rootOf_X7_firstWith : GoodIn wsX7_rootOf wsX7_firstWith := goodIn_r _ [10, 6, 11, 12, 13, 14, 15, 16, 17, 18, 19, 20, 21, 22] (by decide +kernel) (by decide +kernel)
set_option maxRecDepth 20000 in
theorem gX7_rootOf_X7_firstWith : GoodIn wsX7_rootOf (wsV RX7 96 RX7 yX7_firstWith wsX7_firstWith) := goodIn_app (goodIn_of _ (by decide +kernel)) ggX7_rootOf_X7_firstWith
theorem dX7_rootOf_0 : decode cX7_rootOf 0 = .ok (.aload_n 0, 1) := by decide +kernel
theorem dX7_rootOf_1 : decode cX7_rootOf 1 = .ok (.iload_n 1, 1) := by decide +kernel
theorem dX7_rootOf_2 : decode cX7_rootOf 2 = .ok (.aload_n 0, 1) := by decide +kernel
theorem dX7_rootOf_3 : decode cX7_rootOf 3 = .ok (.iload_n 1, 1) := by decide +kernel
theorem dX7_rootOf_4 : decode cX7_rootOf 4 = .ok (.iload_n 2, 1) := by decide +kernel
theorem dX7_rootOf_5 : decode cX7_rootOf 5 = .ok (.invokevirtual 87, 3) := by decide +kernel
theorem dX7_rootOf_8 : decode cX7_rootOf 8 = .ok (.invokevirtual 96, 3) := by decide +kernel
theorem dX7_rootOf_11 : decode cX7_rootOf 11 = .ok (.ireturn, 1) := by decide +kernel
set_option maxRecDepth 20000 in
theorem ggX7_treeDepth_X7_many : GoodIn wsX7_treeDepth wsX7_many := goodIn_r _ [6, 7, 20, 21, 22, 23, 24, 25, 26, 27, 28, 29, 30, 31] (by decide +kernel) (by decide +kernel)
set_option maxRecDepth 20000 in
theorem gX7_treeDepth_X7_many : GoodIn wsX7_treeDepth (wsV RX7 37 RX7 yX7_many wsX7_many) := goodIn_app (goodIn_of _ (by decide +kernel)) ggX7_treeDepth_X7_many
set_option maxRecDepth 20000 in
theorem ggX7_treeDepth_X7_rootOf : GoodIn wsX7_treeDepth wsX7_rootOf := goodIn_r _ [11, 12, 13, 14, 5, 15, 7, 16, 17, 18, 19, 20, 21, 22, 23, 24, 25, 26, 27, 28, 29, 30, 31] (by decide +kernel) (by decide +kernel)
set_option maxRecDepth 20000 in
theorem gX7_treeDepth_X7_rootOf : GoodIn wsX7_treeDepth (wsV RX7 102 RX7 yX7_rootOf wsX7_rootOf) := goodIn_app (goodIn_of _ (by decide +kernel)) ggX7_treeDepth_X7_rootOf
theorem dX7_treeDepth_0 : decode cX7_treeDepth 0 = .ok (.iconst 0, 1) := by decide +kernel
theorem dX7_treeDepth_1 : decode cX7_treeDepth 1 = .ok (.istore_n 2, 1) := by decide +kernel
theorem dX7_treeDepth_2 : decode cX7_treeDepth 2 = .ok (.aload_n 0, 1) := by decide +kernel
theorem dX7_treeDepth_3 : decode cX7_treeDepth 3 = .ok (.invokevirtual 37, 3) := by decide +kernel
theorem dX7_treeDepth_6 : decode cX7_treeDepth 6 = .ok (.iconst 1, 1) := by decide +kernel
theorem dX7_treeDepth_7 : decode cX7_treeDepth 7 = .ok (.isub, 1) := by decide +kernel
theorem dX7_treeDepth_8 : decode cX7_treeDepth 8 = .ok (.istore_n 3, 1) := by decide +kernel
theorem dX7_treeDepth_9 : decode cX7_treeDepth 9 = .ok (.iconst 0, 1) := by decide +kernel
theorem dX7_treeDepth_10 : decode cX7_treeDepth 10 = .ok (.istore 4, 2) := by decide +kernel
theorem dX7_treeDepth_12 : decode cX7_treeDepth 12 = .ok (.aload_n 0, 1) := by decide +kernel
theorem dX7_treeDepth_13 : decode cX7_treeDepth 13 = .ok (.bipush (-9), 2) := by decide +kernel
theorem dX7_treeDepth_15 : decode cX7_treeDepth 15 = .ok (.putfield 99, 3) := by decide +kernel
theorem dX7_treeDepth_18 : decode cX7_treeDepth 18 = .ok (.aload_n 0, 1) := by decide +kernel
theorem dX7_treeDepth_19 : decode cX7_treeDepth 19 = .ok (.iload_n 2, 1) := by decide +kernel
theorem dX7_treeDepth_20 : decode cX7_treeDepth 20 = .ok (.iload_n 3, 1) := by decide +kernel
theorem dX7_treeDepth_21 : decode cX7_treeDepth 21 = .ok (.invokevirtual 102, 3) := by decide +kernel
theorem dX7_treeDepth_24 : decode cX7_treeDepth 24 = .ok (.istore 5, 2) := by decide +kernel
theorem dX7_treeDepth_26 : decode cX7_treeDepth 26 = .ok (.iload 5, 2) := by decide +kernel
theorem dX7_treeDepth_28 : decode cX7_treeDepth 28 = .ok (.iload_n 1, 1) := by decide +kernel
theorem dX7_treeDepth_29 : decode cX7_treeDepth 29 = .ok (.if_icmp .eq 53, 3) := by decide +kernel
theorem dX7_treeDepth_32 : decode cX7_treeDepth 32 = .ok (.aload_n 0, 1) := by decide +kernel
theorem dX7_treeDepth_33 : decode cX7_treeDepth 33 = .ok (.iload 5, 2) := by decide +kernel
theorem dX7_treeDepth_35 : decode cX7_treeDepth 35 = .ok (.putfield 99, 3) := by decide +kernel
theorem dX7_treeDepth_38 : decode cX7_treeDepth 38 = .ok (.iload_n 1, 1) := by decide +kernel
theorem dX7_treeDepth_39 : decode cX7_treeDepth 39 = .ok (.iload 5, 2) := by decide +kernel
theorem dX7_treeDepth_41 : decode cX7_treeDepth 41 = .ok (.if_icmp .le 10, 3) := by decide +kernel
theorem dX7_treeDepth_44 : decode cX7_treeDepth 44 = .ok (.iload 5, 2) := by decide +kernel
theorem dX7_treeDepth_46 : decode cX7_treeDepth 46 = .ok (.iconst 1, 1) := by decide +kernel
theorem dX7_treeDepth_47 : decode cX7_treeDepth 47 = .ok (.iadd, 1) := by decide +kernel
theorem dX7_treeDepth_48 : decode cX7_treeDepth 48 = .ok (.goto 4, 3) := by decide +kernel
theorem dX7_treeDepth_51 : decode cX7_treeDepth 51 = .ok (.iload_n 2, 1) := by decide +kernel
theorem dX7_treeDepth_52 : decode cX7_treeDepth 52 = .ok (.istore_n 2, 1) := by decide +kernel
theorem dX7_treeDepth_53 : decode cX7_treeDepth 53 = .ok (.iload_n 1, 1) := by decide +kernel
theorem dX7_treeDepth_54 : decode cX7_treeDepth 54 = .ok (.iload 5, 2) := by decide +kernel
theorem dX7_treeDepth_56 : decode cX7_treeDepth 56 = .ok (.if_icmp .ge 10, 3) := by decide +kernel
theorem dX7_treeDepth_59 : decode cX7_treeDepth 59 = .ok (.iload 5, 2) := by decide +kernel
theorem dX7_treeDepth_61 : decode cX7_treeDepth 61 = .ok (.iconst 1, 1) := by decide +kernel
theorem dX7_treeDepth_62 : decode cX7_treeDepth 62 = .ok (.isub, 1) := by decide +kernel
theorem dX7_treeDepth_63 : decode cX7_treeDepth 63 = .ok (.goto 4, 3) := by decide +kernel
theorem dX7_treeDepth_66 : decode cX7_treeDepth 66 = .ok (.iload_n 3, 1) := by decide +kernel
theorem dX7_treeDepth_67 : decode cX7_treeDepth 67 = .ok (.istore_n 3, 1) := by decide +kernel
theorem dX7_treeDepth_68 : decode cX7_treeDepth 68 = .ok (.aload_n 0, 1) := by decide +kernel
theorem dX7_treeDepth_69 : decode cX7_treeDepth 69 = .ok (.iload_n 2, 1) := by decide +kernel
theorem dX7_treeDepth_70 : decode cX7_treeDepth 70 = .ok (.iload_n 3, 1) := by decide +kernel
theorem dX7_treeDepth_71 : decode cX7_treeDepth 71 = .ok (.invokevirtual 102, 3) := by decide +kernel
theorem dX7_treeDepth_74 : decode cX7_treeDepth 74 = .ok (.istore 5, 2) := by decide +kernel
theorem dX7_treeDepth_76 : decode cX7_treeDepth 76 = .ok (.iinc 4 1, 3) := by decide +kernel
theorem dX7_treeDepth_79 : decode cX7_treeDepth 79 = .ok (.goto (-53), 3) := by decide +kernel
theorem dX7_treeDepth_82 : decode cX7_treeDepth 82 = .ok (.iload 4, 2) := by decide +kernel
theorem dX7_treeDepth_84 : decode cX7_treeDepth 84 = .ok (.ireturn, 1) := by decide +kernel
set_option maxRecDepth 20000 in
theorem ggX7_parentOf_X7_treeDepth : GoodIn wsX7_parentOf wsX7_treeDepth := goodIn_r _ [6, 1, 7, 8, 9, 5, 10, 11, 12, 13, 14, 15, 16, 17, 18, 19, 20, 21, 22, 23, 24, 25, 26, 27, 28, 29, 30, 31, 32, 33, 34, 35] (by decide +kernel) (by decide +kernel)
set_option maxRecDepth 20000 in
theorem gX7_parentOf_X7_treeDepth : GoodIn wsX7_parentOf (wsV RX7 105 RX7 yX7_treeDepth wsX7_treeDepth) := goodIn_app (goodIn_of _ (by decide +kernel)) ggX7_parentOf_X7_treeDepth
theorem dX7_parentOf_0 : decode cX7_parentOf 0 = .ok (.aload_n 0, 1) := by decide +kernel
theorem dX7_parentOf_1 : decode cX7_parentOf 1 = .ok (.iload_n 1, 1) := by decide +kernel
theorem dX7_parentOf_2 : decode cX7_parentOf 2 = .ok (.invokevirtual 105, 3) := by decide +kernel
theorem dX7_parentOf_5 : decode cX7_parentOf 5 = .ok (.istore_n 2, 1) := by decide +kernel
theorem dX7_parentOf_6 : decode cX7_parentOf 6 = .ok (.aload_n 0, 1) := by decide +kernel
theorem dX7_parentOf_7 : decode cX7_parentOf 7 = .ok (.getfield 99, 3) := by decide +kernel
theorem dX7_parentOf_10 : decode cX7_parentOf 10 = .ok (.ireturn, 1) := by decide +kernel
set_option maxRecDepth 20000 in
theorem ggX7_deepest_X7_many : GoodIn wsX7_deepest wsX7_many := goodIn_r _ [5, 6, 24, 25, 26, 27, 28, 29, 30, 31, 32, 33, 34, 35] (by decide +kernel) (by decide +kernel)
set_option maxRecDepth 20000 in
theorem gX7_deepest_X7_many : GoodIn wsX7_deepest (wsV RX7 37 RX7 yX7_many wsX7_many) := goodIn_app (goodIn_of _ (by decide +kernel)) ggX7_deepest_X7_many
set_option maxRecDepth 20000 in
theorem ggX7_deepest_X7_treeDepth : GoodIn wsX7_deepest wsX7_treeDepth := goodIn_r _ [10, 11, 1, 2, 3, 4, 5, 6, 12, 13, 14, 15, 16, 17, 18, 19, 20, 21, 22, 23, 24, 25, 26, 27, 28, 29, 30, 31, 32, 33, 34, 35] (by decide +kernel) (by decide +kernel)
set_option maxRecDepth 20000 in
theorem gX7_deepest_X7_treeDepth : GoodIn wsX7_deepest (wsV RX7 105 RX7 yX7_treeDepth wsX7_treeDepth) := goodIn_app (goodIn_of _ (by decide +kernel)) ggX7_deepest_X7_treeDepth
theorem dX7_deepest_0 : decode cX7_deepest 0 = .ok (.bipush (-9), 2) := by decide +kernel
theorem dX7_deepest_2 : decode cX7_deepest 2 = .ok (.istore_n 1, 1) := by decide +kernel
theorem dX7_deepest_3 : decode cX7_deepest 3 = .ok (.iconst 0, 1) := by decide +kernel
theorem dX7_deepest_4 : decode cX7_deepest 4 = .ok (.istore_n 2, 1) := by decide +kernel
theorem dX7_deepest_5 : decode cX7_deepest 5 = .ok (.iload_n 2, 1) := by decide +kernel
theorem dX7_deepest_6 : decode cX7_deepest 6 = .ok (.aload_n 0, 1) := by decide +kernel
theorem dX7_deepest_7 : decode cX7_deepest 7 = .ok (.invokevirtual 37, 3) := by decide +kernel
theorem dX7_deepest_10 : decode cX7_deepest 10 = .ok (.if_icmp .ge 26, 3) := by decide +kernel
theorem dX7_deepest_13 : decode cX7_deepest 13 = .ok (.aload_n 0, 1) := by decide +kernel
theorem dX7_deepest_14 : decode cX7_deepest 14 = .ok (.iload_n 2, 1) := by decide +kernel
theorem dX7_deepest_15 : decode cX7_deepest 15 = .ok (.invokevirtual 105, 3) := by decide +kernel
theorem dX7_deepest_18 : decode cX7_deepest 18 = .ok (.istore_n 3, 1) := by decide +kernel
theorem dX7_deepest_19 : decode cX7_deepest 19 = .ok (.iload_n 3, 1) := by decide +kernel
theorem dX7_deepest_20 : decode cX7_deepest 20 = .ok (.iload_n 1, 1) := by decide +kernel
theorem dX7_deepest_21 : decode cX7_deepest 21 = .ok (.if_icmp .le 7, 3) := by decide +kernel
theorem dX7_deepest_24 : decode cX7_deepest 24 = .ok (.iload_n 3, 1) := by decide +kernel
theorem dX7_deepest_25 : decode cX7_deepest 25 = .ok (.goto 4, 3) := by decide +kernel
theorem dX7_deepest_28 : decode cX7_deepest 28 = .ok (.iload_n 1, 1) := by decide +kernel
theorem dX7_deepest_29 : decode cX7_deepest 29 = .ok (.istore_n 1, 1) := by decide +kernel
theorem dX7_deepest_30 : decode cX7_deepest 30 = .ok (.iinc 2 1, 3) := by decide +kernel
theorem dX7_deepest_33 : decode cX7_deepest 33 = .ok (.goto (-28), 3) := by decide +kernel
theorem dX7_deepest_36 : decode cX7_deepest 36 = .ok (.iload_n 1, 1) := by decide +kernel
theorem dX7_deepest_37 : decode cX7_deepest 37 = .ok (.ireturn, 1) := by decide +kernel
set_option maxRecDepth 20000 in
theorem ggX7_horizontal_X7_many : GoodIn wsX7_horizontal wsX7_many := goodIn_r _ [6, 1, 7, 8, 9, 10, 11, 12, 13, 14, 15, 16, 17, 18] (by decide +kernel) (by decide +kernel)
set_option maxRecDepth 20000 in
theorem gX7_horizontal_X7_many : GoodIn wsX7_horizontal (wsV RX7 37 RX7 yX7_many wsX7_many) := goodIn_app (goodIn_of _ (by decide +kernel)) ggX7_horizontal_X7_many
theorem dX7_horizontal_0 : decode cX7_horizontal 0 = .ok (.iconst 0, 1) := by decide +kernel
theorem dX7_horizontal_1 : decode cX7_horizontal 1 = .ok (.istore_n 1, 1) := by decide +kernel
theorem dX7_horizontal_2 : decode cX7_horizontal 2 = .ok (.iconst 0, 1) := by decide +kernel
theorem dX7_horizontal_3 : decode cX7_horizontal 3 = .ok (.istore_n 2, 1) := by decide +kernel
theorem dX7_horizontal_4 : decode cX7_horizontal 4 = .ok (.iload_n 2, 1) := by decide +kernel
theorem dX7_horizontal_5 : decode cX7_horizontal 5 = .ok (.aload_n 0, 1) := by decide +kernel
theorem dX7_horizontal_6 : decode cX7_horizontal 6 = .ok (.invokevirtual 37, 3) := by decide +kernel
theorem dX7_horizontal_9 : decode cX7_horizontal 9 = .ok (.if_icmp .ge 51, 3) := by decide +kernel
theorem dX7_horizontal_12 : decode cX7_horizontal 12 = .ok (.iload_n 2, 1) := by decide +kernel
theorem dX7_horizontal_13 : decode cX7_horizontal 13 = .ok (.ifCond .ne 7, 3) := by decide +kernel
theorem dX7_horizontal_16 : decode cX7_horizontal 16 = .ok (.iconst 0, 1) := by decide +kernel
theorem dX7_horizontal_17 : decode cX7_horizontal 17 = .ok (.goto 11, 3) := by decide +kernel
theorem dX7_horizontal_20 : decode cX7_horizontal 20 = .ok (.aload_n 0, 1) := by decide +kernel
theorem dX7_horizontal_21 : decode cX7_horizontal 21 = .ok (.getfield 7, 3) := by decide +kernel
theorem dX7_horizontal_24 : decode cX7_horizontal 24 = .ok (.iload_n 2, 1) := by decide +kernel
theorem dX7_horizontal_25 : decode cX7_horizontal 25 = .ok (.iconst 1, 1) := by decide +kernel
theorem dX7_horizontal_26 : decode cX7_horizontal 26 = .ok (.isub, 1) := by decide +kernel
theorem dX7_horizontal_27 : decode cX7_horizontal 27 = .ok (.iaload, 1) := by decide +kernel
theorem dX7_horizontal_28 : decode cX7_horizontal 28 = .ok (.istore_n 3, 1) := by decide +kernel
theorem dX7_horizontal_29 : decode cX7_horizontal 29 = .ok (.iload_n 1, 1) := by decide +kernel
theorem dX7_horizontal_30 : decode cX7_horizontal 30 = .ok (.aload_n 0, 1) := by decide +kernel
theorem dX7_horizontal_31 : decode cX7_horizontal 31 = .ok (.getfield 7, 3) := by decide +kernel
theorem dX7_horizontal_34 : decode cX7_horizontal 34 = .ok (.iload_n 2, 1) := by decide +kernel
theorem dX7_horizontal_35 : decode cX7_horizontal 35 = .ok (.iaload, 1) := by decide +kernel
theorem dX7_horizontal_36 : decode cX7_horizontal 36 = .ok (.iload_n 3, 1) := by decide +kernel
theorem dX7_horizontal_37 : decode cX7_horizontal 37 = .ok (.if_icmp .le 14, 3) := by decide +kernel
theorem dX7_horizontal_40 : decode cX7_horizontal 40 = .ok (.aload_n 0, 1) := by decide +kernel
theorem dX7_horizontal_41 : decode cX7_horizontal 41 = .ok (.getfield 7, 3) := by decide +kernel
theorem dX7_horizontal_44 : decode cX7_horizontal 44 = .ok (.iload_n 2, 1) := by decide +kernel
theorem dX7_horizontal_45 : decode cX7_horizontal 45 = .ok (.iaload, 1) := by decide +kernel
theorem dX7_horizontal_46 : decode cX7_horizontal 46 = .ok (.iload_n 3, 1) := by decide +kernel
theorem dX7_horizontal_47 : decode cX7_horizontal 47 = .ok (.isub, 1) := by decide +kernel
theorem dX7_horizontal_48 : decode cX7_horizontal 48 = .ok (.goto 4, 3) := by decide +kernel
theorem dX7_horizontal_51 : decode cX7_horizontal 51 = .ok (.iconst 0, 1) := by decide +kernel
theorem dX7_horizontal_52 : decode cX7_horizontal 52 = .ok (.iadd, 1) := by decide +kernel
theorem dX7_horizontal_53 : decode cX7_horizontal 53 = .ok (.istore_n 1, 1) := by decide +kernel
theorem dX7_horizontal_54 : decode cX7_horizontal 54 = .ok (.iinc 2 1, 3) := by decide +kernel
theorem dX7_horizontal_57 : decode cX7_horizontal 57 = .ok (.goto (-53), 3) := by decide +kernel
theorem dX7_horizontal_60 : decode cX7_horizontal 60 = .ok (.iload_n 1, 1) := by decide +kernel
theorem dX7_horizontal_61 : decode cX7_horizontal 61 = .ok (.ireturn, 1) := by decide +kernel
set_option maxRecDepth 20000 in
theorem ggX7_endAbove_X7_many : GoodIn wsX7_endAbove wsX7_many := goodIn_r _ [6, 1, 7, 8, 9, 10, 11, 12, 13, 14, 15, 16, 17, 18] (by decide +kernel) (by decide +kernel)
set_option maxRecDepth 20000 in
theorem gX7_endAbove_X7_many : GoodIn wsX7_endAbove (wsV RX7 37 RX7 yX7_many wsX7_many) := goodIn_app (goodIn_of _ (by decide +kernel)) ggX7_endAbove_X7_many
theorem dX7_endAbove_0 : decode cX7_endAbove 0 = .ok (.iload_n 1, 1) := by decide +kernel
theorem dX7_endAbove_1 : decode cX7_endAbove 1 = .ok (.istore_n 3, 1) := by decide +kernel
theorem dX7_endAbove_2 : decode cX7_endAbove 2 = .ok (.iload_n 3, 1) := by decide +kernel
theorem dX7_endAbove_3 : decode cX7_endAbove 3 = .ok (.iconst 1, 1) := by decide +kernel
theorem dX7_endAbove_4 : decode cX7_endAbove 4 = .ok (.iadd, 1) := by decide +kernel
theorem dX7_endAbove_5 : decode cX7_endAbove 5 = .ok (.aload_n 0, 1) := by decide +kernel
theorem dX7_endAbove_6 : decode cX7_endAbove 6 = .ok (.invokevirtual 37, 3) := by decide +kernel
theorem dX7_endAbove_9 : decode cX7_endAbove 9 = .ok (.if_icmp .ge 21, 3) := by decide +kernel
theorem dX7_endAbove_12 : decode cX7_endAbove 12 = .ok (.aload_n 0, 1) := by decide +kernel
theorem dX7_endAbove_13 : decode cX7_endAbove 13 = .ok (.getfield 7, 3) := by decide +kernel
theorem dX7_endAbove_16 : decode cX7_endAbove 16 = .ok (.iload_n 3, 1) := by decide +kernel
theorem dX7_endAbove_17 : decode cX7_endAbove 17 = .ok (.iconst 1, 1) := by decide +kernel
theorem dX7_endAbove_18 : decode cX7_endAbove 18 = .ok (.iadd, 1) := by decide +kernel
theorem dX7_endAbove_19 : decode cX7_endAbove 19 = .ok (.iaload, 1) := by decide +kernel
theorem dX7_endAbove_20 : decode cX7_endAbove 20 = .ok (.iload_n 2, 1) := by decide +kernel
theorem dX7_endAbove_21 : decode cX7_endAbove 21 = .ok (.if_icmp .le 9, 3) := by decide +kernel
theorem dX7_endAbove_24 : decode cX7_endAbove 24 = .ok (.iinc 3 1, 3) := by decide +kernel
theorem dX7_endAbove_27 : decode cX7_endAbove 27 = .ok (.goto (-25), 3) := by decide +kernel
theorem dX7_endAbove_30 : decode cX7_endAbove 30 = .ok (.iload_n 3, 1) := by decide +kernel
theorem dX7_endAbove_31 : decode cX7_endAbove 31 = .ok (.ireturn, 1) := by decide +kernel
set_option maxRecDepth 20000 in
theorem ggX7_layLevel_X7_many : GoodIn wsX7_layLevel wsX7_many := goodIn_r _ [8, 2, 13, 14, 15, 16, 17, 18, 19, 20, 21, 22, 23, 24] (by decide +kernel) (by decide +kernel)
set_option maxRecDepth 20000 in
theorem gX7_layLevel_X7_many : GoodIn wsX7_layLevel (wsV RX7 37 RX7 yX7_many wsX7_many) := goodIn_app (goodIn_of _ (by decide +kernel)) ggX7_layLevel_X7_many
set_option maxRecDepth 20000 in
theorem ggX7_layLevel_X7_endAbove : GoodIn wsX7_layLevel wsX7_endAbove := goodIn_r _ [12, 2, 4, 5, 6, 7, 8, 13, 14, 15, 16, 17, 18, 19, 20, 21, 22, 23, 24] (by decide +kernel) (by decide +kernel)
set_option maxRecDepth 20000 in
theorem gX7_layLevel_X7_endAbove : GoodIn wsX7_layLevel (wsV RX7 108 RX7 yX7_endAbove wsX7_endAbove) := goodIn_app (goodIn_of _ (by decide +kernel)) ggX7_layLevel_X7_endAbove
theorem dX7_layLevel_0 : decode cX7_layLevel 0 = .ok (.iconst 0, 1) := by decide +kernel
theorem dX7_layLevel_1 : decode cX7_layLevel 1 = .ok (.istore_n 2, 1) := by decide +kernel
theorem dX7_layLevel_2 : decode cX7_layLevel 2 = .ok (.iload_n 2, 1) := by decide +kernel
theorem dX7_layLevel_3 : decode cX7_layLevel 3 = .ok (.aload_n 0, 1) := by decide +kernel
theorem dX7_layLevel_4 : decode cX7_layLevel 4 = .ok (.invokevirtual 37, 3) := by decide +kernel
theorem dX7_layLevel_7 : decode cX7_layLevel 7 = .ok (.if_icmp .ge 105, 3) := by decide +kernel
theorem dX7_layLevel_10 : decode cX7_layLevel 10 = .ok (.aload_n 0, 1) := by decide +kernel
theorem dX7_layLevel_11 : decode cX7_layLevel 11 = .ok (.getfield 34, 3) := by decide +kernel
theorem dX7_layLevel_14 : decode cX7_layLevel 14 = .ok (.iload_n 2, 1) := by decide +kernel
theorem dX7_layLevel_15 : decode cX7_layLevel 15 = .ok (.iconst 0, 1) := by decide +kernel
theorem dX7_layLevel_16 : decode cX7_layLevel 16 = .ok (.iastore, 1) := by decide +kernel
theorem dX7_layLevel_17 : decode cX7_layLevel 17 = .ok (.aload_n 0, 1) := by decide +kernel
theorem dX7_layLevel_18 : decode cX7_layLevel 18 = .ok (.getfield 7, 3) := by decide +kernel
theorem dX7_layLevel_21 : decode cX7_layLevel 21 = .ok (.iload_n 2, 1) := by decide +kernel
theorem dX7_layLevel_22 : decode cX7_layLevel 22 = .ok (.iaload, 1) := by decide +kernel
theorem dX7_layLevel_23 : decode cX7_layLevel 23 = .ok (.iload_n 1, 1) := by decide +kernel
theorem dX7_layLevel_24 : decode cX7_layLevel 24 = .ok (.if_icmp .le 82, 3) := by decide +kernel
theorem dX7_layLevel_27 : decode cX7_layLevel 27 = .ok (.iload_n 2, 1) := by decide +kernel
theorem dX7_layLevel_28 : decode cX7_layLevel 28 = .ok (.ifCond .eq 15, 3) := by decide +kernel
theorem dX7_layLevel_31 : decode cX7_layLevel 31 = .ok (.aload_n 0, 1) := by decide +kernel
theorem dX7_layLevel_32 : decode cX7_layLevel 32 = .ok (.getfield 7, 3) := by decide +kernel
theorem dX7_layLevel_35 : decode cX7_layLevel 35 = .ok (.iload_n 2, 1) := by decide +kernel
theorem dX7_layLevel_36 : decode cX7_layLevel 36 = .ok (.iconst 1, 1) := by decide +kernel
theorem dX7_layLevel_37 : decode cX7_layLevel 37 = .ok (.isub, 1) := by decide +kernel
theorem dX7_layLevel_38 : decode cX7_layLevel 38 = .ok (.iaload, 1) := by decide +kernel
theorem dX7_layLevel_39 : decode cX7_layLevel 39 = .ok (.iload_n 1, 1) := by decide +kernel
theorem dX7_layLevel_40 : decode cX7_layLevel 40 = .ok (.if_icmp .gt 66, 3) := by decide +kernel
theorem dX7_layLevel_43 : decode cX7_layLevel 43 = .ok (.aload_n 0, 1) := by decide +kernel
theorem dX7_layLevel_44 : decode cX7_layLevel 44 = .ok (.iload_n 2, 1) := by decide +kernel
theorem dX7_layLevel_45 : decode cX7_layLevel 45 = .ok (.iload_n 1, 1) := by decide +kernel
theorem dX7_layLevel_46 : decode cX7_layLevel 46 = .ok (.invokevirtual 108, 3) := by decide +kernel
theorem dX7_layLevel_49 : decode cX7_layLevel 49 = .ok (.istore_n 3, 1) := by decide +kernel
theorem dX7_layLevel_50 : decode cX7_layLevel 50 = .ok (.iconst 1, 1) := by decide +kernel
theorem dX7_layLevel_51 : decode cX7_layLevel 51 = .ok (.istore 4, 2) := by decide +kernel
theorem dX7_layLevel_53 : decode cX7_layLevel 53 = .ok (.iload_n 2, 1) := by decide +kernel
theorem dX7_layLevel_54 : decode cX7_layLevel 54 = .ok (.istore 5, 2) := by decide +kernel
theorem dX7_layLevel_56 : decode cX7_layLevel 56 = .ok (.iload 5, 2) := by decide +kernel
theorem dX7_layLevel_58 : decode cX7_layLevel 58 = .ok (.iload_n 3, 1) := by decide +kernel
theorem dX7_layLevel_59 : decode cX7_layLevel 59 = .ok (.if_icmp .gt 21, 3) := by decide +kernel
theorem dX7_layLevel_62 : decode cX7_layLevel 62 = .ok (.iload 4, 2) := by decide +kernel
theorem dX7_layLevel_64 : decode cX7_layLevel 64 = .ok (.aload_n 0, 1) := by decide +kernel
theorem dX7_layLevel_65 : decode cX7_layLevel 65 = .ok (.getfield 31, 3) := by decide +kernel
theorem dX7_layLevel_68 : decode cX7_layLevel 68 = .ok (.iload 5, 2) := by decide +kernel
theorem dX7_layLevel_70 : decode cX7_layLevel 70 = .ok (.iaload, 1) := by decide +kernel
theorem dX7_layLevel_71 : decode cX7_layLevel 71 = .ok (.iadd, 1) := by decide +kernel
theorem dX7_layLevel_72 : decode cX7_layLevel 72 = .ok (.istore 4, 2) := by decide +kernel
theorem dX7_layLevel_74 : decode cX7_layLevel 74 = .ok (.iinc 5 1, 3) := by decide +kernel
theorem dX7_layLevel_77 : decode cX7_layLevel 77 = .ok (.goto (-21), 3) := by decide +kernel
theorem dX7_layLevel_80 : decode cX7_layLevel 80 = .ok (.aload_n 0, 1) := by decide +kernel
theorem dX7_layLevel_81 : decode cX7_layLevel 81 = .ok (.getfield 34, 3) := by decide +kernel
theorem dX7_layLevel_84 : decode cX7_layLevel 84 = .ok (.iload_n 2, 1) := by decide +kernel
theorem dX7_layLevel_85 : decode cX7_layLevel 85 = .ok (.iload 4, 2) := by decide +kernel
theorem dX7_layLevel_87 : decode cX7_layLevel 87 = .ok (.iload_n 3, 1) := by decide +kernel
theorem dX7_layLevel_88 : decode cX7_layLevel 88 = .ok (.iload_n 2, 1) := by decide +kernel
theorem dX7_layLevel_89 : decode cX7_layLevel 89 = .ok (.isub, 1) := by decide +kernel
theorem dX7_layLevel_90 : decode cX7_layLevel 90 = .ok (.iconst 1, 1) := by decide +kernel
theorem dX7_layLevel_91 : decode cX7_layLevel 91 = .ok (.iadd, 1) := by decide +kernel
theorem dX7_layLevel_92 : decode cX7_layLevel 92 = .ok (.if_icmp .ge 8, 3) := by decide +kernel
theorem dX7_layLevel_95 : decode cX7_layLevel 95 = .ok (.iload 4, 2) := by decide +kernel
theorem dX7_layLevel_97 : decode cX7_layLevel 97 = .ok (.goto 8, 3) := by decide +kernel
theorem dX7_layLevel_100 : decode cX7_layLevel 100 = .ok (.iload_n 3, 1) := by decide +kernel
theorem dX7_layLevel_101 : decode cX7_layLevel 101 = .ok (.iload_n 2, 1) := by decide +kernel
theorem dX7_layLevel_102 : decode cX7_layLevel 102 = .ok (.isub, 1) := by decide +kernel
theorem dX7_layLevel_103 : decode cX7_layLevel 103 = .ok (.iconst 1, 1) := by decide +kernel
theorem dX7_layLevel_104 : decode cX7_layLevel 104 = .ok (.iadd, 1) := by decide +kernel
theorem dX7_layLevel_105 : decode cX7_layLevel 105 = .ok (.iastore, 1) := by decide +kernel
theorem dX7_layLevel_106 : decode cX7_layLevel 106 = .ok (.iinc 2 1, 3) := by decide +kernel
theorem dX7_layLevel_109 : decode cX7_layLevel 109 = .ok (.goto (-107), 3) := by decide +kernel
theorem dX7_layLevel_112 : decode cX7_layLevel 112 = .ok (.iconst 0, 1) := by decide +kernel
theorem dX7_layLevel_113 : decode cX7_layLevel 113 = .ok (.istore_n 2, 1) := by decide +kernel
theorem dX7_layLevel_114 : decode cX7_layLevel 114 = .ok (.iload_n 2, 1) := by decide +kernel
theorem dX7_layLevel_115 : decode cX7_layLevel 115 = .ok (.aload_n 0, 1) := by decide +kernel
theorem dX7_layLevel_116 : decode cX7_layLevel 116 = .ok (.invokevirtual 37, 3) := by decide +kernel
theorem dX7_layLevel_119 : decode cX7_layLevel 119 = .ok (.if_icmp .ge 21, 3) := by decide +kernel
theorem dX7_layLevel_122 : decode cX7_layLevel 122 = .ok (.aload_n 0, 1) := by decide +kernel
theorem dX7_layLevel_123 : decode cX7_layLevel 123 = .ok (.getfield 31, 3) := by decide +kernel
theorem dX7_layLevel_126 : decode cX7_layLevel 126 = .ok (.iload_n 2, 1) := by decide +kernel
theorem dX7_layLevel_127 : decode cX7_layLevel 127 = .ok (.aload_n 0, 1) := by decide +kernel
theorem dX7_layLevel_128 : decode cX7_layLevel 128 = .ok (.getfield 34, 3) := by decide +kernel
theorem dX7_layLevel_131 : decode cX7_layLevel 131 = .ok (.iload_n 2, 1) := by decide +kernel
theorem dX7_layLevel_132 : decode cX7_layLevel 132 = .ok (.iaload, 1) := by decide +kernel
theorem dX7_layLevel_133 : decode cX7_layLevel 133 = .ok (.iastore, 1) := by decide +kernel
theorem dX7_layLevel_134 : decode cX7_layLevel 134 = .ok (.iinc 2 1, 3) := by decide +kernel
theorem dX7_layLevel_137 : decode cX7_layLevel 137 = .ok (.goto (-23), 3) := by decide +kernel
theorem dX7_layLevel_140 : decode cX7_layLevel 140 = .ok (.return_, 1) := by decide +kernel
set_option maxRecDepth 20000 in
theorem ggX7_strokes_X7_layLevel : GoodIn wsX7_strokes wsX7_layLevel := goodIn_r _ [6, 7, 8, 1, 9, 10, 11, 5, 12, 13, 14, 15, 16, 17, 18, 19, 20, 21, 22, 23, 24, 25, 26, 27, 28] (by decide +kernel) (by decide +kernel)
set_option maxRecDepth 20000 in
theorem gX7_strokes_X7_layLevel : GoodIn wsX7_strokes (wsV RX7 111 RX7 yX7_layLevel wsX7_layLevel) := goodIn_app (goodIn_of _ (by decide +kernel)) ggX7_strokes_X7_layLevel
set_option maxRecDepth 20000 in
theorem ggX7_strokes_X7_many : GoodIn wsX7_strokes wsX7_many := goodIn_r _ [12, 8, 17, 18, 19, 20, 21, 22, 23, 24, 25, 26, 27, 28] (by decide +kernel) (by decide +kernel)
set_option maxRecDepth 20000 in
theorem gX7_strokes_X7_many : GoodIn wsX7_strokes (wsV RX7 37 RX7 yX7_many wsX7_many) := goodIn_app (goodIn_of _ (by decide +kernel)) ggX7_strokes_X7_many
theorem dX7_strokes_0 : decode cX7_strokes 0 = .ok (.iconst 0, 1) := by decide +kernel
theorem dX7_strokes_1 : decode cX7_strokes 1 = .ok (.istore_n 1, 1) := by decide +kernel
theorem dX7_strokes_2 : decode cX7_strokes 2 = .ok (.iload_n 1, 1) := by decide +kernel
theorem dX7_strokes_3 : decode cX7_strokes 3 = .ok (.bipush 40, 2) := by decide +kernel
theorem dX7_strokes_5 : decode cX7_strokes 5 = .ok (.if_icmp .gt 16, 3) := by decide +kernel
theorem dX7_strokes_8 : decode cX7_strokes 8 = .ok (.aload_n 0, 1) := by decide +kernel
theorem dX7_strokes_9 : decode cX7_strokes 9 = .ok (.getfield 31, 3) := by decide +kernel
theorem dX7_strokes_12 : decode cX7_strokes 12 = .ok (.iload_n 1, 1) := by decide +kernel
theorem dX7_strokes_13 : decode cX7_strokes 13 = .ok (.iconst 0, 1) := by decide +kernel
theorem dX7_strokes_14 : decode cX7_strokes 14 = .ok (.iastore, 1) := by decide +kernel
theorem dX7_strokes_15 : decode cX7_strokes 15 = .ok (.iinc 1 1, 3) := by decide +kernel
theorem dX7_strokes_18 : decode cX7_strokes 18 = .ok (.goto (-16), 3) := by decide +kernel
theorem dX7_strokes_21 : decode cX7_strokes 21 = .ok (.bipush 49, 2) := by decide +kernel
theorem dX7_strokes_23 : decode cX7_strokes 23 = .ok (.istore_n 1, 1) := by decide +kernel
theorem dX7_strokes_24 : decode cX7_strokes 24 = .ok (.iload_n 1, 1) := by decide +kernel
theorem dX7_strokes_25 : decode cX7_strokes 25 = .ok (.ifCond .lt 14, 3) := by decide +kernel
theorem dX7_strokes_28 : decode cX7_strokes 28 = .ok (.aload_n 0, 1) := by decide +kernel
theorem dX7_strokes_29 : decode cX7_strokes 29 = .ok (.iload_n 1, 1) := by decide +kernel
theorem dX7_strokes_30 : decode cX7_strokes 30 = .ok (.invokevirtual 111, 3) := by decide +kernel
theorem dX7_strokes_33 : decode cX7_strokes 33 = .ok (.iinc 1 (-1), 3) := by decide +kernel
theorem dX7_strokes_36 : decode cX7_strokes 36 = .ok (.goto (-12), 3) := by decide +kernel
theorem dX7_strokes_39 : decode cX7_strokes 39 = .ok (.iconst 0, 1) := by decide +kernel
theorem dX7_strokes_40 : decode cX7_strokes 40 = .ok (.istore_n 1, 1) := by decide +kernel
theorem dX7_strokes_41 : decode cX7_strokes 41 = .ok (.iconst 0, 1) := by decide +kernel
theorem dX7_strokes_42 : decode cX7_strokes 42 = .ok (.istore_n 2, 1) := by decide +kernel
theorem dX7_strokes_43 : decode cX7_strokes 43 = .ok (.iload_n 2, 1) := by decide +kernel
theorem dX7_strokes_44 : decode cX7_strokes 44 = .ok (.aload_n 0, 1) := by decide +kernel
theorem dX7_strokes_45 : decode cX7_strokes 45 = .ok (.invokevirtual 37, 3) := by decide +kernel
theorem dX7_strokes_48 : decode cX7_strokes 48 = .ok (.if_icmp .ge 18, 3) := by decide +kernel
theorem dX7_strokes_51 : decode cX7_strokes 51 = .ok (.iload_n 1, 1) := by decide +kernel
theorem dX7_strokes_52 : decode cX7_strokes 52 = .ok (.aload_n 0, 1) := by decide +kernel
theorem dX7_strokes_53 : decode cX7_strokes 53 = .ok (.getfield 31, 3) := by decide +kernel
theorem dX7_strokes_56 : decode cX7_strokes 56 = .ok (.iload_n 2, 1) := by decide +kernel
theorem dX7_strokes_57 : decode cX7_strokes 57 = .ok (.iaload, 1) := by decide +kernel
theorem dX7_strokes_58 : decode cX7_strokes 58 = .ok (.iadd, 1) := by decide +kernel
theorem dX7_strokes_59 : decode cX7_strokes 59 = .ok (.istore_n 1, 1) := by decide +kernel
theorem dX7_strokes_60 : decode cX7_strokes 60 = .ok (.iinc 2 1, 3) := by decide +kernel
theorem dX7_strokes_63 : decode cX7_strokes 63 = .ok (.goto (-20), 3) := by decide +kernel
theorem dX7_strokes_66 : decode cX7_strokes 66 = .ok (.iload_n 1, 1) := by decide +kernel
theorem dX7_strokes_67 : decode cX7_strokes 67 = .ok (.ireturn, 1) := by decide +kernel
set_option maxRecDepth 20000 in
theorem ggX7_standing_X7_many : GoodIn wsX7_standing wsX7_many := goodIn_r _ [6, 1, 11, 12, 13, 14, 15, 16, 17, 18, 19, 20, 21, 22] (by decide +kernel) (by decide +kernel)
set_option maxRecDepth 20000 in
theorem gX7_standing_X7_many : GoodIn wsX7_standing (wsV RX7 37 RX7 yX7_many wsX7_many) := goodIn_app (goodIn_of _ (by decide +kernel)) ggX7_standing_X7_many
set_option maxRecDepth 20000 in
theorem ggX7_standing_X7_greatest : GoodIn wsX7_standing wsX7_greatest := goodIn_r _ [10, 1, 11, 12, 13, 14, 15, 16, 17, 18, 19, 20, 21, 22] (by decide +kernel) (by decide +kernel)
set_option maxRecDepth 20000 in
theorem gX7_standing_X7_greatest : GoodIn wsX7_standing (wsV RX7 78 RX7 yX7_greatest wsX7_greatest) := goodIn_app (goodIn_of _ (by decide +kernel)) ggX7_standing_X7_greatest
theorem dX7_standing_0 : decode cX7_standing 0 = .ok (.iconst 0, 1) := by decide +kernel
theorem dX7_standing_1 : decode cX7_standing 1 = .ok (.istore_n 2, 1) := by decide +kernel
theorem dX7_standing_2 : decode cX7_standing 2 = .ok (.iconst 0, 1) := by decide +kernel
theorem dX7_standing_3 : decode cX7_standing 3 = .ok (.istore_n 3, 1) := by decide +kernel
theorem dX7_standing_4 : decode cX7_standing 4 = .ok (.iload_n 3, 1) := by decide +kernel
theorem dX7_standing_5 : decode cX7_standing 5 = .ok (.aload_n 0, 1) := by decide +kernel
theorem dX7_standing_6 : decode cX7_standing 6 = .ok (.invokevirtual 37, 3) := by decide +kernel
