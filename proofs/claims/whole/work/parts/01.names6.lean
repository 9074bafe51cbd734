theorem dX7_ranges_14 : decode cX7_ranges 14 = .ok (.iconst 0, 1) := by decide +kernel
theorem dX7_ranges_15 : decode cX7_ranges 15 = .ok (.istore_n 3, 1) := by decide +kernel
theorem dX7_ranges_16 : decode cX7_ranges 16 = .ok (.iload_n 3, 1) := by decide +kernel
theorem dX7_ranges_17 : decode cX7_ranges 17 = .ok (.aload_n 0, 1) := by decide +kernel
theorem dX7_ranges_18 : decode cX7_ranges 18 = .ok (.invokevirtual 37, 3) := by decide +kernel
theorem dX7_ranges_21 : decode cX7_ranges 21 = .ok (.if_icmp .ge 46, 3) := by decide +kernel
theorem dX7_ranges_24 : decode cX7_ranges 24 = .ok (.iload_n 3, 1) := by decide +kernel
theorem dX7_ranges_25 : decode cX7_ranges 25 = .ok (.istore 4, 2) := by decide +kernel
theorem dX7_ranges_27 : decode cX7_ranges 27 = .ok (.iload 4, 2) := by decide +kernel
theorem dX7_ranges_29 : decode cX7_ranges 29 = .ok (.aload_n 0, 1) := by decide +kernel
theorem dX7_ranges_30 : decode cX7_ranges 30 = .ok (.invokevirtual 37, 3) := by decide +kernel
theorem dX7_ranges_33 : decode cX7_ranges 33 = .ok (.if_icmp .ge 28, 3) := by decide +kernel
theorem dX7_ranges_36 : decode cX7_ranges 36 = .ok (.iload_n 2, 1) := by decide +kernel
theorem dX7_ranges_37 : decode cX7_ranges 37 = .ok (.aload_n 0, 1) := by decide +kernel
theorem dX7_ranges_38 : decode cX7_ranges 38 = .ok (.iload_n 3, 1) := by decide +kernel
theorem dX7_ranges_39 : decode cX7_ranges 39 = .ok (.iload 4, 2) := by decide +kernel
theorem dX7_ranges_41 : decode cX7_ranges 41 = .ok (.invokevirtual 87, 3) := by decide +kernel
theorem dX7_ranges_44 : decode cX7_ranges 44 = .ok (.iload_n 1, 1) := by decide +kernel
theorem dX7_ranges_45 : decode cX7_ranges 45 = .ok (.if_icmp .lt 7, 3) := by decide +kernel
theorem dX7_ranges_48 : decode cX7_ranges 48 = .ok (.iconst 1, 1) := by decide +kernel
theorem dX7_ranges_49 : decode cX7_ranges 49 = .ok (.goto 4, 3) := by decide +kernel
theorem dX7_ranges_52 : decode cX7_ranges 52 = .ok (.iconst 0, 1) := by decide +kernel
theorem dX7_ranges_53 : decode cX7_ranges 53 = .ok (.iadd, 1) := by decide +kernel
theorem dX7_ranges_54 : decode cX7_ranges 54 = .ok (.istore_n 2, 1) := by decide +kernel
theorem dX7_ranges_55 : decode cX7_ranges 55 = .ok (.iinc 4 1, 3) := by decide +kernel
theorem dX7_ranges_58 : decode cX7_ranges 58 = .ok (.goto (-31), 3) := by decide +kernel
theorem dX7_ranges_61 : decode cX7_ranges 61 = .ok (.iinc 3 1, 3) := by decide +kernel
theorem dX7_ranges_64 : decode cX7_ranges 64 = .ok (.goto (-48), 3) := by decide +kernel
theorem dX7_ranges_67 : decode cX7_ranges 67 = .ok (.iload_n 2, 1) := by decide +kernel
theorem dX7_ranges_68 : decode cX7_ranges 68 = .ok (.ireturn, 1) := by decide +kernel
set_option maxRecDepth 20000 in
theorem ggX7_isImage_X7_isIn : GoodIn wsX7_isImage wsX7_isIn := goodIn_r _ [4] (by decide +kernel) (by decide +kernel)
set_option maxRecDepth 20000 in
theorem gX7_isImage_X7_isIn : GoodIn wsX7_isImage (va_wsS RX7 41 yX7_isIn wsX7_isIn) := goodIn_app (goodIn_of _ (by decide +kernel)) ggX7_isImage_X7_isIn
theorem dX7_isImage_0 : decode cX7_isImage 0 = .ok (.iload_n 0, 1) := by decide +kernel
theorem dX7_isImage_1 : decode cX7_isImage 1 = .ok (.iconst 0, 1) := by decide +kernel
theorem dX7_isImage_2 : decode cX7_isImage 2 = .ok (.iconst 1, 1) := by decide +kernel
theorem dX7_isImage_3 : decode cX7_isImage 3 = .ok (.invokestatic 41, 3) := by decide +kernel
theorem dX7_isImage_6 : decode cX7_isImage 6 = .ok (.ireturn, 1) := by decide +kernel
set_option maxRecDepth 20000 in
theorem ggX7_keep_X7_isImage : GoodIn wsX7_keep wsX7_isImage := goodIn_r _ [7, 8, 9, 6, 10] (by decide +kernel) (by decide +kernel)
set_option maxRecDepth 20000 in
theorem gX7_keep_X7_isImage : GoodIn wsX7_keep (va_wsS RX7 159 yX7_isImage wsX7_isImage) := goodIn_app (goodIn_of _ (by decide +kernel)) ggX7_keep_X7_isImage
set_option maxRecDepth 20000 in
theorem ggX7_keep_X7_many : GoodIn wsX7_keep wsX7_many := goodIn_r _ [14, 2, 15, 16, 17, 18, 19, 20, 21, 22, 23, 24, 25, 26] (by decide +kernel) (by decide +kernel)
set_option maxRecDepth 20000 in
theorem gX7_keep_X7_many : GoodIn wsX7_keep (wsV RX7 37 RX7 yX7_many wsX7_many) := goodIn_app (goodIn_of _ (by decide +kernel)) ggX7_keep_X7_many
theorem dX7_keep_0 : decode cX7_keep 0 = .ok (.iload_n 1, 1) := by decide +kernel
theorem dX7_keep_1 : decode cX7_keep 1 = .ok (.invokestatic 159, 3) := by decide +kernel
theorem dX7_keep_4 : decode cX7_keep 4 = .ok (.ifCond .ne 5, 3) := by decide +kernel
theorem dX7_keep_7 : decode cX7_keep 7 = .ok (.iconst (-1), 1) := by decide +kernel
theorem dX7_keep_8 : decode cX7_keep 8 = .ok (.ireturn, 1) := by decide +kernel
theorem dX7_keep_9 : decode cX7_keep 9 = .ok (.iconst 0, 1) := by decide +kernel
theorem dX7_keep_10 : decode cX7_keep 10 = .ok (.istore_n 2, 1) := by decide +kernel
theorem dX7_keep_11 : decode cX7_keep 11 = .ok (.iload_n 2, 1) := by decide +kernel
theorem dX7_keep_12 : decode cX7_keep 12 = .ok (.bipush 41, 2) := by decide +kernel
theorem dX7_keep_14 : decode cX7_keep 14 = .ok (.if_icmp .ge 26, 3) := by decide +kernel
theorem dX7_keep_17 : decode cX7_keep 17 = .ok (.aload_n 0, 1) := by decide +kernel
theorem dX7_keep_18 : decode cX7_keep 18 = .ok (.getfield 16, 3) := by decide +kernel
theorem dX7_keep_21 : decode cX7_keep 21 = .ok (.bipush 41, 2) := by decide +kernel
theorem dX7_keep_23 : decode cX7_keep 23 = .ok (.iload_n 1, 1) := by decide +kernel
theorem dX7_keep_24 : decode cX7_keep 24 = .ok (.imul, 1) := by decide +kernel
theorem dX7_keep_25 : decode cX7_keep 25 = .ok (.iload_n 2, 1) := by decide +kernel
theorem dX7_keep_26 : decode cX7_keep 26 = .ok (.iadd, 1) := by decide +kernel
theorem dX7_keep_27 : decode cX7_keep 27 = .ok (.aload_n 0, 1) := by decide +kernel
theorem dX7_keep_28 : decode cX7_keep 28 = .ok (.getfield 7, 3) := by decide +kernel
theorem dX7_keep_31 : decode cX7_keep 31 = .ok (.iload_n 2, 1) := by decide +kernel
theorem dX7_keep_32 : decode cX7_keep 32 = .ok (.iaload, 1) := by decide +kernel
theorem dX7_keep_33 : decode cX7_keep 33 = .ok (.iastore, 1) := by decide +kernel
theorem dX7_keep_34 : decode cX7_keep 34 = .ok (.iinc 2 1, 3) := by decide +kernel
theorem dX7_keep_37 : decode cX7_keep 37 = .ok (.goto (-26), 3) := by decide +kernel
theorem dX7_keep_40 : decode cX7_keep 40 = .ok (.aload_n 0, 1) := by decide +kernel
theorem dX7_keep_41 : decode cX7_keep 41 = .ok (.dup, 1) := by decide +kernel
theorem dX7_keep_42 : decode cX7_keep 42 = .ok (.getfield 162, 3) := by decide +kernel
theorem dX7_keep_45 : decode cX7_keep 45 = .ok (.iconst 1, 1) := by decide +kernel
theorem dX7_keep_46 : decode cX7_keep 46 = .ok (.iload_n 1, 1) := by decide +kernel
theorem dX7_keep_47 : decode cX7_keep 47 = .ok (.ishl, 1) := by decide +kernel
theorem dX7_keep_48 : decode cX7_keep 48 = .ok (.ior, 1) := by decide +kernel
theorem dX7_keep_49 : decode cX7_keep 49 = .ok (.putfield 162, 3) := by decide +kernel
theorem dX7_keep_52 : decode cX7_keep 52 = .ok (.aload_n 0, 1) := by decide +kernel
theorem dX7_keep_53 : decode cX7_keep 53 = .ok (.invokevirtual 37, 3) := by decide +kernel
theorem dX7_keep_56 : decode cX7_keep 56 = .ok (.ireturn, 1) := by decide +kernel
theorem dX7_isKept_0 : decode cX7_isKept 0 = .ok (.aload_n 0, 1) := by decide +kernel
theorem dX7_isKept_1 : decode cX7_isKept 1 = .ok (.getfield 162, 3) := by decide +kernel
theorem dX7_isKept_4 : decode cX7_isKept 4 = .ok (.iload_n 1, 1) := by decide +kernel
theorem dX7_isKept_5 : decode cX7_isKept 5 = .ok (.ishr, 1) := by decide +kernel
theorem dX7_isKept_6 : decode cX7_isKept 6 = .ok (.iconst 1, 1) := by decide +kernel
theorem dX7_isKept_7 : decode cX7_isKept 7 = .ok (.iand, 1) := by decide +kernel
theorem dX7_isKept_8 : decode cX7_isKept 8 = .ok (.iconst 1, 1) := by decide +kernel
theorem dX7_isKept_9 : decode cX7_isKept 9 = .ok (.if_icmp .ne 7, 3) := by decide +kernel
theorem dX7_isKept_12 : decode cX7_isKept 12 = .ok (.iconst 1, 1) := by decide +kernel
theorem dX7_isKept_13 : decode cX7_isKept 13 = .ok (.goto 4, 3) := by decide +kernel
theorem dX7_isKept_16 : decode cX7_isKept 16 = .ok (.iconst 0, 1) := by decide +kernel
theorem dX7_isKept_17 : decode cX7_isKept 17 = .ok (.ireturn, 1) := by decide +kernel
set_option maxRecDepth 20000 in
theorem ggX7_back_X7_isImage : GoodIn wsX7_back wsX7_isImage := goodIn_r _ [6, 7, 8, 5, 9] (by decide +kernel) (by decide +kernel)
set_option maxRecDepth 20000 in
theorem gX7_back_X7_isImage : GoodIn wsX7_back (va_wsS RX7 159 yX7_isImage wsX7_isImage) := goodIn_app (goodIn_of _ (by decide +kernel)) ggX7_back_X7_isImage
set_option maxRecDepth 20000 in
theorem ggX7_back_X7_isKept : GoodIn wsX7_back wsX7_isKept := goodIn_r _ [13, 14, 25, 26, 27, 28, 29, 30, 31, 32, 33, 34, 35, 36] (by decide +kernel) (by decide +kernel)
set_option maxRecDepth 20000 in
theorem gX7_back_X7_isKept : GoodIn wsX7_back (wsV RX7 165 RX7 yX7_isKept wsX7_isKept) := goodIn_app (goodIn_of _ (by decide +kernel)) ggX7_back_X7_isKept
set_option maxRecDepth 20000 in
theorem ggX7_back_X7_remember : GoodIn wsX7_back wsX7_remember := goodIn_r _ [18, 19, 20, 1, 25, 26, 27, 28, 29, 30, 31, 32, 33, 34, 35, 36] (by decide +kernel) (by decide +kernel)
set_option maxRecDepth 20000 in
theorem gX7_back_X7_remember : GoodIn wsX7_back (wsV RX7 57 RX7 yX7_remember wsX7_remember) := goodIn_app (goodIn_of _ (by decide +kernel)) ggX7_back_X7_remember
set_option maxRecDepth 20000 in
theorem ggX7_back_X7_many : GoodIn wsX7_back wsX7_many := goodIn_r _ [24, 1, 25, 26, 27, 28, 29, 30, 31, 32, 33, 34, 35, 36] (by decide +kernel) (by decide +kernel)
set_option maxRecDepth 20000 in
theorem gX7_back_X7_many : GoodIn wsX7_back (wsV RX7 37 RX7 yX7_many wsX7_many) := goodIn_app (goodIn_of _ (by decide +kernel)) ggX7_back_X7_many
theorem dX7_back_0 : decode cX7_back 0 = .ok (.iload_n 1, 1) := by decide +kernel
theorem dX7_back_1 : decode cX7_back 1 = .ok (.invokestatic 159, 3) := by decide +kernel
theorem dX7_back_4 : decode cX7_back 4 = .ok (.ifCond .ne 5, 3) := by decide +kernel
theorem dX7_back_7 : decode cX7_back 7 = .ok (.iconst (-1), 1) := by decide +kernel
theorem dX7_back_8 : decode cX7_back 8 = .ok (.ireturn, 1) := by decide +kernel
theorem dX7_back_9 : decode cX7_back 9 = .ok (.aload_n 0, 1) := by decide +kernel
theorem dX7_back_10 : decode cX7_back 10 = .ok (.iload_n 1, 1) := by decide +kernel
theorem dX7_back_11 : decode cX7_back 11 = .ok (.invokevirtual 165, 3) := by decide +kernel
theorem dX7_back_14 : decode cX7_back 14 = .ok (.ifCond .ne 6, 3) := by decide +kernel
theorem dX7_back_17 : decode cX7_back 17 = .ok (.bipush (-2), 2) := by decide +kernel
theorem dX7_back_19 : decode cX7_back 19 = .ok (.ireturn, 1) := by decide +kernel
theorem dX7_back_20 : decode cX7_back 20 = .ok (.aload_n 0, 1) := by decide +kernel
theorem dX7_back_21 : decode cX7_back 21 = .ok (.invokevirtual 57, 3) := by decide +kernel
theorem dX7_back_24 : decode cX7_back 24 = .ok (.iconst 0, 1) := by decide +kernel
theorem dX7_back_25 : decode cX7_back 25 = .ok (.istore_n 2, 1) := by decide +kernel
theorem dX7_back_26 : decode cX7_back 26 = .ok (.iload_n 2, 1) := by decide +kernel
theorem dX7_back_27 : decode cX7_back 27 = .ok (.bipush 41, 2) := by decide +kernel
theorem dX7_back_29 : decode cX7_back 29 = .ok (.if_icmp .ge 26, 3) := by decide +kernel
theorem dX7_back_32 : decode cX7_back 32 = .ok (.aload_n 0, 1) := by decide +kernel
theorem dX7_back_33 : decode cX7_back 33 = .ok (.getfield 7, 3) := by decide +kernel
theorem dX7_back_36 : decode cX7_back 36 = .ok (.iload_n 2, 1) := by decide +kernel
theorem dX7_back_37 : decode cX7_back 37 = .ok (.aload_n 0, 1) := by decide +kernel
theorem dX7_back_38 : decode cX7_back 38 = .ok (.getfield 16, 3) := by decide +kernel
theorem dX7_back_41 : decode cX7_back 41 = .ok (.bipush 41, 2) := by decide +kernel
theorem dX7_back_43 : decode cX7_back 43 = .ok (.iload_n 1, 1) := by decide +kernel
theorem dX7_back_44 : decode cX7_back 44 = .ok (.imul, 1) := by decide +kernel
theorem dX7_back_45 : decode cX7_back 45 = .ok (.iload_n 2, 1) := by decide +kernel
theorem dX7_back_46 : decode cX7_back 46 = .ok (.iadd, 1) := by decide +kernel
theorem dX7_back_47 : decode cX7_back 47 = .ok (.iaload, 1) := by decide +kernel
theorem dX7_back_48 : decode cX7_back 48 = .ok (.iastore, 1) := by decide +kernel
theorem dX7_back_49 : decode cX7_back 49 = .ok (.iinc 2 1, 3) := by decide +kernel
theorem dX7_back_52 : decode cX7_back 52 = .ok (.goto (-26), 3) := by decide +kernel
theorem dX7_back_55 : decode cX7_back 55 = .ok (.aload_n 0, 1) := by decide +kernel
theorem dX7_back_56 : decode cX7_back 56 = .ok (.invokevirtual 37, 3) := by decide +kernel
theorem dX7_back_59 : decode cX7_back 59 = .ok (.ireturn, 1) := by decide +kernel
set_option maxRecDepth 20000 in
theorem ggX7_parting_X7_isImage : GoodIn wsX7_parting wsX7_isImage := goodIn_r _ [6, 7, 8, 5, 9] (by decide +kernel) (by decide +kernel)
set_option maxRecDepth 20000 in
theorem gX7_parting_X7_isImage : GoodIn wsX7_parting (va_wsS RX7 159 yX7_isImage wsX7_isImage) := goodIn_app (goodIn_of _ (by decide +kernel)) ggX7_parting_X7_isImage
set_option maxRecDepth 20000 in
theorem ggX7_parting_X7_isKept : GoodIn wsX7_parting wsX7_isKept := goodIn_r _ [13, 14, 19, 20, 21, 22, 23, 24, 25, 26, 27, 28, 29, 30] (by decide +kernel) (by decide +kernel)
set_option maxRecDepth 20000 in
theorem gX7_parting_X7_isKept : GoodIn wsX7_parting (wsV RX7 165 RX7 yX7_isKept wsX7_isKept) := goodIn_app (goodIn_of _ (by decide +kernel)) ggX7_parting_X7_isKept
set_option maxRecDepth 20000 in
theorem ggX7_parting_X7_many : GoodIn wsX7_parting wsX7_many := goodIn_r _ [18, 2, 19, 20, 21, 22, 23, 24, 25, 26, 27, 28, 29, 30] (by decide +kernel) (by decide +kernel)
set_option maxRecDepth 20000 in
theorem gX7_parting_X7_many : GoodIn wsX7_parting (wsV RX7 37 RX7 yX7_many wsX7_many) := goodIn_app (goodIn_of _ (by decide +kernel)) ggX7_parting_X7_many
theorem dX7_parting_0 : decode cX7_parting 0 = .ok (.iload_n 1, 1) := by decide +kernel
theorem dX7_parting_1 : decode cX7_parting 1 = .ok (.invokestatic 159, 3) := by decide +kernel
theorem dX7_parting_4 : decode cX7_parting 4 = .ok (.ifCond .ne 5, 3) := by decide +kernel
theorem dX7_parting_7 : decode cX7_parting 7 = .ok (.iconst (-1), 1) := by decide +kernel
theorem dX7_parting_8 : decode cX7_parting 8 = .ok (.ireturn, 1) := by decide +kernel
theorem dX7_parting_9 : decode cX7_parting 9 = .ok (.aload_n 0, 1) := by decide +kernel
theorem dX7_parting_10 : decode cX7_parting 10 = .ok (.iload_n 1, 1) := by decide +kernel
theorem dX7_parting_11 : decode cX7_parting 11 = .ok (.invokevirtual 165, 3) := by decide +kernel
theorem dX7_parting_14 : decode cX7_parting 14 = .ok (.ifCond .ne 6, 3) := by decide +kernel
theorem dX7_parting_17 : decode cX7_parting 17 = .ok (.bipush (-2), 2) := by decide +kernel
theorem dX7_parting_19 : decode cX7_parting 19 = .ok (.ireturn, 1) := by decide +kernel
theorem dX7_parting_20 : decode cX7_parting 20 = .ok (.aload_n 0, 1) := by decide +kernel
theorem dX7_parting_21 : decode cX7_parting 21 = .ok (.getfield 16, 3) := by decide +kernel
theorem dX7_parting_24 : decode cX7_parting 24 = .ok (.bipush 41, 2) := by decide +kernel
theorem dX7_parting_26 : decode cX7_parting 26 = .ok (.iload_n 1, 1) := by decide +kernel
theorem dX7_parting_27 : decode cX7_parting 27 = .ok (.imul, 1) := by decide +kernel
theorem dX7_parting_28 : decode cX7_parting 28 = .ok (.bipush 40, 2) := by decide +kernel
theorem dX7_parting_30 : decode cX7_parting 30 = .ok (.iadd, 1) := by decide +kernel
theorem dX7_parting_31 : decode cX7_parting 31 = .ok (.iaload, 1) := by decide +kernel
theorem dX7_parting_32 : decode cX7_parting 32 = .ok (.istore_n 2, 1) := by decide +kernel
theorem dX7_parting_33 : decode cX7_parting 33 = .ok (.iconst 0, 1) := by decide +kernel
theorem dX7_parting_34 : decode cX7_parting 34 = .ok (.istore_n 3, 1) := by decide +kernel
theorem dX7_parting_35 : decode cX7_parting 35 = .ok (.iload_n 3, 1) := by decide +kernel
theorem dX7_parting_36 : decode cX7_parting 36 = .ok (.aload_n 0, 1) := by decide +kernel
theorem dX7_parting_37 : decode cX7_parting 37 = .ok (.invokevirtual 37, 3) := by decide +kernel
theorem dX7_parting_40 : decode cX7_parting 40 = .ok (.if_icmp .ge 34, 3) := by decide +kernel
theorem dX7_parting_43 : decode cX7_parting 43 = .ok (.iload_n 3, 1) := by decide +kernel
theorem dX7_parting_44 : decode cX7_parting 44 = .ok (.iload_n 2, 1) := by decide +kernel
theorem dX7_parting_45 : decode cX7_parting 45 = .ok (.if_icmp .ge 29, 3) := by decide +kernel
theorem dX7_parting_48 : decode cX7_parting 48 = .ok (.aload_n 0, 1) := by decide +kernel
theorem dX7_parting_49 : decode cX7_parting 49 = .ok (.getfield 7, 3) := by decide +kernel
theorem dX7_parting_52 : decode cX7_parting 52 = .ok (.iload_n 3, 1) := by decide +kernel
theorem dX7_parting_53 : decode cX7_parting 53 = .ok (.iaload, 1) := by decide +kernel
theorem dX7_parting_54 : decode cX7_parting 54 = .ok (.aload_n 0, 1) := by decide +kernel
theorem dX7_parting_55 : decode cX7_parting 55 = .ok (.getfield 16, 3) := by decide +kernel
theorem dX7_parting_58 : decode cX7_parting 58 = .ok (.bipush 41, 2) := by decide +kernel
theorem dX7_parting_60 : decode cX7_parting 60 = .ok (.iload_n 1, 1) := by decide +kernel
theorem dX7_parting_61 : decode cX7_parting 61 = .ok (.imul, 1) := by decide +kernel
theorem dX7_parting_62 : decode cX7_parting 62 = .ok (.iload_n 3, 1) := by decide +kernel
theorem dX7_parting_63 : decode cX7_parting 63 = .ok (.iadd, 1) := by decide +kernel
theorem dX7_parting_64 : decode cX7_parting 64 = .ok (.iaload, 1) := by decide +kernel
theorem dX7_parting_65 : decode cX7_parting 65 = .ok (.if_icmp .ne 9, 3) := by decide +kernel
theorem dX7_parting_68 : decode cX7_parting 68 = .ok (.iinc 3 1, 3) := by decide +kernel
theorem dX7_parting_71 : decode cX7_parting 71 = .ok (.goto (-36), 3) := by decide +kernel
theorem dX7_parting_74 : decode cX7_parting 74 = .ok (.iload_n 3, 1) := by decide +kernel
theorem dX7_parting_75 : decode cX7_parting 75 = .ok (.aload_n 0, 1) := by decide +kernel
theorem dX7_parting_76 : decode cX7_parting 76 = .ok (.invokevirtual 37, 3) := by decide +kernel
theorem dX7_parting_79 : decode cX7_parting 79 = .ok (.if_icmp .ne 13, 3) := by decide +kernel
theorem dX7_parting_82 : decode cX7_parting 82 = .ok (.iload_n 3, 1) := by decide +kernel
theorem dX7_parting_83 : decode cX7_parting 83 = .ok (.iload_n 2, 1) := by decide +kernel
theorem dX7_parting_84 : decode cX7_parting 84 = .ok (.if_icmp .ne 8, 3) := by decide +kernel
theorem dX7_parting_87 : decode cX7_parting 87 = .ok (.bipush (-9), 2) := by decide +kernel
theorem dX7_parting_89 : decode cX7_parting 89 = .ok (.goto 4, 3) := by decide +kernel
theorem dX7_parting_92 : decode cX7_parting 92 = .ok (.iload_n 3, 1) := by decide +kernel
theorem dX7_parting_93 : decode cX7_parting 93 = .ok (.ireturn, 1) := by decide +kernel
theorem dJ9_max_7cf53_0 : decode cJ9_max_7cf53 0 = .ok (.iload_n 0, 1) := by decide +kernel
theorem dJ9_max_7cf53_1 : decode cJ9_max_7cf53 1 = .ok (.iload_n 1, 1) := by decide +kernel
theorem dJ9_max_7cf53_2 : decode cJ9_max_7cf53 2 = .ok (.if_icmp .lt 7, 3) := by decide +kernel
theorem dJ9_max_7cf53_5 : decode cJ9_max_7cf53 5 = .ok (.iload_n 0, 1) := by decide +kernel
theorem dJ9_max_7cf53_6 : decode cJ9_max_7cf53 6 = .ok (.goto 4, 3) := by decide +kernel
theorem dJ9_max_7cf53_9 : decode cJ9_max_7cf53 9 = .ok (.iload_n 1, 1) := by decide +kernel
theorem dJ9_max_7cf53_10 : decode cJ9_max_7cf53 10 = .ok (.ireturn, 1) := by decide +kernel
theorem dJ9_min_7cf53_0 : decode cJ9_min_7cf53 0 = .ok (.iload_n 0, 1) := by decide +kernel
theorem dJ9_min_7cf53_1 : decode cJ9_min_7cf53 1 = .ok (.iload_n 1, 1) := by decide +kernel
theorem dJ9_min_7cf53_2 : decode cJ9_min_7cf53 2 = .ok (.if_icmp .gt 7, 3) := by decide +kernel
theorem dJ9_min_7cf53_5 : decode cJ9_min_7cf53 5 = .ok (.iload_n 0, 1) := by decide +kernel
theorem dJ9_min_7cf53_6 : decode cJ9_min_7cf53 6 = .ok (.goto 4, 3) := by decide +kernel
theorem dJ9_min_7cf53_9 : decode cJ9_min_7cf53 9 = .ok (.iload_n 1, 1) := by decide +kernel
theorem dJ9_min_7cf53_10 : decode cJ9_min_7cf53 10 = .ok (.ireturn, 1) := by decide +kernel
theorem dJ7_rangeCheck_23922_0 : decode cJ7_rangeCheck_23922 0 = .ok (.iload_n 1, 1) := by decide +kernel
theorem dJ7_rangeCheck_23922_1 : decode cJ7_rangeCheck_23922 1 = .ok (.iload_n 2, 1) := by decide +kernel
theorem dJ7_rangeCheck_23922_2 : decode cJ7_rangeCheck_23922 2 = .ok (.if_icmp .le 44, 3) := by decide +kernel
theorem dJ7_rangeCheck_23922_5 : decode cJ7_rangeCheck_23922 5 = .ok (.new 43, 3) := by decide +kernel
theorem dJ7_rangeCheck_23922_8 : decode cJ7_rangeCheck_23922 8 = .ok (.dup, 1) := by decide +kernel
theorem dJ7_rangeCheck_23922_9 : decode cJ7_rangeCheck_23922 9 = .ok (.new 45, 3) := by decide +kernel
theorem dJ7_rangeCheck_23922_12 : decode cJ7_rangeCheck_23922 12 = .ok (.dup, 1) := by decide +kernel
theorem dJ7_rangeCheck_23922_13 : decode cJ7_rangeCheck_23922 13 = .ok (.invokespecial 47, 3) := by decide +kernel
theorem dJ7_rangeCheck_23922_16 : decode cJ7_rangeCheck_23922 16 = .ok (.ldc 48, 2) := by decide +kernel
theorem dJ7_rangeCheck_23922_18 : decode cJ7_rangeCheck_23922 18 = .ok (.invokevirtual 50, 3) := by decide +kernel
theorem dJ7_rangeCheck_23922_21 : decode cJ7_rangeCheck_23922 21 = .ok (.iload_n 1, 1) := by decide +kernel
theorem dJ7_rangeCheck_23922_22 : decode cJ7_rangeCheck_23922 22 = .ok (.invokevirtual 54, 3) := by decide +kernel
theorem dJ7_rangeCheck_23922_25 : decode cJ7_rangeCheck_23922 25 = .ok (.ldc 57, 2) := by decide +kernel
theorem dJ7_rangeCheck_23922_27 : decode cJ7_rangeCheck_23922 27 = .ok (.invokevirtual 50, 3) := by decide +kernel
theorem dJ7_rangeCheck_23922_30 : decode cJ7_rangeCheck_23922 30 = .ok (.iload_n 2, 1) := by decide +kernel
theorem dJ7_rangeCheck_23922_31 : decode cJ7_rangeCheck_23922 31 = .ok (.invokevirtual 54, 3) := by decide +kernel
theorem dJ7_rangeCheck_23922_34 : decode cJ7_rangeCheck_23922 34 = .ok (.ldc 59, 2) := by decide +kernel
theorem dJ7_rangeCheck_23922_36 : decode cJ7_rangeCheck_23922 36 = .ok (.invokevirtual 50, 3) := by decide +kernel
theorem dJ7_rangeCheck_23922_39 : decode cJ7_rangeCheck_23922 39 = .ok (.invokevirtual 61, 3) := by decide +kernel
theorem dJ7_rangeCheck_23922_42 : decode cJ7_rangeCheck_23922 42 = .ok (.invokespecial 65, 3) := by decide +kernel
theorem dJ7_rangeCheck_23922_45 : decode cJ7_rangeCheck_23922 45 = .ok (.athrow, 1) := by decide +kernel
theorem dJ7_rangeCheck_23922_46 : decode cJ7_rangeCheck_23922 46 = .ok (.iload_n 1, 1) := by decide +kernel
theorem dJ7_rangeCheck_23922_47 : decode cJ7_rangeCheck_23922 47 = .ok (.ifCond .ge 12, 3) := by decide +kernel
theorem dJ7_rangeCheck_23922_50 : decode cJ7_rangeCheck_23922 50 = .ok (.new 68, 3) := by decide +kernel
theorem dJ7_rangeCheck_23922_53 : decode cJ7_rangeCheck_23922 53 = .ok (.dup, 1) := by decide +kernel
theorem dJ7_rangeCheck_23922_54 : decode cJ7_rangeCheck_23922 54 = .ok (.iload_n 1, 1) := by decide +kernel
theorem dJ7_rangeCheck_23922_55 : decode cJ7_rangeCheck_23922 55 = .ok (.invokespecial 70, 3) := by decide +kernel
theorem dJ7_rangeCheck_23922_58 : decode cJ7_rangeCheck_23922 58 = .ok (.athrow, 1) := by decide +kernel
theorem dJ7_rangeCheck_23922_59 : decode cJ7_rangeCheck_23922 59 = .ok (.iload_n 2, 1) := by decide +kernel
theorem dJ7_rangeCheck_23922_60 : decode cJ7_rangeCheck_23922 60 = .ok (.iload_n 0, 1) := by decide +kernel
theorem dJ7_rangeCheck_23922_61 : decode cJ7_rangeCheck_23922 61 = .ok (.if_icmp .le 12, 3) := by decide +kernel
theorem dJ7_rangeCheck_23922_64 : decode cJ7_rangeCheck_23922 64 = .ok (.new 68, 3) := by decide +kernel
theorem dJ7_rangeCheck_23922_67 : decode cJ7_rangeCheck_23922 67 = .ok (.dup, 1) := by decide +kernel
theorem dJ7_rangeCheck_23922_68 : decode cJ7_rangeCheck_23922 68 = .ok (.iload_n 2, 1) := by decide +kernel
theorem dJ7_rangeCheck_23922_69 : decode cJ7_rangeCheck_23922 69 = .ok (.invokespecial 70, 3) := by decide +kernel
theorem dJ7_rangeCheck_23922_72 : decode cJ7_rangeCheck_23922 72 = .ok (.athrow, 1) := by decide +kernel
theorem dJ7_rangeCheck_23922_73 : decode cJ7_rangeCheck_23922 73 = .ok (.return_, 1) := by decide +kernel
theorem dJ7_fill_53178_0 : decode cJ7_fill_53178 0 = .ok (.iconst 0, 1) := by decide +kernel
theorem dJ7_fill_53178_1 : decode cJ7_fill_53178 1 = .ok (.istore_n 2, 1) := by decide +kernel
theorem dJ7_fill_53178_2 : decode cJ7_fill_53178 2 = .ok (.aload_n 0, 1) := by decide +kernel
theorem dJ7_fill_53178_3 : decode cJ7_fill_53178 3 = .ok (.arraylength, 1) := by decide +kernel
theorem dJ7_fill_53178_4 : decode cJ7_fill_53178 4 = .ok (.istore_n 3, 1) := by decide +kernel
theorem dJ7_fill_53178_5 : decode cJ7_fill_53178 5 = .ok (.iload_n 2, 1) := by decide +kernel
theorem dJ7_fill_53178_6 : decode cJ7_fill_53178 6 = .ok (.iload_n 3, 1) := by decide +kernel
theorem dJ7_fill_53178_7 : decode cJ7_fill_53178 7 = .ok (.if_icmp .ge 13, 3) := by decide +kernel
theorem dJ7_fill_53178_10 : decode cJ7_fill_53178 10 = .ok (.aload_n 0, 1) := by decide +kernel
theorem dJ7_fill_53178_11 : decode cJ7_fill_53178 11 = .ok (.iload_n 2, 1) := by decide +kernel
theorem dJ7_fill_53178_12 : decode cJ7_fill_53178 12 = .ok (.iload_n 1, 1) := by decide +kernel
theorem dJ7_fill_53178_13 : decode cJ7_fill_53178 13 = .ok (.iastore, 1) := by decide +kernel
theorem dJ7_fill_53178_14 : decode cJ7_fill_53178 14 = .ok (.iinc 2 1, 3) := by decide +kernel
theorem dJ7_fill_53178_17 : decode cJ7_fill_53178 17 = .ok (.goto (-12), 3) := by decide +kernel
theorem dJ7_fill_53178_20 : decode cJ7_fill_53178 20 = .ok (.return_, 1) := by decide +kernel
set_option maxRecDepth 20000 in
theorem ggJ7_fill_fda19_J7_rangeCheck_23922 : GoodIn wsJ7_fill_fda19 wsJ7_rangeCheck_23922 := goodIn_r _ [4] (by decide +kernel) (by decide +kernel)
set_option maxRecDepth 20000 in
theorem gJ7_fill_fda19_J7_rangeCheck_23922 : GoodIn wsJ7_fill_fda19 (va_wsS RJ7 13 yJ7_rangeCheck_23922 wsJ7_rangeCheck_23922) := goodIn_app (goodIn_of _ (by decide +kernel)) ggJ7_fill_fda19_J7_rangeCheck_23922
theorem dJ7_fill_fda19_0 : decode cJ7_fill_fda19 0 = .ok (.aload_n 0, 1) := by decide +kernel
theorem dJ7_fill_fda19_1 : decode cJ7_fill_fda19 1 = .ok (.arraylength, 1) := by decide +kernel
theorem dJ7_fill_fda19_2 : decode cJ7_fill_fda19 2 = .ok (.iload_n 1, 1) := by decide +kernel
theorem dJ7_fill_fda19_3 : decode cJ7_fill_fda19 3 = .ok (.iload_n 2, 1) := by decide +kernel
theorem dJ7_fill_fda19_4 : decode cJ7_fill_fda19 4 = .ok (.invokestatic 13, 3) := by decide +kernel
theorem dJ7_fill_fda19_7 : decode cJ7_fill_fda19 7 = .ok (.iload_n 1, 1) := by decide +kernel
theorem dJ7_fill_fda19_8 : decode cJ7_fill_fda19 8 = .ok (.istore 4, 2) := by decide +kernel
theorem dJ7_fill_fda19_10 : decode cJ7_fill_fda19 10 = .ok (.iload 4, 2) := by decide +kernel
theorem dJ7_fill_fda19_12 : decode cJ7_fill_fda19 12 = .ok (.iload_n 2, 1) := by decide +kernel
theorem dJ7_fill_fda19_13 : decode cJ7_fill_fda19 13 = .ok (.if_icmp .ge 14, 3) := by decide +kernel
theorem dJ7_fill_fda19_16 : decode cJ7_fill_fda19 16 = .ok (.aload_n 0, 1) := by decide +kernel
theorem dJ7_fill_fda19_17 : decode cJ7_fill_fda19 17 = .ok (.iload 4, 2) := by decide +kernel
theorem dJ7_fill_fda19_19 : decode cJ7_fill_fda19 19 = .ok (.iload_n 3, 1) := by decide +kernel
theorem dJ7_fill_fda19_20 : decode cJ7_fill_fda19 20 = .ok (.iastore, 1) := by decide +kernel
theorem dJ7_fill_fda19_21 : decode cJ7_fill_fda19 21 = .ok (.iinc 4 1, 3) := by decide +kernel
theorem dJ7_fill_fda19_24 : decode cJ7_fill_fda19 24 = .ok (.goto (-14), 3) := by decide +kernel
theorem dJ7_fill_fda19_27 : decode cJ7_fill_fda19 27 = .ok (.return_, 1) := by decide +kernel
set_option maxRecDepth 20000 in
theorem ggL_law_X6_init : GoodIn wsL_law wsX6_init := goodIn_r _ [8, 9, 10, 11, 12, 13, 14, 15, 16, 17, 18, 19, 20, 21, 22, 23, 24, 25, 26, 27, 28, 29, 30, 31, 32, 33, 34, 35, 36, 37, 38, 39, 40, 41, 42, 43, 44, 45, 46, 47, 48, 49, 50, 51, 52, 53, 54, 55, 56, 57, 58, 59, 60, 61, 62, 63, 64, 65, 66, 67, 68, 69, 70, 679, 680, 660, 661, 662, 663, 664, 665, 666, 681, 682, 683, 684, 685, 686, 687, 688, 689, 690, 691] (by decide +kernel) (by decide +kernel)
set_option maxRecDepth 20000 in
theorem gL_law_X6_init : GoodIn wsL_law (wsX6_init) := ggL_law_X6_init
set_option maxRecDepth 20000 in
theorem ggL_law_X7_init : GoodIn wsL_law wsX7_init := goodIn_r _ [73, 74, 10, 11, 40, 75, 76, 77, 78, 79, 80, 81, 82, 83, 667, 668, 669, 670, 671, 672, 673, 674, 675, 676, 677, 678] (by decide +kernel) (by decide +kernel)
set_option maxRecDepth 20000 in
theorem gL_law_X7_init : GoodIn wsL_law (wsX7_init) := ggL_law_X7_init
set_option maxRecDepth 20000 in
theorem ggL_law_X6_insert : GoodIn wsL_law wsX6_insert := goodIn_r _ [87, 15, 19, 88, 89, 2, 90, 91, 92, 93, 18, 94, 49, 48, 95, 96, 97, 98, 99, 100, 101, 14, 102, 41, 42, 103, 104, 105, 106, 107, 108, 109, 110, 660, 661, 662, 663, 664, 665, 666, 679, 680, 681, 682] (by decide +kernel) (by decide +kernel)
set_option maxRecDepth 20000 in
theorem gL_law_X6_insert : GoodIn wsL_law (wsV RL 13 RX6 yX6_insert wsX6_insert) := goodIn_app (goodIn_of _ (by decide +kernel)) ggL_law_X6_insert
set_option maxRecDepth 20000 in
theorem ggL_law_X7_insert : GoodIn wsL_law wsX7_insert := goodIn_r _ [114, 75, 115, 116, 117, 5, 118, 119, 120, 121, 122, 123, 124, 125, 126, 76, 127, 128, 129, 130, 667, 668, 669, 670, 671, 672, 673, 674, 675, 676, 677, 678] (by decide +kernel) (by decide +kernel)
set_option maxRecDepth 20000 in
theorem gL_law_X7_insert : GoodIn wsL_law (wsV RL 17 RX7 yX7_insert wsX7_insert) := goodIn_app (goodIn_of _ (by decide +kernel)) ggL_law_X7_insert
set_option maxRecDepth 20000 in
theorem ggL_law_X6_remove : GoodIn wsL_law wsX6_remove := goodIn_r _ [134, 15, 19, 135, 136, 137, 14, 138, 42, 91, 92, 93, 18, 94, 49, 48, 95, 96, 97, 98, 99, 100, 101, 102, 41, 103, 104, 105, 106, 139, 140, 141, 142, 660, 661, 662, 663, 664, 665, 666, 679, 680, 681, 682] (by decide +kernel) (by decide +kernel)
set_option maxRecDepth 20000 in
theorem gL_law_X6_remove : GoodIn wsL_law (wsV RL 18 RX6 yX6_remove wsX6_remove) := goodIn_app (goodIn_of _ (by decide +kernel)) ggL_law_X6_remove
set_option maxRecDepth 20000 in
theorem ggL_law_X7_remove : GoodIn wsL_law wsX7_remove := goodIn_r _ [146, 75, 147, 148, 149, 5, 150, 115, 116, 117, 118, 119, 120, 121, 122, 123, 124, 125, 126, 76, 127, 128, 129, 130, 667, 668, 669, 670, 671, 672, 673, 674, 675, 676, 677, 678] (by decide +kernel) (by decide +kernel)
set_option maxRecDepth 20000 in
theorem gL_law_X7_remove : GoodIn wsL_law (wsV RL 22 RX7 yX7_remove wsX7_remove) := goodIn_app (goodIn_of _ (by decide +kernel)) ggL_law_X7_remove
set_option maxRecDepth 20000 in
theorem ggL_law_X6_set : GoodIn wsL_law wsX6_set := goodIn_r _ [154, 15, 19, 135, 136, 137, 14, 138, 42, 88, 89, 2, 90, 91, 92, 93, 18, 94, 49, 48, 95, 96, 97, 98, 99, 100, 101, 102, 41, 103, 104, 105, 106, 660, 661, 662, 663, 664, 665, 666, 679, 680, 681, 682] (by decide +kernel) (by decide +kernel)
set_option maxRecDepth 20000 in
theorem gL_law_X6_set : GoodIn wsL_law (wsV RL 23 RX6 yX6_set wsX6_set) := goodIn_app (goodIn_of _ (by decide +kernel)) ggL_law_X6_set
set_option maxRecDepth 20000 in
theorem ggL_law_X7_set : GoodIn wsL_law wsX7_set := goodIn_r _ [158, 75, 147, 148, 149, 5, 150, 115, 116, 117, 118, 119, 120, 121, 122, 123, 124, 125, 126, 76, 127, 128, 129, 130, 667, 668, 669, 670, 671, 672, 673, 674, 675, 676, 677, 678] (by decide +kernel) (by decide +kernel)
set_option maxRecDepth 20000 in
theorem gL_law_X7_set : GoodIn wsL_law (wsV RL 26 RX7 yX7_set wsX7_set) := goodIn_app (goodIn_of _ (by decide +kernel)) ggL_law_X7_set
set_option maxRecDepth 20000 in
theorem ggL_law_X6_raise : GoodIn wsL_law wsX6_raise := goodIn_r _ [162, 15, 19, 163, 164, 165, 14, 166, 42, 91, 92, 93, 18, 94, 49, 48, 95, 96, 97, 98, 99, 100, 101, 102, 41, 103, 104, 105, 106, 167, 168, 169, 170, 171, 172, 173, 174, 175, 176, 177, 660, 661, 662, 663, 664, 665, 666, 679, 680, 681, 682] (by decide +kernel) (by decide +kernel)
set_option maxRecDepth 20000 in
theorem gL_law_X6_raise : GoodIn wsL_law (wsV RL 27 RX6 yX6_raise wsX6_raise) := goodIn_app (goodIn_of _ (by decide +kernel)) ggL_law_X6_raise
set_option maxRecDepth 20000 in
theorem ggL_law_X7_raise : GoodIn wsL_law wsX7_raise := goodIn_r _ [181, 75, 182, 183, 184, 5, 185, 147, 148, 149, 150, 115, 116, 117, 118, 119, 120, 121, 122, 123, 124, 125, 126, 76, 186, 187, 188, 189, 190, 191, 192, 127, 128, 129, 130, 667, 668, 669, 670, 671, 672, 673, 674, 675, 676, 677, 678] (by decide +kernel) (by decide +kernel)
set_option maxRecDepth 20000 in
theorem gL_law_X7_raise : GoodIn wsL_law (wsV RL 31 RX7 yX7_raise wsX7_raise) := goodIn_app (goodIn_of _ (by decide +kernel)) ggL_law_X7_raise
set_option maxRecDepth 20000 in
theorem ggL_law_X6_reverse : GoodIn wsL_law wsX6_reverse := goodIn_r _ [196, 15, 19, 163, 164, 165, 14, 166, 42, 91, 92, 93, 18, 94, 49, 48, 95, 96, 97, 98, 99, 100, 101, 102, 41, 103, 104, 105, 106, 197, 198, 199, 200, 201, 202, 203, 204, 660, 661, 662, 663, 664, 665, 666, 679, 680, 681, 682] (by decide +kernel) (by decide +kernel)
set_option maxRecDepth 20000 in
theorem gL_law_X6_reverse : GoodIn wsL_law (wsV RL 32 RX6 yX6_reverse wsX6_reverse) := goodIn_app (goodIn_of _ (by decide +kernel)) ggL_law_X6_reverse
set_option maxRecDepth 20000 in
theorem ggL_law_X7_reverse : GoodIn wsL_law wsX7_reverse := goodIn_r _ [208, 75, 182, 183, 184, 5, 185, 147, 148, 149, 150, 115, 116, 117, 118, 119, 120, 121, 122, 123, 124, 125, 126, 76, 127, 128, 129, 130, 189, 190, 191, 192, 667, 668, 669, 670, 671, 672, 673, 674, 675, 676, 677, 678] (by decide +kernel) (by decide +kernel)
set_option maxRecDepth 20000 in
theorem gL_law_X7_reverse : GoodIn wsL_law (wsV RL 35 RX7 yX7_reverse wsX7_reverse) := goodIn_app (goodIn_of _ (by decide +kernel)) ggL_law_X7_reverse
set_option maxRecDepth 20000 in
theorem ggL_law_X6_sort : GoodIn wsL_law wsX6_sort := goodIn_r _ [212, 15, 19, 163, 164, 165, 14, 166, 42, 91, 92, 93, 18, 94, 49, 48, 95, 96, 97, 98, 99, 100, 101, 102, 41, 103, 104, 105, 106, 213, 214, 215, 216, 217, 218, 219, 201, 202, 203, 204, 660, 661, 662, 663, 664, 665, 666, 679, 680, 681, 682] (by decide +kernel) (by decide +kernel)
set_option maxRecDepth 20000 in
theorem gL_law_X6_sort : GoodIn wsL_law (wsV RL 36 RX6 yX6_sort wsX6_sort) := goodIn_app (goodIn_of _ (by decide +kernel)) ggL_law_X6_sort
set_option maxRecDepth 20000 in
theorem ggL_law_X7_sort : GoodIn wsL_law wsX7_sort := goodIn_r _ [223, 75, 182, 183, 184, 5, 185, 147, 148, 149, 150, 115, 116, 117, 118, 119, 120, 121, 122, 123, 124, 125, 126, 76, 667, 668, 669, 670, 671, 672, 673, 674, 675, 676, 677, 678] (by decide +kernel) (by decide +kernel)
set_option maxRecDepth 20000 in
theorem gL_law_X7_sort : GoodIn wsL_law (wsV RL 39 RX7 yX7_sort wsX7_sort) := goodIn_app (goodIn_of _ (by decide +kernel)) ggL_law_X7_sort
set_option maxRecDepth 20000 in
theorem ggL_law_X6_freeze : GoodIn wsL_law wsX6_freeze := goodIn_r _ [227, 19, 15, 24, 91, 92, 93, 18, 94, 49, 48, 95, 96, 97, 98, 99, 100, 101, 14, 102, 41, 42, 103, 104, 105, 106, 228, 229, 230, 2, 231, 232, 233, 234, 23, 235, 236, 176, 173, 177, 53, 237, 172, 174, 660, 661, 662, 663, 664, 665, 666, 679, 680, 683, 681, 682] (by decide +kernel) (by decide +kernel)
set_option maxRecDepth 20000 in
theorem gL_law_X6_freeze : GoodIn wsL_law (wsV RL 40 RX6 yX6_freeze wsX6_freeze) := goodIn_app (goodIn_of _ (by decide +kernel)) ggL_law_X6_freeze
set_option maxRecDepth 20000 in
theorem ggL_law_X7_freeze : GoodIn wsL_law wsX7_freeze := goodIn_r _ [241, 78, 75, 122, 123, 124, 5, 125, 126, 76, 115, 116, 117, 118, 242, 243, 244, 245, 246, 247, 248, 249, 250, 251, 252, 253, 667, 668, 669, 670, 671, 672, 673, 674, 675, 676, 677, 678] (by decide +kernel) (by decide +kernel)
set_option maxRecDepth 20000 in
theorem gL_law_X7_freeze : GoodIn wsL_law (wsV RL 44 RX7 yX7_freeze wsX7_freeze) := goodIn_app (goodIn_of _ (by decide +kernel)) ggL_law_X7_freeze
set_option maxRecDepth 20000 in
theorem ggL_law_X6_clear : GoodIn wsL_law wsX6_clear := goodIn_r _ [257, 19, 15, 91, 92, 93, 18, 94, 49, 48, 95, 96, 97, 98, 99, 100, 101, 14, 102, 41, 42, 103, 104, 105, 106, 660, 661, 662, 663, 664, 665, 666, 679, 680, 681, 682] (by decide +kernel) (by decide +kernel)
set_option maxRecDepth 20000 in
theorem gL_law_X6_clear : GoodIn wsL_law (wsV RL 45 RX6 yX6_clear wsX6_clear) := goodIn_app (goodIn_of _ (by decide +kernel)) ggL_law_X6_clear
set_option maxRecDepth 20000 in
theorem ggL_law_X7_clear : GoodIn wsL_law wsX7_clear := goodIn_r _ [261, 75, 122, 123, 124, 5, 125, 126, 76, 127, 128, 129, 130, 667, 668, 669, 670, 671, 672, 673, 674, 675, 676, 677, 678] (by decide +kernel) (by decide +kernel)
set_option maxRecDepth 20000 in
theorem gL_law_X7_clear : GoodIn wsL_law (wsV RL 48 RX7 yX7_clear wsX7_clear) := goodIn_app (goodIn_of _ (by decide +kernel)) ggL_law_X7_clear
set_option maxRecDepth 20000 in
theorem ggL_law_X6_undo : GoodIn wsL_law wsX6_undo := goodIn_r _ [265, 19, 15, 266, 267, 268, 18, 269, 49, 48, 99, 100, 101, 14, 102, 41, 42, 103, 104, 105, 106, 660, 661, 662, 663, 664, 665, 666, 681, 682, 679, 680] (by decide +kernel) (by decide +kernel)
set_option maxRecDepth 20000 in
theorem gL_law_X6_undo : GoodIn wsL_law (wsV RL 49 RX6 yX6_undo wsX6_undo) := goodIn_app (goodIn_of _ (by decide +kernel)) ggL_law_X6_undo
set_option maxRecDepth 20000 in
theorem ggL_law_X7_undo : GoodIn wsL_law wsX7_undo := goodIn_r _ [273, 126, 75, 76, 667, 668, 669, 670, 671, 672, 673, 674, 675, 676, 677, 678] (by decide +kernel) (by decide +kernel)
set_option maxRecDepth 20000 in
theorem gL_law_X7_undo : GoodIn wsL_law (wsV RL 52 RX7 yX7_undo wsX7_undo) := goodIn_app (goodIn_of _ (by decide +kernel)) ggL_law_X7_undo
set_option maxRecDepth 20000 in
theorem ggL_law_X6_told : GoodIn wsL_law wsX6_told := goodIn_r _ [277, 15, 36, 19, 278, 279, 2, 280, 281, 282, 283, 14, 284, 42, 41, 285, 286, 228, 229, 230, 231, 24, 232, 233, 234, 23, 235, 236, 176, 173, 177, 53, 237, 172, 174, 287, 288, 289, 290, 291, 292, 293, 294, 295, 296, 297, 298, 299, 300, 301, 302, 28, 303, 304, 305, 27, 306, 61, 307, 308, 309, 310, 311, 312, 313, 314, 57, 58, 59, 60, 315, 316, 317, 318, 319, 320, 321, 322, 323, 324, 325, 326, 327, 328, 329, 330, 32, 331, 332, 333, 334, 31, 335, 66, 65, 336, 337, 338, 339, 340, 341, 342, 343, 175, 344, 345, 346, 35, 347, 70, 348, 349, 350, 351, 352, 353, 354, 355, 356, 357, 358, 359, 360, 361, 362, 363, 364, 365, 366, 367, 660, 661, 662, 663, 664, 665, 666, 679, 680, 681, 682, 683, 684, 685, 686, 687, 688, 689, 690, 691] (by decide +kernel) (by decide +kernel)
set_option maxRecDepth 20000 in
theorem gL_law_X6_told : GoodIn wsL_law (wsV RL 53 RX6 yX6_told wsX6_told) := goodIn_app (goodIn_of _ (by decide +kernel)) ggL_law_X6_told
set_option maxRecDepth 20000 in
theorem ggL_law_X7_told : GoodIn wsL_law wsX7_told := goodIn_r _ [371, 126, 115, 116, 117, 5, 118, 75, 372, 373, 374, 375, 250, 251, 252, 253, 242, 243, 244, 245, 246, 247, 248, 249, 376, 377, 378, 379, 380, 381, 382, 383, 384, 385, 386, 387, 147, 148, 149, 150, 119, 120, 121, 388, 389, 390, 391, 79, 80, 81, 392, 393, 394, 395, 396, 397, 398, 399, 400, 401, 402, 403, 404, 405, 406, 407, 408, 409, 410, 411, 412, 413, 414, 415, 416, 417, 418, 419, 420, 421, 422, 423, 424, 425, 426, 427, 428, 429, 430, 431, 432, 82, 433, 434, 435, 436, 83, 437, 438, 439, 440, 667, 668, 669, 670, 671, 672, 673, 674, 675, 676, 677, 678] (by decide +kernel) (by decide +kernel)
set_option maxRecDepth 20000 in
theorem gL_law_X7_told : GoodIn wsL_law (wsV RL 56 RX7 yX7_told wsX7_told) := goodIn_app (goodIn_of _ (by decide +kernel)) ggL_law_X7_told
set_option maxRecDepth 20000 in
theorem ggL_law_X6_column : GoodIn wsL_law wsX6_column := goodIn_r _ [444, 15, 135, 136, 137, 14, 138, 42, 445, 446, 447, 448, 41, 449, 450, 451, 452, 453, 454, 455, 456, 457, 458, 459, 460, 461, 462, 463, 2, 464, 24, 228, 229, 230, 231, 232, 233, 234, 23, 235, 236, 176, 173, 177, 53, 237, 172, 174, 465, 466, 467, 468, 32, 332, 333, 334, 31, 335, 66, 65, 469, 470, 471, 472, 336, 337, 338, 339, 473, 474, 475, 476, 477, 478, 479, 480, 481, 482, 660, 661, 662, 663, 664, 665, 666, 679, 680, 683, 689, 690] (by decide +kernel) (by decide +kernel)
set_option maxRecDepth 20000 in
theorem gL_law_X6_column : GoodIn wsL_law (wsV RL 57 RX6 yX6_column wsX6_column) := goodIn_app (goodIn_of _ (by decide +kernel)) ggL_law_X6_column
set_option maxRecDepth 20000 in
theorem ggL_law_X7_column : GoodIn wsL_law wsX7_column := goodIn_r _ [486, 75, 147, 148, 149, 5, 150, 115, 116, 117, 118, 119, 120, 121, 487, 488, 489, 490, 246, 247, 248, 249, 250, 251, 252, 253, 491, 492, 493, 494, 416, 412, 413, 414, 415, 417, 418, 419, 420, 396, 397, 398, 399, 421, 422, 423, 424, 495, 496, 497, 498, 499, 500, 501, 502, 667, 668, 669, 670, 671, 672, 673, 674, 675, 676, 677, 678] (by decide +kernel) (by decide +kernel)
set_option maxRecDepth 20000 in
theorem gL_law_X7_column : GoodIn wsL_law (wsV RL 60 RX7 yX7_column wsX7_column) := goodIn_app (goodIn_of _ (by decide +kernel)) ggL_law_X7_column
set_option maxRecDepth 20000 in
theorem ggL_law_X6_stair : GoodIn wsL_law wsX6_stair := goodIn_r _ [506, 15, 135, 136, 137, 14, 138, 42, 507, 508, 509, 510, 41, 660, 661, 662, 663, 664, 665, 666, 679, 680] (by decide +kernel) (by decide +kernel)
set_option maxRecDepth 20000 in
theorem gL_law_X6_stair : GoodIn wsL_law (wsV RL 61 RX6 yX6_stair wsX6_stair) := goodIn_app (goodIn_of _ (by decide +kernel)) ggL_law_X6_stair
set_option maxRecDepth 20000 in
theorem ggL_law_X7_stair : GoodIn wsL_law wsX7_stair := goodIn_r _ [514, 147, 148, 149, 5, 150, 115, 116, 117, 118, 75, 119, 120, 121, 487, 488, 489, 490, 667, 668, 669, 670, 671, 672, 673, 674, 675, 676, 677, 678] (by decide +kernel) (by decide +kernel)
set_option maxRecDepth 20000 in
theorem gL_law_X7_stair : GoodIn wsL_law (wsV RL 64 RX7 yX7_stair wsX7_stair) := goodIn_app (goodIn_of _ (by decide +kernel)) ggL_law_X7_stair
set_option maxRecDepth 20000 in
theorem ggL_law_X6_range : GoodIn wsL_law wsX6_range := goodIn_r _ [518, 15, 163, 164, 165, 14, 166, 42, 519, 520, 2, 521, 522, 285, 286, 278, 279, 280, 523, 524, 525, 526, 28, 303, 304, 305, 27, 306, 61, 307, 308, 309, 310, 311, 312, 313, 314, 57, 58, 59, 60, 315, 316, 317, 318, 319, 320, 321, 322, 527, 528, 529, 530, 660, 661, 662, 663, 664, 665, 666, 679, 680, 684, 685, 686, 687, 688] (by decide +kernel) (by decide +kernel)
set_option maxRecDepth 20000 in
theorem gL_law_X6_range : GoodIn wsL_law (wsV RL 65 RX6 yX6_range wsX6_range) := goodIn_app (goodIn_of _ (by decide +kernel)) ggL_law_X6_range
set_option maxRecDepth 20000 in
theorem ggL_law_X7_range : GoodIn wsL_law wsX7_range := goodIn_r _ [534, 182, 183, 184, 5, 185, 147, 148, 149, 150, 115, 116, 117, 118, 75, 119, 120, 121, 396, 397, 398, 399, 421, 422, 423, 424, 250, 251, 252, 253, 372, 373, 374, 375, 535, 536, 537, 538, 400, 401, 402, 403, 667, 668, 669, 670, 671, 672, 673, 674, 675, 676, 677, 678] (by decide +kernel) (by decide +kernel)
set_option maxRecDepth 20000 in
theorem gL_law_X7_range : GoodIn wsL_law (wsV RL 68 RX7 yX7_range wsX7_range) := goodIn_app (goodIn_of _ (by decide +kernel)) ggL_law_X7_range
set_option maxRecDepth 20000 in
theorem ggL_law_X6_rectangle : GoodIn wsL_law wsX6_rectangle := goodIn_r _ [542, 28, 15, 303, 304, 305, 27, 306, 61, 307, 308, 309, 310, 311, 312, 313, 314, 57, 58, 59, 60, 315, 316, 317, 318, 319, 320, 321, 322, 543, 544, 545, 546, 527, 528, 529, 530, 660, 661, 662, 663, 664, 665, 666, 679, 680, 684, 685, 686, 687, 688] (by decide +kernel) (by decide +kernel)
set_option maxRecDepth 20000 in
theorem gL_law_X6_rectangle : GoodIn wsL_law (wsV RL 69 RX6 yX6_rectangle wsX6_rectangle) := goodIn_app (goodIn_of _ (by decide +kernel)) ggL_law_X6_rectangle
set_option maxRecDepth 20000 in
theorem ggL_law_X7_rectangle : GoodIn wsL_law wsX7_rectangle := goodIn_r _ [550, 80, 81, 79, 119, 120, 5, 121, 388, 389, 390, 391, 115, 116, 117, 118, 75, 392, 393, 394, 395, 396, 397, 398, 399, 400, 401, 402, 403, 551, 552, 553, 554, 421, 422, 423, 424, 667, 668, 669, 670, 671, 672, 673, 674, 675, 676, 677, 678] (by decide +kernel) (by decide +kernel)
set_option maxRecDepth 20000 in
theorem gL_law_X7_rectangle : GoodIn wsL_law (wsV RL 72 RX7 yX7_rectangle wsX7_rectangle) := goodIn_app (goodIn_of _ (by decide +kernel)) ggL_law_X7_rectangle
set_option maxRecDepth 20000 in
theorem ggL_law_X6_container : GoodIn wsL_law wsX6_container := goodIn_r _ [558, 15, 559, 172, 173, 174, 660, 661, 662, 663, 664, 665, 666, 679, 680] (by decide +kernel) (by decide +kernel)
set_option maxRecDepth 20000 in
theorem gL_law_X6_container : GoodIn wsL_law (wsV RL 73 RX6 yX6_container wsX6_container) := goodIn_app (goodIn_of _ (by decide +kernel)) ggL_law_X6_container
set_option maxRecDepth 20000 in
theorem ggL_law_X7_container : GoodIn wsL_law wsX7_container := goodIn_r _ [563, 75, 119, 120, 5, 121, 115, 116, 117, 118, 667, 668, 669, 670, 671, 672, 673, 674, 675, 676, 677, 678] (by decide +kernel) (by decide +kernel)
set_option maxRecDepth 20000 in
theorem gL_law_X7_container : GoodIn wsL_law (wsV RL 76 RX7 yX7_container wsX7_container) := goodIn_app (goodIn_of _ (by decide +kernel)) ggL_law_X7_container
set_option maxRecDepth 20000 in
theorem ggL_law_X6_pool : GoodIn wsL_law wsX6_pool := goodIn_r _ [567, 24, 15, 228, 229, 230, 2, 231, 232, 233, 234, 23, 235, 236, 176, 173, 177, 53, 237, 172, 174, 568, 569, 570, 571, 295, 296, 297, 298, 572, 573, 574, 575, 278, 279, 280, 522, 285, 286, 660, 661, 662, 663, 664, 665, 666, 679, 680, 683] (by decide +kernel) (by decide +kernel)
set_option maxRecDepth 20000 in
theorem gL_law_X6_pool : GoodIn wsL_law (wsV RL 77 RX6 yX6_pool wsX6_pool) := goodIn_app (goodIn_of _ (by decide +kernel)) ggL_law_X6_pool
set_option maxRecDepth 20000 in
theorem ggL_law_X7_pool : GoodIn wsL_law wsX7_pool := goodIn_r _ [579, 75, 119, 120, 5, 121, 580, 581, 582, 583, 115, 116, 117, 118, 380, 381, 382, 383, 384, 385, 386, 387, 147, 148, 149, 150, 246, 247, 248, 249, 250, 251, 252, 253, 667, 668, 669, 670, 671, 672, 673, 674, 675, 676, 677, 678] (by decide +kernel) (by decide +kernel)
set_option maxRecDepth 20000 in
theorem gL_law_X7_pool : GoodIn wsL_law (wsV RL 80 RX7 yX7_pool wsX7_pool) := goodIn_app (goodIn_of _ (by decide +kernel)) ggL_law_X7_pool
set_option maxRecDepth 20000 in
theorem ggL_law_X6_drained : GoodIn wsL_law wsX6_drained := goodIn_r _ [587, 15, 24, 135, 136, 137, 14, 138, 42, 232, 233, 234, 23, 235, 236, 176, 173, 177, 53, 237, 172, 174, 228, 229, 230, 2, 231, 660, 661, 662, 663, 664, 665, 666, 679, 680, 683] (by decide +kernel) (by decide +kernel)
set_option maxRecDepth 20000 in
theorem gL_law_X6_drained : GoodIn wsL_law (wsV RL 81 RX6 yX6_drained wsX6_drained) := goodIn_app (goodIn_of _ (by decide +kernel)) ggL_law_X6_drained
set_option maxRecDepth 20000 in
theorem ggL_law_X7_drained : GoodIn wsL_law wsX7_drained := goodIn_r _ [591, 147, 148, 149, 5, 150, 115, 116, 117, 118, 75, 119, 120, 121, 242, 243, 244, 245, 246, 247, 248, 249, 250, 251, 252, 253, 667, 668, 669, 670, 671, 672, 673, 674, 675, 676, 677, 678] (by decide +kernel) (by decide +kernel)
set_option maxRecDepth 20000 in
theorem gL_law_X7_drained : GoodIn wsL_law (wsV RL 84 RX7 yX7_drained wsX7_drained) := goodIn_app (goodIn_of _ (by decide +kernel)) ggL_law_X7_drained
set_option maxRecDepth 20000 in
theorem ggL_law_X6_dam : GoodIn wsL_law wsX6_dam := goodIn_r _ [595, 15, 596, 597, 598, 2, 599, 559, 172, 173, 174, 228, 229, 230, 231, 24, 232, 233, 234, 23, 235, 236, 176, 177, 53, 237, 660, 661, 662, 663, 664, 665, 666, 679, 680, 683] (by decide +kernel) (by decide +kernel)
set_option maxRecDepth 20000 in
theorem gL_law_X6_dam : GoodIn wsL_law (wsV RL 85 RX6 yX6_dam wsX6_dam) := goodIn_app (goodIn_of _ (by decide +kernel)) ggL_law_X6_dam
set_option maxRecDepth 20000 in
theorem ggL_law_X7_dam : GoodIn wsL_law wsX7_dam := goodIn_r _ [603, 75, 119, 120, 5, 121, 115, 116, 117, 118, 186, 187, 188, 242, 243, 244, 245, 246, 247, 248, 249, 250, 251, 252, 253, 667, 668, 669, 670, 671, 672, 673, 674, 675, 676, 677, 678] (by decide +kernel) (by decide +kernel)
set_option maxRecDepth 20000 in
theorem gL_law_X7_dam : GoodIn wsL_law (wsV RL 88 RX7 yX7_dam wsX7_dam) := goodIn_app (goodIn_of _ (by decide +kernel)) ggL_law_X7_dam
set_option maxRecDepth 20000 in
theorem ggL_law_X6_sumOfMinima : GoodIn wsL_law wsX6_sumOfMinima := goodIn_r _ [607, 15, 559, 172, 173, 174, 660, 661, 662, 663, 664, 665, 666, 679, 680] (by decide +kernel) (by decide +kernel)
set_option maxRecDepth 20000 in
theorem gL_law_X6_sumOfMinima : GoodIn wsL_law (wsV RL 89 RX6 yX6_sumOfMinima wsX6_sumOfMinima) := goodIn_app (goodIn_of _ (by decide +kernel)) ggL_law_X6_sumOfMinima
set_option maxRecDepth 20000 in
theorem ggL_law_X7_sumOfMinima : GoodIn wsL_law wsX7_sumOfMinima := goodIn_r _ [611, 115, 116, 117, 5, 118, 75, 396, 397, 398, 399, 667, 668, 669, 670, 671, 672, 673, 674, 675, 676, 677, 678] (by decide +kernel) (by decide +kernel)
set_option maxRecDepth 20000 in
theorem gL_law_X7_sumOfMinima : GoodIn wsL_law (wsV RL 92 RX7 yX7_sumOfMinima wsX7_sumOfMinima) := goodIn_app (goodIn_of _ (by decide +kernel)) ggL_law_X7_sumOfMinima
set_option maxRecDepth 20000 in
theorem ggL_law_X6_ranges : GoodIn wsL_law wsX6_ranges := goodIn_r _ [615, 15, 88, 89, 2, 90, 660, 661, 662, 663, 664, 665, 666, 679, 680] (by decide +kernel) (by decide +kernel)
set_option maxRecDepth 20000 in
theorem gL_law_X6_ranges : GoodIn wsL_law (wsV RL 93 RX6 yX6_ranges wsX6_ranges) := goodIn_app (goodIn_of _ (by decide +kernel)) ggL_law_X6_ranges
set_option maxRecDepth 20000 in
theorem ggL_law_X7_ranges : GoodIn wsL_law wsX7_ranges := goodIn_r _ [619, 119, 120, 5, 121, 115, 116, 117, 118, 75, 396, 397, 398, 399, 667, 668, 669, 670, 671, 672, 673, 674, 675, 676, 677, 678] (by decide +kernel) (by decide +kernel)
set_option maxRecDepth 20000 in
theorem gL_law_X7_ranges : GoodIn wsL_law (wsV RL 96 RX7 yX7_ranges wsX7_ranges) := goodIn_app (goodIn_of _ (by decide +kernel)) ggL_law_X7_ranges
set_option maxRecDepth 20000 in
theorem ggL_law_X6_keep : GoodIn wsL_law wsX6_keep := goodIn_r _ [623, 20, 12, 13, 14, 15, 624, 625, 2, 626, 37, 38, 39, 10, 11, 40, 41, 42, 627, 100, 101, 102, 103, 104, 105, 106, 660, 661, 662, 663, 664, 665, 666, 679, 680] (by decide +kernel) (by decide +kernel)
set_option maxRecDepth 20000 in
theorem gL_law_X6_keep : GoodIn wsL_law (wsV RL 97 RX6 yX6_keep wsX6_keep) := goodIn_app (goodIn_of _ (by decide +kernel)) ggL_law_X6_keep
set_option maxRecDepth 20000 in
theorem ggL_law_X7_keep : GoodIn wsL_law wsX7_keep := goodIn_r _ [631, 77, 75, 632, 633, 634, 5, 635, 119, 120, 121, 115, 116, 117, 118, 667, 668, 669, 670, 671, 672, 673, 674, 675, 676, 677, 678] (by decide +kernel) (by decide +kernel)
set_option maxRecDepth 20000 in
theorem gL_law_X7_keep : GoodIn wsL_law (wsV RL 100 RX7 yX7_keep wsX7_keep) := goodIn_app (goodIn_of _ (by decide +kernel)) ggL_law_X7_keep
set_option maxRecDepth 20000 in
theorem ggL_law_X6_back : GoodIn wsL_law wsX6_back := goodIn_r _ [639, 20, 19, 15, 624, 625, 2, 626, 91, 92, 93, 18, 94, 49, 48, 95, 96, 97, 98, 99, 100, 101, 14, 102, 41, 42, 103, 104, 105, 106, 627, 660, 661, 662, 663, 664, 665, 666, 679, 680, 681, 682] (by decide +kernel) (by decide +kernel)
set_option maxRecDepth 20000 in
theorem gL_law_X6_back : GoodIn wsL_law (wsV RL 101 RX6 yX6_back wsX6_back) := goodIn_app (goodIn_of _ (by decide +kernel)) ggL_law_X6_back
set_option maxRecDepth 20000 in
theorem ggL_law_X7_back : GoodIn wsL_law wsX7_back := goodIn_r _ [643, 75, 77, 633, 634, 5, 635, 119, 120, 121, 644, 645, 646, 647, 632, 122, 123, 124, 125, 126, 76, 115, 116, 117, 118, 667, 668, 669, 670, 671, 672, 673, 674, 675, 676, 677, 678] (by decide +kernel) (by decide +kernel)
set_option maxRecDepth 20000 in
theorem gL_law_X7_back : GoodIn wsL_law (wsV RL 104 RX7 yX7_back wsX7_back) := goodIn_app (goodIn_of _ (by decide +kernel)) ggL_law_X7_back
set_option maxRecDepth 20000 in
theorem ggL_law_X6_parting : GoodIn wsL_law wsX6_parting := goodIn_r _ [651, 20, 15, 624, 625, 2, 626, 652, 653, 654, 14, 655, 42, 171, 172, 173, 174, 41, 660, 661, 662, 663, 664, 665, 666, 679, 680] (by decide +kernel) (by decide +kernel)
set_option maxRecDepth 20000 in
theorem gL_law_X6_parting : GoodIn wsL_law (wsV RL 105 RX6 yX6_parting wsX6_parting) := goodIn_app (goodIn_of _ (by decide +kernel)) ggL_law_X6_parting
set_option maxRecDepth 20000 in
theorem ggL_law_X7_parting : GoodIn wsL_law wsX7_parting := goodIn_r _ [659, 77, 75, 633, 634, 5, 635, 119, 120, 121, 644, 645, 646, 647, 632, 115, 116, 117, 118, 667, 668, 669, 670, 671, 672, 673, 674, 675, 676, 677, 678] (by decide +kernel) (by decide +kernel)
set_option maxRecDepth 20000 in
theorem gL_law_X7_parting : GoodIn wsL_law (wsV RL 108 RX7 yX7_parting wsX7_parting) := goodIn_app (goodIn_of _ (by decide +kernel)) ggL_law_X7_parting
theorem dL_law_0 : decode cL_law 0 = .ok (.new 7, 3) := by decide +kernel
theorem dL_law_3 : decode cL_law 3 = .ok (.dup, 1) := by decide +kernel
theorem dL_law_4 : decode cL_law 4 = .ok (.invokespecial 9, 3) := by decide +kernel
theorem dL_law_7 : decode cL_law 7 = .ok (.astore_n 1, 1) := by decide +kernel
theorem dL_law_8 : decode cL_law 8 = .ok (.new 10, 3) := by decide +kernel
theorem dL_law_11 : decode cL_law 11 = .ok (.dup, 1) := by decide +kernel
theorem dL_law_12 : decode cL_law 12 = .ok (.invokespecial 12, 3) := by decide +kernel
theorem dL_law_15 : decode cL_law 15 = .ok (.astore_n 2, 1) := by decide +kernel
theorem dL_law_16 : decode cL_law 16 = .ok (.iconst 0, 1) := by decide +kernel
theorem dL_law_17 : decode cL_law 17 = .ok (.istore_n 3, 1) := by decide +kernel
theorem dL_law_18 : decode cL_law 18 = .ok (.iload_n 3, 1) := by decide +kernel
theorem dL_law_19 : decode cL_law 19 = .ok (.aload_n 0, 1) := by decide +kernel
theorem dL_law_20 : decode cL_law 20 = .ok (.arraylength, 1) := by decide +kernel
theorem dL_law_21 : decode cL_law 21 = .ok (.iconst 4, 1) := by decide +kernel
theorem dL_law_22 : decode cL_law 22 = .ok (.isub, 1) := by decide +kernel
theorem dL_law_23 : decode cL_law 23 = .ok (.if_icmp .gt 752, 3) := by decide +kernel
theorem dL_law_26 : decode cL_law 26 = .ok (.aload_n 0, 1) := by decide +kernel
theorem dL_law_27 : decode cL_law 27 = .ok (.iload_n 3, 1) := by decide +kernel
theorem dL_law_28 : decode cL_law 28 = .ok (.iaload, 1) := by decide +kernel
theorem dL_law_29 : decode cL_law 29 = .ok (.bipush 31, 2) := by decide +kernel
theorem dL_law_31 : decode cL_law 31 = .ok (.iand, 1) := by decide +kernel
theorem dL_law_32 : decode cL_law 32 = .ok (.tableswitch 737 0 22 #[108, 141, 164, 197, 240, 273, 316, 329, 342, 355, 378, 411, 444, 487, 520, 543, 576, 599, 632, 645, 668, 691, 714], 108) := by decide +kernel
theorem dL_law_140 : decode cL_law 140 = .ok (.aload_n 1, 1) := by decide +kernel
theorem dL_law_141 : decode cL_law 141 = .ok (.aload_n 0, 1) := by decide +kernel
theorem dL_law_142 : decode cL_law 142 = .ok (.iload_n 3, 1) := by decide +kernel
theorem dL_law_143 : decode cL_law 143 = .ok (.iconst 1, 1) := by decide +kernel
theorem dL_law_144 : decode cL_law 144 = .ok (.iadd, 1) := by decide +kernel
theorem dL_law_145 : decode cL_law 145 = .ok (.iaload, 1) := by decide +kernel
theorem dL_law_146 : decode cL_law 146 = .ok (.aload_n 0, 1) := by decide +kernel
theorem dL_law_147 : decode cL_law 147 = .ok (.iload_n 3, 1) := by decide +kernel
theorem dL_law_148 : decode cL_law 148 = .ok (.iconst 2, 1) := by decide +kernel
theorem dL_law_149 : decode cL_law 149 = .ok (.iadd, 1) := by decide +kernel
theorem dL_law_150 : decode cL_law 150 = .ok (.iaload, 1) := by decide +kernel
theorem dL_law_151 : decode cL_law 151 = .ok (.invokevirtual 13, 3) := by decide +kernel
theorem dL_law_154 : decode cL_law 154 = .ok (.aload_n 2, 1) := by decide +kernel
theorem dL_law_155 : decode cL_law 155 = .ok (.aload_n 0, 1) := by decide +kernel
theorem dL_law_156 : decode cL_law 156 = .ok (.iload_n 3, 1) := by decide +kernel
theorem dL_law_157 : decode cL_law 157 = .ok (.iconst 1, 1) := by decide +kernel
theorem dL_law_158 : decode cL_law 158 = .ok (.iadd, 1) := by decide +kernel
theorem dL_law_159 : decode cL_law 159 = .ok (.iaload, 1) := by decide +kernel
theorem dL_law_160 : decode cL_law 160 = .ok (.aload_n 0, 1) := by decide +kernel
theorem dL_law_161 : decode cL_law 161 = .ok (.iload_n 3, 1) := by decide +kernel
theorem dL_law_162 : decode cL_law 162 = .ok (.iconst 2, 1) := by decide +kernel
theorem dL_law_163 : decode cL_law 163 = .ok (.iadd, 1) := by decide +kernel
theorem dL_law_164 : decode cL_law 164 = .ok (.iaload, 1) := by decide +kernel
theorem dL_law_165 : decode cL_law 165 = .ok (.invokevirtual 17, 3) := by decide +kernel
theorem dL_law_168 : decode cL_law 168 = .ok (.if_icmp .eq 601, 3) := by decide +kernel
theorem dL_law_171 : decode cL_law 171 = .ok (.iconst 0, 1) := by decide +kernel
theorem dL_law_172 : decode cL_law 172 = .ok (.ireturn, 1) := by decide +kernel
theorem dL_law_173 : decode cL_law 173 = .ok (.aload_n 1, 1) := by decide +kernel
theorem dL_law_174 : decode cL_law 174 = .ok (.aload_n 0, 1) := by decide +kernel
theorem dL_law_175 : decode cL_law 175 = .ok (.iload_n 3, 1) := by decide +kernel
theorem dL_law_176 : decode cL_law 176 = .ok (.iconst 1, 1) := by decide +kernel
theorem dL_law_177 : decode cL_law 177 = .ok (.iadd, 1) := by decide +kernel
theorem dL_law_178 : decode cL_law 178 = .ok (.iaload, 1) := by decide +kernel
theorem dL_law_179 : decode cL_law 179 = .ok (.invokevirtual 18, 3) := by decide +kernel
theorem dL_law_182 : decode cL_law 182 = .ok (.aload_n 2, 1) := by decide +kernel
theorem dL_law_183 : decode cL_law 183 = .ok (.aload_n 0, 1) := by decide +kernel
theorem dL_law_184 : decode cL_law 184 = .ok (.iload_n 3, 1) := by decide +kernel
theorem dL_law_185 : decode cL_law 185 = .ok (.iconst 1, 1) := by decide +kernel
theorem dL_law_186 : decode cL_law 186 = .ok (.iadd, 1) := by decide +kernel
theorem dL_law_187 : decode cL_law 187 = .ok (.iaload, 1) := by decide +kernel
theorem dL_law_188 : decode cL_law 188 = .ok (.invokevirtual 22, 3) := by decide +kernel
theorem dL_law_191 : decode cL_law 191 = .ok (.if_icmp .eq 578, 3) := by decide +kernel
theorem dL_law_194 : decode cL_law 194 = .ok (.iconst 0, 1) := by decide +kernel
theorem dL_law_195 : decode cL_law 195 = .ok (.ireturn, 1) := by decide +kernel
theorem dL_law_196 : decode cL_law 196 = .ok (.aload_n 1, 1) := by decide +kernel
theorem dL_law_197 : decode cL_law 197 = .ok (.aload_n 0, 1) := by decide +kernel
theorem dL_law_198 : decode cL_law 198 = .ok (.iload_n 3, 1) := by decide +kernel
theorem dL_law_199 : decode cL_law 199 = .ok (.iconst 1, 1) := by decide +kernel
theorem dL_law_200 : decode cL_law 200 = .ok (.iadd, 1) := by decide +kernel
theorem dL_law_201 : decode cL_law 201 = .ok (.iaload, 1) := by decide +kernel
theorem dL_law_202 : decode cL_law 202 = .ok (.aload_n 0, 1) := by decide +kernel
theorem dL_law_203 : decode cL_law 203 = .ok (.iload_n 3, 1) := by decide +kernel
theorem dL_law_204 : decode cL_law 204 = .ok (.iconst 2, 1) := by decide +kernel
theorem dL_law_205 : decode cL_law 205 = .ok (.iadd, 1) := by decide +kernel
theorem dL_law_206 : decode cL_law 206 = .ok (.iaload, 1) := by decide +kernel
theorem dL_law_207 : decode cL_law 207 = .ok (.invokevirtual 23, 3) := by decide +kernel
theorem dL_law_210 : decode cL_law 210 = .ok (.aload_n 2, 1) := by decide +kernel
theorem dL_law_211 : decode cL_law 211 = .ok (.aload_n 0, 1) := by decide +kernel
theorem dL_law_212 : decode cL_law 212 = .ok (.iload_n 3, 1) := by decide +kernel
theorem dL_law_213 : decode cL_law 213 = .ok (.iconst 1, 1) := by decide +kernel
theorem dL_law_214 : decode cL_law 214 = .ok (.iadd, 1) := by decide +kernel
theorem dL_law_215 : decode cL_law 215 = .ok (.iaload, 1) := by decide +kernel
theorem dL_law_216 : decode cL_law 216 = .ok (.aload_n 0, 1) := by decide +kernel
theorem dL_law_217 : decode cL_law 217 = .ok (.iload_n 3, 1) := by decide +kernel
theorem dL_law_218 : decode cL_law 218 = .ok (.iconst 2, 1) := by decide +kernel
theorem dL_law_219 : decode cL_law 219 = .ok (.iadd, 1) := by decide +kernel
theorem dL_law_220 : decode cL_law 220 = .ok (.iaload, 1) := by decide +kernel
theorem dL_law_221 : decode cL_law 221 = .ok (.invokevirtual 26, 3) := by decide +kernel
theorem dL_law_224 : decode cL_law 224 = .ok (.if_icmp .eq 545, 3) := by decide +kernel
theorem dL_law_227 : decode cL_law 227 = .ok (.iconst 0, 1) := by decide +kernel
theorem dL_law_228 : decode cL_law 228 = .ok (.ireturn, 1) := by decide +kernel
theorem dL_law_229 : decode cL_law 229 = .ok (.aload_n 1, 1) := by decide +kernel
theorem dL_law_230 : decode cL_law 230 = .ok (.aload_n 0, 1) := by decide +kernel
theorem dL_law_231 : decode cL_law 231 = .ok (.iload_n 3, 1) := by decide +kernel
theorem dL_law_232 : decode cL_law 232 = .ok (.iconst 1, 1) := by decide +kernel
theorem dL_law_233 : decode cL_law 233 = .ok (.iadd, 1) := by decide +kernel
theorem dL_law_234 : decode cL_law 234 = .ok (.iaload, 1) := by decide +kernel
theorem dL_law_235 : decode cL_law 235 = .ok (.aload_n 0, 1) := by decide +kernel
theorem dL_law_236 : decode cL_law 236 = .ok (.iload_n 3, 1) := by decide +kernel
theorem dL_law_237 : decode cL_law 237 = .ok (.iconst 2, 1) := by decide +kernel
theorem dL_law_238 : decode cL_law 238 = .ok (.iadd, 1) := by decide +kernel
theorem dL_law_239 : decode cL_law 239 = .ok (.iaload, 1) := by decide +kernel
theorem dL_law_240 : decode cL_law 240 = .ok (.aload_n 0, 1) := by decide +kernel
theorem dL_law_241 : decode cL_law 241 = .ok (.iload_n 3, 1) := by decide +kernel
theorem dL_law_242 : decode cL_law 242 = .ok (.iconst 3, 1) := by decide +kernel
theorem dL_law_243 : decode cL_law 243 = .ok (.iadd, 1) := by decide +kernel
theorem dL_law_244 : decode cL_law 244 = .ok (.iaload, 1) := by decide +kernel
theorem dL_law_245 : decode cL_law 245 = .ok (.invokevirtual 27, 3) := by decide +kernel
theorem dL_law_248 : decode cL_law 248 = .ok (.aload_n 2, 1) := by decide +kernel
theorem dL_law_249 : decode cL_law 249 = .ok (.aload_n 0, 1) := by decide +kernel
theorem dL_law_250 : decode cL_law 250 = .ok (.iload_n 3, 1) := by decide +kernel
theorem dL_law_251 : decode cL_law 251 = .ok (.iconst 1, 1) := by decide +kernel
theorem dL_law_252 : decode cL_law 252 = .ok (.iadd, 1) := by decide +kernel
theorem dL_law_253 : decode cL_law 253 = .ok (.iaload, 1) := by decide +kernel
theorem dL_law_254 : decode cL_law 254 = .ok (.aload_n 0, 1) := by decide +kernel
theorem dL_law_255 : decode cL_law 255 = .ok (.iload_n 3, 1) := by decide +kernel
theorem dL_law_256 : decode cL_law 256 = .ok (.iconst 2, 1) := by decide +kernel
theorem dL_law_257 : decode cL_law 257 = .ok (.iadd, 1) := by decide +kernel
theorem dL_law_258 : decode cL_law 258 = .ok (.iaload, 1) := by decide +kernel
theorem dL_law_259 : decode cL_law 259 = .ok (.aload_n 0, 1) := by decide +kernel
theorem dL_law_260 : decode cL_law 260 = .ok (.iload_n 3, 1) := by decide +kernel
theorem dL_law_261 : decode cL_law 261 = .ok (.iconst 3, 1) := by decide +kernel
theorem dL_law_262 : decode cL_law 262 = .ok (.iadd, 1) := by decide +kernel
theorem dL_law_263 : decode cL_law 263 = .ok (.iaload, 1) := by decide +kernel
theorem dL_law_264 : decode cL_law 264 = .ok (.invokevirtual 31, 3) := by decide +kernel
theorem dL_law_267 : decode cL_law 267 = .ok (.if_icmp .eq 502, 3) := by decide +kernel
theorem dL_law_270 : decode cL_law 270 = .ok (.iconst 0, 1) := by decide +kernel
theorem dL_law_271 : decode cL_law 271 = .ok (.ireturn, 1) := by decide +kernel
theorem dL_law_272 : decode cL_law 272 = .ok (.aload_n 1, 1) := by decide +kernel
theorem dL_law_273 : decode cL_law 273 = .ok (.aload_n 0, 1) := by decide +kernel
theorem dL_law_274 : decode cL_law 274 = .ok (.iload_n 3, 1) := by decide +kernel
theorem dL_law_275 : decode cL_law 275 = .ok (.iconst 1, 1) := by decide +kernel
theorem dL_law_276 : decode cL_law 276 = .ok (.iadd, 1) := by decide +kernel
theorem dL_law_277 : decode cL_law 277 = .ok (.iaload, 1) := by decide +kernel
theorem dL_law_278 : decode cL_law 278 = .ok (.aload_n 0, 1) := by decide +kernel
theorem dL_law_279 : decode cL_law 279 = .ok (.iload_n 3, 1) := by decide +kernel
theorem dL_law_280 : decode cL_law 280 = .ok (.iconst 2, 1) := by decide +kernel
theorem dL_law_281 : decode cL_law 281 = .ok (.iadd, 1) := by decide +kernel
theorem dL_law_282 : decode cL_law 282 = .ok (.iaload, 1) := by decide +kernel
theorem dL_law_283 : decode cL_law 283 = .ok (.invokevirtual 32, 3) := by decide +kernel
theorem dL_law_286 : decode cL_law 286 = .ok (.aload_n 2, 1) := by decide +kernel
theorem dL_law_287 : decode cL_law 287 = .ok (.aload_n 0, 1) := by decide +kernel
theorem dL_law_288 : decode cL_law 288 = .ok (.iload_n 3, 1) := by decide +kernel
theorem dL_law_289 : decode cL_law 289 = .ok (.iconst 1, 1) := by decide +kernel
theorem dL_law_290 : decode cL_law 290 = .ok (.iadd, 1) := by decide +kernel
theorem dL_law_291 : decode cL_law 291 = .ok (.iaload, 1) := by decide +kernel
theorem dL_law_292 : decode cL_law 292 = .ok (.aload_n 0, 1) := by decide +kernel
theorem dL_law_293 : decode cL_law 293 = .ok (.iload_n 3, 1) := by decide +kernel
theorem dL_law_294 : decode cL_law 294 = .ok (.iconst 2, 1) := by decide +kernel
theorem dL_law_295 : decode cL_law 295 = .ok (.iadd, 1) := by decide +kernel
theorem dL_law_296 : decode cL_law 296 = .ok (.iaload, 1) := by decide +kernel
theorem dL_law_297 : decode cL_law 297 = .ok (.invokevirtual 35, 3) := by decide +kernel
theorem dL_law_300 : decode cL_law 300 = .ok (.if_icmp .eq 469, 3) := by decide +kernel
theorem dL_law_303 : decode cL_law 303 = .ok (.iconst 0, 1) := by decide +kernel
theorem dL_law_304 : decode cL_law 304 = .ok (.ireturn, 1) := by decide +kernel
theorem dL_law_305 : decode cL_law 305 = .ok (.aload_n 1, 1) := by decide +kernel
theorem dL_law_306 : decode cL_law 306 = .ok (.aload_n 0, 1) := by decide +kernel
theorem dL_law_307 : decode cL_law 307 = .ok (.iload_n 3, 1) := by decide +kernel
theorem dL_law_308 : decode cL_law 308 = .ok (.iconst 1, 1) := by decide +kernel
theorem dL_law_309 : decode cL_law 309 = .ok (.iadd, 1) := by decide +kernel
theorem dL_law_310 : decode cL_law 310 = .ok (.iaload, 1) := by decide +kernel
theorem dL_law_311 : decode cL_law 311 = .ok (.aload_n 0, 1) := by decide +kernel
theorem dL_law_312 : decode cL_law 312 = .ok (.iload_n 3, 1) := by decide +kernel
theorem dL_law_313 : decode cL_law 313 = .ok (.iconst 2, 1) := by decide +kernel
theorem dL_law_314 : decode cL_law 314 = .ok (.iadd, 1) := by decide +kernel
theorem dL_law_315 : decode cL_law 315 = .ok (.iaload, 1) := by decide +kernel
theorem dL_law_316 : decode cL_law 316 = .ok (.aload_n 0, 1) := by decide +kernel
theorem dL_law_317 : decode cL_law 317 = .ok (.iload_n 3, 1) := by decide +kernel
theorem dL_law_318 : decode cL_law 318 = .ok (.iconst 3, 1) := by decide +kernel
theorem dL_law_319 : decode cL_law 319 = .ok (.iadd, 1) := by decide +kernel
theorem dL_law_320 : decode cL_law 320 = .ok (.iaload, 1) := by decide +kernel
theorem dL_law_321 : decode cL_law 321 = .ok (.invokevirtual 36, 3) := by decide +kernel
theorem dL_law_324 : decode cL_law 324 = .ok (.aload_n 2, 1) := by decide +kernel
theorem dL_law_325 : decode cL_law 325 = .ok (.aload_n 0, 1) := by decide +kernel
theorem dL_law_326 : decode cL_law 326 = .ok (.iload_n 3, 1) := by decide +kernel
theorem dL_law_327 : decode cL_law 327 = .ok (.iconst 1, 1) := by decide +kernel
theorem dL_law_328 : decode cL_law 328 = .ok (.iadd, 1) := by decide +kernel
theorem dL_law_329 : decode cL_law 329 = .ok (.iaload, 1) := by decide +kernel
theorem dL_law_330 : decode cL_law 330 = .ok (.aload_n 0, 1) := by decide +kernel
theorem dL_law_331 : decode cL_law 331 = .ok (.iload_n 3, 1) := by decide +kernel
theorem dL_law_332 : decode cL_law 332 = .ok (.iconst 2, 1) := by decide +kernel
theorem dL_law_333 : decode cL_law 333 = .ok (.iadd, 1) := by decide +kernel
theorem dL_law_334 : decode cL_law 334 = .ok (.iaload, 1) := by decide +kernel
theorem dL_law_335 : decode cL_law 335 = .ok (.aload_n 0, 1) := by decide +kernel
theorem dL_law_336 : decode cL_law 336 = .ok (.iload_n 3, 1) := by decide +kernel
theorem dL_law_337 : decode cL_law 337 = .ok (.iconst 3, 1) := by decide +kernel
theorem dL_law_338 : decode cL_law 338 = .ok (.iadd, 1) := by decide +kernel
theorem dL_law_339 : decode cL_law 339 = .ok (.iaload, 1) := by decide +kernel
theorem dL_law_340 : decode cL_law 340 = .ok (.invokevirtual 39, 3) := by decide +kernel
theorem dL_law_343 : decode cL_law 343 = .ok (.if_icmp .eq 426, 3) := by decide +kernel
theorem dL_law_346 : decode cL_law 346 = .ok (.iconst 0, 1) := by decide +kernel
theorem dL_law_347 : decode cL_law 347 = .ok (.ireturn, 1) := by decide +kernel
theorem dL_law_348 : decode cL_law 348 = .ok (.aload_n 1, 1) := by decide +kernel
theorem dL_law_349 : decode cL_law 349 = .ok (.invokevirtual 40, 3) := by decide +kernel
theorem dL_law_352 : decode cL_law 352 = .ok (.aload_n 2, 1) := by decide +kernel
theorem dL_law_353 : decode cL_law 353 = .ok (.invokevirtual 44, 3) := by decide +kernel
theorem dL_law_356 : decode cL_law 356 = .ok (.if_icmp .eq 413, 3) := by decide +kernel
theorem dL_law_359 : decode cL_law 359 = .ok (.iconst 0, 1) := by decide +kernel
theorem dL_law_360 : decode cL_law 360 = .ok (.ireturn, 1) := by decide +kernel
theorem dL_law_361 : decode cL_law 361 = .ok (.aload_n 1, 1) := by decide +kernel
theorem dL_law_362 : decode cL_law 362 = .ok (.invokevirtual 45, 3) := by decide +kernel
theorem dL_law_365 : decode cL_law 365 = .ok (.aload_n 2, 1) := by decide +kernel
theorem dL_law_366 : decode cL_law 366 = .ok (.invokevirtual 48, 3) := by decide +kernel
theorem dL_law_369 : decode cL_law 369 = .ok (.if_icmp .eq 400, 3) := by decide +kernel
theorem dL_law_372 : decode cL_law 372 = .ok (.iconst 0, 1) := by decide +kernel
theorem dL_law_373 : decode cL_law 373 = .ok (.ireturn, 1) := by decide +kernel
theorem dL_law_374 : decode cL_law 374 = .ok (.aload_n 1, 1) := by decide +kernel
theorem dL_law_375 : decode cL_law 375 = .ok (.invokevirtual 49, 3) := by decide +kernel
theorem dL_law_378 : decode cL_law 378 = .ok (.aload_n 2, 1) := by decide +kernel
theorem dL_law_379 : decode cL_law 379 = .ok (.invokevirtual 52, 3) := by decide +kernel
theorem dL_law_382 : decode cL_law 382 = .ok (.if_icmp .eq 387, 3) := by decide +kernel
theorem dL_law_385 : decode cL_law 385 = .ok (.iconst 0, 1) := by decide +kernel
theorem dL_law_386 : decode cL_law 386 = .ok (.ireturn, 1) := by decide +kernel
theorem dL_law_387 : decode cL_law 387 = .ok (.aload_n 1, 1) := by decide +kernel
theorem dL_law_388 : decode cL_law 388 = .ok (.aload_n 0, 1) := by decide +kernel
theorem dL_law_389 : decode cL_law 389 = .ok (.iload_n 3, 1) := by decide +kernel
theorem dL_law_390 : decode cL_law 390 = .ok (.iconst 1, 1) := by decide +kernel
theorem dL_law_391 : decode cL_law 391 = .ok (.iadd, 1) := by decide +kernel
theorem dL_law_392 : decode cL_law 392 = .ok (.iaload, 1) := by decide +kernel
theorem dL_law_393 : decode cL_law 393 = .ok (.invokevirtual 53, 3) := by decide +kernel
theorem dL_law_396 : decode cL_law 396 = .ok (.aload_n 2, 1) := by decide +kernel
theorem dL_law_397 : decode cL_law 397 = .ok (.aload_n 0, 1) := by decide +kernel
theorem dL_law_398 : decode cL_law 398 = .ok (.iload_n 3, 1) := by decide +kernel
theorem dL_law_399 : decode cL_law 399 = .ok (.iconst 1, 1) := by decide +kernel
theorem dL_law_400 : decode cL_law 400 = .ok (.iadd, 1) := by decide +kernel
theorem dL_law_401 : decode cL_law 401 = .ok (.iaload, 1) := by decide +kernel
theorem dL_law_402 : decode cL_law 402 = .ok (.invokevirtual 56, 3) := by decide +kernel
theorem dL_law_405 : decode cL_law 405 = .ok (.if_icmp .eq 364, 3) := by decide +kernel
theorem dL_law_408 : decode cL_law 408 = .ok (.iconst 0, 1) := by decide +kernel
theorem dL_law_409 : decode cL_law 409 = .ok (.ireturn, 1) := by decide +kernel
theorem dL_law_410 : decode cL_law 410 = .ok (.aload_n 1, 1) := by decide +kernel
theorem dL_law_411 : decode cL_law 411 = .ok (.aload_n 0, 1) := by decide +kernel
theorem dL_law_412 : decode cL_law 412 = .ok (.iload_n 3, 1) := by decide +kernel
theorem dL_law_413 : decode cL_law 413 = .ok (.iconst 1, 1) := by decide +kernel
theorem dL_law_414 : decode cL_law 414 = .ok (.iadd, 1) := by decide +kernel
theorem dL_law_415 : decode cL_law 415 = .ok (.iaload, 1) := by decide +kernel
theorem dL_law_416 : decode cL_law 416 = .ok (.aload_n 0, 1) := by decide +kernel
theorem dL_law_417 : decode cL_law 417 = .ok (.iload_n 3, 1) := by decide +kernel
theorem dL_law_418 : decode cL_law 418 = .ok (.iconst 2, 1) := by decide +kernel
theorem dL_law_419 : decode cL_law 419 = .ok (.iadd, 1) := by decide +kernel
theorem dL_law_420 : decode cL_law 420 = .ok (.iaload, 1) := by decide +kernel
theorem dL_law_421 : decode cL_law 421 = .ok (.invokevirtual 57, 3) := by decide +kernel
theorem dL_law_424 : decode cL_law 424 = .ok (.aload_n 2, 1) := by decide +kernel
theorem dL_law_425 : decode cL_law 425 = .ok (.aload_n 0, 1) := by decide +kernel
theorem dL_law_426 : decode cL_law 426 = .ok (.iload_n 3, 1) := by decide +kernel
theorem dL_law_427 : decode cL_law 427 = .ok (.iconst 1, 1) := by decide +kernel
theorem dL_law_428 : decode cL_law 428 = .ok (.iadd, 1) := by decide +kernel
theorem dL_law_429 : decode cL_law 429 = .ok (.iaload, 1) := by decide +kernel
theorem dL_law_430 : decode cL_law 430 = .ok (.aload_n 0, 1) := by decide +kernel
theorem dL_law_431 : decode cL_law 431 = .ok (.iload_n 3, 1) := by decide +kernel
theorem dL_law_432 : decode cL_law 432 = .ok (.iconst 2, 1) := by decide +kernel
theorem dL_law_433 : decode cL_law 433 = .ok (.iadd, 1) := by decide +kernel
theorem dL_law_434 : decode cL_law 434 = .ok (.iaload, 1) := by decide +kernel
theorem dL_law_435 : decode cL_law 435 = .ok (.invokevirtual 60, 3) := by decide +kernel
theorem dL_law_438 : decode cL_law 438 = .ok (.if_icmp .eq 331, 3) := by decide +kernel
theorem dL_law_441 : decode cL_law 441 = .ok (.iconst 0, 1) := by decide +kernel
theorem dL_law_442 : decode cL_law 442 = .ok (.ireturn, 1) := by decide +kernel
theorem dL_law_443 : decode cL_law 443 = .ok (.aload_n 1, 1) := by decide +kernel
theorem dL_law_444 : decode cL_law 444 = .ok (.aload_n 0, 1) := by decide +kernel
theorem dL_law_445 : decode cL_law 445 = .ok (.iload_n 3, 1) := by decide +kernel
theorem dL_law_446 : decode cL_law 446 = .ok (.iconst 1, 1) := by decide +kernel
theorem dL_law_447 : decode cL_law 447 = .ok (.iadd, 1) := by decide +kernel
theorem dL_law_448 : decode cL_law 448 = .ok (.iaload, 1) := by decide +kernel
theorem dL_law_449 : decode cL_law 449 = .ok (.aload_n 0, 1) := by decide +kernel
theorem dL_law_450 : decode cL_law 450 = .ok (.iload_n 3, 1) := by decide +kernel
theorem dL_law_451 : decode cL_law 451 = .ok (.iconst 2, 1) := by decide +kernel
theorem dL_law_452 : decode cL_law 452 = .ok (.iadd, 1) := by decide +kernel
theorem dL_law_453 : decode cL_law 453 = .ok (.iaload, 1) := by decide +kernel
theorem dL_law_454 : decode cL_law 454 = .ok (.invokevirtual 61, 3) := by decide +kernel
theorem dL_law_457 : decode cL_law 457 = .ok (.aload_n 2, 1) := by decide +kernel
theorem dL_law_458 : decode cL_law 458 = .ok (.aload_n 0, 1) := by decide +kernel
theorem dL_law_459 : decode cL_law 459 = .ok (.iload_n 3, 1) := by decide +kernel
theorem dL_law_460 : decode cL_law 460 = .ok (.iconst 1, 1) := by decide +kernel
theorem dL_law_461 : decode cL_law 461 = .ok (.iadd, 1) := by decide +kernel
theorem dL_law_462 : decode cL_law 462 = .ok (.iaload, 1) := by decide +kernel
theorem dL_law_463 : decode cL_law 463 = .ok (.aload_n 0, 1) := by decide +kernel
theorem dL_law_464 : decode cL_law 464 = .ok (.iload_n 3, 1) := by decide +kernel
theorem dL_law_465 : decode cL_law 465 = .ok (.iconst 2, 1) := by decide +kernel
theorem dL_law_466 : decode cL_law 466 = .ok (.iadd, 1) := by decide +kernel
theorem dL_law_467 : decode cL_law 467 = .ok (.iaload, 1) := by decide +kernel
theorem dL_law_468 : decode cL_law 468 = .ok (.invokevirtual 64, 3) := by decide +kernel
theorem dL_law_471 : decode cL_law 471 = .ok (.if_icmp .eq 298, 3) := by decide +kernel
theorem dL_law_474 : decode cL_law 474 = .ok (.iconst 0, 1) := by decide +kernel
theorem dL_law_475 : decode cL_law 475 = .ok (.ireturn, 1) := by decide +kernel
theorem dL_law_476 : decode cL_law 476 = .ok (.aload_n 1, 1) := by decide +kernel
theorem dL_law_477 : decode cL_law 477 = .ok (.aload_n 0, 1) := by decide +kernel
theorem dL_law_478 : decode cL_law 478 = .ok (.iload_n 3, 1) := by decide +kernel
theorem dL_law_479 : decode cL_law 479 = .ok (.iconst 1, 1) := by decide +kernel
theorem dL_law_480 : decode cL_law 480 = .ok (.iadd, 1) := by decide +kernel
theorem dL_law_481 : decode cL_law 481 = .ok (.iaload, 1) := by decide +kernel
theorem dL_law_482 : decode cL_law 482 = .ok (.aload_n 0, 1) := by decide +kernel
theorem dL_law_483 : decode cL_law 483 = .ok (.iload_n 3, 1) := by decide +kernel
theorem dL_law_484 : decode cL_law 484 = .ok (.iconst 2, 1) := by decide +kernel
theorem dL_law_485 : decode cL_law 485 = .ok (.iadd, 1) := by decide +kernel
theorem dL_law_486 : decode cL_law 486 = .ok (.iaload, 1) := by decide +kernel
theorem dL_law_487 : decode cL_law 487 = .ok (.aload_n 0, 1) := by decide +kernel
theorem dL_law_488 : decode cL_law 488 = .ok (.iload_n 3, 1) := by decide +kernel
theorem dL_law_489 : decode cL_law 489 = .ok (.iconst 3, 1) := by decide +kernel
theorem dL_law_490 : decode cL_law 490 = .ok (.iadd, 1) := by decide +kernel
theorem dL_law_491 : decode cL_law 491 = .ok (.iaload, 1) := by decide +kernel
theorem dL_law_492 : decode cL_law 492 = .ok (.invokevirtual 65, 3) := by decide +kernel
theorem dL_law_495 : decode cL_law 495 = .ok (.aload_n 2, 1) := by decide +kernel
theorem dL_law_496 : decode cL_law 496 = .ok (.aload_n 0, 1) := by decide +kernel
theorem dL_law_497 : decode cL_law 497 = .ok (.iload_n 3, 1) := by decide +kernel
theorem dL_law_498 : decode cL_law 498 = .ok (.iconst 1, 1) := by decide +kernel
theorem dL_law_499 : decode cL_law 499 = .ok (.iadd, 1) := by decide +kernel
theorem dL_law_500 : decode cL_law 500 = .ok (.iaload, 1) := by decide +kernel
theorem dL_law_501 : decode cL_law 501 = .ok (.aload_n 0, 1) := by decide +kernel
theorem dL_law_502 : decode cL_law 502 = .ok (.iload_n 3, 1) := by decide +kernel
theorem dL_law_503 : decode cL_law 503 = .ok (.iconst 2, 1) := by decide +kernel
theorem dL_law_504 : decode cL_law 504 = .ok (.iadd, 1) := by decide +kernel
theorem dL_law_505 : decode cL_law 505 = .ok (.iaload, 1) := by decide +kernel
theorem dL_law_506 : decode cL_law 506 = .ok (.aload_n 0, 1) := by decide +kernel
theorem dL_law_507 : decode cL_law 507 = .ok (.iload_n 3, 1) := by decide +kernel
theorem dL_law_508 : decode cL_law 508 = .ok (.iconst 3, 1) := by decide +kernel
theorem dL_law_509 : decode cL_law 509 = .ok (.iadd, 1) := by decide +kernel
theorem dL_law_510 : decode cL_law 510 = .ok (.iaload, 1) := by decide +kernel
theorem dL_law_511 : decode cL_law 511 = .ok (.invokevirtual 68, 3) := by decide +kernel
theorem dL_law_514 : decode cL_law 514 = .ok (.if_icmp .eq 255, 3) := by decide +kernel
theorem dL_law_517 : decode cL_law 517 = .ok (.iconst 0, 1) := by decide +kernel
theorem dL_law_518 : decode cL_law 518 = .ok (.ireturn, 1) := by decide +kernel
theorem dL_law_519 : decode cL_law 519 = .ok (.aload_n 1, 1) := by decide +kernel
theorem dL_law_520 : decode cL_law 520 = .ok (.aload_n 0, 1) := by decide +kernel
theorem dL_law_521 : decode cL_law 521 = .ok (.iload_n 3, 1) := by decide +kernel
theorem dL_law_522 : decode cL_law 522 = .ok (.iconst 1, 1) := by decide +kernel
theorem dL_law_523 : decode cL_law 523 = .ok (.iadd, 1) := by decide +kernel
theorem dL_law_524 : decode cL_law 524 = .ok (.iaload, 1) := by decide +kernel
theorem dL_law_525 : decode cL_law 525 = .ok (.aload_n 0, 1) := by decide +kernel
theorem dL_law_526 : decode cL_law 526 = .ok (.iload_n 3, 1) := by decide +kernel
theorem dL_law_527 : decode cL_law 527 = .ok (.iconst 2, 1) := by decide +kernel
theorem dL_law_528 : decode cL_law 528 = .ok (.iadd, 1) := by decide +kernel
theorem dL_law_529 : decode cL_law 529 = .ok (.iaload, 1) := by decide +kernel
theorem dL_law_530 : decode cL_law 530 = .ok (.invokevirtual 69, 3) := by decide +kernel
theorem dL_law_533 : decode cL_law 533 = .ok (.aload_n 2, 1) := by decide +kernel
theorem dL_law_534 : decode cL_law 534 = .ok (.aload_n 0, 1) := by decide +kernel
theorem dL_law_535 : decode cL_law 535 = .ok (.iload_n 3, 1) := by decide +kernel
theorem dL_law_536 : decode cL_law 536 = .ok (.iconst 1, 1) := by decide +kernel
theorem dL_law_537 : decode cL_law 537 = .ok (.iadd, 1) := by decide +kernel
theorem dL_law_538 : decode cL_law 538 = .ok (.iaload, 1) := by decide +kernel
theorem dL_law_539 : decode cL_law 539 = .ok (.aload_n 0, 1) := by decide +kernel
theorem dL_law_540 : decode cL_law 540 = .ok (.iload_n 3, 1) := by decide +kernel
theorem dL_law_541 : decode cL_law 541 = .ok (.iconst 2, 1) := by decide +kernel
theorem dL_law_542 : decode cL_law 542 = .ok (.iadd, 1) := by decide +kernel
theorem dL_law_543 : decode cL_law 543 = .ok (.iaload, 1) := by decide +kernel
theorem dL_law_544 : decode cL_law 544 = .ok (.invokevirtual 72, 3) := by decide +kernel
theorem dL_law_547 : decode cL_law 547 = .ok (.if_icmp .eq 222, 3) := by decide +kernel
theorem dL_law_550 : decode cL_law 550 = .ok (.iconst 0, 1) := by decide +kernel
theorem dL_law_551 : decode cL_law 551 = .ok (.ireturn, 1) := by decide +kernel
theorem dL_law_552 : decode cL_law 552 = .ok (.aload_n 1, 1) := by decide +kernel
theorem dL_law_553 : decode cL_law 553 = .ok (.aload_n 0, 1) := by decide +kernel
theorem dL_law_554 : decode cL_law 554 = .ok (.iload_n 3, 1) := by decide +kernel
theorem dL_law_555 : decode cL_law 555 = .ok (.iconst 1, 1) := by decide +kernel
theorem dL_law_556 : decode cL_law 556 = .ok (.iadd, 1) := by decide +kernel
theorem dL_law_557 : decode cL_law 557 = .ok (.iaload, 1) := by decide +kernel
theorem dL_law_558 : decode cL_law 558 = .ok (.invokevirtual 73, 3) := by decide +kernel
theorem dL_law_561 : decode cL_law 561 = .ok (.aload_n 2, 1) := by decide +kernel
theorem dL_law_562 : decode cL_law 562 = .ok (.aload_n 0, 1) := by decide +kernel
theorem dL_law_563 : decode cL_law 563 = .ok (.iload_n 3, 1) := by decide +kernel
theorem dL_law_564 : decode cL_law 564 = .ok (.iconst 1, 1) := by decide +kernel
theorem dL_law_565 : decode cL_law 565 = .ok (.iadd, 1) := by decide +kernel
theorem dL_law_566 : decode cL_law 566 = .ok (.iaload, 1) := by decide +kernel
theorem dL_law_567 : decode cL_law 567 = .ok (.invokevirtual 76, 3) := by decide +kernel
theorem dL_law_570 : decode cL_law 570 = .ok (.if_icmp .eq 199, 3) := by decide +kernel
theorem dL_law_573 : decode cL_law 573 = .ok (.iconst 0, 1) := by decide +kernel
theorem dL_law_574 : decode cL_law 574 = .ok (.ireturn, 1) := by decide +kernel
theorem dL_law_575 : decode cL_law 575 = .ok (.aload_n 1, 1) := by decide +kernel
theorem dL_law_576 : decode cL_law 576 = .ok (.aload_n 0, 1) := by decide +kernel
theorem dL_law_577 : decode cL_law 577 = .ok (.iload_n 3, 1) := by decide +kernel
theorem dL_law_578 : decode cL_law 578 = .ok (.iconst 1, 1) := by decide +kernel
theorem dL_law_579 : decode cL_law 579 = .ok (.iadd, 1) := by decide +kernel
theorem dL_law_580 : decode cL_law 580 = .ok (.iaload, 1) := by decide +kernel
theorem dL_law_581 : decode cL_law 581 = .ok (.aload_n 0, 1) := by decide +kernel
theorem dL_law_582 : decode cL_law 582 = .ok (.iload_n 3, 1) := by decide +kernel
theorem dL_law_583 : decode cL_law 583 = .ok (.iconst 2, 1) := by decide +kernel
theorem dL_law_584 : decode cL_law 584 = .ok (.iadd, 1) := by decide +kernel
theorem dL_law_585 : decode cL_law 585 = .ok (.iaload, 1) := by decide +kernel
theorem dL_law_586 : decode cL_law 586 = .ok (.invokevirtual 77, 3) := by decide +kernel
theorem dL_law_589 : decode cL_law 589 = .ok (.aload_n 2, 1) := by decide +kernel
theorem dL_law_590 : decode cL_law 590 = .ok (.aload_n 0, 1) := by decide +kernel
theorem dL_law_591 : decode cL_law 591 = .ok (.iload_n 3, 1) := by decide +kernel
theorem dL_law_592 : decode cL_law 592 = .ok (.iconst 1, 1) := by decide +kernel
theorem dL_law_593 : decode cL_law 593 = .ok (.iadd, 1) := by decide +kernel
theorem dL_law_594 : decode cL_law 594 = .ok (.iaload, 1) := by decide +kernel
theorem dL_law_595 : decode cL_law 595 = .ok (.aload_n 0, 1) := by decide +kernel
theorem dL_law_596 : decode cL_law 596 = .ok (.iload_n 3, 1) := by decide +kernel
theorem dL_law_597 : decode cL_law 597 = .ok (.iconst 2, 1) := by decide +kernel
theorem dL_law_598 : decode cL_law 598 = .ok (.iadd, 1) := by decide +kernel
theorem dL_law_599 : decode cL_law 599 = .ok (.iaload, 1) := by decide +kernel
theorem dL_law_600 : decode cL_law 600 = .ok (.invokevirtual 80, 3) := by decide +kernel
theorem dL_law_603 : decode cL_law 603 = .ok (.if_icmp .eq 166, 3) := by decide +kernel
theorem dL_law_606 : decode cL_law 606 = .ok (.iconst 0, 1) := by decide +kernel
theorem dL_law_607 : decode cL_law 607 = .ok (.ireturn, 1) := by decide +kernel
theorem dL_law_608 : decode cL_law 608 = .ok (.aload_n 1, 1) := by decide +kernel
theorem dL_law_609 : decode cL_law 609 = .ok (.aload_n 0, 1) := by decide +kernel
theorem dL_law_610 : decode cL_law 610 = .ok (.iload_n 3, 1) := by decide +kernel
theorem dL_law_611 : decode cL_law 611 = .ok (.iconst 1, 1) := by decide +kernel
theorem dL_law_612 : decode cL_law 612 = .ok (.iadd, 1) := by decide +kernel
theorem dL_law_613 : decode cL_law 613 = .ok (.iaload, 1) := by decide +kernel
theorem dL_law_614 : decode cL_law 614 = .ok (.invokevirtual 81, 3) := by decide +kernel
theorem dL_law_617 : decode cL_law 617 = .ok (.aload_n 2, 1) := by decide +kernel
theorem dL_law_618 : decode cL_law 618 = .ok (.aload_n 0, 1) := by decide +kernel
theorem dL_law_619 : decode cL_law 619 = .ok (.iload_n 3, 1) := by decide +kernel
theorem dL_law_620 : decode cL_law 620 = .ok (.iconst 1, 1) := by decide +kernel
theorem dL_law_621 : decode cL_law 621 = .ok (.iadd, 1) := by decide +kernel
theorem dL_law_622 : decode cL_law 622 = .ok (.iaload, 1) := by decide +kernel
theorem dL_law_623 : decode cL_law 623 = .ok (.invokevirtual 84, 3) := by decide +kernel
theorem dL_law_626 : decode cL_law 626 = .ok (.if_icmp .eq 143, 3) := by decide +kernel
theorem dL_law_629 : decode cL_law 629 = .ok (.iconst 0, 1) := by decide +kernel
theorem dL_law_630 : decode cL_law 630 = .ok (.ireturn, 1) := by decide +kernel
theorem dL_law_631 : decode cL_law 631 = .ok (.aload_n 1, 1) := by decide +kernel
theorem dL_law_632 : decode cL_law 632 = .ok (.aload_n 0, 1) := by decide +kernel
theorem dL_law_633 : decode cL_law 633 = .ok (.iload_n 3, 1) := by decide +kernel
theorem dL_law_634 : decode cL_law 634 = .ok (.iconst 1, 1) := by decide +kernel
theorem dL_law_635 : decode cL_law 635 = .ok (.iadd, 1) := by decide +kernel
theorem dL_law_636 : decode cL_law 636 = .ok (.iaload, 1) := by decide +kernel
theorem dL_law_637 : decode cL_law 637 = .ok (.aload_n 0, 1) := by decide +kernel
theorem dL_law_638 : decode cL_law 638 = .ok (.iload_n 3, 1) := by decide +kernel
theorem dL_law_639 : decode cL_law 639 = .ok (.iconst 2, 1) := by decide +kernel
theorem dL_law_640 : decode cL_law 640 = .ok (.iadd, 1) := by decide +kernel
theorem dL_law_641 : decode cL_law 641 = .ok (.iaload, 1) := by decide +kernel
theorem dL_law_642 : decode cL_law 642 = .ok (.invokevirtual 85, 3) := by decide +kernel
theorem dL_law_645 : decode cL_law 645 = .ok (.aload_n 2, 1) := by decide +kernel
theorem dL_law_646 : decode cL_law 646 = .ok (.aload_n 0, 1) := by decide +kernel
theorem dL_law_647 : decode cL_law 647 = .ok (.iload_n 3, 1) := by decide +kernel
theorem dL_law_648 : decode cL_law 648 = .ok (.iconst 1, 1) := by decide +kernel
theorem dL_law_649 : decode cL_law 649 = .ok (.iadd, 1) := by decide +kernel
theorem dL_law_650 : decode cL_law 650 = .ok (.iaload, 1) := by decide +kernel
theorem dL_law_651 : decode cL_law 651 = .ok (.aload_n 0, 1) := by decide +kernel
theorem dL_law_652 : decode cL_law 652 = .ok (.iload_n 3, 1) := by decide +kernel
theorem dL_law_653 : decode cL_law 653 = .ok (.iconst 2, 1) := by decide +kernel
theorem dL_law_654 : decode cL_law 654 = .ok (.iadd, 1) := by decide +kernel
theorem dL_law_655 : decode cL_law 655 = .ok (.iaload, 1) := by decide +kernel
theorem dL_law_656 : decode cL_law 656 = .ok (.invokevirtual 88, 3) := by decide +kernel
theorem dL_law_659 : decode cL_law 659 = .ok (.if_icmp .eq 110, 3) := by decide +kernel
theorem dL_law_662 : decode cL_law 662 = .ok (.iconst 0, 1) := by decide +kernel
theorem dL_law_663 : decode cL_law 663 = .ok (.ireturn, 1) := by decide +kernel
theorem dL_law_664 : decode cL_law 664 = .ok (.aload_n 1, 1) := by decide +kernel
theorem dL_law_665 : decode cL_law 665 = .ok (.invokevirtual 89, 3) := by decide +kernel
theorem dL_law_668 : decode cL_law 668 = .ok (.aload_n 2, 1) := by decide +kernel
theorem dL_law_669 : decode cL_law 669 = .ok (.invokevirtual 92, 3) := by decide +kernel
theorem dL_law_672 : decode cL_law 672 = .ok (.if_icmp .eq 97, 3) := by decide +kernel
theorem dL_law_675 : decode cL_law 675 = .ok (.iconst 0, 1) := by decide +kernel
theorem dL_law_676 : decode cL_law 676 = .ok (.ireturn, 1) := by decide +kernel
theorem dL_law_677 : decode cL_law 677 = .ok (.aload_n 1, 1) := by decide +kernel
theorem dL_law_678 : decode cL_law 678 = .ok (.aload_n 0, 1) := by decide +kernel
theorem dL_law_679 : decode cL_law 679 = .ok (.iload_n 3, 1) := by decide +kernel
theorem dL_law_680 : decode cL_law 680 = .ok (.iconst 1, 1) := by decide +kernel
theorem dL_law_681 : decode cL_law 681 = .ok (.iadd, 1) := by decide +kernel
theorem dL_law_682 : decode cL_law 682 = .ok (.iaload, 1) := by decide +kernel
theorem dL_law_683 : decode cL_law 683 = .ok (.invokevirtual 93, 3) := by decide +kernel
theorem dL_law_686 : decode cL_law 686 = .ok (.aload_n 2, 1) := by decide +kernel
theorem dL_law_687 : decode cL_law 687 = .ok (.aload_n 0, 1) := by decide +kernel
theorem dL_law_688 : decode cL_law 688 = .ok (.iload_n 3, 1) := by decide +kernel
theorem dL_law_689 : decode cL_law 689 = .ok (.iconst 1, 1) := by decide +kernel
theorem dL_law_690 : decode cL_law 690 = .ok (.iadd, 1) := by decide +kernel
theorem dL_law_691 : decode cL_law 691 = .ok (.iaload, 1) := by decide +kernel
theorem dL_law_692 : decode cL_law 692 = .ok (.invokevirtual 96, 3) := by decide +kernel
theorem dL_law_695 : decode cL_law 695 = .ok (.if_icmp .eq 74, 3) := by decide +kernel
theorem dL_law_698 : decode cL_law 698 = .ok (.iconst 0, 1) := by decide +kernel
theorem dL_law_699 : decode cL_law 699 = .ok (.ireturn, 1) := by decide +kernel
theorem dL_law_700 : decode cL_law 700 = .ok (.aload_n 1, 1) := by decide +kernel
theorem dL_law_701 : decode cL_law 701 = .ok (.aload_n 0, 1) := by decide +kernel
theorem dL_law_702 : decode cL_law 702 = .ok (.iload_n 3, 1) := by decide +kernel
theorem dL_law_703 : decode cL_law 703 = .ok (.iconst 1, 1) := by decide +kernel
theorem dL_law_704 : decode cL_law 704 = .ok (.iadd, 1) := by decide +kernel
theorem dL_law_705 : decode cL_law 705 = .ok (.iaload, 1) := by decide +kernel
theorem dL_law_706 : decode cL_law 706 = .ok (.invokevirtual 97, 3) := by decide +kernel
theorem dL_law_709 : decode cL_law 709 = .ok (.aload_n 2, 1) := by decide +kernel
theorem dL_law_710 : decode cL_law 710 = .ok (.aload_n 0, 1) := by decide +kernel
theorem dL_law_711 : decode cL_law 711 = .ok (.iload_n 3, 1) := by decide +kernel
theorem dL_law_712 : decode cL_law 712 = .ok (.iconst 1, 1) := by decide +kernel
theorem dL_law_713 : decode cL_law 713 = .ok (.iadd, 1) := by decide +kernel
theorem dL_law_714 : decode cL_law 714 = .ok (.iaload, 1) := by decide +kernel
theorem dL_law_715 : decode cL_law 715 = .ok (.invokevirtual 100, 3) := by decide +kernel
theorem dL_law_718 : decode cL_law 718 = .ok (.if_icmp .eq 51, 3) := by decide +kernel
theorem dL_law_721 : decode cL_law 721 = .ok (.iconst 0, 1) := by decide +kernel
theorem dL_law_722 : decode cL_law 722 = .ok (.ireturn, 1) := by decide +kernel
theorem dL_law_723 : decode cL_law 723 = .ok (.aload_n 1, 1) := by decide +kernel
theorem dL_law_724 : decode cL_law 724 = .ok (.aload_n 0, 1) := by decide +kernel
theorem dL_law_725 : decode cL_law 725 = .ok (.iload_n 3, 1) := by decide +kernel
theorem dL_law_726 : decode cL_law 726 = .ok (.iconst 1, 1) := by decide +kernel
theorem dL_law_727 : decode cL_law 727 = .ok (.iadd, 1) := by decide +kernel
theorem dL_law_728 : decode cL_law 728 = .ok (.iaload, 1) := by decide +kernel
theorem dL_law_729 : decode cL_law 729 = .ok (.invokevirtual 101, 3) := by decide +kernel
theorem dL_law_732 : decode cL_law 732 = .ok (.aload_n 2, 1) := by decide +kernel
theorem dL_law_733 : decode cL_law 733 = .ok (.aload_n 0, 1) := by decide +kernel
theorem dL_law_734 : decode cL_law 734 = .ok (.iload_n 3, 1) := by decide +kernel
theorem dL_law_735 : decode cL_law 735 = .ok (.iconst 1, 1) := by decide +kernel
theorem dL_law_736 : decode cL_law 736 = .ok (.iadd, 1) := by decide +kernel
theorem dL_law_737 : decode cL_law 737 = .ok (.iaload, 1) := by decide +kernel
theorem dL_law_738 : decode cL_law 738 = .ok (.invokevirtual 104, 3) := by decide +kernel
theorem dL_law_741 : decode cL_law 741 = .ok (.if_icmp .eq 28, 3) := by decide +kernel
theorem dL_law_744 : decode cL_law 744 = .ok (.iconst 0, 1) := by decide +kernel
theorem dL_law_745 : decode cL_law 745 = .ok (.ireturn, 1) := by decide +kernel
theorem dL_law_746 : decode cL_law 746 = .ok (.aload_n 1, 1) := by decide +kernel
theorem dL_law_747 : decode cL_law 747 = .ok (.aload_n 0, 1) := by decide +kernel
theorem dL_law_748 : decode cL_law 748 = .ok (.iload_n 3, 1) := by decide +kernel
theorem dL_law_749 : decode cL_law 749 = .ok (.iconst 1, 1) := by decide +kernel
theorem dL_law_750 : decode cL_law 750 = .ok (.iadd, 1) := by decide +kernel
theorem dL_law_751 : decode cL_law 751 = .ok (.iaload, 1) := by decide +kernel
theorem dL_law_752 : decode cL_law 752 = .ok (.invokevirtual 105, 3) := by decide +kernel
theorem dL_law_755 : decode cL_law 755 = .ok (.aload_n 2, 1) := by decide +kernel
theorem dL_law_756 : decode cL_law 756 = .ok (.aload_n 0, 1) := by decide +kernel
theorem dL_law_757 : decode cL_law 757 = .ok (.iload_n 3, 1) := by decide +kernel
theorem dL_law_758 : decode cL_law 758 = .ok (.iconst 1, 1) := by decide +kernel
theorem dL_law_759 : decode cL_law 759 = .ok (.iadd, 1) := by decide +kernel
theorem dL_law_760 : decode cL_law 760 = .ok (.iaload, 1) := by decide +kernel
theorem dL_law_761 : decode cL_law 761 = .ok (.invokevirtual 108, 3) := by decide +kernel
theorem dL_law_764 : decode cL_law 764 = .ok (.if_icmp .eq 5, 3) := by decide +kernel
theorem dL_law_767 : decode cL_law 767 = .ok (.iconst 0, 1) := by decide +kernel
theorem dL_law_768 : decode cL_law 768 = .ok (.ireturn, 1) := by decide +kernel
theorem dL_law_769 : decode cL_law 769 = .ok (.iinc 3 4, 3) := by decide +kernel
theorem dL_law_772 : decode cL_law 772 = .ok (.goto (-754), 3) := by decide +kernel
theorem dL_law_775 : decode cL_law 775 = .ok (.iconst 1, 1) := by decide +kernel
theorem dL_law_776 : decode cL_law 776 = .ok (.ireturn, 1) := by decide +kernel
abbrev vwCl : List vw_C := [(RX0, TX0, 2), (RX1, TX1, 2), (RX2, TX2, 1), (RX3, TX3, 5), (RX4, TX4, 2), (RX5, TX5, 1), (RX6, TX6, 7), (RX7, TX7, 12)]
/-! ===== END printed: names (the pool rows behind vwCl left out) ===== -/

