theorem dX3_place_125 : decode cX3_place 125 = .ok (.iload 4, 2) := by decide +kernel
theorem dX3_place_127 : decode cX3_place 127 = .ok (.iastore, 1) := by decide +kernel
theorem dX3_place_128 : decode cX3_place 128 = .ok (.aload_n 0, 1) := by decide +kernel
theorem dX3_place_129 : decode cX3_place 129 = .ok (.dup, 1) := by decide +kernel
theorem dX3_place_130 : decode cX3_place 130 = .ok (.getfield 24, 3) := by decide +kernel
theorem dX3_place_133 : decode cX3_place 133 = .ok (.iconst 1, 1) := by decide +kernel
theorem dX3_place_134 : decode cX3_place 134 = .ok (.iadd, 1) := by decide +kernel
theorem dX3_place_135 : decode cX3_place 135 = .ok (.putfield 24, 3) := by decide +kernel
theorem dX3_place_138 : decode cX3_place 138 = .ok (.return_, 1) := by decide +kernel
set_option maxRecDepth 20000 in
theorem ggX3_comesBefore_X3_area : GoodIn wsX3_comesBefore wsX3_area := goodIn_r _ [7, 8, 2, 1, 9, 10, 11, 12, 13] (by decide +kernel) (by decide +kernel)
set_option maxRecDepth 20000 in
theorem gX3_comesBefore_X3_area : GoodIn wsX3_comesBefore (wsV RX3 32 RX3 yX3_area wsX3_area) := goodIn_app (goodIn_of _ (by decide +kernel)) ggX3_comesBefore_X3_area
theorem dX3_comesBefore_0 : decode cX3_comesBefore 0 = .ok (.iload_n 3, 1) := by decide +kernel
theorem dX3_comesBefore_1 : decode cX3_comesBefore 1 = .ok (.iload_n 2, 1) := by decide +kernel
theorem dX3_comesBefore_2 : decode cX3_comesBefore 2 = .ok (.iload_n 1, 1) := by decide +kernel
theorem dX3_comesBefore_3 : decode cX3_comesBefore 3 = .ok (.isub, 1) := by decide +kernel
theorem dX3_comesBefore_4 : decode cX3_comesBefore 4 = .ok (.iconst 1, 1) := by decide +kernel
theorem dX3_comesBefore_5 : decode cX3_comesBefore 5 = .ok (.iadd, 1) := by decide +kernel
theorem dX3_comesBefore_6 : decode cX3_comesBefore 6 = .ok (.imul, 1) := by decide +kernel
theorem dX3_comesBefore_7 : decode cX3_comesBefore 7 = .ok (.istore 5, 2) := by decide +kernel
theorem dX3_comesBefore_9 : decode cX3_comesBefore 9 = .ok (.iload 5, 2) := by decide +kernel
theorem dX3_comesBefore_11 : decode cX3_comesBefore 11 = .ok (.aload_n 0, 1) := by decide +kernel
theorem dX3_comesBefore_12 : decode cX3_comesBefore 12 = .ok (.iload 4, 2) := by decide +kernel
theorem dX3_comesBefore_14 : decode cX3_comesBefore 14 = .ok (.invokevirtual 32, 3) := by decide +kernel
theorem dX3_comesBefore_17 : decode cX3_comesBefore 17 = .ok (.if_icmp .eq 20, 3) := by decide +kernel
theorem dX3_comesBefore_20 : decode cX3_comesBefore 20 = .ok (.iload 5, 2) := by decide +kernel
theorem dX3_comesBefore_22 : decode cX3_comesBefore 22 = .ok (.aload_n 0, 1) := by decide +kernel
theorem dX3_comesBefore_23 : decode cX3_comesBefore 23 = .ok (.iload 4, 2) := by decide +kernel
theorem dX3_comesBefore_25 : decode cX3_comesBefore 25 = .ok (.invokevirtual 32, 3) := by decide +kernel
theorem dX3_comesBefore_28 : decode cX3_comesBefore 28 = .ok (.if_icmp .le 7, 3) := by decide +kernel
theorem dX3_comesBefore_31 : decode cX3_comesBefore 31 = .ok (.iconst 1, 1) := by decide +kernel
theorem dX3_comesBefore_32 : decode cX3_comesBefore 32 = .ok (.goto 4, 3) := by decide +kernel
theorem dX3_comesBefore_35 : decode cX3_comesBefore 35 = .ok (.iconst 0, 1) := by decide +kernel
theorem dX3_comesBefore_36 : decode cX3_comesBefore 36 = .ok (.ireturn, 1) := by decide +kernel
theorem dX3_comesBefore_37 : decode cX3_comesBefore 37 = .ok (.iload_n 1, 1) := by decide +kernel
theorem dX3_comesBefore_38 : decode cX3_comesBefore 38 = .ok (.aload_n 0, 1) := by decide +kernel
theorem dX3_comesBefore_39 : decode cX3_comesBefore 39 = .ok (.getfield 9, 3) := by decide +kernel
theorem dX3_comesBefore_42 : decode cX3_comesBefore 42 = .ok (.iload 4, 2) := by decide +kernel
theorem dX3_comesBefore_44 : decode cX3_comesBefore 44 = .ok (.iaload, 1) := by decide +kernel
theorem dX3_comesBefore_45 : decode cX3_comesBefore 45 = .ok (.if_icmp .eq 20, 3) := by decide +kernel
theorem dX3_comesBefore_48 : decode cX3_comesBefore 48 = .ok (.iload_n 1, 1) := by decide +kernel
theorem dX3_comesBefore_49 : decode cX3_comesBefore 49 = .ok (.aload_n 0, 1) := by decide +kernel
theorem dX3_comesBefore_50 : decode cX3_comesBefore 50 = .ok (.getfield 9, 3) := by decide +kernel
theorem dX3_comesBefore_53 : decode cX3_comesBefore 53 = .ok (.iload 4, 2) := by decide +kernel
theorem dX3_comesBefore_55 : decode cX3_comesBefore 55 = .ok (.iaload, 1) := by decide +kernel
theorem dX3_comesBefore_56 : decode cX3_comesBefore 56 = .ok (.if_icmp .ge 7, 3) := by decide +kernel
theorem dX3_comesBefore_59 : decode cX3_comesBefore 59 = .ok (.iconst 1, 1) := by decide +kernel
theorem dX3_comesBefore_60 : decode cX3_comesBefore 60 = .ok (.goto 4, 3) := by decide +kernel
theorem dX3_comesBefore_63 : decode cX3_comesBefore 63 = .ok (.iconst 0, 1) := by decide +kernel
theorem dX3_comesBefore_64 : decode cX3_comesBefore 64 = .ok (.ireturn, 1) := by decide +kernel
theorem dX3_comesBefore_65 : decode cX3_comesBefore 65 = .ok (.iload_n 2, 1) := by decide +kernel
theorem dX3_comesBefore_66 : decode cX3_comesBefore 66 = .ok (.aload_n 0, 1) := by decide +kernel
theorem dX3_comesBefore_67 : decode cX3_comesBefore 67 = .ok (.getfield 15, 3) := by decide +kernel
theorem dX3_comesBefore_70 : decode cX3_comesBefore 70 = .ok (.iload 4, 2) := by decide +kernel
theorem dX3_comesBefore_72 : decode cX3_comesBefore 72 = .ok (.iaload, 1) := by decide +kernel
theorem dX3_comesBefore_73 : decode cX3_comesBefore 73 = .ok (.if_icmp .ge 7, 3) := by decide +kernel
theorem dX3_comesBefore_76 : decode cX3_comesBefore 76 = .ok (.iconst 1, 1) := by decide +kernel
theorem dX3_comesBefore_77 : decode cX3_comesBefore 77 = .ok (.goto 4, 3) := by decide +kernel
theorem dX3_comesBefore_80 : decode cX3_comesBefore 80 = .ok (.iconst 0, 1) := by decide +kernel
theorem dX3_comesBefore_81 : decode cX3_comesBefore 81 = .ok (.ireturn, 1) := by decide +kernel
theorem dX4_init_0 : decode cX4_init 0 = .ok (.aload_n 0, 1) := by decide +kernel
theorem dX4_init_1 : decode cX4_init 1 = .ok (.invokespecial 3, 3) := by decide +kernel
theorem dX4_init_4 : decode cX4_init 4 = .ok (.aload_n 0, 1) := by decide +kernel
theorem dX4_init_5 : decode cX4_init 5 = .ok (.bipush 40, 2) := by decide +kernel
theorem dX4_init_7 : decode cX4_init 7 = .ok (.newarray .int, 2) := by decide +kernel
theorem dX4_init_9 : decode cX4_init 9 = .ok (.putfield 9, 3) := by decide +kernel
theorem dX4_init_12 : decode cX4_init 12 = .ok (.aload_n 0, 1) := by decide +kernel
theorem dX4_init_13 : decode cX4_init 13 = .ok (.bipush 40, 2) := by decide +kernel
theorem dX4_init_15 : decode cX4_init 15 = .ok (.newarray .int, 2) := by decide +kernel
theorem dX4_init_17 : decode cX4_init 17 = .ok (.putfield 15, 3) := by decide +kernel
theorem dX4_init_20 : decode cX4_init 20 = .ok (.return_, 1) := by decide +kernel
theorem dX4_grow_0 : decode cX4_grow 0 = .ok (.iconst 0, 1) := by decide +kernel
theorem dX4_grow_1 : decode cX4_grow 1 = .ok (.istore_n 2, 1) := by decide +kernel
theorem dX4_grow_2 : decode cX4_grow 2 = .ok (.iconst 0, 1) := by decide +kernel
theorem dX4_grow_3 : decode cX4_grow 3 = .ok (.istore_n 3, 1) := by decide +kernel
theorem dX4_grow_4 : decode cX4_grow 4 = .ok (.iload_n 3, 1) := by decide +kernel
theorem dX4_grow_5 : decode cX4_grow 5 = .ok (.aload_n 1, 1) := by decide +kernel
theorem dX4_grow_6 : decode cX4_grow 6 = .ok (.getfield 18, 3) := by decide +kernel
theorem dX4_grow_9 : decode cX4_grow 9 = .ok (.if_icmp .ge 101, 3) := by decide +kernel
theorem dX4_grow_12 : decode cX4_grow 12 = .ok (.bipush (-9), 2) := by decide +kernel
theorem dX4_grow_14 : decode cX4_grow 14 = .ok (.istore 4, 2) := by decide +kernel
theorem dX4_grow_16 : decode cX4_grow 16 = .ok (.iload_n 2, 1) := by decide +kernel
theorem dX4_grow_17 : decode cX4_grow 17 = .ok (.ifCond .le 39, 3) := by decide +kernel
theorem dX4_grow_20 : decode cX4_grow 20 = .ok (.aload_n 1, 1) := by decide +kernel
theorem dX4_grow_21 : decode cX4_grow 21 = .ok (.getfield 24, 3) := by decide +kernel
theorem dX4_grow_24 : decode cX4_grow 24 = .ok (.aload_n 0, 1) := by decide +kernel
theorem dX4_grow_25 : decode cX4_grow 25 = .ok (.getfield 15, 3) := by decide +kernel
theorem dX4_grow_28 : decode cX4_grow 28 = .ok (.iload_n 2, 1) := by decide +kernel
theorem dX4_grow_29 : decode cX4_grow 29 = .ok (.iconst 1, 1) := by decide +kernel
theorem dX4_grow_30 : decode cX4_grow 30 = .ok (.isub, 1) := by decide +kernel
theorem dX4_grow_31 : decode cX4_grow 31 = .ok (.iaload, 1) := by decide +kernel
theorem dX4_grow_32 : decode cX4_grow 32 = .ok (.iaload, 1) := by decide +kernel
theorem dX4_grow_33 : decode cX4_grow 33 = .ok (.aload_n 1, 1) := by decide +kernel
theorem dX4_grow_34 : decode cX4_grow 34 = .ok (.getfield 24, 3) := by decide +kernel
theorem dX4_grow_37 : decode cX4_grow 37 = .ok (.iload_n 3, 1) := by decide +kernel
theorem dX4_grow_38 : decode cX4_grow 38 = .ok (.iaload, 1) := by decide +kernel
theorem dX4_grow_39 : decode cX4_grow 39 = .ok (.if_icmp .le 17, 3) := by decide +kernel
theorem dX4_grow_42 : decode cX4_grow 42 = .ok (.iinc 2 (-1), 3) := by decide +kernel
theorem dX4_grow_45 : decode cX4_grow 45 = .ok (.aload_n 0, 1) := by decide +kernel
theorem dX4_grow_46 : decode cX4_grow 46 = .ok (.getfield 15, 3) := by decide +kernel
theorem dX4_grow_49 : decode cX4_grow 49 = .ok (.iload_n 2, 1) := by decide +kernel
theorem dX4_grow_50 : decode cX4_grow 50 = .ok (.iaload, 1) := by decide +kernel
theorem dX4_grow_51 : decode cX4_grow 51 = .ok (.istore 4, 2) := by decide +kernel
theorem dX4_grow_53 : decode cX4_grow 53 = .ok (.goto (-37), 3) := by decide +kernel
theorem dX4_grow_56 : decode cX4_grow 56 = .ok (.iload 4, 2) := by decide +kernel
theorem dX4_grow_58 : decode cX4_grow 58 = .ok (.bipush (-9), 2) := by decide +kernel
theorem dX4_grow_60 : decode cX4_grow 60 = .ok (.if_icmp .eq 11, 3) := by decide +kernel
theorem dX4_grow_63 : decode cX4_grow 63 = .ok (.aload_n 0, 1) := by decide +kernel
theorem dX4_grow_64 : decode cX4_grow 64 = .ok (.getfield 9, 3) := by decide +kernel
theorem dX4_grow_67 : decode cX4_grow 67 = .ok (.iload 4, 2) := by decide +kernel
theorem dX4_grow_69 : decode cX4_grow 69 = .ok (.iload_n 3, 1) := by decide +kernel
theorem dX4_grow_70 : decode cX4_grow 70 = .ok (.iastore, 1) := by decide +kernel
theorem dX4_grow_71 : decode cX4_grow 71 = .ok (.aload_n 0, 1) := by decide +kernel
theorem dX4_grow_72 : decode cX4_grow 72 = .ok (.getfield 9, 3) := by decide +kernel
theorem dX4_grow_75 : decode cX4_grow 75 = .ok (.iload_n 3, 1) := by decide +kernel
theorem dX4_grow_76 : decode cX4_grow 76 = .ok (.iload_n 2, 1) := by decide +kernel
theorem dX4_grow_77 : decode cX4_grow 77 = .ok (.ifCond .le 14, 3) := by decide +kernel
theorem dX4_grow_80 : decode cX4_grow 80 = .ok (.aload_n 0, 1) := by decide +kernel
theorem dX4_grow_81 : decode cX4_grow 81 = .ok (.getfield 15, 3) := by decide +kernel
theorem dX4_grow_84 : decode cX4_grow 84 = .ok (.iload_n 2, 1) := by decide +kernel
theorem dX4_grow_85 : decode cX4_grow 85 = .ok (.iconst 1, 1) := by decide +kernel
theorem dX4_grow_86 : decode cX4_grow 86 = .ok (.isub, 1) := by decide +kernel
theorem dX4_grow_87 : decode cX4_grow 87 = .ok (.iaload, 1) := by decide +kernel
theorem dX4_grow_88 : decode cX4_grow 88 = .ok (.goto 5, 3) := by decide +kernel
theorem dX4_grow_91 : decode cX4_grow 91 = .ok (.bipush (-9), 2) := by decide +kernel
theorem dX4_grow_93 : decode cX4_grow 93 = .ok (.iastore, 1) := by decide +kernel
theorem dX4_grow_94 : decode cX4_grow 94 = .ok (.aload_n 0, 1) := by decide +kernel
theorem dX4_grow_95 : decode cX4_grow 95 = .ok (.getfield 15, 3) := by decide +kernel
theorem dX4_grow_98 : decode cX4_grow 98 = .ok (.iload_n 2, 1) := by decide +kernel
theorem dX4_grow_99 : decode cX4_grow 99 = .ok (.iload_n 3, 1) := by decide +kernel
theorem dX4_grow_100 : decode cX4_grow 100 = .ok (.iastore, 1) := by decide +kernel
theorem dX4_grow_101 : decode cX4_grow 101 = .ok (.iinc 2 1, 3) := by decide +kernel
theorem dX4_grow_104 : decode cX4_grow 104 = .ok (.iinc 3 1, 3) := by decide +kernel
theorem dX4_grow_107 : decode cX4_grow 107 = .ok (.goto (-103), 3) := by decide +kernel
theorem dX4_grow_110 : decode cX4_grow 110 = .ok (.return_, 1) := by decide +kernel
theorem dX4_depthOf_0 : decode cX4_depthOf 0 = .ok (.iconst 0, 1) := by decide +kernel
theorem dX4_depthOf_1 : decode cX4_depthOf 1 = .ok (.istore_n 2, 1) := by decide +kernel
theorem dX4_depthOf_2 : decode cX4_depthOf 2 = .ok (.aload_n 0, 1) := by decide +kernel
theorem dX4_depthOf_3 : decode cX4_depthOf 3 = .ok (.getfield 9, 3) := by decide +kernel
theorem dX4_depthOf_6 : decode cX4_depthOf 6 = .ok (.iload_n 1, 1) := by decide +kernel
theorem dX4_depthOf_7 : decode cX4_depthOf 7 = .ok (.iaload, 1) := by decide +kernel
theorem dX4_depthOf_8 : decode cX4_depthOf 8 = .ok (.istore_n 3, 1) := by decide +kernel
theorem dX4_depthOf_9 : decode cX4_depthOf 9 = .ok (.iload_n 2, 1) := by decide +kernel
theorem dX4_depthOf_10 : decode cX4_depthOf 10 = .ok (.bipush 40, 2) := by decide +kernel
theorem dX4_depthOf_12 : decode cX4_depthOf 12 = .ok (.if_icmp .ge 22, 3) := by decide +kernel
theorem dX4_depthOf_15 : decode cX4_depthOf 15 = .ok (.iload_n 3, 1) := by decide +kernel
theorem dX4_depthOf_16 : decode cX4_depthOf 16 = .ok (.bipush (-9), 2) := by decide +kernel
theorem dX4_depthOf_18 : decode cX4_depthOf 18 = .ok (.if_icmp .eq 16, 3) := by decide +kernel
theorem dX4_depthOf_21 : decode cX4_depthOf 21 = .ok (.iinc 2 1, 3) := by decide +kernel
theorem dX4_depthOf_24 : decode cX4_depthOf 24 = .ok (.aload_n 0, 1) := by decide +kernel
theorem dX4_depthOf_25 : decode cX4_depthOf 25 = .ok (.getfield 9, 3) := by decide +kernel
theorem dX4_depthOf_28 : decode cX4_depthOf 28 = .ok (.iload_n 3, 1) := by decide +kernel
theorem dX4_depthOf_29 : decode cX4_depthOf 29 = .ok (.iaload, 1) := by decide +kernel
theorem dX4_depthOf_30 : decode cX4_depthOf 30 = .ok (.istore_n 3, 1) := by decide +kernel
theorem dX4_depthOf_31 : decode cX4_depthOf 31 = .ok (.goto (-22), 3) := by decide +kernel
theorem dX4_depthOf_34 : decode cX4_depthOf 34 = .ok (.iload_n 2, 1) := by decide +kernel
theorem dX4_depthOf_35 : decode cX4_depthOf 35 = .ok (.ireturn, 1) := by decide +kernel
theorem dX5_init_0 : decode cX5_init 0 = .ok (.aload_n 0, 1) := by decide +kernel
theorem dX5_init_1 : decode cX5_init 1 = .ok (.invokespecial 3, 3) := by decide +kernel
theorem dX5_init_4 : decode cX5_init 4 = .ok (.aload_n 0, 1) := by decide +kernel
theorem dX5_init_5 : decode cX5_init 5 = .ok (.bipush 40, 2) := by decide +kernel
theorem dX5_init_7 : decode cX5_init 7 = .ok (.newarray .int, 2) := by decide +kernel
theorem dX5_init_9 : decode cX5_init 9 = .ok (.putfield 9, 3) := by decide +kernel
theorem dX5_init_12 : decode cX5_init 12 = .ok (.return_, 1) := by decide +kernel
theorem dX5_pour_0 : decode cX5_pour 0 = .ok (.iconst 0, 1) := by decide +kernel
theorem dX5_pour_1 : decode cX5_pour 1 = .ok (.istore 4, 2) := by decide +kernel
theorem dX5_pour_3 : decode cX5_pour 3 = .ok (.iload_n 2, 1) := by decide +kernel
theorem dX5_pour_4 : decode cX5_pour 4 = .ok (.istore 5, 2) := by decide +kernel
theorem dX5_pour_6 : decode cX5_pour 6 = .ok (.iload 5, 2) := by decide +kernel
theorem dX5_pour_8 : decode cX5_pour 8 = .ok (.iload_n 3, 1) := by decide +kernel
theorem dX5_pour_9 : decode cX5_pour 9 = .ok (.if_icmp .gt 29, 3) := by decide +kernel
theorem dX5_pour_12 : decode cX5_pour 12 = .ok (.iload 4, 2) := by decide +kernel
theorem dX5_pour_14 : decode cX5_pour 14 = .ok (.aload_n 1, 1) := by decide +kernel
theorem dX5_pour_15 : decode cX5_pour 15 = .ok (.iload 5, 2) := by decide +kernel
theorem dX5_pour_17 : decode cX5_pour 17 = .ok (.iaload, 1) := by decide +kernel
theorem dX5_pour_18 : decode cX5_pour 18 = .ok (.invokestatic 15, 3) := by decide +kernel
theorem dX5_pour_21 : decode cX5_pour 21 = .ok (.istore 4, 2) := by decide +kernel
theorem dX5_pour_23 : decode cX5_pour 23 = .ok (.aload_n 0, 1) := by decide +kernel
theorem dX5_pour_24 : decode cX5_pour 24 = .ok (.getfield 9, 3) := by decide +kernel
theorem dX5_pour_27 : decode cX5_pour 27 = .ok (.iload 5, 2) := by decide +kernel
theorem dX5_pour_29 : decode cX5_pour 29 = .ok (.iload 4, 2) := by decide +kernel
theorem dX5_pour_31 : decode cX5_pour 31 = .ok (.iastore, 1) := by decide +kernel
theorem dX5_pour_32 : decode cX5_pour 32 = .ok (.iinc 5 1, 3) := by decide +kernel
theorem dX5_pour_35 : decode cX5_pour 35 = .ok (.goto (-29), 3) := by decide +kernel
theorem dX5_pour_38 : decode cX5_pour 38 = .ok (.iconst 0, 1) := by decide +kernel
theorem dX5_pour_39 : decode cX5_pour 39 = .ok (.istore 5, 2) := by decide +kernel
theorem dX5_pour_41 : decode cX5_pour 41 = .ok (.iconst 0, 1) := by decide +kernel
theorem dX5_pour_42 : decode cX5_pour 42 = .ok (.istore 4, 2) := by decide +kernel
theorem dX5_pour_44 : decode cX5_pour 44 = .ok (.iload_n 3, 1) := by decide +kernel
theorem dX5_pour_45 : decode cX5_pour 45 = .ok (.istore 6, 2) := by decide +kernel
theorem dX5_pour_47 : decode cX5_pour 47 = .ok (.iload 6, 2) := by decide +kernel
theorem dX5_pour_49 : decode cX5_pour 49 = .ok (.iload_n 2, 1) := by decide +kernel
theorem dX5_pour_50 : decode cX5_pour 50 = .ok (.if_icmp .lt 56, 3) := by decide +kernel
theorem dX5_pour_53 : decode cX5_pour 53 = .ok (.iload 4, 2) := by decide +kernel
theorem dX5_pour_55 : decode cX5_pour 55 = .ok (.aload_n 1, 1) := by decide +kernel
theorem dX5_pour_56 : decode cX5_pour 56 = .ok (.iload 6, 2) := by decide +kernel
theorem dX5_pour_58 : decode cX5_pour 58 = .ok (.iaload, 1) := by decide +kernel
theorem dX5_pour_59 : decode cX5_pour 59 = .ok (.invokestatic 15, 3) := by decide +kernel
theorem dX5_pour_62 : decode cX5_pour 62 = .ok (.istore 4, 2) := by decide +kernel
theorem dX5_pour_64 : decode cX5_pour 64 = .ok (.aload_n 0, 1) := by decide +kernel
theorem dX5_pour_65 : decode cX5_pour 65 = .ok (.getfield 9, 3) := by decide +kernel
theorem dX5_pour_68 : decode cX5_pour 68 = .ok (.iload 6, 2) := by decide +kernel
theorem dX5_pour_70 : decode cX5_pour 70 = .ok (.aload_n 0, 1) := by decide +kernel
theorem dX5_pour_71 : decode cX5_pour 71 = .ok (.getfield 9, 3) := by decide +kernel
theorem dX5_pour_74 : decode cX5_pour 74 = .ok (.iload 6, 2) := by decide +kernel
theorem dX5_pour_76 : decode cX5_pour 76 = .ok (.iaload, 1) := by decide +kernel
theorem dX5_pour_77 : decode cX5_pour 77 = .ok (.iload 4, 2) := by decide +kernel
theorem dX5_pour_79 : decode cX5_pour 79 = .ok (.invokestatic 21, 3) := by decide +kernel
theorem dX5_pour_82 : decode cX5_pour 82 = .ok (.aload_n 1, 1) := by decide +kernel
theorem dX5_pour_83 : decode cX5_pour 83 = .ok (.iload 6, 2) := by decide +kernel
theorem dX5_pour_85 : decode cX5_pour 85 = .ok (.iaload, 1) := by decide +kernel
theorem dX5_pour_86 : decode cX5_pour 86 = .ok (.isub, 1) := by decide +kernel
theorem dX5_pour_87 : decode cX5_pour 87 = .ok (.iastore, 1) := by decide +kernel
theorem dX5_pour_88 : decode cX5_pour 88 = .ok (.iload 5, 2) := by decide +kernel
theorem dX5_pour_90 : decode cX5_pour 90 = .ok (.aload_n 0, 1) := by decide +kernel
theorem dX5_pour_91 : decode cX5_pour 91 = .ok (.getfield 9, 3) := by decide +kernel
theorem dX5_pour_94 : decode cX5_pour 94 = .ok (.iload 6, 2) := by decide +kernel
theorem dX5_pour_96 : decode cX5_pour 96 = .ok (.iaload, 1) := by decide +kernel
theorem dX5_pour_97 : decode cX5_pour 97 = .ok (.iadd, 1) := by decide +kernel
theorem dX5_pour_98 : decode cX5_pour 98 = .ok (.istore 5, 2) := by decide +kernel
theorem dX5_pour_100 : decode cX5_pour 100 = .ok (.iinc 6 (-1), 3) := by decide +kernel
theorem dX5_pour_103 : decode cX5_pour 103 = .ok (.goto (-56), 3) := by decide +kernel
theorem dX5_pour_106 : decode cX5_pour 106 = .ok (.iload 5, 2) := by decide +kernel
theorem dX5_pour_108 : decode cX5_pour 108 = .ok (.ireturn, 1) := by decide +kernel
set_option maxRecDepth 20000 in
theorem ggX5_poolCount_X5_startsPool : GoodIn wsX5_poolCount wsX5_startsPool := goodIn_r _ [5, 6, 7] (by decide +kernel) (by decide +kernel)
set_option maxRecDepth 20000 in
theorem gX5_poolCount_X5_startsPool : GoodIn wsX5_poolCount (wsV RX5 24 RX5 yX5_startsPool wsX5_startsPool) := goodIn_app (goodIn_of _ (by decide +kernel)) ggX5_poolCount_X5_startsPool
theorem dX5_poolCount_0 : decode cX5_poolCount 0 = .ok (.iconst 0, 1) := by decide +kernel
theorem dX5_poolCount_1 : decode cX5_poolCount 1 = .ok (.istore_n 2, 1) := by decide +kernel
theorem dX5_poolCount_2 : decode cX5_poolCount 2 = .ok (.iconst 0, 1) := by decide +kernel
theorem dX5_poolCount_3 : decode cX5_poolCount 3 = .ok (.istore_n 3, 1) := by decide +kernel
theorem dX5_poolCount_4 : decode cX5_poolCount 4 = .ok (.iload_n 3, 1) := by decide +kernel
theorem dX5_poolCount_5 : decode cX5_poolCount 5 = .ok (.iload_n 1, 1) := by decide +kernel
theorem dX5_poolCount_6 : decode cX5_poolCount 6 = .ok (.if_icmp .ge 20, 3) := by decide +kernel
theorem dX5_poolCount_9 : decode cX5_poolCount 9 = .ok (.aload_n 0, 1) := by decide +kernel
theorem dX5_poolCount_10 : decode cX5_poolCount 10 = .ok (.iload_n 3, 1) := by decide +kernel
theorem dX5_poolCount_11 : decode cX5_poolCount 11 = .ok (.invokevirtual 24, 3) := by decide +kernel
theorem dX5_poolCount_14 : decode cX5_poolCount 14 = .ok (.ifCond .eq 6, 3) := by decide +kernel
theorem dX5_poolCount_17 : decode cX5_poolCount 17 = .ok (.iinc 2 1, 3) := by decide +kernel
theorem dX5_poolCount_20 : decode cX5_poolCount 20 = .ok (.iinc 3 1, 3) := by decide +kernel
theorem dX5_poolCount_23 : decode cX5_poolCount 23 = .ok (.goto (-19), 3) := by decide +kernel
theorem dX5_poolCount_26 : decode cX5_poolCount 26 = .ok (.iload_n 2, 1) := by decide +kernel
theorem dX5_poolCount_27 : decode cX5_poolCount 27 = .ok (.ireturn, 1) := by decide +kernel
set_option maxRecDepth 20000 in
theorem ggX5_poolStart_X5_startsPool : GoodIn wsX5_poolStart wsX5_startsPool := goodIn_r _ [5, 6, 7] (by decide +kernel) (by decide +kernel)
set_option maxRecDepth 20000 in
theorem gX5_poolStart_X5_startsPool : GoodIn wsX5_poolStart (wsV RX5 24 RX5 yX5_startsPool wsX5_startsPool) := goodIn_app (goodIn_of _ (by decide +kernel)) ggX5_poolStart_X5_startsPool
theorem dX5_poolStart_0 : decode cX5_poolStart 0 = .ok (.iconst 0, 1) := by decide +kernel
theorem dX5_poolStart_1 : decode cX5_poolStart 1 = .ok (.istore_n 3, 1) := by decide +kernel
theorem dX5_poolStart_2 : decode cX5_poolStart 2 = .ok (.iconst 0, 1) := by decide +kernel
theorem dX5_poolStart_3 : decode cX5_poolStart 3 = .ok (.istore 4, 2) := by decide +kernel
theorem dX5_poolStart_5 : decode cX5_poolStart 5 = .ok (.iload 4, 2) := by decide +kernel
theorem dX5_poolStart_7 : decode cX5_poolStart 7 = .ok (.iload_n 2, 1) := by decide +kernel
theorem dX5_poolStart_8 : decode cX5_poolStart 8 = .ok (.if_icmp .ge 29, 3) := by decide +kernel
theorem dX5_poolStart_11 : decode cX5_poolStart 11 = .ok (.aload_n 0, 1) := by decide +kernel
theorem dX5_poolStart_12 : decode cX5_poolStart 12 = .ok (.iload 4, 2) := by decide +kernel
theorem dX5_poolStart_14 : decode cX5_poolStart 14 = .ok (.invokevirtual 24, 3) := by decide +kernel
theorem dX5_poolStart_17 : decode cX5_poolStart 17 = .ok (.ifCond .eq 14, 3) := by decide +kernel
theorem dX5_poolStart_20 : decode cX5_poolStart 20 = .ok (.iload_n 3, 1) := by decide +kernel
theorem dX5_poolStart_21 : decode cX5_poolStart 21 = .ok (.iload_n 1, 1) := by decide +kernel
theorem dX5_poolStart_22 : decode cX5_poolStart 22 = .ok (.if_icmp .ne 6, 3) := by decide +kernel
theorem dX5_poolStart_25 : decode cX5_poolStart 25 = .ok (.iload 4, 2) := by decide +kernel
theorem dX5_poolStart_27 : decode cX5_poolStart 27 = .ok (.ireturn, 1) := by decide +kernel
theorem dX5_poolStart_28 : decode cX5_poolStart 28 = .ok (.iinc 3 1, 3) := by decide +kernel
theorem dX5_poolStart_31 : decode cX5_poolStart 31 = .ok (.iinc 4 1, 3) := by decide +kernel
theorem dX5_poolStart_34 : decode cX5_poolStart 34 = .ok (.goto (-29), 3) := by decide +kernel
theorem dX5_poolStart_37 : decode cX5_poolStart 37 = .ok (.bipush (-9), 2) := by decide +kernel
theorem dX5_poolStart_39 : decode cX5_poolStart 39 = .ok (.ireturn, 1) := by decide +kernel
theorem dX5_poolEnd_0 : decode cX5_poolEnd 0 = .ok (.iload_n 1, 1) := by decide +kernel
theorem dX5_poolEnd_1 : decode cX5_poolEnd 1 = .ok (.istore_n 3, 1) := by decide +kernel
theorem dX5_poolEnd_2 : decode cX5_poolEnd 2 = .ok (.iload_n 3, 1) := by decide +kernel
theorem dX5_poolEnd_3 : decode cX5_poolEnd 3 = .ok (.iconst 1, 1) := by decide +kernel
theorem dX5_poolEnd_4 : decode cX5_poolEnd 4 = .ok (.iadd, 1) := by decide +kernel
theorem dX5_poolEnd_5 : decode cX5_poolEnd 5 = .ok (.iload_n 2, 1) := by decide +kernel
theorem dX5_poolEnd_6 : decode cX5_poolEnd 6 = .ok (.if_icmp .ge 20, 3) := by decide +kernel
theorem dX5_poolEnd_9 : decode cX5_poolEnd 9 = .ok (.aload_n 0, 1) := by decide +kernel
theorem dX5_poolEnd_10 : decode cX5_poolEnd 10 = .ok (.getfield 9, 3) := by decide +kernel
theorem dX5_poolEnd_13 : decode cX5_poolEnd 13 = .ok (.iload_n 3, 1) := by decide +kernel
theorem dX5_poolEnd_14 : decode cX5_poolEnd 14 = .ok (.iconst 1, 1) := by decide +kernel
theorem dX5_poolEnd_15 : decode cX5_poolEnd 15 = .ok (.iadd, 1) := by decide +kernel
theorem dX5_poolEnd_16 : decode cX5_poolEnd 16 = .ok (.iaload, 1) := by decide +kernel
theorem dX5_poolEnd_17 : decode cX5_poolEnd 17 = .ok (.ifCond .le 9, 3) := by decide +kernel
theorem dX5_poolEnd_20 : decode cX5_poolEnd 20 = .ok (.iinc 3 1, 3) := by decide +kernel
theorem dX5_poolEnd_23 : decode cX5_poolEnd 23 = .ok (.goto (-21), 3) := by decide +kernel
theorem dX5_poolEnd_26 : decode cX5_poolEnd 26 = .ok (.iload_n 3, 1) := by decide +kernel
theorem dX5_poolEnd_27 : decode cX5_poolEnd 27 = .ok (.ireturn, 1) := by decide +kernel
theorem dX5_startsPool_0 : decode cX5_startsPool 0 = .ok (.aload_n 0, 1) := by decide +kernel
theorem dX5_startsPool_1 : decode cX5_startsPool 1 = .ok (.getfield 9, 3) := by decide +kernel
theorem dX5_startsPool_4 : decode cX5_startsPool 4 = .ok (.iload_n 1, 1) := by decide +kernel
theorem dX5_startsPool_5 : decode cX5_startsPool 5 = .ok (.iaload, 1) := by decide +kernel
theorem dX5_startsPool_6 : decode cX5_startsPool 6 = .ok (.ifCond .le 22, 3) := by decide +kernel
theorem dX5_startsPool_9 : decode cX5_startsPool 9 = .ok (.iload_n 1, 1) := by decide +kernel
theorem dX5_startsPool_10 : decode cX5_startsPool 10 = .ok (.ifCond .eq 14, 3) := by decide +kernel
theorem dX5_startsPool_13 : decode cX5_startsPool 13 = .ok (.aload_n 0, 1) := by decide +kernel
theorem dX5_startsPool_14 : decode cX5_startsPool 14 = .ok (.getfield 9, 3) := by decide +kernel
theorem dX5_startsPool_17 : decode cX5_startsPool 17 = .ok (.iload_n 1, 1) := by decide +kernel
theorem dX5_startsPool_18 : decode cX5_startsPool 18 = .ok (.iconst 1, 1) := by decide +kernel
theorem dX5_startsPool_19 : decode cX5_startsPool 19 = .ok (.isub, 1) := by decide +kernel
theorem dX5_startsPool_20 : decode cX5_startsPool 20 = .ok (.iaload, 1) := by decide +kernel
theorem dX5_startsPool_21 : decode cX5_startsPool 21 = .ok (.ifCond .ne 7, 3) := by decide +kernel
theorem dX5_startsPool_24 : decode cX5_startsPool 24 = .ok (.iconst 1, 1) := by decide +kernel
theorem dX5_startsPool_25 : decode cX5_startsPool 25 = .ok (.goto 4, 3) := by decide +kernel
theorem dX5_startsPool_28 : decode cX5_startsPool 28 = .ok (.iconst 0, 1) := by decide +kernel
theorem dX5_startsPool_29 : decode cX5_startsPool 29 = .ok (.ireturn, 1) := by decide +kernel
set_option maxRecDepth 20000 in
theorem ggX6_init_X0_init : GoodIn wsX6_init wsX0_init := goodIn_r _ [30, 31, 2, 3, 32, 33, 34, 63, 64] (by decide +kernel) (by decide +kernel)
set_option maxRecDepth 20000 in
theorem gX6_init_X0_init_n9 : GoodIn wsX6_init (wsX0_init) := ggX6_init_X0_init
set_option maxRecDepth 20000 in
theorem ggX6_init_X1_init : GoodIn wsX6_init wsX1_init := goodIn_r _ [37, 38, 2, 3, 39, 40, 41, 5, 6, 29, 30, 31, 32, 33, 34, 72, 73, 63, 64] (by decide +kernel) (by decide +kernel)
set_option maxRecDepth 20000 in
theorem gX6_init_X1_init : GoodIn wsX6_init (wsX1_init) := ggX6_init_X1_init
set_option maxRecDepth 20000 in
theorem ggX6_init_X5_init : GoodIn wsX6_init wsX5_init := goodIn_r _ [43, 44, 2, 3, 32, 45, 74] (by decide +kernel) (by decide +kernel)
set_option maxRecDepth 20000 in
theorem gX6_init_X5_init_n29 : GoodIn wsX6_init (wsX5_init) := ggX6_init_X5_init
set_option maxRecDepth 20000 in
theorem ggX6_init_X3_init : GoodIn wsX6_init wsX3_init := goodIn_r _ [47, 48, 2, 3, 32, 49, 50, 51, 52, 53, 75, 76, 77, 78, 79] (by decide +kernel) (by decide +kernel)
set_option maxRecDepth 20000 in
theorem gX6_init_X3_init_n36 : GoodIn wsX6_init (wsX3_init) := ggX6_init_X3_init
set_option maxRecDepth 20000 in
theorem ggX6_init_X4_init : GoodIn wsX6_init wsX4_init := goodIn_r _ [55, 56, 2, 3, 32, 57, 58, 80, 81] (by decide +kernel) (by decide +kernel)
set_option maxRecDepth 20000 in
theorem gX6_init_X4_init_n43 : GoodIn wsX6_init (wsX4_init) := ggX6_init_X4_init
set_option maxRecDepth 20000 in
theorem ggX6_init_X2_init : GoodIn wsX6_init wsX2_init := goodIn_r _ [60, 61, 2, 3, 32, 62, 82] (by decide +kernel) (by decide +kernel)
set_option maxRecDepth 20000 in
theorem gX6_init_X2_init_n50 : GoodIn wsX6_init (wsX2_init) := ggX6_init_X2_init
theorem dX6_init_0 : decode cX6_init 0 = .ok (.aload_n 0, 1) := by decide +kernel
theorem dX6_init_1 : decode cX6_init 1 = .ok (.invokespecial 1, 3) := by decide +kernel
theorem dX6_init_4 : decode cX6_init 4 = .ok (.aload_n 0, 1) := by decide +kernel
theorem dX6_init_5 : decode cX6_init 5 = .ok (.new 7, 3) := by decide +kernel
theorem dX6_init_8 : decode cX6_init 8 = .ok (.dup, 1) := by decide +kernel
theorem dX6_init_9 : decode cX6_init 9 = .ok (.invokespecial 9, 3) := by decide +kernel
theorem dX6_init_12 : decode cX6_init 12 = .ok (.putfield 10, 3) := by decide +kernel
theorem dX6_init_15 : decode cX6_init 15 = .ok (.aload_n 0, 1) := by decide +kernel
theorem dX6_init_16 : decode cX6_init 16 = .ok (.new 16, 3) := by decide +kernel
theorem dX6_init_19 : decode cX6_init 19 = .ok (.dup, 1) := by decide +kernel
theorem dX6_init_20 : decode cX6_init 20 = .ok (.invokespecial 18, 3) := by decide +kernel
theorem dX6_init_23 : decode cX6_init 23 = .ok (.putfield 19, 3) := by decide +kernel
theorem dX6_init_26 : decode cX6_init 26 = .ok (.aload_n 0, 1) := by decide +kernel
theorem dX6_init_27 : decode cX6_init 27 = .ok (.iconst 2, 1) := by decide +kernel
theorem dX6_init_28 : decode cX6_init 28 = .ok (.anewarray 7, 3) := by decide +kernel
theorem dX6_init_31 : decode cX6_init 31 = .ok (.putfield 23, 3) := by decide +kernel
theorem dX6_init_34 : decode cX6_init 34 = .ok (.aload_n 0, 1) := by decide +kernel
theorem dX6_init_35 : decode cX6_init 35 = .ok (.new 27, 3) := by decide +kernel
theorem dX6_init_38 : decode cX6_init 38 = .ok (.dup, 1) := by decide +kernel
theorem dX6_init_39 : decode cX6_init 39 = .ok (.invokespecial 29, 3) := by decide +kernel
theorem dX6_init_42 : decode cX6_init 42 = .ok (.putfield 30, 3) := by decide +kernel
theorem dX6_init_45 : decode cX6_init 45 = .ok (.aload_n 0, 1) := by decide +kernel
theorem dX6_init_46 : decode cX6_init 46 = .ok (.new 34, 3) := by decide +kernel
theorem dX6_init_49 : decode cX6_init 49 = .ok (.dup, 1) := by decide +kernel
theorem dX6_init_50 : decode cX6_init 50 = .ok (.invokespecial 36, 3) := by decide +kernel
theorem dX6_init_53 : decode cX6_init 53 = .ok (.putfield 37, 3) := by decide +kernel
theorem dX6_init_56 : decode cX6_init 56 = .ok (.aload_n 0, 1) := by decide +kernel
theorem dX6_init_57 : decode cX6_init 57 = .ok (.new 41, 3) := by decide +kernel
theorem dX6_init_60 : decode cX6_init 60 = .ok (.dup, 1) := by decide +kernel
theorem dX6_init_61 : decode cX6_init 61 = .ok (.invokespecial 43, 3) := by decide +kernel
theorem dX6_init_64 : decode cX6_init 64 = .ok (.putfield 44, 3) := by decide +kernel
theorem dX6_init_67 : decode cX6_init 67 = .ok (.aload_n 0, 1) := by decide +kernel
theorem dX6_init_68 : decode cX6_init 68 = .ok (.new 48, 3) := by decide +kernel
theorem dX6_init_71 : decode cX6_init 71 = .ok (.dup, 1) := by decide +kernel
theorem dX6_init_72 : decode cX6_init 72 = .ok (.invokespecial 50, 3) := by decide +kernel
theorem dX6_init_75 : decode cX6_init 75 = .ok (.putfield 51, 3) := by decide +kernel
theorem dX6_init_78 : decode cX6_init 78 = .ok (.return_, 1) := by decide +kernel
set_option maxRecDepth 20000 in
theorem ggX6_insert_X6_isHeight : GoodIn wsX6_insert wsX6_isHeight := goodIn_r _ [6] (by decide +kernel) (by decide +kernel)
set_option maxRecDepth 20000 in
theorem gX6_insert_X6_isHeight : GoodIn wsX6_insert (va_wsS RX6 59 yX6_isHeight wsX6_isHeight) := goodIn_app (goodIn_of _ (by decide +kernel)) ggX6_insert_X6_isHeight
set_option maxRecDepth 20000 in
theorem ggX6_insert_X1_remember : GoodIn wsX6_insert wsX1_remember := goodIn_r _ [11, 12, 13, 14, 15, 16, 10, 17, 18, 19, 20, 21, 22, 23, 24, 25, 26, 27, 28, 42, 43, 40, 41] (by decide +kernel) (by decide +kernel)
set_option maxRecDepth 20000 in
theorem gX6_insert_X1_remember : GoodIn wsX6_insert (wsV RX6 63 RX1 yX1_remember wsX1_remember) := goodIn_app (goodIn_of _ (by decide +kernel)) ggX6_insert_X1_remember
set_option maxRecDepth 20000 in
theorem ggX6_insert_X0_putIn : GoodIn wsX6_insert wsX0_putIn := goodIn_r _ [32, 23, 24, 25, 26, 27, 28, 40, 41] (by decide +kernel) (by decide +kernel)
set_option maxRecDepth 20000 in
theorem gX6_insert_X0_putIn : GoodIn wsX6_insert (wsV RX6 67 RX0 yX0_putIn wsX0_putIn) := goodIn_app (goodIn_of _ (by decide +kernel)) ggX6_insert_X0_putIn
theorem dX6_insert_0 : decode cX6_insert 0 = .ok (.iload_n 1, 1) := by decide +kernel
theorem dX6_insert_1 : decode cX6_insert 1 = .ok (.ifCond .lt 21, 3) := by decide +kernel
theorem dX6_insert_4 : decode cX6_insert 4 = .ok (.iload_n 1, 1) := by decide +kernel
theorem dX6_insert_5 : decode cX6_insert 5 = .ok (.aload_n 0, 1) := by decide +kernel
theorem dX6_insert_6 : decode cX6_insert 6 = .ok (.getfield 10, 3) := by decide +kernel
theorem dX6_insert_9 : decode cX6_insert 9 = .ok (.getfield 55, 3) := by decide +kernel
theorem dX6_insert_12 : decode cX6_insert 12 = .ok (.if_icmp .gt 10, 3) := by decide +kernel
theorem dX6_insert_15 : decode cX6_insert 15 = .ok (.iload_n 2, 1) := by decide +kernel
theorem dX6_insert_16 : decode cX6_insert 16 = .ok (.invokestatic 59, 3) := by decide +kernel
theorem dX6_insert_19 : decode cX6_insert 19 = .ok (.ifCond .ne 5, 3) := by decide +kernel
theorem dX6_insert_22 : decode cX6_insert 22 = .ok (.iconst (-1), 1) := by decide +kernel
theorem dX6_insert_23 : decode cX6_insert 23 = .ok (.ireturn, 1) := by decide +kernel
theorem dX6_insert_24 : decode cX6_insert 24 = .ok (.aload_n 0, 1) := by decide +kernel
theorem dX6_insert_25 : decode cX6_insert 25 = .ok (.getfield 10, 3) := by decide +kernel
theorem dX6_insert_28 : decode cX6_insert 28 = .ok (.getfield 55, 3) := by decide +kernel
theorem dX6_insert_31 : decode cX6_insert 31 = .ok (.bipush 40, 2) := by decide +kernel
theorem dX6_insert_33 : decode cX6_insert 33 = .ok (.if_icmp .lt 6, 3) := by decide +kernel
theorem dX6_insert_36 : decode cX6_insert 36 = .ok (.bipush (-3), 2) := by decide +kernel
theorem dX6_insert_38 : decode cX6_insert 38 = .ok (.ireturn, 1) := by decide +kernel
theorem dX6_insert_39 : decode cX6_insert 39 = .ok (.aload_n 0, 1) := by decide +kernel
theorem dX6_insert_40 : decode cX6_insert 40 = .ok (.getfield 19, 3) := by decide +kernel
theorem dX6_insert_43 : decode cX6_insert 43 = .ok (.aload_n 0, 1) := by decide +kernel
theorem dX6_insert_44 : decode cX6_insert 44 = .ok (.getfield 10, 3) := by decide +kernel
theorem dX6_insert_47 : decode cX6_insert 47 = .ok (.invokevirtual 63, 3) := by decide +kernel
theorem dX6_insert_50 : decode cX6_insert 50 = .ok (.aload_n 0, 1) := by decide +kernel
theorem dX6_insert_51 : decode cX6_insert 51 = .ok (.getfield 10, 3) := by decide +kernel
theorem dX6_insert_54 : decode cX6_insert 54 = .ok (.iload_n 1, 1) := by decide +kernel
theorem dX6_insert_55 : decode cX6_insert 55 = .ok (.iload_n 2, 1) := by decide +kernel
theorem dX6_insert_56 : decode cX6_insert 56 = .ok (.invokevirtual 67, 3) := by decide +kernel
theorem dX6_insert_59 : decode cX6_insert 59 = .ok (.aload_n 0, 1) := by decide +kernel
theorem dX6_insert_60 : decode cX6_insert 60 = .ok (.getfield 10, 3) := by decide +kernel
theorem dX6_insert_63 : decode cX6_insert 63 = .ok (.getfield 55, 3) := by decide +kernel
theorem dX6_insert_66 : decode cX6_insert 66 = .ok (.ireturn, 1) := by decide +kernel
set_option maxRecDepth 20000 in
theorem ggX6_remove_X0_has : GoodIn wsX6_remove wsX0_has := goodIn_r _ [7, 8, 40, 41] (by decide +kernel) (by decide +kernel)
set_option maxRecDepth 20000 in
theorem gX6_remove_X0_has : GoodIn wsX6_remove (wsV RX6 71 RX0 yX0_has wsX0_has) := goodIn_app (goodIn_of _ (by decide +kernel)) ggX6_remove_X0_has
set_option maxRecDepth 20000 in
theorem ggX6_remove_X1_remember : GoodIn wsX6_remove wsX1_remember := goodIn_r _ [13, 14, 15, 16, 17, 18, 12, 19, 20, 21, 22, 6, 23, 24, 8, 25, 26, 27, 28, 42, 43, 40, 41] (by decide +kernel) (by decide +kernel)
set_option maxRecDepth 20000 in
theorem gX6_remove_X1_remember : GoodIn wsX6_remove (wsV RX6 63 RX1 yX1_remember wsX1_remember) := goodIn_app (goodIn_of _ (by decide +kernel)) ggX6_remove_X1_remember
set_option maxRecDepth 20000 in
theorem ggX6_remove_X0_takeOut : GoodIn wsX6_remove wsX0_takeOut := goodIn_r _ [32, 24, 8, 25, 26, 27, 28, 40, 41] (by decide +kernel) (by decide +kernel)
set_option maxRecDepth 20000 in
theorem gX6_remove_X0_takeOut : GoodIn wsX6_remove (wsV RX6 74 RX0 yX0_takeOut wsX0_takeOut) := goodIn_app (goodIn_of _ (by decide +kernel)) ggX6_remove_X0_takeOut
theorem dX6_remove_0 : decode cX6_remove 0 = .ok (.aload_n 0, 1) := by decide +kernel
theorem dX6_remove_1 : decode cX6_remove 1 = .ok (.getfield 10, 3) := by decide +kernel
theorem dX6_remove_4 : decode cX6_remove 4 = .ok (.iload_n 1, 1) := by decide +kernel
theorem dX6_remove_5 : decode cX6_remove 5 = .ok (.invokevirtual 71, 3) := by decide +kernel
theorem dX6_remove_8 : decode cX6_remove 8 = .ok (.ifCond .ne 5, 3) := by decide +kernel
theorem dX6_remove_11 : decode cX6_remove 11 = .ok (.iconst (-1), 1) := by decide +kernel
theorem dX6_remove_12 : decode cX6_remove 12 = .ok (.ireturn, 1) := by decide +kernel
theorem dX6_remove_13 : decode cX6_remove 13 = .ok (.aload_n 0, 1) := by decide +kernel
theorem dX6_remove_14 : decode cX6_remove 14 = .ok (.getfield 19, 3) := by decide +kernel
theorem dX6_remove_17 : decode cX6_remove 17 = .ok (.aload_n 0, 1) := by decide +kernel
theorem dX6_remove_18 : decode cX6_remove 18 = .ok (.getfield 10, 3) := by decide +kernel
theorem dX6_remove_21 : decode cX6_remove 21 = .ok (.invokevirtual 63, 3) := by decide +kernel
theorem dX6_remove_24 : decode cX6_remove 24 = .ok (.aload_n 0, 1) := by decide +kernel
theorem dX6_remove_25 : decode cX6_remove 25 = .ok (.getfield 10, 3) := by decide +kernel
theorem dX6_remove_28 : decode cX6_remove 28 = .ok (.iload_n 1, 1) := by decide +kernel
theorem dX6_remove_29 : decode cX6_remove 29 = .ok (.invokevirtual 74, 3) := by decide +kernel
theorem dX6_remove_32 : decode cX6_remove 32 = .ok (.ireturn, 1) := by decide +kernel
set_option maxRecDepth 20000 in
theorem ggX6_set_X0_has : GoodIn wsX6_set wsX0_has := goodIn_r _ [7, 8, 40, 41] (by decide +kernel) (by decide +kernel)
set_option maxRecDepth 20000 in
theorem gX6_set_X0_has : GoodIn wsX6_set (wsV RX6 71 RX0 yX0_has wsX0_has) := goodIn_app (goodIn_of _ (by decide +kernel)) ggX6_set_X0_has
set_option maxRecDepth 20000 in
theorem ggX6_set_X6_isHeight : GoodIn wsX6_set wsX6_isHeight := goodIn_r _ [12] (by decide +kernel) (by decide +kernel)
set_option maxRecDepth 20000 in
theorem gX6_set_X6_isHeight : GoodIn wsX6_set (va_wsS RX6 59 yX6_isHeight wsX6_isHeight) := goodIn_app (goodIn_of _ (by decide +kernel)) ggX6_set_X6_isHeight
set_option maxRecDepth 20000 in
theorem ggX6_set_X1_remember : GoodIn wsX6_set wsX1_remember := goodIn_r _ [17, 18, 19, 20, 21, 22, 16, 23, 24, 25, 26, 6, 27, 28, 8, 29, 30, 31, 32, 42, 43, 40, 41] (by decide +kernel) (by decide +kernel)
set_option maxRecDepth 20000 in
theorem gX6_set_X1_remember : GoodIn wsX6_set (wsV RX6 63 RX1 yX1_remember wsX1_remember) := goodIn_app (goodIn_of _ (by decide +kernel)) ggX6_set_X1_remember
theorem dX6_set_0 : decode cX6_set 0 = .ok (.aload_n 0, 1) := by decide +kernel
theorem dX6_set_1 : decode cX6_set 1 = .ok (.getfield 10, 3) := by decide +kernel
theorem dX6_set_4 : decode cX6_set 4 = .ok (.iload_n 1, 1) := by decide +kernel
theorem dX6_set_5 : decode cX6_set 5 = .ok (.invokevirtual 71, 3) := by decide +kernel
theorem dX6_set_8 : decode cX6_set 8 = .ok (.ifCond .eq 10, 3) := by decide +kernel
theorem dX6_set_11 : decode cX6_set 11 = .ok (.iload_n 2, 1) := by decide +kernel
theorem dX6_set_12 : decode cX6_set 12 = .ok (.invokestatic 59, 3) := by decide +kernel
theorem dX6_set_15 : decode cX6_set 15 = .ok (.ifCond .ne 5, 3) := by decide +kernel
theorem dX6_set_18 : decode cX6_set 18 = .ok (.iconst (-1), 1) := by decide +kernel
theorem dX6_set_19 : decode cX6_set 19 = .ok (.ireturn, 1) := by decide +kernel
theorem dX6_set_20 : decode cX6_set 20 = .ok (.aload_n 0, 1) := by decide +kernel
theorem dX6_set_21 : decode cX6_set 21 = .ok (.getfield 19, 3) := by decide +kernel
theorem dX6_set_24 : decode cX6_set 24 = .ok (.aload_n 0, 1) := by decide +kernel
theorem dX6_set_25 : decode cX6_set 25 = .ok (.getfield 10, 3) := by decide +kernel
theorem dX6_set_28 : decode cX6_set 28 = .ok (.invokevirtual 63, 3) := by decide +kernel
theorem dX6_set_31 : decode cX6_set 31 = .ok (.aload_n 0, 1) := by decide +kernel
theorem dX6_set_32 : decode cX6_set 32 = .ok (.getfield 10, 3) := by decide +kernel
theorem dX6_set_35 : decode cX6_set 35 = .ok (.getfield 78, 3) := by decide +kernel
theorem dX6_set_38 : decode cX6_set 38 = .ok (.iload_n 1, 1) := by decide +kernel
theorem dX6_set_39 : decode cX6_set 39 = .ok (.iaload, 1) := by decide +kernel
theorem dX6_set_40 : decode cX6_set 40 = .ok (.istore_n 3, 1) := by decide +kernel
theorem dX6_set_41 : decode cX6_set 41 = .ok (.aload_n 0, 1) := by decide +kernel
theorem dX6_set_42 : decode cX6_set 42 = .ok (.getfield 10, 3) := by decide +kernel
theorem dX6_set_45 : decode cX6_set 45 = .ok (.getfield 78, 3) := by decide +kernel
theorem dX6_set_48 : decode cX6_set 48 = .ok (.iload_n 1, 1) := by decide +kernel
theorem dX6_set_49 : decode cX6_set 49 = .ok (.iload_n 2, 1) := by decide +kernel
theorem dX6_set_50 : decode cX6_set 50 = .ok (.iastore, 1) := by decide +kernel
theorem dX6_set_51 : decode cX6_set 51 = .ok (.iload_n 3, 1) := by decide +kernel
theorem dX6_set_52 : decode cX6_set 52 = .ok (.ireturn, 1) := by decide +kernel
set_option maxRecDepth 20000 in
theorem ggX6_raise_X0_hasRange : GoodIn wsX6_raise wsX0_hasRange := goodIn_r _ [7, 8, 47, 48] (by decide +kernel) (by decide +kernel)
set_option maxRecDepth 20000 in
theorem gX6_raise_X0_hasRange : GoodIn wsX6_raise (wsV RX6 82 RX0 yX0_hasRange wsX0_hasRange) := goodIn_app (goodIn_of _ (by decide +kernel)) ggX6_raise_X0_hasRange
set_option maxRecDepth 20000 in
theorem ggX6_raise_X1_remember : GoodIn wsX6_raise wsX1_remember := goodIn_r _ [13, 14, 15, 16, 17, 18, 12, 19, 20, 21, 22, 6, 23, 24, 8, 25, 26, 27, 28, 49, 50, 47, 48] (by decide +kernel) (by decide +kernel)
set_option maxRecDepth 20000 in
theorem gX6_raise_X1_remember : GoodIn wsX6_raise (wsV RX6 63 RX1 yX1_remember wsX1_remember) := goodIn_app (goodIn_of _ (by decide +kernel)) ggX6_raise_X1_remember
set_option maxRecDepth 20000 in
theorem ggX6_raise_X0_lift : GoodIn wsX6_raise wsX0_lift := goodIn_r _ [32, 24, 33, 34, 35, 36, 37, 38, 39, 47, 48] (by decide +kernel) (by decide +kernel)
set_option maxRecDepth 20000 in
theorem gX6_raise_X0_lift : GoodIn wsX6_raise (wsV RX6 86 RX0 yX0_lift wsX0_lift) := goodIn_app (goodIn_of _ (by decide +kernel)) ggX6_raise_X0_lift
theorem dX6_raise_0 : decode cX6_raise 0 = .ok (.aload_n 0, 1) := by decide +kernel
theorem dX6_raise_1 : decode cX6_raise 1 = .ok (.getfield 10, 3) := by decide +kernel
theorem dX6_raise_4 : decode cX6_raise 4 = .ok (.iload_n 1, 1) := by decide +kernel
theorem dX6_raise_5 : decode cX6_raise 5 = .ok (.iload_n 2, 1) := by decide +kernel
theorem dX6_raise_6 : decode cX6_raise 6 = .ok (.invokevirtual 82, 3) := by decide +kernel
theorem dX6_raise_9 : decode cX6_raise 9 = .ok (.ifCond .eq 15, 3) := by decide +kernel
theorem dX6_raise_12 : decode cX6_raise 12 = .ok (.iload_n 3, 1) := by decide +kernel
theorem dX6_raise_13 : decode cX6_raise 13 = .ok (.bipush (-50), 2) := by decide +kernel
theorem dX6_raise_15 : decode cX6_raise 15 = .ok (.if_icmp .lt 9, 3) := by decide +kernel
theorem dX6_raise_18 : decode cX6_raise 18 = .ok (.iload_n 3, 1) := by decide +kernel
theorem dX6_raise_19 : decode cX6_raise 19 = .ok (.bipush 50, 2) := by decide +kernel
theorem dX6_raise_21 : decode cX6_raise 21 = .ok (.if_icmp .le 5, 3) := by decide +kernel
theorem dX6_raise_24 : decode cX6_raise 24 = .ok (.iconst (-1), 1) := by decide +kernel
theorem dX6_raise_25 : decode cX6_raise 25 = .ok (.ireturn, 1) := by decide +kernel
theorem dX6_raise_26 : decode cX6_raise 26 = .ok (.aload_n 0, 1) := by decide +kernel
theorem dX6_raise_27 : decode cX6_raise 27 = .ok (.getfield 19, 3) := by decide +kernel
theorem dX6_raise_30 : decode cX6_raise 30 = .ok (.aload_n 0, 1) := by decide +kernel
theorem dX6_raise_31 : decode cX6_raise 31 = .ok (.getfield 10, 3) := by decide +kernel
theorem dX6_raise_34 : decode cX6_raise 34 = .ok (.invokevirtual 63, 3) := by decide +kernel
theorem dX6_raise_37 : decode cX6_raise 37 = .ok (.aload_n 0, 1) := by decide +kernel
theorem dX6_raise_38 : decode cX6_raise 38 = .ok (.getfield 10, 3) := by decide +kernel
theorem dX6_raise_41 : decode cX6_raise 41 = .ok (.iload_n 1, 1) := by decide +kernel
theorem dX6_raise_42 : decode cX6_raise 42 = .ok (.iload_n 2, 1) := by decide +kernel
theorem dX6_raise_43 : decode cX6_raise 43 = .ok (.iload_n 3, 1) := by decide +kernel
theorem dX6_raise_44 : decode cX6_raise 44 = .ok (.invokevirtual 86, 3) := by decide +kernel
theorem dX6_raise_47 : decode cX6_raise 47 = .ok (.ireturn, 1) := by decide +kernel
set_option maxRecDepth 20000 in
theorem ggX6_reverse_X0_hasRange : GoodIn wsX6_reverse wsX0_hasRange := goodIn_r _ [7, 8, 44, 45] (by decide +kernel) (by decide +kernel)
set_option maxRecDepth 20000 in
theorem gX6_reverse_X0_hasRange : GoodIn wsX6_reverse (wsV RX6 82 RX0 yX0_hasRange wsX0_hasRange) := goodIn_app (goodIn_of _ (by decide +kernel)) ggX6_reverse_X0_hasRange
set_option maxRecDepth 20000 in
theorem ggX6_reverse_X1_remember : GoodIn wsX6_reverse wsX1_remember := goodIn_r _ [13, 14, 15, 16, 17, 18, 12, 19, 20, 21, 22, 6, 23, 24, 8, 25, 26, 27, 28, 46, 47, 44, 45] (by decide +kernel) (by decide +kernel)
set_option maxRecDepth 20000 in
theorem gX6_reverse_X1_remember : GoodIn wsX6_reverse (wsV RX6 63 RX1 yX1_remember wsX1_remember) := goodIn_app (goodIn_of _ (by decide +kernel)) ggX6_reverse_X1_remember
set_option maxRecDepth 20000 in
theorem ggX6_reverse_X0_mirror : GoodIn wsX6_reverse wsX0_mirror := goodIn_r _ [32, 24, 33, 34, 35, 6, 36, 44, 45] (by decide +kernel) (by decide +kernel)
set_option maxRecDepth 20000 in
theorem gX6_reverse_X0_mirror : GoodIn wsX6_reverse (wsV RX6 90 RX0 yX0_mirror wsX0_mirror) := goodIn_app (goodIn_of _ (by decide +kernel)) ggX6_reverse_X0_mirror
theorem dX6_reverse_0 : decode cX6_reverse 0 = .ok (.aload_n 0, 1) := by decide +kernel
theorem dX6_reverse_1 : decode cX6_reverse 1 = .ok (.getfield 10, 3) := by decide +kernel
theorem dX6_reverse_4 : decode cX6_reverse 4 = .ok (.iload_n 1, 1) := by decide +kernel
theorem dX6_reverse_5 : decode cX6_reverse 5 = .ok (.iload_n 2, 1) := by decide +kernel
theorem dX6_reverse_6 : decode cX6_reverse 6 = .ok (.invokevirtual 82, 3) := by decide +kernel
theorem dX6_reverse_9 : decode cX6_reverse 9 = .ok (.ifCond .ne 5, 3) := by decide +kernel
theorem dX6_reverse_12 : decode cX6_reverse 12 = .ok (.iconst (-1), 1) := by decide +kernel
theorem dX6_reverse_13 : decode cX6_reverse 13 = .ok (.ireturn, 1) := by decide +kernel
theorem dX6_reverse_14 : decode cX6_reverse 14 = .ok (.aload_n 0, 1) := by decide +kernel
theorem dX6_reverse_15 : decode cX6_reverse 15 = .ok (.getfield 19, 3) := by decide +kernel
theorem dX6_reverse_18 : decode cX6_reverse 18 = .ok (.aload_n 0, 1) := by decide +kernel
theorem dX6_reverse_19 : decode cX6_reverse 19 = .ok (.getfield 10, 3) := by decide +kernel
theorem dX6_reverse_22 : decode cX6_reverse 22 = .ok (.invokevirtual 63, 3) := by decide +kernel
theorem dX6_reverse_25 : decode cX6_reverse 25 = .ok (.aload_n 0, 1) := by decide +kernel
theorem dX6_reverse_26 : decode cX6_reverse 26 = .ok (.getfield 10, 3) := by decide +kernel
theorem dX6_reverse_29 : decode cX6_reverse 29 = .ok (.iload_n 1, 1) := by decide +kernel
theorem dX6_reverse_30 : decode cX6_reverse 30 = .ok (.iload_n 2, 1) := by decide +kernel
theorem dX6_reverse_31 : decode cX6_reverse 31 = .ok (.invokevirtual 90, 3) := by decide +kernel
theorem dX6_reverse_34 : decode cX6_reverse 34 = .ok (.ireturn, 1) := by decide +kernel
set_option maxRecDepth 20000 in
theorem ggX6_sort_X0_hasRange : GoodIn wsX6_sort wsX0_hasRange := goodIn_r _ [7, 8, 47, 48] (by decide +kernel) (by decide +kernel)
set_option maxRecDepth 20000 in
theorem gX6_sort_X0_hasRange : GoodIn wsX6_sort (wsV RX6 82 RX0 yX0_hasRange wsX0_hasRange) := goodIn_app (goodIn_of _ (by decide +kernel)) ggX6_sort_X0_hasRange
set_option maxRecDepth 20000 in
theorem ggX6_sort_X1_remember : GoodIn wsX6_sort wsX1_remember := goodIn_r _ [13, 14, 15, 16, 17, 18, 12, 19, 20, 21, 22, 6, 23, 24, 8, 25, 26, 27, 28, 49, 50, 47, 48] (by decide +kernel) (by decide +kernel)
set_option maxRecDepth 20000 in
theorem gX6_sort_X1_remember : GoodIn wsX6_sort (wsV RX6 63 RX1 yX1_remember wsX1_remember) := goodIn_app (goodIn_of _ (by decide +kernel)) ggX6_sort_X1_remember
set_option maxRecDepth 20000 in
theorem ggX6_sort_X0_arrange : GoodIn wsX6_sort wsX0_arrange := goodIn_r _ [32, 24, 33, 34, 6, 35, 36, 37, 38, 39, 47, 48] (by decide +kernel) (by decide +kernel)
set_option maxRecDepth 20000 in
theorem gX6_sort_X0_arrange : GoodIn wsX6_sort (wsV RX6 94 RX0 yX0_arrange wsX0_arrange) := goodIn_app (goodIn_of _ (by decide +kernel)) ggX6_sort_X0_arrange
theorem dX6_sort_0 : decode cX6_sort 0 = .ok (.aload_n 0, 1) := by decide +kernel
theorem dX6_sort_1 : decode cX6_sort 1 = .ok (.getfield 10, 3) := by decide +kernel
theorem dX6_sort_4 : decode cX6_sort 4 = .ok (.iload_n 1, 1) := by decide +kernel
theorem dX6_sort_5 : decode cX6_sort 5 = .ok (.iload_n 2, 1) := by decide +kernel
theorem dX6_sort_6 : decode cX6_sort 6 = .ok (.invokevirtual 82, 3) := by decide +kernel
theorem dX6_sort_9 : decode cX6_sort 9 = .ok (.ifCond .eq 12, 3) := by decide +kernel
theorem dX6_sort_12 : decode cX6_sort 12 = .ok (.iload_n 3, 1) := by decide +kernel
theorem dX6_sort_13 : decode cX6_sort 13 = .ok (.ifCond .lt 8, 3) := by decide +kernel
theorem dX6_sort_16 : decode cX6_sort 16 = .ok (.iload_n 3, 1) := by decide +kernel
theorem dX6_sort_17 : decode cX6_sort 17 = .ok (.iconst 1, 1) := by decide +kernel
theorem dX6_sort_18 : decode cX6_sort 18 = .ok (.if_icmp .le 5, 3) := by decide +kernel
theorem dX6_sort_21 : decode cX6_sort 21 = .ok (.iconst (-1), 1) := by decide +kernel
theorem dX6_sort_22 : decode cX6_sort 22 = .ok (.ireturn, 1) := by decide +kernel
theorem dX6_sort_23 : decode cX6_sort 23 = .ok (.aload_n 0, 1) := by decide +kernel
theorem dX6_sort_24 : decode cX6_sort 24 = .ok (.getfield 19, 3) := by decide +kernel
theorem dX6_sort_27 : decode cX6_sort 27 = .ok (.aload_n 0, 1) := by decide +kernel
theorem dX6_sort_28 : decode cX6_sort 28 = .ok (.getfield 10, 3) := by decide +kernel
theorem dX6_sort_31 : decode cX6_sort 31 = .ok (.invokevirtual 63, 3) := by decide +kernel
theorem dX6_sort_34 : decode cX6_sort 34 = .ok (.aload_n 0, 1) := by decide +kernel
theorem dX6_sort_35 : decode cX6_sort 35 = .ok (.getfield 10, 3) := by decide +kernel
theorem dX6_sort_38 : decode cX6_sort 38 = .ok (.iload_n 1, 1) := by decide +kernel
theorem dX6_sort_39 : decode cX6_sort 39 = .ok (.iload_n 2, 1) := by decide +kernel
theorem dX6_sort_40 : decode cX6_sort 40 = .ok (.iload_n 3, 1) := by decide +kernel
theorem dX6_sort_41 : decode cX6_sort 41 = .ok (.iconst 1, 1) := by decide +kernel
theorem dX6_sort_42 : decode cX6_sort 42 = .ok (.if_icmp .ne 7, 3) := by decide +kernel
theorem dX6_sort_45 : decode cX6_sort 45 = .ok (.iconst 1, 1) := by decide +kernel
theorem dX6_sort_46 : decode cX6_sort 46 = .ok (.goto 4, 3) := by decide +kernel
theorem dX6_sort_49 : decode cX6_sort 49 = .ok (.iconst 0, 1) := by decide +kernel
theorem dX6_sort_50 : decode cX6_sort 50 = .ok (.invokevirtual 94, 3) := by decide +kernel
theorem dX6_sort_53 : decode cX6_sort 53 = .ok (.ireturn, 1) := by decide +kernel
set_option maxRecDepth 20000 in
theorem ggX6_freeze_X1_remember : GoodIn wsX6_freeze wsX1_remember := goodIn_r _ [8, 9, 10, 11, 12, 13, 7, 14, 15, 16, 17, 18, 19, 20, 21, 22, 23, 24, 25, 54, 55, 51, 52] (by decide +kernel) (by decide +kernel)
set_option maxRecDepth 20000 in
theorem gX6_freeze_X1_remember : GoodIn wsX6_freeze (wsV RX6 63 RX1 yX1_remember wsX1_remember) := goodIn_app (goodIn_of _ (by decide +kernel)) ggX6_freeze_X1_remember
set_option maxRecDepth 20000 in
theorem ggX6_freeze_X6_pourAll : GoodIn wsX6_freeze wsX6_pourAll := goodIn_r _ [30, 3, 2, 31, 32, 33, 34, 35, 36, 37, 38, 39, 40, 41, 42, 43, 44, 45, 46, 47, 48, 49, 50, 51, 52, 53] (by decide +kernel) (by decide +kernel)
set_option maxRecDepth 20000 in
theorem gX6_freeze_X6_pourAll : GoodIn wsX6_freeze (wsV RX6 98 RX6 yX6_pourAll wsX6_pourAll) := goodIn_app (goodIn_of _ (by decide +kernel)) ggX6_freeze_X6_pourAll
theorem dX6_freeze_0 : decode cX6_freeze 0 = .ok (.aload_n 0, 1) := by decide +kernel
theorem dX6_freeze_1 : decode cX6_freeze 1 = .ok (.getfield 19, 3) := by decide +kernel
theorem dX6_freeze_4 : decode cX6_freeze 4 = .ok (.aload_n 0, 1) := by decide +kernel
theorem dX6_freeze_5 : decode cX6_freeze 5 = .ok (.getfield 10, 3) := by decide +kernel
theorem dX6_freeze_8 : decode cX6_freeze 8 = .ok (.invokevirtual 63, 3) := by decide +kernel
theorem dX6_freeze_11 : decode cX6_freeze 11 = .ok (.aload_n 0, 1) := by decide +kernel
theorem dX6_freeze_12 : decode cX6_freeze 12 = .ok (.invokevirtual 98, 3) := by decide +kernel
theorem dX6_freeze_15 : decode cX6_freeze 15 = .ok (.istore_n 1, 1) := by decide +kernel
theorem dX6_freeze_16 : decode cX6_freeze 16 = .ok (.iconst 0, 1) := by decide +kernel
theorem dX6_freeze_17 : decode cX6_freeze 17 = .ok (.istore_n 2, 1) := by decide +kernel
theorem dX6_freeze_18 : decode cX6_freeze 18 = .ok (.iload_n 2, 1) := by decide +kernel
theorem dX6_freeze_19 : decode cX6_freeze 19 = .ok (.aload_n 0, 1) := by decide +kernel
theorem dX6_freeze_20 : decode cX6_freeze 20 = .ok (.getfield 10, 3) := by decide +kernel
theorem dX6_freeze_23 : decode cX6_freeze 23 = .ok (.getfield 55, 3) := by decide +kernel
theorem dX6_freeze_26 : decode cX6_freeze 26 = .ok (.if_icmp .ge 30, 3) := by decide +kernel
theorem dX6_freeze_29 : decode cX6_freeze 29 = .ok (.aload_n 0, 1) := by decide +kernel
theorem dX6_freeze_30 : decode cX6_freeze 30 = .ok (.getfield 10, 3) := by decide +kernel
theorem dX6_freeze_33 : decode cX6_freeze 33 = .ok (.getfield 78, 3) := by decide +kernel
theorem dX6_freeze_36 : decode cX6_freeze 36 = .ok (.iload_n 2, 1) := by decide +kernel
theorem dX6_freeze_37 : decode cX6_freeze 37 = .ok (.dup2, 1) := by decide +kernel
theorem dX6_freeze_38 : decode cX6_freeze 38 = .ok (.iaload, 1) := by decide +kernel
theorem dX6_freeze_39 : decode cX6_freeze 39 = .ok (.aload_n 0, 1) := by decide +kernel
theorem dX6_freeze_40 : decode cX6_freeze 40 = .ok (.getfield 30, 3) := by decide +kernel
theorem dX6_freeze_43 : decode cX6_freeze 43 = .ok (.getfield 102, 3) := by decide +kernel
theorem dX6_freeze_46 : decode cX6_freeze 46 = .ok (.iload_n 2, 1) := by decide +kernel
theorem dX6_freeze_47 : decode cX6_freeze 47 = .ok (.iaload, 1) := by decide +kernel
theorem dX6_freeze_48 : decode cX6_freeze 48 = .ok (.iadd, 1) := by decide +kernel
theorem dX6_freeze_49 : decode cX6_freeze 49 = .ok (.iastore, 1) := by decide +kernel
theorem dX6_freeze_50 : decode cX6_freeze 50 = .ok (.iinc 2 1, 3) := by decide +kernel
theorem dX6_freeze_53 : decode cX6_freeze 53 = .ok (.goto (-35), 3) := by decide +kernel
theorem dX6_freeze_56 : decode cX6_freeze 56 = .ok (.iload_n 1, 1) := by decide +kernel
theorem dX6_freeze_57 : decode cX6_freeze 57 = .ok (.ireturn, 1) := by decide +kernel
set_option maxRecDepth 20000 in
theorem ggX6_clear_X1_remember : GoodIn wsX6_clear wsX1_remember := goodIn_r _ [7, 8, 9, 10, 11, 12, 6, 13, 14, 15, 16, 17, 18, 19, 20, 21, 22, 23, 24, 34, 35, 32, 33] (by decide +kernel) (by decide +kernel)
set_option maxRecDepth 20000 in
theorem gX6_clear_X1_remember : GoodIn wsX6_clear (wsV RX6 63 RX1 yX1_remember wsX1_remember) := goodIn_app (goodIn_of _ (by decide +kernel)) ggX6_clear_X1_remember
theorem dX6_clear_0 : decode cX6_clear 0 = .ok (.aload_n 0, 1) := by decide +kernel
theorem dX6_clear_1 : decode cX6_clear 1 = .ok (.getfield 19, 3) := by decide +kernel
theorem dX6_clear_4 : decode cX6_clear 4 = .ok (.aload_n 0, 1) := by decide +kernel
theorem dX6_clear_5 : decode cX6_clear 5 = .ok (.getfield 10, 3) := by decide +kernel
theorem dX6_clear_8 : decode cX6_clear 8 = .ok (.invokevirtual 63, 3) := by decide +kernel
theorem dX6_clear_11 : decode cX6_clear 11 = .ok (.aload_n 0, 1) := by decide +kernel
theorem dX6_clear_12 : decode cX6_clear 12 = .ok (.getfield 10, 3) := by decide +kernel
theorem dX6_clear_15 : decode cX6_clear 15 = .ok (.getfield 55, 3) := by decide +kernel
theorem dX6_clear_18 : decode cX6_clear 18 = .ok (.istore_n 1, 1) := by decide +kernel
theorem dX6_clear_19 : decode cX6_clear 19 = .ok (.aload_n 0, 1) := by decide +kernel
theorem dX6_clear_20 : decode cX6_clear 20 = .ok (.getfield 10, 3) := by decide +kernel
theorem dX6_clear_23 : decode cX6_clear 23 = .ok (.iconst 0, 1) := by decide +kernel
theorem dX6_clear_24 : decode cX6_clear 24 = .ok (.putfield 55, 3) := by decide +kernel
theorem dX6_clear_27 : decode cX6_clear 27 = .ok (.iload_n 1, 1) := by decide +kernel
theorem dX6_clear_28 : decode cX6_clear 28 = .ok (.ireturn, 1) := by decide +kernel
set_option maxRecDepth 20000 in
theorem ggX6_undo_X1_restore : GoodIn wsX6_undo wsX1_restore := goodIn_r _ [7, 8, 9, 10, 11, 12, 13, 14, 15, 16, 17, 18, 19, 20, 28, 29, 30, 31] (by decide +kernel) (by decide +kernel)
set_option maxRecDepth 20000 in
theorem gX6_undo_X1_restore : GoodIn wsX6_undo (wsV RX6 108 RX1 yX1_restore wsX1_restore) := goodIn_app (goodIn_of _ (by decide +kernel)) ggX6_undo_X1_restore
theorem dX6_undo_0 : decode cX6_undo 0 = .ok (.aload_n 0, 1) := by decide +kernel
theorem dX6_undo_1 : decode cX6_undo 1 = .ok (.getfield 19, 3) := by decide +kernel
theorem dX6_undo_4 : decode cX6_undo 4 = .ok (.getfield 105, 3) := by decide +kernel
theorem dX6_undo_7 : decode cX6_undo 7 = .ok (.ifCond .ne 6, 3) := by decide +kernel
theorem dX6_undo_10 : decode cX6_undo 10 = .ok (.bipush (-2), 2) := by decide +kernel
theorem dX6_undo_12 : decode cX6_undo 12 = .ok (.ireturn, 1) := by decide +kernel
theorem dX6_undo_13 : decode cX6_undo 13 = .ok (.aload_n 0, 1) := by decide +kernel
theorem dX6_undo_14 : decode cX6_undo 14 = .ok (.getfield 19, 3) := by decide +kernel
theorem dX6_undo_17 : decode cX6_undo 17 = .ok (.aload_n 0, 1) := by decide +kernel
theorem dX6_undo_18 : decode cX6_undo 18 = .ok (.getfield 10, 3) := by decide +kernel
theorem dX6_undo_21 : decode cX6_undo 21 = .ok (.invokevirtual 108, 3) := by decide +kernel
theorem dX6_undo_24 : decode cX6_undo 24 = .ok (.aload_n 0, 1) := by decide +kernel
theorem dX6_undo_25 : decode cX6_undo 25 = .ok (.getfield 19, 3) := by decide +kernel
theorem dX6_undo_28 : decode cX6_undo 28 = .ok (.getfield 105, 3) := by decide +kernel
theorem dX6_undo_31 : decode cX6_undo 31 = .ok (.ireturn, 1) := by decide +kernel
set_option maxRecDepth 20000 in
theorem ggX6_told_X6_sumOf : GoodIn wsX6_told wsX6_sumOf := goodIn_r _ [7] (by decide +kernel) (by decide +kernel)
set_option maxRecDepth 20000 in
theorem gX6_told_X6_sumOf : GoodIn wsX6_told (va_wsS RX6 111 yX6_sumOf wsX6_sumOf) := goodIn_app (goodIn_of _ (by decide +kernel)) ggX6_told_X6_sumOf
set_option maxRecDepth 20000 in
theorem ggX6_told_X0_greatestHeight : GoodIn wsX6_told wsX0_greatestHeight := goodIn_r _ [12, 13, 14, 15, 6, 16, 137, 138] (by decide +kernel) (by decide +kernel)
set_option maxRecDepth 20000 in
theorem gX6_told_X0_greatestHeight : GoodIn wsX6_told (wsV RX6 115 RX0 yX0_greatestHeight wsX0_greatestHeight) := goodIn_app (goodIn_of _ (by decide +kernel)) ggX6_told_X0_greatestHeight
set_option maxRecDepth 20000 in
theorem ggX6_told_X6_pourAll : GoodIn wsX6_told wsX6_pourAll := goodIn_r _ [20, 21, 1, 22, 23, 24, 25, 26, 27, 28, 29, 30, 31, 32, 33, 34, 130, 131, 132, 133, 134, 135, 136, 137, 138, 141] (by decide +kernel) (by decide +kernel)
set_option maxRecDepth 20000 in
theorem gX6_told_X6_pourAll : GoodIn wsX6_told (wsV RX6 98 RX6 yX6_pourAll wsX6_pourAll) := goodIn_app (goodIn_of _ (by decide +kernel)) ggX6_told_X6_pourAll
set_option maxRecDepth 20000 in
theorem ggX6_told_X6_countPools : GoodIn wsX6_told wsX6_countPools := goodIn_r _ [38, 21, 1, 17, 18, 19, 6, 20, 22, 23, 24, 25, 26, 27, 28, 29, 30, 31, 32, 33, 34, 39, 40, 41, 42, 43, 44, 45, 46, 130, 131, 132, 133, 134, 135, 136, 137, 138, 141] (by decide +kernel) (by decide +kernel)
set_option maxRecDepth 20000 in
theorem gX6_told_X6_countPools : GoodIn wsX6_told (wsV RX6 118 RX6 yX6_countPools wsX6_countPools) := goodIn_app (goodIn_of _ (by decide +kernel)) ggX6_told_X6_countPools
set_option maxRecDepth 20000 in
theorem ggX6_told_X6_countRectangles : GoodIn wsX6_told wsX6_countRectangles := goodIn_r _ [50, 51, 1, 52, 53, 54, 55, 56, 57, 58, 59, 60, 61, 62, 63, 64, 65, 66, 67, 68, 69, 70, 71, 72, 73, 74, 75, 76, 77, 130, 131, 132, 133, 134, 135, 136, 137, 138, 142, 143, 144, 145, 146] (by decide +kernel) (by decide +kernel)
set_option maxRecDepth 20000 in
theorem gX6_told_X6_countRectangles : GoodIn wsX6_told (wsV RX6 121 RX6 yX6_countRectangles wsX6_countRectangles) := goodIn_app (goodIn_of _ (by decide +kernel)) ggX6_told_X6_countRectangles
set_option maxRecDepth 20000 in
theorem ggX6_told_X0_countSeen : GoodIn wsX6_told wsX0_countSeen := goodIn_r _ [81, 13, 14, 137, 138] (by decide +kernel) (by decide +kernel)
set_option maxRecDepth 20000 in
theorem gX6_told_X0_countSeen : GoodIn wsX6_told (wsV RX6 124 RX0 yX0_countSeen wsX0_countSeen) := goodIn_app (goodIn_of _ (by decide +kernel)) ggX6_told_X0_countSeen
set_option maxRecDepth 20000 in
theorem ggX6_told_X6_greatestTreeDepth : GoodIn wsX6_told wsX6_greatestTreeDepth := goodIn_r _ [85, 86, 1, 87, 28, 29, 30, 88, 89, 90, 91, 92, 93, 94, 95, 96, 97, 98, 130, 131, 132, 133, 134, 135, 136, 137, 138, 147, 148] (by decide +kernel) (by decide +kernel)
set_option maxRecDepth 20000 in
theorem gX6_told_X6_greatestTreeDepth : GoodIn wsX6_told (wsV RX6 128 RX6 yX6_greatestTreeDepth wsX6_greatestTreeDepth) := goodIn_app (goodIn_of _ (by decide +kernel)) ggX6_told_X6_greatestTreeDepth
set_option maxRecDepth 20000 in
theorem ggX6_told_X0_countRises : GoodIn wsX6_told wsX0_countRises := goodIn_r _ [102, 13, 14, 103, 28, 29, 30, 137, 138] (by decide +kernel) (by decide +kernel)
set_option maxRecDepth 20000 in
theorem gX6_told_X0_countRises : GoodIn wsX6_told (wsV RX6 131 RX0 yX0_countRises wsX0_countRises) := goodIn_app (goodIn_of _ (by decide +kernel)) ggX6_told_X0_countRises
set_option maxRecDepth 20000 in
theorem ggX6_told_X2_countStrokes : GoodIn wsX6_told wsX2_countStrokes := goodIn_r _ [108, 109, 110, 111, 112, 113, 114, 9, 10, 11, 12, 13, 14, 15, 6, 16, 115, 116, 117, 107, 118, 119, 120, 121, 122, 123, 33, 29, 34, 5, 7, 124, 125, 126, 127, 128, 129, 149, 137, 138] (by decide +kernel) (by decide +kernel)
set_option maxRecDepth 20000 in
theorem gX6_told_X2_countStrokes : GoodIn wsX6_told (wsV RX6 134 RX2 yX2_countStrokes wsX2_countStrokes) := goodIn_app (goodIn_of _ (by decide +kernel)) ggX6_told_X2_countStrokes
theorem dX6_told_0 : decode cX6_told 0 = .ok (.iload_n 1, 1) := by decide +kernel
theorem dX6_told_1 : decode cX6_told 1 = .ok (.tableswitch 166 0 11 #[63, 71, 92, 100, 105, 110, 115, 124, 133, 138, 146, 158], 63) := by decide +kernel
theorem dX6_told_64 : decode cX6_told 64 = .ok (.aload_n 0, 1) := by decide +kernel
theorem dX6_told_65 : decode cX6_told 65 = .ok (.getfield 10, 3) := by decide +kernel
theorem dX6_told_68 : decode cX6_told 68 = .ok (.getfield 55, 3) := by decide +kernel
theorem dX6_told_71 : decode cX6_told 71 = .ok (.ireturn, 1) := by decide +kernel
theorem dX6_told_72 : decode cX6_told 72 = .ok (.aload_n 0, 1) := by decide +kernel
theorem dX6_told_73 : decode cX6_told 73 = .ok (.getfield 10, 3) := by decide +kernel
theorem dX6_told_76 : decode cX6_told 76 = .ok (.getfield 78, 3) := by decide +kernel
theorem dX6_told_79 : decode cX6_told 79 = .ok (.iconst 0, 1) := by decide +kernel
theorem dX6_told_80 : decode cX6_told 80 = .ok (.aload_n 0, 1) := by decide +kernel
theorem dX6_told_81 : decode cX6_told 81 = .ok (.getfield 10, 3) := by decide +kernel
theorem dX6_told_84 : decode cX6_told 84 = .ok (.getfield 55, 3) := by decide +kernel
theorem dX6_told_87 : decode cX6_told 87 = .ok (.iconst 1, 1) := by decide +kernel
theorem dX6_told_88 : decode cX6_told 88 = .ok (.isub, 1) := by decide +kernel
theorem dX6_told_89 : decode cX6_told 89 = .ok (.invokestatic 111, 3) := by decide +kernel
theorem dX6_told_92 : decode cX6_told 92 = .ok (.ireturn, 1) := by decide +kernel
theorem dX6_told_93 : decode cX6_told 93 = .ok (.aload_n 0, 1) := by decide +kernel
theorem dX6_told_94 : decode cX6_told 94 = .ok (.getfield 10, 3) := by decide +kernel
theorem dX6_told_97 : decode cX6_told 97 = .ok (.invokevirtual 115, 3) := by decide +kernel
theorem dX6_told_100 : decode cX6_told 100 = .ok (.ireturn, 1) := by decide +kernel
theorem dX6_told_101 : decode cX6_told 101 = .ok (.aload_n 0, 1) := by decide +kernel
theorem dX6_told_102 : decode cX6_told 102 = .ok (.invokevirtual 98, 3) := by decide +kernel
theorem dX6_told_105 : decode cX6_told 105 = .ok (.ireturn, 1) := by decide +kernel
theorem dX6_told_106 : decode cX6_told 106 = .ok (.aload_n 0, 1) := by decide +kernel
theorem dX6_told_107 : decode cX6_told 107 = .ok (.invokevirtual 118, 3) := by decide +kernel
theorem dX6_told_110 : decode cX6_told 110 = .ok (.ireturn, 1) := by decide +kernel
theorem dX6_told_111 : decode cX6_told 111 = .ok (.aload_n 0, 1) := by decide +kernel
theorem dX6_told_112 : decode cX6_told 112 = .ok (.invokevirtual 121, 3) := by decide +kernel
theorem dX6_told_115 : decode cX6_told 115 = .ok (.ireturn, 1) := by decide +kernel
theorem dX6_told_116 : decode cX6_told 116 = .ok (.aload_n 0, 1) := by decide +kernel
theorem dX6_told_117 : decode cX6_told 117 = .ok (.getfield 10, 3) := by decide +kernel
theorem dX6_told_120 : decode cX6_told 120 = .ok (.iconst 1, 1) := by decide +kernel
theorem dX6_told_121 : decode cX6_told 121 = .ok (.invokevirtual 124, 3) := by decide +kernel
theorem dX6_told_124 : decode cX6_told 124 = .ok (.ireturn, 1) := by decide +kernel
theorem dX6_told_125 : decode cX6_told 125 = .ok (.aload_n 0, 1) := by decide +kernel
theorem dX6_told_126 : decode cX6_told 126 = .ok (.getfield 10, 3) := by decide +kernel
theorem dX6_told_129 : decode cX6_told 129 = .ok (.iconst 0, 1) := by decide +kernel
theorem dX6_told_130 : decode cX6_told 130 = .ok (.invokevirtual 124, 3) := by decide +kernel
theorem dX6_told_133 : decode cX6_told 133 = .ok (.ireturn, 1) := by decide +kernel
theorem dX6_told_134 : decode cX6_told 134 = .ok (.aload_n 0, 1) := by decide +kernel
theorem dX6_told_135 : decode cX6_told 135 = .ok (.invokevirtual 128, 3) := by decide +kernel
theorem dX6_told_138 : decode cX6_told 138 = .ok (.ireturn, 1) := by decide +kernel
theorem dX6_told_139 : decode cX6_told 139 = .ok (.aload_n 0, 1) := by decide +kernel
theorem dX6_told_140 : decode cX6_told 140 = .ok (.getfield 10, 3) := by decide +kernel
theorem dX6_told_143 : decode cX6_told 143 = .ok (.invokevirtual 131, 3) := by decide +kernel
theorem dX6_told_146 : decode cX6_told 146 = .ok (.ireturn, 1) := by decide +kernel
theorem dX6_told_147 : decode cX6_told 147 = .ok (.aload_n 0, 1) := by decide +kernel
theorem dX6_told_148 : decode cX6_told 148 = .ok (.getfield 51, 3) := by decide +kernel
theorem dX6_told_151 : decode cX6_told 151 = .ok (.aload_n 0, 1) := by decide +kernel
theorem dX6_told_152 : decode cX6_told 152 = .ok (.getfield 10, 3) := by decide +kernel
theorem dX6_told_155 : decode cX6_told 155 = .ok (.invokevirtual 134, 3) := by decide +kernel
theorem dX6_told_158 : decode cX6_told 158 = .ok (.ireturn, 1) := by decide +kernel
theorem dX6_told_159 : decode cX6_told 159 = .ok (.aload_n 0, 1) := by decide +kernel
theorem dX6_told_160 : decode cX6_told 160 = .ok (.getfield 19, 3) := by decide +kernel
theorem dX6_told_163 : decode cX6_told 163 = .ok (.getfield 105, 3) := by decide +kernel
theorem dX6_told_166 : decode cX6_told 166 = .ok (.ireturn, 1) := by decide +kernel
theorem dX6_told_167 : decode cX6_told 167 = .ok (.iconst (-1), 1) := by decide +kernel
theorem dX6_told_168 : decode cX6_told 168 = .ok (.ireturn, 1) := by decide +kernel
set_option maxRecDepth 20000 in
theorem ggX6_column_X0_has : GoodIn wsX6_column wsX0_has := goodIn_r _ [6, 7, 85, 86] (by decide +kernel) (by decide +kernel)
set_option maxRecDepth 20000 in
theorem gX6_column_X0_has : GoodIn wsX6_column (wsV RX6 71 RX0 yX0_has wsX0_has) := goodIn_app (goodIn_of _ (by decide +kernel)) ggX6_column_X0_has
set_option maxRecDepth 20000 in
theorem ggX6_column_X0_smallerToLeft : GoodIn wsX6_column wsX0_smallerToLeft := goodIn_r _ [11, 12, 85, 86] (by decide +kernel) (by decide +kernel)
set_option maxRecDepth 20000 in
theorem gX6_column_X0_smallerToLeft : GoodIn wsX6_column (wsV RX6 138 RX0 yX0_smallerToLeft wsX0_smallerToLeft) := goodIn_app (goodIn_of _ (by decide +kernel)) ggX6_column_X0_smallerToLeft
set_option maxRecDepth 20000 in
theorem ggX6_column_X0_smallerToRight : GoodIn wsX6_column wsX0_smallerToRight := goodIn_r _ [16, 7, 12, 85, 86] (by decide +kernel) (by decide +kernel)
set_option maxRecDepth 20000 in
theorem gX6_column_X0_smallerToRight : GoodIn wsX6_column (wsV RX6 141 RX0 yX0_smallerToRight wsX0_smallerToRight) := goodIn_app (goodIn_of _ (by decide +kernel)) ggX6_column_X0_smallerToRight
set_option maxRecDepth 20000 in
theorem ggX6_column_X0_greaterToLeft : GoodIn wsX6_column wsX0_greaterToLeft := goodIn_r _ [20, 12, 85, 86] (by decide +kernel) (by decide +kernel)
set_option maxRecDepth 20000 in
theorem gX6_column_X0_greaterToLeft : GoodIn wsX6_column (wsV RX6 144 RX0 yX0_greaterToLeft wsX0_greaterToLeft) := goodIn_app (goodIn_of _ (by decide +kernel)) ggX6_column_X0_greaterToLeft
set_option maxRecDepth 20000 in
theorem ggX6_column_X0_greaterToRight : GoodIn wsX6_column wsX0_greaterToRight := goodIn_r _ [24, 7, 12, 85, 86] (by decide +kernel) (by decide +kernel)
set_option maxRecDepth 20000 in
theorem gX6_column_X0_greaterToRight : GoodIn wsX6_column (wsV RX6 147 RX0 yX0_greaterToRight wsX0_greaterToRight) := goodIn_app (goodIn_of _ (by decide +kernel)) ggX6_column_X0_greaterToRight
set_option maxRecDepth 20000 in
theorem ggX6_column_X6_depthOfWater : GoodIn wsX6_column wsX6_depthOfWater := goodIn_r _ [29, 30, 31, 32, 33, 28, 34, 1, 35, 36, 37, 38, 39, 40, 41, 42, 43, 44, 45, 46, 47, 78, 79, 80, 81, 82, 83, 84, 87, 85, 86] (by decide +kernel) (by decide +kernel)
set_option maxRecDepth 20000 in
theorem gX6_column_X6_depthOfWater : GoodIn wsX6_column (wsV RX6 150 RX6 yX6_depthOfWater wsX6_depthOfWater) := goodIn_app (goodIn_of _ (by decide +kernel)) ggX6_column_X6_depthOfWater
set_option maxRecDepth 20000 in
theorem ggX6_column_X6_treeParent : GoodIn wsX6_column wsX6_treeParent := goodIn_r _ [51, 52, 1, 53, 54, 55, 56, 57, 58, 59, 78, 79, 80, 81, 82, 83, 84, 88, 89, 85, 86] (by decide +kernel) (by decide +kernel)
set_option maxRecDepth 20000 in
theorem gX6_column_X6_treeParent : GoodIn wsX6_column (wsV RX6 153 RX6 yX6_treeParent wsX6_treeParent) := goodIn_app (goodIn_of _ (by decide +kernel)) ggX6_column_X6_treeParent
set_option maxRecDepth 20000 in
theorem ggX6_column_X6_treeDepth : GoodIn wsX6_column wsX6_treeDepth := goodIn_r _ [63, 52, 1, 53, 54, 55, 56, 57, 58, 59, 64, 65, 66, 67, 78, 79, 80, 81, 82, 83, 84, 85, 86, 88, 89] (by decide +kernel) (by decide +kernel)
set_option maxRecDepth 20000 in
theorem gX6_column_X6_treeDepth : GoodIn wsX6_column (wsV RX6 156 RX6 yX6_treeDepth wsX6_treeDepth) := goodIn_app (goodIn_of _ (by decide +kernel)) ggX6_column_X6_treeDepth
set_option maxRecDepth 20000 in
theorem ggX6_column_X0_span : GoodIn wsX6_column wsX0_span := goodIn_r _ [71, 7, 72, 9, 10, 5, 11, 12, 73, 14, 15, 16, 85, 86] (by decide +kernel) (by decide +kernel)
set_option maxRecDepth 20000 in
theorem gX6_column_X0_span : GoodIn wsX6_column (wsV RX6 159 RX0 yX0_span wsX0_span) := goodIn_app (goodIn_of _ (by decide +kernel)) ggX6_column_X0_span
set_option maxRecDepth 20000 in
theorem ggX6_column_X0_stairLength : GoodIn wsX6_column wsX0_stairLength := goodIn_r _ [77, 12, 85, 86] (by decide +kernel) (by decide +kernel)
set_option maxRecDepth 20000 in
theorem gX6_column_X0_stairLength : GoodIn wsX6_column (wsV RX6 162 RX0 yX0_stairLength wsX0_stairLength) := goodIn_app (goodIn_of _ (by decide +kernel)) ggX6_column_X0_stairLength
theorem dX6_column_0 : decode cX6_column 0 = .ok (.aload_n 0, 1) := by decide +kernel
theorem dX6_column_1 : decode cX6_column 1 = .ok (.getfield 10, 3) := by decide +kernel
theorem dX6_column_4 : decode cX6_column 4 = .ok (.iload_n 1, 1) := by decide +kernel
theorem dX6_column_5 : decode cX6_column 5 = .ok (.invokevirtual 71, 3) := by decide +kernel
theorem dX6_column_8 : decode cX6_column 8 = .ok (.ifCond .ne 5, 3) := by decide +kernel
theorem dX6_column_11 : decode cX6_column 11 = .ok (.iconst (-1), 1) := by decide +kernel
theorem dX6_column_12 : decode cX6_column 12 = .ok (.ireturn, 1) := by decide +kernel
theorem dX6_column_13 : decode cX6_column 13 = .ok (.iload_n 2, 1) := by decide +kernel
theorem dX6_column_14 : decode cX6_column 14 = .ok (.tableswitch 136 0 9 #[54, 64, 73, 82, 91, 100, 106, 112, 118, 127], 54) := by decide +kernel
theorem dX6_column_68 : decode cX6_column 68 = .ok (.aload_n 0, 1) := by decide +kernel
theorem dX6_column_69 : decode cX6_column 69 = .ok (.getfield 10, 3) := by decide +kernel
theorem dX6_column_72 : decode cX6_column 72 = .ok (.getfield 78, 3) := by decide +kernel
theorem dX6_column_75 : decode cX6_column 75 = .ok (.iload_n 1, 1) := by decide +kernel
theorem dX6_column_76 : decode cX6_column 76 = .ok (.iaload, 1) := by decide +kernel
theorem dX6_column_77 : decode cX6_column 77 = .ok (.ireturn, 1) := by decide +kernel
theorem dX6_column_78 : decode cX6_column 78 = .ok (.aload_n 0, 1) := by decide +kernel
theorem dX6_column_79 : decode cX6_column 79 = .ok (.getfield 10, 3) := by decide +kernel
theorem dX6_column_82 : decode cX6_column 82 = .ok (.iload_n 1, 1) := by decide +kernel
theorem dX6_column_83 : decode cX6_column 83 = .ok (.invokevirtual 138, 3) := by decide +kernel
theorem dX6_column_86 : decode cX6_column 86 = .ok (.ireturn, 1) := by decide +kernel
theorem dX6_column_87 : decode cX6_column 87 = .ok (.aload_n 0, 1) := by decide +kernel
theorem dX6_column_88 : decode cX6_column 88 = .ok (.getfield 10, 3) := by decide +kernel
theorem dX6_column_91 : decode cX6_column 91 = .ok (.iload_n 1, 1) := by decide +kernel
theorem dX6_column_92 : decode cX6_column 92 = .ok (.invokevirtual 141, 3) := by decide +kernel
theorem dX6_column_95 : decode cX6_column 95 = .ok (.ireturn, 1) := by decide +kernel
theorem dX6_column_96 : decode cX6_column 96 = .ok (.aload_n 0, 1) := by decide +kernel
theorem dX6_column_97 : decode cX6_column 97 = .ok (.getfield 10, 3) := by decide +kernel
theorem dX6_column_100 : decode cX6_column 100 = .ok (.iload_n 1, 1) := by decide +kernel
theorem dX6_column_101 : decode cX6_column 101 = .ok (.invokevirtual 144, 3) := by decide +kernel
theorem dX6_column_104 : decode cX6_column 104 = .ok (.ireturn, 1) := by decide +kernel
theorem dX6_column_105 : decode cX6_column 105 = .ok (.aload_n 0, 1) := by decide +kernel
theorem dX6_column_106 : decode cX6_column 106 = .ok (.getfield 10, 3) := by decide +kernel
theorem dX6_column_109 : decode cX6_column 109 = .ok (.iload_n 1, 1) := by decide +kernel
theorem dX6_column_110 : decode cX6_column 110 = .ok (.invokevirtual 147, 3) := by decide +kernel
theorem dX6_column_113 : decode cX6_column 113 = .ok (.ireturn, 1) := by decide +kernel
theorem dX6_column_114 : decode cX6_column 114 = .ok (.aload_n 0, 1) := by decide +kernel
theorem dX6_column_115 : decode cX6_column 115 = .ok (.iload_n 1, 1) := by decide +kernel
theorem dX6_column_116 : decode cX6_column 116 = .ok (.invokevirtual 150, 3) := by decide +kernel
theorem dX6_column_119 : decode cX6_column 119 = .ok (.ireturn, 1) := by decide +kernel
theorem dX6_column_120 : decode cX6_column 120 = .ok (.aload_n 0, 1) := by decide +kernel
theorem dX6_column_121 : decode cX6_column 121 = .ok (.iload_n 1, 1) := by decide +kernel
theorem dX6_column_122 : decode cX6_column 122 = .ok (.invokevirtual 153, 3) := by decide +kernel
theorem dX6_column_125 : decode cX6_column 125 = .ok (.ireturn, 1) := by decide +kernel
theorem dX6_column_126 : decode cX6_column 126 = .ok (.aload_n 0, 1) := by decide +kernel
theorem dX6_column_127 : decode cX6_column 127 = .ok (.iload_n 1, 1) := by decide +kernel
theorem dX6_column_128 : decode cX6_column 128 = .ok (.invokevirtual 156, 3) := by decide +kernel
theorem dX6_column_131 : decode cX6_column 131 = .ok (.ireturn, 1) := by decide +kernel
theorem dX6_column_132 : decode cX6_column 132 = .ok (.aload_n 0, 1) := by decide +kernel
theorem dX6_column_133 : decode cX6_column 133 = .ok (.getfield 10, 3) := by decide +kernel
theorem dX6_column_136 : decode cX6_column 136 = .ok (.iload_n 1, 1) := by decide +kernel
theorem dX6_column_137 : decode cX6_column 137 = .ok (.invokevirtual 159, 3) := by decide +kernel
theorem dX6_column_140 : decode cX6_column 140 = .ok (.ireturn, 1) := by decide +kernel
theorem dX6_column_141 : decode cX6_column 141 = .ok (.aload_n 0, 1) := by decide +kernel
theorem dX6_column_142 : decode cX6_column 142 = .ok (.getfield 10, 3) := by decide +kernel
theorem dX6_column_145 : decode cX6_column 145 = .ok (.iload_n 1, 1) := by decide +kernel
theorem dX6_column_146 : decode cX6_column 146 = .ok (.invokevirtual 162, 3) := by decide +kernel
theorem dX6_column_149 : decode cX6_column 149 = .ok (.ireturn, 1) := by decide +kernel
theorem dX6_column_150 : decode cX6_column 150 = .ok (.iconst (-1), 1) := by decide +kernel
theorem dX6_column_151 : decode cX6_column 151 = .ok (.ireturn, 1) := by decide +kernel
set_option maxRecDepth 20000 in
theorem ggX6_stair_X0_has : GoodIn wsX6_stair wsX0_has := goodIn_r _ [6, 7, 20, 21] (by decide +kernel) (by decide +kernel)
set_option maxRecDepth 20000 in
theorem gX6_stair_X0_has : GoodIn wsX6_stair (wsV RX6 71 RX0 yX0_has wsX0_has) := goodIn_app (goodIn_of _ (by decide +kernel)) ggX6_stair_X0_has
set_option maxRecDepth 20000 in
theorem ggX6_stair_X0_stairStep : GoodIn wsX6_stair wsX0_stairStep := goodIn_r _ [11, 12, 20, 21] (by decide +kernel) (by decide +kernel)
set_option maxRecDepth 20000 in
theorem gX6_stair_X0_stairStep : GoodIn wsX6_stair (wsV RX6 165 RX0 yX0_stairStep wsX0_stairStep) := goodIn_app (goodIn_of _ (by decide +kernel)) ggX6_stair_X0_stairStep
theorem dX6_stair_0 : decode cX6_stair 0 = .ok (.aload_n 0, 1) := by decide +kernel
theorem dX6_stair_1 : decode cX6_stair 1 = .ok (.getfield 10, 3) := by decide +kernel
theorem dX6_stair_4 : decode cX6_stair 4 = .ok (.iload_n 1, 1) := by decide +kernel
theorem dX6_stair_5 : decode cX6_stair 5 = .ok (.invokevirtual 71, 3) := by decide +kernel
theorem dX6_stair_8 : decode cX6_stair 8 = .ok (.ifCond .eq 7, 3) := by decide +kernel
theorem dX6_stair_11 : decode cX6_stair 11 = .ok (.iload_n 2, 1) := by decide +kernel
theorem dX6_stair_12 : decode cX6_stair 12 = .ok (.ifCond .ge 5, 3) := by decide +kernel
theorem dX6_stair_15 : decode cX6_stair 15 = .ok (.iconst (-1), 1) := by decide +kernel
theorem dX6_stair_16 : decode cX6_stair 16 = .ok (.ireturn, 1) := by decide +kernel
theorem dX6_stair_17 : decode cX6_stair 17 = .ok (.aload_n 0, 1) := by decide +kernel
theorem dX6_stair_18 : decode cX6_stair 18 = .ok (.getfield 10, 3) := by decide +kernel
theorem dX6_stair_21 : decode cX6_stair 21 = .ok (.iload_n 1, 1) := by decide +kernel
theorem dX6_stair_22 : decode cX6_stair 22 = .ok (.iload_n 2, 1) := by decide +kernel
theorem dX6_stair_23 : decode cX6_stair 23 = .ok (.invokevirtual 165, 3) := by decide +kernel
theorem dX6_stair_26 : decode cX6_stair 26 = .ok (.ireturn, 1) := by decide +kernel
set_option maxRecDepth 20000 in
theorem ggX6_range_X0_hasRange : GoodIn wsX6_range wsX0_hasRange := goodIn_r _ [6, 7, 60, 61] (by decide +kernel) (by decide +kernel)
set_option maxRecDepth 20000 in
theorem gX6_range_X0_hasRange : GoodIn wsX6_range (wsV RX6 82 RX0 yX0_hasRange wsX0_hasRange) := goodIn_app (goodIn_of _ (by decide +kernel)) ggX6_range_X0_hasRange
set_option maxRecDepth 20000 in
theorem ggX6_range_X6_lowestLeast : GoodIn wsX6_range wsX6_lowestLeast := goodIn_r _ [11] (by decide +kernel) (by decide +kernel)
set_option maxRecDepth 20000 in
theorem gX6_range_X6_lowestLeast : GoodIn wsX6_range (va_wsS RX6 168 yX6_lowestLeast wsX6_lowestLeast) := goodIn_app (goodIn_of _ (by decide +kernel)) ggX6_range_X6_lowestLeast
set_option maxRecDepth 20000 in
theorem ggX6_range_X6_lowestGreatest : GoodIn wsX6_range wsX6_lowestGreatest := goodIn_r _ [14] (by decide +kernel) (by decide +kernel)
set_option maxRecDepth 20000 in
theorem gX6_range_X6_lowestGreatest : GoodIn wsX6_range (va_wsS RX6 171 yX6_lowestGreatest wsX6_lowestGreatest) := goodIn_app (goodIn_of _ (by decide +kernel)) ggX6_range_X6_lowestGreatest
set_option maxRecDepth 20000 in
theorem ggX6_range_X6_sumOf : GoodIn wsX6_range wsX6_sumOf := goodIn_r _ [17] (by decide +kernel) (by decide +kernel)
set_option maxRecDepth 20000 in
theorem gX6_range_X6_sumOf : GoodIn wsX6_range (va_wsS RX6 111 yX6_sumOf wsX6_sumOf) := goodIn_app (goodIn_of _ (by decide +kernel)) ggX6_range_X6_sumOf
set_option maxRecDepth 20000 in
theorem ggX6_range_X6_largestRectangle : GoodIn wsX6_range wsX6_largestRectangle := goodIn_r _ [21, 22, 1, 23, 24, 25, 26, 27, 28, 29, 30, 31, 32, 33, 34, 35, 36, 37, 38, 39, 40, 41, 42, 43, 44, 45, 46, 47, 48, 49, 50, 51, 52, 53, 54, 55, 56, 57, 58, 59, 60, 61, 62, 63, 64, 65, 66] (by decide +kernel) (by decide +kernel)
set_option maxRecDepth 20000 in
theorem gX6_range_X6_largestRectangle : GoodIn wsX6_range (wsV RX6 174 RX6 yX6_largestRectangle wsX6_largestRectangle) := goodIn_app (goodIn_of _ (by decide +kernel)) ggX6_range_X6_largestRectangle
theorem dX6_range_0 : decode cX6_range 0 = .ok (.aload_n 0, 1) := by decide +kernel
theorem dX6_range_1 : decode cX6_range 1 = .ok (.getfield 10, 3) := by decide +kernel
theorem dX6_range_4 : decode cX6_range 4 = .ok (.iload_n 1, 1) := by decide +kernel
theorem dX6_range_5 : decode cX6_range 5 = .ok (.iload_n 2, 1) := by decide +kernel
theorem dX6_range_6 : decode cX6_range 6 = .ok (.invokevirtual 82, 3) := by decide +kernel
theorem dX6_range_9 : decode cX6_range 9 = .ok (.ifCond .ne 5, 3) := by decide +kernel
theorem dX6_range_12 : decode cX6_range 12 = .ok (.iconst (-1), 1) := by decide +kernel
theorem dX6_range_13 : decode cX6_range 13 = .ok (.ireturn, 1) := by decide +kernel
theorem dX6_range_14 : decode cX6_range 14 = .ok (.aload_n 0, 1) := by decide +kernel
theorem dX6_range_15 : decode cX6_range 15 = .ok (.getfield 10, 3) := by decide +kernel
theorem dX6_range_18 : decode cX6_range 18 = .ok (.getfield 78, 3) := by decide +kernel
theorem dX6_range_21 : decode cX6_range 21 = .ok (.astore 4, 2) := by decide +kernel
theorem dX6_range_23 : decode cX6_range 23 = .ok (.iload_n 3, 1) := by decide +kernel
theorem dX6_range_24 : decode cX6_range 24 = .ok (.tableswitch 108 0 8 #[52, 63, 71, 82, 90, 98, 98, 98, 98], 52) := by decide +kernel
theorem dX6_range_76 : decode cX6_range 76 = .ok (.aload 4, 2) := by decide +kernel
theorem dX6_range_78 : decode cX6_range 78 = .ok (.aload 4, 2) := by decide +kernel
theorem dX6_range_80 : decode cX6_range 80 = .ok (.iload_n 1, 1) := by decide +kernel
theorem dX6_range_81 : decode cX6_range 81 = .ok (.iload_n 2, 1) := by decide +kernel
theorem dX6_range_82 : decode cX6_range 82 = .ok (.invokestatic 168, 3) := by decide +kernel
theorem dX6_range_85 : decode cX6_range 85 = .ok (.iaload, 1) := by decide +kernel
theorem dX6_range_86 : decode cX6_range 86 = .ok (.ireturn, 1) := by decide +kernel
theorem dX6_range_87 : decode cX6_range 87 = .ok (.aload 4, 2) := by decide +kernel
theorem dX6_range_89 : decode cX6_range 89 = .ok (.iload_n 1, 1) := by decide +kernel
theorem dX6_range_90 : decode cX6_range 90 = .ok (.iload_n 2, 1) := by decide +kernel
theorem dX6_range_91 : decode cX6_range 91 = .ok (.invokestatic 168, 3) := by decide +kernel
theorem dX6_range_94 : decode cX6_range 94 = .ok (.ireturn, 1) := by decide +kernel
theorem dX6_range_95 : decode cX6_range 95 = .ok (.aload 4, 2) := by decide +kernel
theorem dX6_range_97 : decode cX6_range 97 = .ok (.aload 4, 2) := by decide +kernel
theorem dX6_range_99 : decode cX6_range 99 = .ok (.iload_n 1, 1) := by decide +kernel
theorem dX6_range_100 : decode cX6_range 100 = .ok (.iload_n 2, 1) := by decide +kernel
theorem dX6_range_101 : decode cX6_range 101 = .ok (.invokestatic 171, 3) := by decide +kernel
theorem dX6_range_104 : decode cX6_range 104 = .ok (.iaload, 1) := by decide +kernel
theorem dX6_range_105 : decode cX6_range 105 = .ok (.ireturn, 1) := by decide +kernel
theorem dX6_range_106 : decode cX6_range 106 = .ok (.aload 4, 2) := by decide +kernel
theorem dX6_range_108 : decode cX6_range 108 = .ok (.iload_n 1, 1) := by decide +kernel
theorem dX6_range_109 : decode cX6_range 109 = .ok (.iload_n 2, 1) := by decide +kernel
theorem dX6_range_110 : decode cX6_range 110 = .ok (.invokestatic 171, 3) := by decide +kernel
theorem dX6_range_113 : decode cX6_range 113 = .ok (.ireturn, 1) := by decide +kernel
theorem dX6_range_114 : decode cX6_range 114 = .ok (.aload 4, 2) := by decide +kernel
theorem dX6_range_116 : decode cX6_range 116 = .ok (.iload_n 1, 1) := by decide +kernel
theorem dX6_range_117 : decode cX6_range 117 = .ok (.iload_n 2, 1) := by decide +kernel
theorem dX6_range_118 : decode cX6_range 118 = .ok (.invokestatic 111, 3) := by decide +kernel
theorem dX6_range_121 : decode cX6_range 121 = .ok (.ireturn, 1) := by decide +kernel
theorem dX6_range_122 : decode cX6_range 122 = .ok (.aload_n 0, 1) := by decide +kernel
theorem dX6_range_123 : decode cX6_range 123 = .ok (.iload_n 1, 1) := by decide +kernel
theorem dX6_range_124 : decode cX6_range 124 = .ok (.iload_n 2, 1) := by decide +kernel
theorem dX6_range_125 : decode cX6_range 125 = .ok (.iload_n 3, 1) := by decide +kernel
theorem dX6_range_126 : decode cX6_range 126 = .ok (.iconst 5, 1) := by decide +kernel
theorem dX6_range_127 : decode cX6_range 127 = .ok (.isub, 1) := by decide +kernel
theorem dX6_range_128 : decode cX6_range 128 = .ok (.invokevirtual 174, 3) := by decide +kernel
theorem dX6_range_131 : decode cX6_range 131 = .ok (.ireturn, 1) := by decide +kernel
theorem dX6_range_132 : decode cX6_range 132 = .ok (.iconst (-1), 1) := by decide +kernel
theorem dX6_range_133 : decode cX6_range 133 = .ok (.ireturn, 1) := by decide +kernel
set_option maxRecDepth 20000 in
theorem ggX6_rectangle_X3_find : GoodIn wsX6_rectangle wsX3_find := goodIn_r _ [7, 8, 9, 10, 11, 6, 12, 13, 14, 15, 16, 17, 18, 19, 20, 21, 22, 23, 24, 25, 26, 27, 28, 46, 47, 48, 49, 50] (by decide +kernel) (by decide +kernel)
set_option maxRecDepth 20000 in
theorem gX6_rectangle_X3_find : GoodIn wsX6_rectangle (wsV RX6 177 RX3 yX3_find wsX3_find) := goodIn_app (goodIn_of _ (by decide +kernel)) ggX6_rectangle_X3_find
set_option maxRecDepth 20000 in
theorem ggX6_rectangle_X3_countOwners : GoodIn wsX6_rectangle wsX3_countOwners := goodIn_r _ [32, 17, 18, 19, 46, 47, 48, 49, 50] (by decide +kernel) (by decide +kernel)
set_option maxRecDepth 20000 in
theorem gX6_rectangle_X3_countOwners : GoodIn wsX6_rectangle (wsV RX6 182 RX3 yX3_countOwners wsX3_countOwners) := goodIn_app (goodIn_of _ (by decide +kernel)) ggX6_rectangle_X3_countOwners
set_option maxRecDepth 20000 in
theorem ggX6_rectangle_X3_property : GoodIn wsX6_rectangle wsX3_property := goodIn_r _ [36, 17, 18, 19, 25, 26, 27, 6, 28, 46, 47, 48, 49, 50] (by decide +kernel) (by decide +kernel)
set_option maxRecDepth 20000 in
theorem gX6_rectangle_X3_property : GoodIn wsX6_rectangle (wsV RX6 189 RX3 yX3_property wsX3_property) := goodIn_app (goodIn_of _ (by decide +kernel)) ggX6_rectangle_X3_property
theorem dX6_rectangle_0 : decode cX6_rectangle 0 = .ok (.iload_n 1, 1) := by decide +kernel
theorem dX6_rectangle_1 : decode cX6_rectangle 1 = .ok (.ifCond .lt 12, 3) := by decide +kernel
theorem dX6_rectangle_4 : decode cX6_rectangle 4 = .ok (.iload_n 2, 1) := by decide +kernel
theorem dX6_rectangle_5 : decode cX6_rectangle 5 = .ok (.ifCond .lt 8, 3) := by decide +kernel
theorem dX6_rectangle_8 : decode cX6_rectangle 8 = .ok (.iload_n 2, 1) := by decide +kernel
theorem dX6_rectangle_9 : decode cX6_rectangle 9 = .ok (.iconst 5, 1) := by decide +kernel
theorem dX6_rectangle_10 : decode cX6_rectangle 10 = .ok (.if_icmp .le 5, 3) := by decide +kernel
theorem dX6_rectangle_13 : decode cX6_rectangle 13 = .ok (.iconst (-1), 1) := by decide +kernel
theorem dX6_rectangle_14 : decode cX6_rectangle 14 = .ok (.ireturn, 1) := by decide +kernel
theorem dX6_rectangle_15 : decode cX6_rectangle 15 = .ok (.aload_n 0, 1) := by decide +kernel
theorem dX6_rectangle_16 : decode cX6_rectangle 16 = .ok (.getfield 37, 3) := by decide +kernel
theorem dX6_rectangle_19 : decode cX6_rectangle 19 = .ok (.aload_n 0, 1) := by decide +kernel
theorem dX6_rectangle_20 : decode cX6_rectangle 20 = .ok (.getfield 10, 3) := by decide +kernel
theorem dX6_rectangle_23 : decode cX6_rectangle 23 = .ok (.getfield 78, 3) := by decide +kernel
theorem dX6_rectangle_26 : decode cX6_rectangle 26 = .ok (.iconst 0, 1) := by decide +kernel
theorem dX6_rectangle_27 : decode cX6_rectangle 27 = .ok (.aload_n 0, 1) := by decide +kernel
theorem dX6_rectangle_28 : decode cX6_rectangle 28 = .ok (.getfield 10, 3) := by decide +kernel
theorem dX6_rectangle_31 : decode cX6_rectangle 31 = .ok (.getfield 55, 3) := by decide +kernel
theorem dX6_rectangle_34 : decode cX6_rectangle 34 = .ok (.iconst 1, 1) := by decide +kernel
theorem dX6_rectangle_35 : decode cX6_rectangle 35 = .ok (.isub, 1) := by decide +kernel
theorem dX6_rectangle_36 : decode cX6_rectangle 36 = .ok (.invokevirtual 177, 3) := by decide +kernel
theorem dX6_rectangle_39 : decode cX6_rectangle 39 = .ok (.iload_n 1, 1) := by decide +kernel
theorem dX6_rectangle_40 : decode cX6_rectangle 40 = .ok (.aload_n 0, 1) := by decide +kernel
theorem dX6_rectangle_41 : decode cX6_rectangle 41 = .ok (.getfield 37, 3) := by decide +kernel
theorem dX6_rectangle_44 : decode cX6_rectangle 44 = .ok (.getfield 181, 3) := by decide +kernel
theorem dX6_rectangle_47 : decode cX6_rectangle 47 = .ok (.if_icmp .lt 6, 3) := by decide +kernel
theorem dX6_rectangle_50 : decode cX6_rectangle 50 = .ok (.bipush (-9), 2) := by decide +kernel
theorem dX6_rectangle_52 : decode cX6_rectangle 52 = .ok (.ireturn, 1) := by decide +kernel
theorem dX6_rectangle_53 : decode cX6_rectangle 53 = .ok (.iload_n 2, 1) := by decide +kernel
theorem dX6_rectangle_54 : decode cX6_rectangle 54 = .ok (.lookupswitch 52 #[(4, 26), (5, 42)], 26) := by decide +kernel
theorem dX6_rectangle_80 : decode cX6_rectangle 80 = .ok (.aload_n 0, 1) := by decide +kernel
theorem dX6_rectangle_81 : decode cX6_rectangle 81 = .ok (.getfield 37, 3) := by decide +kernel
theorem dX6_rectangle_84 : decode cX6_rectangle 84 = .ok (.iload_n 1, 1) := by decide +kernel
theorem dX6_rectangle_85 : decode cX6_rectangle 85 = .ok (.aload_n 0, 1) := by decide +kernel
theorem dX6_rectangle_86 : decode cX6_rectangle 86 = .ok (.getfield 10, 3) := by decide +kernel
theorem dX6_rectangle_89 : decode cX6_rectangle 89 = .ok (.getfield 78, 3) := by decide +kernel
theorem dX6_rectangle_92 : decode cX6_rectangle 92 = .ok (.invokevirtual 182, 3) := by decide +kernel
theorem dX6_rectangle_95 : decode cX6_rectangle 95 = .ok (.ireturn, 1) := by decide +kernel
theorem dX6_rectangle_96 : decode cX6_rectangle 96 = .ok (.aload_n 0, 1) := by decide +kernel
theorem dX6_rectangle_97 : decode cX6_rectangle 97 = .ok (.getfield 37, 3) := by decide +kernel
theorem dX6_rectangle_100 : decode cX6_rectangle 100 = .ok (.getfield 186, 3) := by decide +kernel
theorem dX6_rectangle_103 : decode cX6_rectangle 103 = .ok (.iload_n 1, 1) := by decide +kernel
theorem dX6_rectangle_104 : decode cX6_rectangle 104 = .ok (.iaload, 1) := by decide +kernel
theorem dX6_rectangle_105 : decode cX6_rectangle 105 = .ok (.ireturn, 1) := by decide +kernel
theorem dX6_rectangle_106 : decode cX6_rectangle 106 = .ok (.aload_n 0, 1) := by decide +kernel
theorem dX6_rectangle_107 : decode cX6_rectangle 107 = .ok (.getfield 37, 3) := by decide +kernel
theorem dX6_rectangle_110 : decode cX6_rectangle 110 = .ok (.iload_n 1, 1) := by decide +kernel
theorem dX6_rectangle_111 : decode cX6_rectangle 111 = .ok (.iload_n 2, 1) := by decide +kernel
theorem dX6_rectangle_112 : decode cX6_rectangle 112 = .ok (.invokevirtual 189, 3) := by decide +kernel
theorem dX6_rectangle_115 : decode cX6_rectangle 115 = .ok (.ireturn, 1) := by decide +kernel
theorem dX6_container_0 : decode cX6_container 0 = .ok (.iload_n 1, 1) := by decide +kernel
theorem dX6_container_1 : decode cX6_container 1 = .ok (.ifCond .lt 8, 3) := by decide +kernel
theorem dX6_container_4 : decode cX6_container 4 = .ok (.iload_n 1, 1) := by decide +kernel
theorem dX6_container_5 : decode cX6_container 5 = .ok (.iconst 2, 1) := by decide +kernel
theorem dX6_container_6 : decode cX6_container 6 = .ok (.if_icmp .le 5, 3) := by decide +kernel
theorem dX6_container_9 : decode cX6_container 9 = .ok (.iconst (-1), 1) := by decide +kernel
theorem dX6_container_10 : decode cX6_container 10 = .ok (.ireturn, 1) := by decide +kernel
theorem dX6_container_11 : decode cX6_container 11 = .ok (.aload_n 0, 1) := by decide +kernel
theorem dX6_container_12 : decode cX6_container 12 = .ok (.getfield 10, 3) := by decide +kernel
theorem dX6_container_15 : decode cX6_container 15 = .ok (.getfield 55, 3) := by decide +kernel
theorem dX6_container_18 : decode cX6_container 18 = .ok (.iconst 2, 1) := by decide +kernel
theorem dX6_container_19 : decode cX6_container 19 = .ok (.if_icmp .ge 6, 3) := by decide +kernel
theorem dX6_container_22 : decode cX6_container 22 = .ok (.bipush (-9), 2) := by decide +kernel
theorem dX6_container_24 : decode cX6_container 24 = .ok (.ireturn, 1) := by decide +kernel
theorem dX6_container_25 : decode cX6_container 25 = .ok (.iconst (-1), 1) := by decide +kernel
theorem dX6_container_26 : decode cX6_container 26 = .ok (.istore_n 2, 1) := by decide +kernel
theorem dX6_container_27 : decode cX6_container 27 = .ok (.iconst 0, 1) := by decide +kernel
theorem dX6_container_28 : decode cX6_container 28 = .ok (.istore_n 3, 1) := by decide +kernel
theorem dX6_container_29 : decode cX6_container 29 = .ok (.iconst 0, 1) := by decide +kernel
theorem dX6_container_30 : decode cX6_container 30 = .ok (.istore 4, 2) := by decide +kernel
theorem dX6_container_32 : decode cX6_container 32 = .ok (.iconst 0, 1) := by decide +kernel
theorem dX6_container_33 : decode cX6_container 33 = .ok (.istore 5, 2) := by decide +kernel
theorem dX6_container_35 : decode cX6_container 35 = .ok (.iload 5, 2) := by decide +kernel
theorem dX6_container_37 : decode cX6_container 37 = .ok (.aload_n 0, 1) := by decide +kernel
theorem dX6_container_38 : decode cX6_container 38 = .ok (.getfield 10, 3) := by decide +kernel
theorem dX6_container_41 : decode cX6_container 41 = .ok (.getfield 55, 3) := by decide +kernel
theorem dX6_container_44 : decode cX6_container 44 = .ok (.if_icmp .ge 80, 3) := by decide +kernel
