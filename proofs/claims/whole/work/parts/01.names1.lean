theorem inJ10 : ∀ w ∈ wsJ100, w ∈ lw_tbl := by decide +kernel
theorem inJ7 : ∀ w ∈ wsJ70, w ∈ lw_tbl := by decide +kernel
theorem dX0_init_0 : decode cX0_init 0 = .ok (.aload_n 0, 1) := by decide +kernel
theorem dX0_init_1 : decode cX0_init 1 = .ok (.invokespecial 3, 3) := by decide +kernel
theorem dX0_init_4 : decode cX0_init 4 = .ok (.aload_n 0, 1) := by decide +kernel
theorem dX0_init_5 : decode cX0_init 5 = .ok (.bipush 40, 2) := by decide +kernel
theorem dX0_init_7 : decode cX0_init 7 = .ok (.newarray .int, 2) := by decide +kernel
theorem dX0_init_9 : decode cX0_init 9 = .ok (.putfield 9, 3) := by decide +kernel
theorem dX0_init_12 : decode cX0_init 12 = .ok (.aload_n 0, 1) := by decide +kernel
theorem dX0_init_13 : decode cX0_init 13 = .ok (.iconst 0, 1) := by decide +kernel
theorem dX0_init_14 : decode cX0_init 14 = .ok (.putfield 15, 3) := by decide +kernel
theorem dX0_init_17 : decode cX0_init 17 = .ok (.return_, 1) := by decide +kernel
theorem dX0_copyFrom_0 : decode cX0_copyFrom 0 = .ok (.aload_n 1, 1) := by decide +kernel
theorem dX0_copyFrom_1 : decode cX0_copyFrom 1 = .ok (.getfield 9, 3) := by decide +kernel
theorem dX0_copyFrom_4 : decode cX0_copyFrom 4 = .ok (.iconst 0, 1) := by decide +kernel
theorem dX0_copyFrom_5 : decode cX0_copyFrom 5 = .ok (.aload_n 0, 1) := by decide +kernel
theorem dX0_copyFrom_6 : decode cX0_copyFrom 6 = .ok (.getfield 9, 3) := by decide +kernel
theorem dX0_copyFrom_9 : decode cX0_copyFrom 9 = .ok (.iconst 0, 1) := by decide +kernel
theorem dX0_copyFrom_10 : decode cX0_copyFrom 10 = .ok (.aload_n 1, 1) := by decide +kernel
theorem dX0_copyFrom_11 : decode cX0_copyFrom 11 = .ok (.getfield 15, 3) := by decide +kernel
theorem dX0_copyFrom_14 : decode cX0_copyFrom 14 = .ok (.invokestatic 19, 3) := by decide +kernel
theorem dX0_copyFrom_17 : decode cX0_copyFrom 17 = .ok (.aload_n 0, 1) := by decide +kernel
theorem dX0_copyFrom_18 : decode cX0_copyFrom 18 = .ok (.aload_n 1, 1) := by decide +kernel
theorem dX0_copyFrom_19 : decode cX0_copyFrom 19 = .ok (.getfield 15, 3) := by decide +kernel
theorem dX0_copyFrom_22 : decode cX0_copyFrom 22 = .ok (.putfield 15, 3) := by decide +kernel
theorem dX0_copyFrom_25 : decode cX0_copyFrom 25 = .ok (.return_, 1) := by decide +kernel
theorem dX0_has_0 : decode cX0_has 0 = .ok (.iload_n 1, 1) := by decide +kernel
theorem dX0_has_1 : decode cX0_has 1 = .ok (.ifCond .lt 15, 3) := by decide +kernel
theorem dX0_has_4 : decode cX0_has 4 = .ok (.iload_n 1, 1) := by decide +kernel
theorem dX0_has_5 : decode cX0_has 5 = .ok (.aload_n 0, 1) := by decide +kernel
theorem dX0_has_6 : decode cX0_has 6 = .ok (.getfield 15, 3) := by decide +kernel
theorem dX0_has_9 : decode cX0_has 9 = .ok (.if_icmp .ge 7, 3) := by decide +kernel
theorem dX0_has_12 : decode cX0_has 12 = .ok (.iconst 1, 1) := by decide +kernel
theorem dX0_has_13 : decode cX0_has 13 = .ok (.goto 4, 3) := by decide +kernel
theorem dX0_has_16 : decode cX0_has 16 = .ok (.iconst 0, 1) := by decide +kernel
theorem dX0_has_17 : decode cX0_has 17 = .ok (.ireturn, 1) := by decide +kernel
theorem dX0_hasRange_0 : decode cX0_hasRange 0 = .ok (.iload_n 1, 1) := by decide +kernel
theorem dX0_hasRange_1 : decode cX0_hasRange 1 = .ok (.ifCond .lt 20, 3) := by decide +kernel
theorem dX0_hasRange_4 : decode cX0_hasRange 4 = .ok (.iload_n 1, 1) := by decide +kernel
theorem dX0_hasRange_5 : decode cX0_hasRange 5 = .ok (.iload_n 2, 1) := by decide +kernel
theorem dX0_hasRange_6 : decode cX0_hasRange 6 = .ok (.if_icmp .gt 15, 3) := by decide +kernel
theorem dX0_hasRange_9 : decode cX0_hasRange 9 = .ok (.iload_n 2, 1) := by decide +kernel
theorem dX0_hasRange_10 : decode cX0_hasRange 10 = .ok (.aload_n 0, 1) := by decide +kernel
theorem dX0_hasRange_11 : decode cX0_hasRange 11 = .ok (.getfield 15, 3) := by decide +kernel
theorem dX0_hasRange_14 : decode cX0_hasRange 14 = .ok (.if_icmp .ge 7, 3) := by decide +kernel
theorem dX0_hasRange_17 : decode cX0_hasRange 17 = .ok (.iconst 1, 1) := by decide +kernel
theorem dX0_hasRange_18 : decode cX0_hasRange 18 = .ok (.goto 4, 3) := by decide +kernel
theorem dX0_hasRange_21 : decode cX0_hasRange 21 = .ok (.iconst 0, 1) := by decide +kernel
theorem dX0_hasRange_22 : decode cX0_hasRange 22 = .ok (.ireturn, 1) := by decide +kernel
theorem dX0_putIn_0 : decode cX0_putIn 0 = .ok (.aload_n 0, 1) := by decide +kernel
theorem dX0_putIn_1 : decode cX0_putIn 1 = .ok (.getfield 9, 3) := by decide +kernel
theorem dX0_putIn_4 : decode cX0_putIn 4 = .ok (.iload_n 1, 1) := by decide +kernel
theorem dX0_putIn_5 : decode cX0_putIn 5 = .ok (.aload_n 0, 1) := by decide +kernel
theorem dX0_putIn_6 : decode cX0_putIn 6 = .ok (.getfield 9, 3) := by decide +kernel
theorem dX0_putIn_9 : decode cX0_putIn 9 = .ok (.iload_n 1, 1) := by decide +kernel
theorem dX0_putIn_10 : decode cX0_putIn 10 = .ok (.iconst 1, 1) := by decide +kernel
theorem dX0_putIn_11 : decode cX0_putIn 11 = .ok (.iadd, 1) := by decide +kernel
theorem dX0_putIn_12 : decode cX0_putIn 12 = .ok (.aload_n 0, 1) := by decide +kernel
theorem dX0_putIn_13 : decode cX0_putIn 13 = .ok (.getfield 15, 3) := by decide +kernel
theorem dX0_putIn_16 : decode cX0_putIn 16 = .ok (.iload_n 1, 1) := by decide +kernel
theorem dX0_putIn_17 : decode cX0_putIn 17 = .ok (.isub, 1) := by decide +kernel
theorem dX0_putIn_18 : decode cX0_putIn 18 = .ok (.invokestatic 19, 3) := by decide +kernel
theorem dX0_putIn_21 : decode cX0_putIn 21 = .ok (.aload_n 0, 1) := by decide +kernel
theorem dX0_putIn_22 : decode cX0_putIn 22 = .ok (.getfield 9, 3) := by decide +kernel
theorem dX0_putIn_25 : decode cX0_putIn 25 = .ok (.iload_n 1, 1) := by decide +kernel
theorem dX0_putIn_26 : decode cX0_putIn 26 = .ok (.iload_n 2, 1) := by decide +kernel
theorem dX0_putIn_27 : decode cX0_putIn 27 = .ok (.iastore, 1) := by decide +kernel
theorem dX0_putIn_28 : decode cX0_putIn 28 = .ok (.aload_n 0, 1) := by decide +kernel
theorem dX0_putIn_29 : decode cX0_putIn 29 = .ok (.dup, 1) := by decide +kernel
theorem dX0_putIn_30 : decode cX0_putIn 30 = .ok (.getfield 15, 3) := by decide +kernel
theorem dX0_putIn_33 : decode cX0_putIn 33 = .ok (.iconst 1, 1) := by decide +kernel
theorem dX0_putIn_34 : decode cX0_putIn 34 = .ok (.iadd, 1) := by decide +kernel
theorem dX0_putIn_35 : decode cX0_putIn 35 = .ok (.putfield 15, 3) := by decide +kernel
theorem dX0_putIn_38 : decode cX0_putIn 38 = .ok (.return_, 1) := by decide +kernel
theorem dX0_takeOut_0 : decode cX0_takeOut 0 = .ok (.aload_n 0, 1) := by decide +kernel
theorem dX0_takeOut_1 : decode cX0_takeOut 1 = .ok (.getfield 9, 3) := by decide +kernel
theorem dX0_takeOut_4 : decode cX0_takeOut 4 = .ok (.iload_n 1, 1) := by decide +kernel
theorem dX0_takeOut_5 : decode cX0_takeOut 5 = .ok (.iaload, 1) := by decide +kernel
theorem dX0_takeOut_6 : decode cX0_takeOut 6 = .ok (.istore_n 2, 1) := by decide +kernel
theorem dX0_takeOut_7 : decode cX0_takeOut 7 = .ok (.aload_n 0, 1) := by decide +kernel
theorem dX0_takeOut_8 : decode cX0_takeOut 8 = .ok (.getfield 9, 3) := by decide +kernel
theorem dX0_takeOut_11 : decode cX0_takeOut 11 = .ok (.iload_n 1, 1) := by decide +kernel
theorem dX0_takeOut_12 : decode cX0_takeOut 12 = .ok (.iconst 1, 1) := by decide +kernel
theorem dX0_takeOut_13 : decode cX0_takeOut 13 = .ok (.iadd, 1) := by decide +kernel
theorem dX0_takeOut_14 : decode cX0_takeOut 14 = .ok (.aload_n 0, 1) := by decide +kernel
theorem dX0_takeOut_15 : decode cX0_takeOut 15 = .ok (.getfield 9, 3) := by decide +kernel
theorem dX0_takeOut_18 : decode cX0_takeOut 18 = .ok (.iload_n 1, 1) := by decide +kernel
theorem dX0_takeOut_19 : decode cX0_takeOut 19 = .ok (.aload_n 0, 1) := by decide +kernel
theorem dX0_takeOut_20 : decode cX0_takeOut 20 = .ok (.getfield 15, 3) := by decide +kernel
theorem dX0_takeOut_23 : decode cX0_takeOut 23 = .ok (.iload_n 1, 1) := by decide +kernel
theorem dX0_takeOut_24 : decode cX0_takeOut 24 = .ok (.isub, 1) := by decide +kernel
theorem dX0_takeOut_25 : decode cX0_takeOut 25 = .ok (.iconst 1, 1) := by decide +kernel
theorem dX0_takeOut_26 : decode cX0_takeOut 26 = .ok (.isub, 1) := by decide +kernel
theorem dX0_takeOut_27 : decode cX0_takeOut 27 = .ok (.invokestatic 19, 3) := by decide +kernel
theorem dX0_takeOut_30 : decode cX0_takeOut 30 = .ok (.aload_n 0, 1) := by decide +kernel
theorem dX0_takeOut_31 : decode cX0_takeOut 31 = .ok (.dup, 1) := by decide +kernel
theorem dX0_takeOut_32 : decode cX0_takeOut 32 = .ok (.getfield 15, 3) := by decide +kernel
theorem dX0_takeOut_35 : decode cX0_takeOut 35 = .ok (.iconst 1, 1) := by decide +kernel
theorem dX0_takeOut_36 : decode cX0_takeOut 36 = .ok (.isub, 1) := by decide +kernel
theorem dX0_takeOut_37 : decode cX0_takeOut 37 = .ok (.putfield 15, 3) := by decide +kernel
theorem dX0_takeOut_40 : decode cX0_takeOut 40 = .ok (.iload_n 2, 1) := by decide +kernel
theorem dX0_takeOut_41 : decode cX0_takeOut 41 = .ok (.ireturn, 1) := by decide +kernel
theorem dX0_lift_0 : decode cX0_lift 0 = .ok (.iconst 0, 1) := by decide +kernel
theorem dX0_lift_1 : decode cX0_lift 1 = .ok (.istore 4, 2) := by decide +kernel
theorem dX0_lift_3 : decode cX0_lift 3 = .ok (.iload_n 1, 1) := by decide +kernel
theorem dX0_lift_4 : decode cX0_lift 4 = .ok (.istore 5, 2) := by decide +kernel
theorem dX0_lift_6 : decode cX0_lift 6 = .ok (.iload 5, 2) := by decide +kernel
theorem dX0_lift_8 : decode cX0_lift 8 = .ok (.iload_n 2, 1) := by decide +kernel
theorem dX0_lift_9 : decode cX0_lift 9 = .ok (.if_icmp .gt 53, 3) := by decide +kernel
theorem dX0_lift_12 : decode cX0_lift 12 = .ok (.iconst 0, 1) := by decide +kernel
theorem dX0_lift_13 : decode cX0_lift 13 = .ok (.aload_n 0, 1) := by decide +kernel
theorem dX0_lift_14 : decode cX0_lift 14 = .ok (.getfield 9, 3) := by decide +kernel
theorem dX0_lift_17 : decode cX0_lift 17 = .ok (.iload 5, 2) := by decide +kernel
theorem dX0_lift_19 : decode cX0_lift 19 = .ok (.iaload, 1) := by decide +kernel
theorem dX0_lift_20 : decode cX0_lift 20 = .ok (.iload_n 3, 1) := by decide +kernel
theorem dX0_lift_21 : decode cX0_lift 21 = .ok (.iadd, 1) := by decide +kernel
theorem dX0_lift_22 : decode cX0_lift 22 = .ok (.bipush 50, 2) := by decide +kernel
theorem dX0_lift_24 : decode cX0_lift 24 = .ok (.invokestatic 25, 3) := by decide +kernel
theorem dX0_lift_27 : decode cX0_lift 27 = .ok (.invokestatic 31, 3) := by decide +kernel
theorem dX0_lift_30 : decode cX0_lift 30 = .ok (.istore 6, 2) := by decide +kernel
theorem dX0_lift_32 : decode cX0_lift 32 = .ok (.iload 6, 2) := by decide +kernel
theorem dX0_lift_34 : decode cX0_lift 34 = .ok (.aload_n 0, 1) := by decide +kernel
theorem dX0_lift_35 : decode cX0_lift 35 = .ok (.getfield 9, 3) := by decide +kernel
theorem dX0_lift_38 : decode cX0_lift 38 = .ok (.iload 5, 2) := by decide +kernel
theorem dX0_lift_40 : decode cX0_lift 40 = .ok (.iaload, 1) := by decide +kernel
theorem dX0_lift_41 : decode cX0_lift 41 = .ok (.if_icmp .eq 15, 3) := by decide +kernel
theorem dX0_lift_44 : decode cX0_lift 44 = .ok (.aload_n 0, 1) := by decide +kernel
theorem dX0_lift_45 : decode cX0_lift 45 = .ok (.getfield 9, 3) := by decide +kernel
theorem dX0_lift_48 : decode cX0_lift 48 = .ok (.iload 5, 2) := by decide +kernel
theorem dX0_lift_50 : decode cX0_lift 50 = .ok (.iload 6, 2) := by decide +kernel
theorem dX0_lift_52 : decode cX0_lift 52 = .ok (.iastore, 1) := by decide +kernel
theorem dX0_lift_53 : decode cX0_lift 53 = .ok (.iinc 4 1, 3) := by decide +kernel
theorem dX0_lift_56 : decode cX0_lift 56 = .ok (.iinc 5 1, 3) := by decide +kernel
theorem dX0_lift_59 : decode cX0_lift 59 = .ok (.goto (-53), 3) := by decide +kernel
theorem dX0_lift_62 : decode cX0_lift 62 = .ok (.iload 4, 2) := by decide +kernel
theorem dX0_lift_64 : decode cX0_lift 64 = .ok (.ireturn, 1) := by decide +kernel
set_option maxRecDepth 20000 in
theorem ggX0_mirror_X0_exchange : GoodIn wsX0_mirror wsX0_exchange := goodIn_r _ [6, 1, 7, 8] (by decide +kernel) (by decide +kernel)
set_option maxRecDepth 20000 in
theorem gX0_mirror_X0_exchange : GoodIn wsX0_mirror (wsV RX0 34 RX0 yX0_exchange wsX0_exchange) := goodIn_app (goodIn_of _ (by decide +kernel)) ggX0_mirror_X0_exchange
theorem dX0_mirror_0 : decode cX0_mirror 0 = .ok (.iconst 0, 1) := by decide +kernel
theorem dX0_mirror_1 : decode cX0_mirror 1 = .ok (.istore_n 3, 1) := by decide +kernel
theorem dX0_mirror_2 : decode cX0_mirror 2 = .ok (.iload_n 1, 1) := by decide +kernel
theorem dX0_mirror_3 : decode cX0_mirror 3 = .ok (.istore 4, 2) := by decide +kernel
theorem dX0_mirror_5 : decode cX0_mirror 5 = .ok (.iload_n 2, 1) := by decide +kernel
theorem dX0_mirror_6 : decode cX0_mirror 6 = .ok (.istore 5, 2) := by decide +kernel
theorem dX0_mirror_8 : decode cX0_mirror 8 = .ok (.iload 4, 2) := by decide +kernel
theorem dX0_mirror_10 : decode cX0_mirror 10 = .ok (.iload 5, 2) := by decide +kernel
theorem dX0_mirror_12 : decode cX0_mirror 12 = .ok (.if_icmp .ge 40, 3) := by decide +kernel
theorem dX0_mirror_15 : decode cX0_mirror 15 = .ok (.aload_n 0, 1) := by decide +kernel
theorem dX0_mirror_16 : decode cX0_mirror 16 = .ok (.getfield 9, 3) := by decide +kernel
theorem dX0_mirror_19 : decode cX0_mirror 19 = .ok (.iload 4, 2) := by decide +kernel
theorem dX0_mirror_21 : decode cX0_mirror 21 = .ok (.iaload, 1) := by decide +kernel
theorem dX0_mirror_22 : decode cX0_mirror 22 = .ok (.aload_n 0, 1) := by decide +kernel
theorem dX0_mirror_23 : decode cX0_mirror 23 = .ok (.getfield 9, 3) := by decide +kernel
theorem dX0_mirror_26 : decode cX0_mirror 26 = .ok (.iload 5, 2) := by decide +kernel
theorem dX0_mirror_28 : decode cX0_mirror 28 = .ok (.iaload, 1) := by decide +kernel
theorem dX0_mirror_29 : decode cX0_mirror 29 = .ok (.if_icmp .eq 14, 3) := by decide +kernel
theorem dX0_mirror_32 : decode cX0_mirror 32 = .ok (.aload_n 0, 1) := by decide +kernel
theorem dX0_mirror_33 : decode cX0_mirror 33 = .ok (.iload 4, 2) := by decide +kernel
theorem dX0_mirror_35 : decode cX0_mirror 35 = .ok (.iload 5, 2) := by decide +kernel
theorem dX0_mirror_37 : decode cX0_mirror 37 = .ok (.invokevirtual 34, 3) := by decide +kernel
theorem dX0_mirror_40 : decode cX0_mirror 40 = .ok (.iinc 3 2, 3) := by decide +kernel
theorem dX0_mirror_43 : decode cX0_mirror 43 = .ok (.iinc 4 1, 3) := by decide +kernel
theorem dX0_mirror_46 : decode cX0_mirror 46 = .ok (.iinc 5 (-1), 3) := by decide +kernel
theorem dX0_mirror_49 : decode cX0_mirror 49 = .ok (.goto (-41), 3) := by decide +kernel
theorem dX0_mirror_52 : decode cX0_mirror 52 = .ok (.iload_n 3, 1) := by decide +kernel
theorem dX0_mirror_53 : decode cX0_mirror 53 = .ok (.ireturn, 1) := by decide +kernel
set_option maxRecDepth 20000 in
theorem ggX0_arrange_X0_isWrong : GoodIn wsX0_arrange wsX0_isWrong := goodIn_r _ [5] (by decide +kernel) (by decide +kernel)
set_option maxRecDepth 20000 in
theorem gX0_arrange_X0_isWrong : GoodIn wsX0_arrange (va_wsS RX0 38 yX0_isWrong wsX0_isWrong) := goodIn_app (goodIn_of _ (by decide +kernel)) ggX0_arrange_X0_isWrong
set_option maxRecDepth 20000 in
theorem ggX0_arrange_X0_exchange : GoodIn wsX0_arrange wsX0_exchange := goodIn_r _ [9, 1, 10, 11] (by decide +kernel) (by decide +kernel)
set_option maxRecDepth 20000 in
theorem gX0_arrange_X0_exchange : GoodIn wsX0_arrange (wsV RX0 34 RX0 yX0_exchange wsX0_exchange) := goodIn_app (goodIn_of _ (by decide +kernel)) ggX0_arrange_X0_exchange
theorem dX0_arrange_0 : decode cX0_arrange 0 = .ok (.iconst 0, 1) := by decide +kernel
theorem dX0_arrange_1 : decode cX0_arrange 1 = .ok (.istore 4, 2) := by decide +kernel
theorem dX0_arrange_3 : decode cX0_arrange 3 = .ok (.iload_n 1, 1) := by decide +kernel
theorem dX0_arrange_4 : decode cX0_arrange 4 = .ok (.iconst 1, 1) := by decide +kernel
theorem dX0_arrange_5 : decode cX0_arrange 5 = .ok (.iadd, 1) := by decide +kernel
theorem dX0_arrange_6 : decode cX0_arrange 6 = .ok (.istore 5, 2) := by decide +kernel
theorem dX0_arrange_8 : decode cX0_arrange 8 = .ok (.iload 5, 2) := by decide +kernel
theorem dX0_arrange_10 : decode cX0_arrange 10 = .ok (.iload_n 2, 1) := by decide +kernel
theorem dX0_arrange_11 : decode cX0_arrange 11 = .ok (.if_icmp .gt 61, 3) := by decide +kernel
theorem dX0_arrange_14 : decode cX0_arrange 14 = .ok (.iload 5, 2) := by decide +kernel
theorem dX0_arrange_16 : decode cX0_arrange 16 = .ok (.istore 6, 2) := by decide +kernel
theorem dX0_arrange_18 : decode cX0_arrange 18 = .ok (.iload 6, 2) := by decide +kernel
theorem dX0_arrange_20 : decode cX0_arrange 20 = .ok (.iload_n 1, 1) := by decide +kernel
theorem dX0_arrange_21 : decode cX0_arrange 21 = .ok (.if_icmp .le 45, 3) := by decide +kernel
theorem dX0_arrange_24 : decode cX0_arrange 24 = .ok (.aload_n 0, 1) := by decide +kernel
theorem dX0_arrange_25 : decode cX0_arrange 25 = .ok (.getfield 9, 3) := by decide +kernel
theorem dX0_arrange_28 : decode cX0_arrange 28 = .ok (.iload 6, 2) := by decide +kernel
theorem dX0_arrange_30 : decode cX0_arrange 30 = .ok (.iconst 1, 1) := by decide +kernel
theorem dX0_arrange_31 : decode cX0_arrange 31 = .ok (.isub, 1) := by decide +kernel
theorem dX0_arrange_32 : decode cX0_arrange 32 = .ok (.iaload, 1) := by decide +kernel
theorem dX0_arrange_33 : decode cX0_arrange 33 = .ok (.aload_n 0, 1) := by decide +kernel
theorem dX0_arrange_34 : decode cX0_arrange 34 = .ok (.getfield 9, 3) := by decide +kernel
theorem dX0_arrange_37 : decode cX0_arrange 37 = .ok (.iload 6, 2) := by decide +kernel
theorem dX0_arrange_39 : decode cX0_arrange 39 = .ok (.iaload, 1) := by decide +kernel
theorem dX0_arrange_40 : decode cX0_arrange 40 = .ok (.iload_n 3, 1) := by decide +kernel
theorem dX0_arrange_41 : decode cX0_arrange 41 = .ok (.invokestatic 38, 3) := by decide +kernel
theorem dX0_arrange_44 : decode cX0_arrange 44 = .ok (.ifCond .eq 22, 3) := by decide +kernel
theorem dX0_arrange_47 : decode cX0_arrange 47 = .ok (.aload_n 0, 1) := by decide +kernel
theorem dX0_arrange_48 : decode cX0_arrange 48 = .ok (.iload 6, 2) := by decide +kernel
theorem dX0_arrange_50 : decode cX0_arrange 50 = .ok (.iconst 1, 1) := by decide +kernel
theorem dX0_arrange_51 : decode cX0_arrange 51 = .ok (.isub, 1) := by decide +kernel
theorem dX0_arrange_52 : decode cX0_arrange 52 = .ok (.iload 6, 2) := by decide +kernel
theorem dX0_arrange_54 : decode cX0_arrange 54 = .ok (.invokevirtual 34, 3) := by decide +kernel
theorem dX0_arrange_57 : decode cX0_arrange 57 = .ok (.iinc 4 1, 3) := by decide +kernel
theorem dX0_arrange_60 : decode cX0_arrange 60 = .ok (.iinc 6 (-1), 3) := by decide +kernel
theorem dX0_arrange_63 : decode cX0_arrange 63 = .ok (.goto (-45), 3) := by decide +kernel
theorem dX0_arrange_66 : decode cX0_arrange 66 = .ok (.iinc 5 1, 3) := by decide +kernel
theorem dX0_arrange_69 : decode cX0_arrange 69 = .ok (.goto (-61), 3) := by decide +kernel
theorem dX0_arrange_72 : decode cX0_arrange 72 = .ok (.iload 4, 2) := by decide +kernel
theorem dX0_arrange_74 : decode cX0_arrange 74 = .ok (.ireturn, 1) := by decide +kernel
theorem dX0_isWrong_0 : decode cX0_isWrong 0 = .ok (.iload_n 2, 1) := by decide +kernel
theorem dX0_isWrong_1 : decode cX0_isWrong 1 = .ok (.ifCond .eq 16, 3) := by decide +kernel
theorem dX0_isWrong_4 : decode cX0_isWrong 4 = .ok (.iload_n 0, 1) := by decide +kernel
theorem dX0_isWrong_5 : decode cX0_isWrong 5 = .ok (.iload_n 1, 1) := by decide +kernel
theorem dX0_isWrong_6 : decode cX0_isWrong 6 = .ok (.if_icmp .le 7, 3) := by decide +kernel
theorem dX0_isWrong_9 : decode cX0_isWrong 9 = .ok (.iconst 1, 1) := by decide +kernel
theorem dX0_isWrong_10 : decode cX0_isWrong 10 = .ok (.goto 17, 3) := by decide +kernel
theorem dX0_isWrong_13 : decode cX0_isWrong 13 = .ok (.iconst 0, 1) := by decide +kernel
theorem dX0_isWrong_14 : decode cX0_isWrong 14 = .ok (.goto 13, 3) := by decide +kernel
theorem dX0_isWrong_17 : decode cX0_isWrong 17 = .ok (.iload_n 0, 1) := by decide +kernel
theorem dX0_isWrong_18 : decode cX0_isWrong 18 = .ok (.iload_n 1, 1) := by decide +kernel
theorem dX0_isWrong_19 : decode cX0_isWrong 19 = .ok (.if_icmp .ge 7, 3) := by decide +kernel
theorem dX0_isWrong_22 : decode cX0_isWrong 22 = .ok (.iconst 1, 1) := by decide +kernel
theorem dX0_isWrong_23 : decode cX0_isWrong 23 = .ok (.goto 4, 3) := by decide +kernel
theorem dX0_isWrong_26 : decode cX0_isWrong 26 = .ok (.iconst 0, 1) := by decide +kernel
theorem dX0_isWrong_27 : decode cX0_isWrong 27 = .ok (.ireturn, 1) := by decide +kernel
theorem dX0_exchange_0 : decode cX0_exchange 0 = .ok (.aload_n 0, 1) := by decide +kernel
theorem dX0_exchange_1 : decode cX0_exchange 1 = .ok (.getfield 9, 3) := by decide +kernel
theorem dX0_exchange_4 : decode cX0_exchange 4 = .ok (.iload_n 1, 1) := by decide +kernel
theorem dX0_exchange_5 : decode cX0_exchange 5 = .ok (.iaload, 1) := by decide +kernel
theorem dX0_exchange_6 : decode cX0_exchange 6 = .ok (.istore_n 3, 1) := by decide +kernel
theorem dX0_exchange_7 : decode cX0_exchange 7 = .ok (.aload_n 0, 1) := by decide +kernel
theorem dX0_exchange_8 : decode cX0_exchange 8 = .ok (.getfield 9, 3) := by decide +kernel
theorem dX0_exchange_11 : decode cX0_exchange 11 = .ok (.iload_n 1, 1) := by decide +kernel
theorem dX0_exchange_12 : decode cX0_exchange 12 = .ok (.aload_n 0, 1) := by decide +kernel
theorem dX0_exchange_13 : decode cX0_exchange 13 = .ok (.getfield 9, 3) := by decide +kernel
theorem dX0_exchange_16 : decode cX0_exchange 16 = .ok (.iload_n 2, 1) := by decide +kernel
theorem dX0_exchange_17 : decode cX0_exchange 17 = .ok (.iaload, 1) := by decide +kernel
theorem dX0_exchange_18 : decode cX0_exchange 18 = .ok (.iastore, 1) := by decide +kernel
theorem dX0_exchange_19 : decode cX0_exchange 19 = .ok (.aload_n 0, 1) := by decide +kernel
theorem dX0_exchange_20 : decode cX0_exchange 20 = .ok (.getfield 9, 3) := by decide +kernel
theorem dX0_exchange_23 : decode cX0_exchange 23 = .ok (.iload_n 2, 1) := by decide +kernel
theorem dX0_exchange_24 : decode cX0_exchange 24 = .ok (.iload_n 3, 1) := by decide +kernel
theorem dX0_exchange_25 : decode cX0_exchange 25 = .ok (.iastore, 1) := by decide +kernel
theorem dX0_exchange_26 : decode cX0_exchange 26 = .ok (.return_, 1) := by decide +kernel
set_option maxRecDepth 20000 in
theorem ggX0_greatestHeight_X6_lowestGreatest : GoodIn wsX0_greatestHeight wsX6_lowestGreatest := goodIn_r _ [5] (by decide +kernel) (by decide +kernel)
set_option maxRecDepth 20000 in
theorem gX0_greatestHeight_X6_lowestGreatest_n42 : GoodIn wsX0_greatestHeight (wsX6_lowestGreatest) := ggX0_greatestHeight_X6_lowestGreatest
theorem dX0_greatestHeight_0 : decode cX0_greatestHeight 0 = .ok (.aload_n 0, 1) := by decide +kernel
theorem dX0_greatestHeight_1 : decode cX0_greatestHeight 1 = .ok (.getfield 15, 3) := by decide +kernel
theorem dX0_greatestHeight_4 : decode cX0_greatestHeight 4 = .ok (.ifCond .ne 7, 3) := by decide +kernel
theorem dX0_greatestHeight_7 : decode cX0_greatestHeight 7 = .ok (.iconst 0, 1) := by decide +kernel
theorem dX0_greatestHeight_8 : decode cX0_greatestHeight 8 = .ok (.goto 22, 3) := by decide +kernel
theorem dX0_greatestHeight_11 : decode cX0_greatestHeight 11 = .ok (.aload_n 0, 1) := by decide +kernel
theorem dX0_greatestHeight_12 : decode cX0_greatestHeight 12 = .ok (.getfield 9, 3) := by decide +kernel
theorem dX0_greatestHeight_15 : decode cX0_greatestHeight 15 = .ok (.aload_n 0, 1) := by decide +kernel
theorem dX0_greatestHeight_16 : decode cX0_greatestHeight 16 = .ok (.getfield 9, 3) := by decide +kernel
theorem dX0_greatestHeight_19 : decode cX0_greatestHeight 19 = .ok (.iconst 0, 1) := by decide +kernel
theorem dX0_greatestHeight_20 : decode cX0_greatestHeight 20 = .ok (.aload_n 0, 1) := by decide +kernel
theorem dX0_greatestHeight_21 : decode cX0_greatestHeight 21 = .ok (.getfield 15, 3) := by decide +kernel
theorem dX0_greatestHeight_24 : decode cX0_greatestHeight 24 = .ok (.iconst 1, 1) := by decide +kernel
theorem dX0_greatestHeight_25 : decode cX0_greatestHeight 25 = .ok (.isub, 1) := by decide +kernel
theorem dX0_greatestHeight_26 : decode cX0_greatestHeight 26 = .ok (.invokestatic 42, 3) := by decide +kernel
theorem dX0_greatestHeight_29 : decode cX0_greatestHeight 29 = .ok (.iaload, 1) := by decide +kernel
theorem dX0_greatestHeight_30 : decode cX0_greatestHeight 30 = .ok (.ireturn, 1) := by decide +kernel
theorem dX0_countSeen_0 : decode cX0_countSeen 0 = .ok (.iconst 0, 1) := by decide +kernel
theorem dX0_countSeen_1 : decode cX0_countSeen 1 = .ok (.istore_n 2, 1) := by decide +kernel
theorem dX0_countSeen_2 : decode cX0_countSeen 2 = .ok (.iconst (-1), 1) := by decide +kernel
theorem dX0_countSeen_3 : decode cX0_countSeen 3 = .ok (.istore_n 3, 1) := by decide +kernel
theorem dX0_countSeen_4 : decode cX0_countSeen 4 = .ok (.iconst 0, 1) := by decide +kernel
theorem dX0_countSeen_5 : decode cX0_countSeen 5 = .ok (.istore 4, 2) := by decide +kernel
theorem dX0_countSeen_7 : decode cX0_countSeen 7 = .ok (.iload 4, 2) := by decide +kernel
theorem dX0_countSeen_9 : decode cX0_countSeen 9 = .ok (.aload_n 0, 1) := by decide +kernel
theorem dX0_countSeen_10 : decode cX0_countSeen 10 = .ok (.getfield 15, 3) := by decide +kernel
theorem dX0_countSeen_13 : decode cX0_countSeen 13 = .ok (.if_icmp .ge 51, 3) := by decide +kernel
theorem dX0_countSeen_16 : decode cX0_countSeen 16 = .ok (.iload_n 1, 1) := by decide +kernel
theorem dX0_countSeen_17 : decode cX0_countSeen 17 = .ok (.ifCond .eq 8, 3) := by decide +kernel
theorem dX0_countSeen_20 : decode cX0_countSeen 20 = .ok (.iload 4, 2) := by decide +kernel
theorem dX0_countSeen_22 : decode cX0_countSeen 22 = .ok (.goto 12, 3) := by decide +kernel
theorem dX0_countSeen_25 : decode cX0_countSeen 25 = .ok (.aload_n 0, 1) := by decide +kernel
theorem dX0_countSeen_26 : decode cX0_countSeen 26 = .ok (.getfield 15, 3) := by decide +kernel
theorem dX0_countSeen_29 : decode cX0_countSeen 29 = .ok (.iconst 1, 1) := by decide +kernel
theorem dX0_countSeen_30 : decode cX0_countSeen 30 = .ok (.isub, 1) := by decide +kernel
theorem dX0_countSeen_31 : decode cX0_countSeen 31 = .ok (.iload 4, 2) := by decide +kernel
theorem dX0_countSeen_33 : decode cX0_countSeen 33 = .ok (.isub, 1) := by decide +kernel
theorem dX0_countSeen_34 : decode cX0_countSeen 34 = .ok (.istore 5, 2) := by decide +kernel
theorem dX0_countSeen_36 : decode cX0_countSeen 36 = .ok (.aload_n 0, 1) := by decide +kernel
theorem dX0_countSeen_37 : decode cX0_countSeen 37 = .ok (.getfield 9, 3) := by decide +kernel
theorem dX0_countSeen_40 : decode cX0_countSeen 40 = .ok (.iload 5, 2) := by decide +kernel
theorem dX0_countSeen_42 : decode cX0_countSeen 42 = .ok (.iaload, 1) := by decide +kernel
theorem dX0_countSeen_43 : decode cX0_countSeen 43 = .ok (.iload_n 3, 1) := by decide +kernel
theorem dX0_countSeen_44 : decode cX0_countSeen 44 = .ok (.if_icmp .le 14, 3) := by decide +kernel
theorem dX0_countSeen_47 : decode cX0_countSeen 47 = .ok (.aload_n 0, 1) := by decide +kernel
theorem dX0_countSeen_48 : decode cX0_countSeen 48 = .ok (.getfield 9, 3) := by decide +kernel
theorem dX0_countSeen_51 : decode cX0_countSeen 51 = .ok (.iload 5, 2) := by decide +kernel
theorem dX0_countSeen_53 : decode cX0_countSeen 53 = .ok (.iaload, 1) := by decide +kernel
theorem dX0_countSeen_54 : decode cX0_countSeen 54 = .ok (.istore_n 3, 1) := by decide +kernel
theorem dX0_countSeen_55 : decode cX0_countSeen 55 = .ok (.iinc 2 1, 3) := by decide +kernel
theorem dX0_countSeen_58 : decode cX0_countSeen 58 = .ok (.iinc 4 1, 3) := by decide +kernel
theorem dX0_countSeen_61 : decode cX0_countSeen 61 = .ok (.goto (-54), 3) := by decide +kernel
theorem dX0_countSeen_64 : decode cX0_countSeen 64 = .ok (.iload_n 2, 1) := by decide +kernel
theorem dX0_countSeen_65 : decode cX0_countSeen 65 = .ok (.ireturn, 1) := by decide +kernel
theorem dX0_countRises_0 : decode cX0_countRises 0 = .ok (.iconst 0, 1) := by decide +kernel
theorem dX0_countRises_1 : decode cX0_countRises 1 = .ok (.istore_n 1, 1) := by decide +kernel
theorem dX0_countRises_2 : decode cX0_countRises 2 = .ok (.iconst 0, 1) := by decide +kernel
theorem dX0_countRises_3 : decode cX0_countRises 3 = .ok (.istore_n 2, 1) := by decide +kernel
theorem dX0_countRises_4 : decode cX0_countRises 4 = .ok (.iconst 0, 1) := by decide +kernel
theorem dX0_countRises_5 : decode cX0_countRises 5 = .ok (.istore_n 3, 1) := by decide +kernel
theorem dX0_countRises_6 : decode cX0_countRises 6 = .ok (.iload_n 3, 1) := by decide +kernel
theorem dX0_countRises_7 : decode cX0_countRises 7 = .ok (.aload_n 0, 1) := by decide +kernel
theorem dX0_countRises_8 : decode cX0_countRises 8 = .ok (.getfield 15, 3) := by decide +kernel
theorem dX0_countRises_11 : decode cX0_countRises 11 = .ok (.if_icmp .ge 31, 3) := by decide +kernel
theorem dX0_countRises_14 : decode cX0_countRises 14 = .ok (.iload_n 1, 1) := by decide +kernel
theorem dX0_countRises_15 : decode cX0_countRises 15 = .ok (.iconst 0, 1) := by decide +kernel
theorem dX0_countRises_16 : decode cX0_countRises 16 = .ok (.aload_n 0, 1) := by decide +kernel
theorem dX0_countRises_17 : decode cX0_countRises 17 = .ok (.getfield 9, 3) := by decide +kernel
theorem dX0_countRises_20 : decode cX0_countRises 20 = .ok (.iload_n 3, 1) := by decide +kernel
theorem dX0_countRises_21 : decode cX0_countRises 21 = .ok (.iaload, 1) := by decide +kernel
theorem dX0_countRises_22 : decode cX0_countRises 22 = .ok (.iload_n 2, 1) := by decide +kernel
theorem dX0_countRises_23 : decode cX0_countRises 23 = .ok (.isub, 1) := by decide +kernel
theorem dX0_countRises_24 : decode cX0_countRises 24 = .ok (.invokestatic 31, 3) := by decide +kernel
theorem dX0_countRises_27 : decode cX0_countRises 27 = .ok (.iadd, 1) := by decide +kernel
theorem dX0_countRises_28 : decode cX0_countRises 28 = .ok (.istore_n 1, 1) := by decide +kernel
theorem dX0_countRises_29 : decode cX0_countRises 29 = .ok (.aload_n 0, 1) := by decide +kernel
theorem dX0_countRises_30 : decode cX0_countRises 30 = .ok (.getfield 9, 3) := by decide +kernel
theorem dX0_countRises_33 : decode cX0_countRises 33 = .ok (.iload_n 3, 1) := by decide +kernel
theorem dX0_countRises_34 : decode cX0_countRises 34 = .ok (.iaload, 1) := by decide +kernel
theorem dX0_countRises_35 : decode cX0_countRises 35 = .ok (.istore_n 2, 1) := by decide +kernel
theorem dX0_countRises_36 : decode cX0_countRises 36 = .ok (.iinc 3 1, 3) := by decide +kernel
theorem dX0_countRises_39 : decode cX0_countRises 39 = .ok (.goto (-33), 3) := by decide +kernel
theorem dX0_countRises_42 : decode cX0_countRises 42 = .ok (.iload_n 1, 1) := by decide +kernel
theorem dX0_countRises_43 : decode cX0_countRises 43 = .ok (.ireturn, 1) := by decide +kernel
theorem dX0_smallerToLeft_0 : decode cX0_smallerToLeft 0 = .ok (.iload_n 1, 1) := by decide +kernel
theorem dX0_smallerToLeft_1 : decode cX0_smallerToLeft 1 = .ok (.iconst 1, 1) := by decide +kernel
theorem dX0_smallerToLeft_2 : decode cX0_smallerToLeft 2 = .ok (.isub, 1) := by decide +kernel
theorem dX0_smallerToLeft_3 : decode cX0_smallerToLeft 3 = .ok (.istore_n 2, 1) := by decide +kernel
theorem dX0_smallerToLeft_4 : decode cX0_smallerToLeft 4 = .ok (.iload_n 2, 1) := by decide +kernel
theorem dX0_smallerToLeft_5 : decode cX0_smallerToLeft 5 = .ok (.ifCond .lt 26, 3) := by decide +kernel
theorem dX0_smallerToLeft_8 : decode cX0_smallerToLeft 8 = .ok (.aload_n 0, 1) := by decide +kernel
theorem dX0_smallerToLeft_9 : decode cX0_smallerToLeft 9 = .ok (.getfield 9, 3) := by decide +kernel
theorem dX0_smallerToLeft_12 : decode cX0_smallerToLeft 12 = .ok (.iload_n 2, 1) := by decide +kernel
theorem dX0_smallerToLeft_13 : decode cX0_smallerToLeft 13 = .ok (.iaload, 1) := by decide +kernel
theorem dX0_smallerToLeft_14 : decode cX0_smallerToLeft 14 = .ok (.aload_n 0, 1) := by decide +kernel
theorem dX0_smallerToLeft_15 : decode cX0_smallerToLeft 15 = .ok (.getfield 9, 3) := by decide +kernel
theorem dX0_smallerToLeft_18 : decode cX0_smallerToLeft 18 = .ok (.iload_n 1, 1) := by decide +kernel
theorem dX0_smallerToLeft_19 : decode cX0_smallerToLeft 19 = .ok (.iaload, 1) := by decide +kernel
theorem dX0_smallerToLeft_20 : decode cX0_smallerToLeft 20 = .ok (.if_icmp .ge 5, 3) := by decide +kernel
theorem dX0_smallerToLeft_23 : decode cX0_smallerToLeft 23 = .ok (.iload_n 2, 1) := by decide +kernel
theorem dX0_smallerToLeft_24 : decode cX0_smallerToLeft 24 = .ok (.ireturn, 1) := by decide +kernel
theorem dX0_smallerToLeft_25 : decode cX0_smallerToLeft 25 = .ok (.iinc 2 (-1), 3) := by decide +kernel
theorem dX0_smallerToLeft_28 : decode cX0_smallerToLeft 28 = .ok (.goto (-24), 3) := by decide +kernel
theorem dX0_smallerToLeft_31 : decode cX0_smallerToLeft 31 = .ok (.bipush (-9), 2) := by decide +kernel
theorem dX0_smallerToLeft_33 : decode cX0_smallerToLeft 33 = .ok (.ireturn, 1) := by decide +kernel
theorem dX0_smallerToRight_0 : decode cX0_smallerToRight 0 = .ok (.iload_n 1, 1) := by decide +kernel
theorem dX0_smallerToRight_1 : decode cX0_smallerToRight 1 = .ok (.iconst 1, 1) := by decide +kernel
theorem dX0_smallerToRight_2 : decode cX0_smallerToRight 2 = .ok (.iadd, 1) := by decide +kernel
theorem dX0_smallerToRight_3 : decode cX0_smallerToRight 3 = .ok (.istore_n 2, 1) := by decide +kernel
theorem dX0_smallerToRight_4 : decode cX0_smallerToRight 4 = .ok (.iload_n 2, 1) := by decide +kernel
theorem dX0_smallerToRight_5 : decode cX0_smallerToRight 5 = .ok (.aload_n 0, 1) := by decide +kernel
theorem dX0_smallerToRight_6 : decode cX0_smallerToRight 6 = .ok (.getfield 15, 3) := by decide +kernel
theorem dX0_smallerToRight_9 : decode cX0_smallerToRight 9 = .ok (.if_icmp .ge 26, 3) := by decide +kernel
theorem dX0_smallerToRight_12 : decode cX0_smallerToRight 12 = .ok (.aload_n 0, 1) := by decide +kernel
theorem dX0_smallerToRight_13 : decode cX0_smallerToRight 13 = .ok (.getfield 9, 3) := by decide +kernel
theorem dX0_smallerToRight_16 : decode cX0_smallerToRight 16 = .ok (.iload_n 2, 1) := by decide +kernel
theorem dX0_smallerToRight_17 : decode cX0_smallerToRight 17 = .ok (.iaload, 1) := by decide +kernel
theorem dX0_smallerToRight_18 : decode cX0_smallerToRight 18 = .ok (.aload_n 0, 1) := by decide +kernel
theorem dX0_smallerToRight_19 : decode cX0_smallerToRight 19 = .ok (.getfield 9, 3) := by decide +kernel
theorem dX0_smallerToRight_22 : decode cX0_smallerToRight 22 = .ok (.iload_n 1, 1) := by decide +kernel
theorem dX0_smallerToRight_23 : decode cX0_smallerToRight 23 = .ok (.iaload, 1) := by decide +kernel
theorem dX0_smallerToRight_24 : decode cX0_smallerToRight 24 = .ok (.if_icmp .ge 5, 3) := by decide +kernel
theorem dX0_smallerToRight_27 : decode cX0_smallerToRight 27 = .ok (.iload_n 2, 1) := by decide +kernel
theorem dX0_smallerToRight_28 : decode cX0_smallerToRight 28 = .ok (.ireturn, 1) := by decide +kernel
theorem dX0_smallerToRight_29 : decode cX0_smallerToRight 29 = .ok (.iinc 2 1, 3) := by decide +kernel
theorem dX0_smallerToRight_32 : decode cX0_smallerToRight 32 = .ok (.goto (-28), 3) := by decide +kernel
theorem dX0_smallerToRight_35 : decode cX0_smallerToRight 35 = .ok (.bipush (-9), 2) := by decide +kernel
theorem dX0_smallerToRight_37 : decode cX0_smallerToRight 37 = .ok (.ireturn, 1) := by decide +kernel
theorem dX0_greaterToLeft_0 : decode cX0_greaterToLeft 0 = .ok (.iload_n 1, 1) := by decide +kernel
theorem dX0_greaterToLeft_1 : decode cX0_greaterToLeft 1 = .ok (.iconst 1, 1) := by decide +kernel
theorem dX0_greaterToLeft_2 : decode cX0_greaterToLeft 2 = .ok (.isub, 1) := by decide +kernel
theorem dX0_greaterToLeft_3 : decode cX0_greaterToLeft 3 = .ok (.istore_n 2, 1) := by decide +kernel
theorem dX0_greaterToLeft_4 : decode cX0_greaterToLeft 4 = .ok (.iload_n 2, 1) := by decide +kernel
theorem dX0_greaterToLeft_5 : decode cX0_greaterToLeft 5 = .ok (.ifCond .lt 26, 3) := by decide +kernel
theorem dX0_greaterToLeft_8 : decode cX0_greaterToLeft 8 = .ok (.aload_n 0, 1) := by decide +kernel
theorem dX0_greaterToLeft_9 : decode cX0_greaterToLeft 9 = .ok (.getfield 9, 3) := by decide +kernel
theorem dX0_greaterToLeft_12 : decode cX0_greaterToLeft 12 = .ok (.iload_n 2, 1) := by decide +kernel
theorem dX0_greaterToLeft_13 : decode cX0_greaterToLeft 13 = .ok (.iaload, 1) := by decide +kernel
theorem dX0_greaterToLeft_14 : decode cX0_greaterToLeft 14 = .ok (.aload_n 0, 1) := by decide +kernel
theorem dX0_greaterToLeft_15 : decode cX0_greaterToLeft 15 = .ok (.getfield 9, 3) := by decide +kernel
theorem dX0_greaterToLeft_18 : decode cX0_greaterToLeft 18 = .ok (.iload_n 1, 1) := by decide +kernel
theorem dX0_greaterToLeft_19 : decode cX0_greaterToLeft 19 = .ok (.iaload, 1) := by decide +kernel
theorem dX0_greaterToLeft_20 : decode cX0_greaterToLeft 20 = .ok (.if_icmp .le 5, 3) := by decide +kernel
theorem dX0_greaterToLeft_23 : decode cX0_greaterToLeft 23 = .ok (.iload_n 2, 1) := by decide +kernel
theorem dX0_greaterToLeft_24 : decode cX0_greaterToLeft 24 = .ok (.ireturn, 1) := by decide +kernel
theorem dX0_greaterToLeft_25 : decode cX0_greaterToLeft 25 = .ok (.iinc 2 (-1), 3) := by decide +kernel
theorem dX0_greaterToLeft_28 : decode cX0_greaterToLeft 28 = .ok (.goto (-24), 3) := by decide +kernel
theorem dX0_greaterToLeft_31 : decode cX0_greaterToLeft 31 = .ok (.bipush (-9), 2) := by decide +kernel
theorem dX0_greaterToLeft_33 : decode cX0_greaterToLeft 33 = .ok (.ireturn, 1) := by decide +kernel
theorem dX0_greaterToRight_0 : decode cX0_greaterToRight 0 = .ok (.iload_n 1, 1) := by decide +kernel
theorem dX0_greaterToRight_1 : decode cX0_greaterToRight 1 = .ok (.iconst 1, 1) := by decide +kernel
theorem dX0_greaterToRight_2 : decode cX0_greaterToRight 2 = .ok (.iadd, 1) := by decide +kernel
theorem dX0_greaterToRight_3 : decode cX0_greaterToRight 3 = .ok (.istore_n 2, 1) := by decide +kernel
theorem dX0_greaterToRight_4 : decode cX0_greaterToRight 4 = .ok (.iload_n 2, 1) := by decide +kernel
theorem dX0_greaterToRight_5 : decode cX0_greaterToRight 5 = .ok (.aload_n 0, 1) := by decide +kernel
theorem dX0_greaterToRight_6 : decode cX0_greaterToRight 6 = .ok (.getfield 15, 3) := by decide +kernel
theorem dX0_greaterToRight_9 : decode cX0_greaterToRight 9 = .ok (.if_icmp .ge 26, 3) := by decide +kernel
theorem dX0_greaterToRight_12 : decode cX0_greaterToRight 12 = .ok (.aload_n 0, 1) := by decide +kernel
theorem dX0_greaterToRight_13 : decode cX0_greaterToRight 13 = .ok (.getfield 9, 3) := by decide +kernel
theorem dX0_greaterToRight_16 : decode cX0_greaterToRight 16 = .ok (.iload_n 2, 1) := by decide +kernel
theorem dX0_greaterToRight_17 : decode cX0_greaterToRight 17 = .ok (.iaload, 1) := by decide +kernel
theorem dX0_greaterToRight_18 : decode cX0_greaterToRight 18 = .ok (.aload_n 0, 1) := by decide +kernel
theorem dX0_greaterToRight_19 : decode cX0_greaterToRight 19 = .ok (.getfield 9, 3) := by decide +kernel
theorem dX0_greaterToRight_22 : decode cX0_greaterToRight 22 = .ok (.iload_n 1, 1) := by decide +kernel
theorem dX0_greaterToRight_23 : decode cX0_greaterToRight 23 = .ok (.iaload, 1) := by decide +kernel
theorem dX0_greaterToRight_24 : decode cX0_greaterToRight 24 = .ok (.if_icmp .le 5, 3) := by decide +kernel
theorem dX0_greaterToRight_27 : decode cX0_greaterToRight 27 = .ok (.iload_n 2, 1) := by decide +kernel
theorem dX0_greaterToRight_28 : decode cX0_greaterToRight 28 = .ok (.ireturn, 1) := by decide +kernel
theorem dX0_greaterToRight_29 : decode cX0_greaterToRight 29 = .ok (.iinc 2 1, 3) := by decide +kernel
theorem dX0_greaterToRight_32 : decode cX0_greaterToRight 32 = .ok (.goto (-28), 3) := by decide +kernel
theorem dX0_greaterToRight_35 : decode cX0_greaterToRight 35 = .ok (.bipush (-9), 2) := by decide +kernel
theorem dX0_greaterToRight_37 : decode cX0_greaterToRight 37 = .ok (.ireturn, 1) := by decide +kernel
set_option maxRecDepth 20000 in
theorem ggX0_span_X0_smallerToLeft : GoodIn wsX0_span wsX0_smallerToLeft := goodIn_r _ [6, 7, 12, 13] (by decide +kernel) (by decide +kernel)
set_option maxRecDepth 20000 in
theorem gX0_span_X0_smallerToLeft : GoodIn wsX0_span (wsV RX0 46 RX0 yX0_smallerToLeft wsX0_smallerToLeft) := goodIn_app (goodIn_of _ (by decide +kernel)) ggX0_span_X0_smallerToLeft
set_option maxRecDepth 20000 in
theorem ggX0_span_X0_smallerToRight : GoodIn wsX0_span wsX0_smallerToRight := goodIn_r _ [11, 1, 7, 12, 13] (by decide +kernel) (by decide +kernel)
set_option maxRecDepth 20000 in
theorem gX0_span_X0_smallerToRight : GoodIn wsX0_span (wsV RX0 50 RX0 yX0_smallerToRight wsX0_smallerToRight) := goodIn_app (goodIn_of _ (by decide +kernel)) ggX0_span_X0_smallerToRight
theorem dX0_span_0 : decode cX0_span 0 = .ok (.aload_n 0, 1) := by decide +kernel
theorem dX0_span_1 : decode cX0_span 1 = .ok (.iload_n 1, 1) := by decide +kernel
theorem dX0_span_2 : decode cX0_span 2 = .ok (.invokevirtual 46, 3) := by decide +kernel
theorem dX0_span_5 : decode cX0_span 5 = .ok (.istore_n 2, 1) := by decide +kernel
theorem dX0_span_6 : decode cX0_span 6 = .ok (.aload_n 0, 1) := by decide +kernel
theorem dX0_span_7 : decode cX0_span 7 = .ok (.iload_n 1, 1) := by decide +kernel
theorem dX0_span_8 : decode cX0_span 8 = .ok (.invokevirtual 50, 3) := by decide +kernel
theorem dX0_span_11 : decode cX0_span 11 = .ok (.istore_n 3, 1) := by decide +kernel
theorem dX0_span_12 : decode cX0_span 12 = .ok (.iload_n 2, 1) := by decide +kernel
theorem dX0_span_13 : decode cX0_span 13 = .ok (.bipush (-9), 2) := by decide +kernel
theorem dX0_span_15 : decode cX0_span 15 = .ok (.if_icmp .ne 7, 3) := by decide +kernel
theorem dX0_span_18 : decode cX0_span 18 = .ok (.iconst 0, 1) := by decide +kernel
theorem dX0_span_19 : decode cX0_span 19 = .ok (.goto 6, 3) := by decide +kernel
theorem dX0_span_22 : decode cX0_span 22 = .ok (.iload_n 2, 1) := by decide +kernel
theorem dX0_span_23 : decode cX0_span 23 = .ok (.iconst 1, 1) := by decide +kernel
theorem dX0_span_24 : decode cX0_span 24 = .ok (.iadd, 1) := by decide +kernel
theorem dX0_span_25 : decode cX0_span 25 = .ok (.istore 4, 2) := by decide +kernel
theorem dX0_span_27 : decode cX0_span 27 = .ok (.iload_n 3, 1) := by decide +kernel
theorem dX0_span_28 : decode cX0_span 28 = .ok (.bipush (-9), 2) := by decide +kernel
theorem dX0_span_30 : decode cX0_span 30 = .ok (.if_icmp .ne 12, 3) := by decide +kernel
theorem dX0_span_33 : decode cX0_span 33 = .ok (.aload_n 0, 1) := by decide +kernel
theorem dX0_span_34 : decode cX0_span 34 = .ok (.getfield 15, 3) := by decide +kernel
theorem dX0_span_37 : decode cX0_span 37 = .ok (.iconst 1, 1) := by decide +kernel
theorem dX0_span_38 : decode cX0_span 38 = .ok (.isub, 1) := by decide +kernel
theorem dX0_span_39 : decode cX0_span 39 = .ok (.goto 6, 3) := by decide +kernel
theorem dX0_span_42 : decode cX0_span 42 = .ok (.iload_n 3, 1) := by decide +kernel
theorem dX0_span_43 : decode cX0_span 43 = .ok (.iconst 1, 1) := by decide +kernel
theorem dX0_span_44 : decode cX0_span 44 = .ok (.isub, 1) := by decide +kernel
theorem dX0_span_45 : decode cX0_span 45 = .ok (.istore 5, 2) := by decide +kernel
theorem dX0_span_47 : decode cX0_span 47 = .ok (.iload 5, 2) := by decide +kernel
theorem dX0_span_49 : decode cX0_span 49 = .ok (.iload 4, 2) := by decide +kernel
theorem dX0_span_51 : decode cX0_span 51 = .ok (.isub, 1) := by decide +kernel
theorem dX0_span_52 : decode cX0_span 52 = .ok (.iconst 1, 1) := by decide +kernel
theorem dX0_span_53 : decode cX0_span 53 = .ok (.iadd, 1) := by decide +kernel
theorem dX0_span_54 : decode cX0_span 54 = .ok (.ireturn, 1) := by decide +kernel
theorem dX0_stairLength_0 : decode cX0_stairLength 0 = .ok (.iconst 1, 1) := by decide +kernel
theorem dX0_stairLength_1 : decode cX0_stairLength 1 = .ok (.istore_n 2, 1) := by decide +kernel
theorem dX0_stairLength_2 : decode cX0_stairLength 2 = .ok (.iload_n 1, 1) := by decide +kernel
theorem dX0_stairLength_3 : decode cX0_stairLength 3 = .ok (.istore_n 3, 1) := by decide +kernel
theorem dX0_stairLength_4 : decode cX0_stairLength 4 = .ok (.iload_n 1, 1) := by decide +kernel
theorem dX0_stairLength_5 : decode cX0_stairLength 5 = .ok (.iconst 1, 1) := by decide +kernel
theorem dX0_stairLength_6 : decode cX0_stairLength 6 = .ok (.isub, 1) := by decide +kernel
theorem dX0_stairLength_7 : decode cX0_stairLength 7 = .ok (.istore 4, 2) := by decide +kernel
theorem dX0_stairLength_9 : decode cX0_stairLength 9 = .ok (.iload 4, 2) := by decide +kernel
theorem dX0_stairLength_11 : decode cX0_stairLength 11 = .ok (.ifCond .lt 31, 3) := by decide +kernel
theorem dX0_stairLength_14 : decode cX0_stairLength 14 = .ok (.aload_n 0, 1) := by decide +kernel
theorem dX0_stairLength_15 : decode cX0_stairLength 15 = .ok (.getfield 9, 3) := by decide +kernel
theorem dX0_stairLength_18 : decode cX0_stairLength 18 = .ok (.iload 4, 2) := by decide +kernel
theorem dX0_stairLength_20 : decode cX0_stairLength 20 = .ok (.iaload, 1) := by decide +kernel
theorem dX0_stairLength_21 : decode cX0_stairLength 21 = .ok (.aload_n 0, 1) := by decide +kernel
theorem dX0_stairLength_22 : decode cX0_stairLength 22 = .ok (.getfield 9, 3) := by decide +kernel
theorem dX0_stairLength_25 : decode cX0_stairLength 25 = .ok (.iload_n 3, 1) := by decide +kernel
theorem dX0_stairLength_26 : decode cX0_stairLength 26 = .ok (.iaload, 1) := by decide +kernel
theorem dX0_stairLength_27 : decode cX0_stairLength 27 = .ok (.if_icmp .ge 9, 3) := by decide +kernel
theorem dX0_stairLength_30 : decode cX0_stairLength 30 = .ok (.iload 4, 2) := by decide +kernel
theorem dX0_stairLength_32 : decode cX0_stairLength 32 = .ok (.istore_n 3, 1) := by decide +kernel
theorem dX0_stairLength_33 : decode cX0_stairLength 33 = .ok (.iinc 2 1, 3) := by decide +kernel
theorem dX0_stairLength_36 : decode cX0_stairLength 36 = .ok (.iinc 4 (-1), 3) := by decide +kernel
theorem dX0_stairLength_39 : decode cX0_stairLength 39 = .ok (.goto (-30), 3) := by decide +kernel
theorem dX0_stairLength_42 : decode cX0_stairLength 42 = .ok (.iload_n 2, 1) := by decide +kernel
theorem dX0_stairLength_43 : decode cX0_stairLength 43 = .ok (.ireturn, 1) := by decide +kernel
theorem dX0_stairStep_0 : decode cX0_stairStep 0 = .ok (.iconst 0, 1) := by decide +kernel
theorem dX0_stairStep_1 : decode cX0_stairStep 1 = .ok (.istore_n 3, 1) := by decide +kernel
theorem dX0_stairStep_2 : decode cX0_stairStep 2 = .ok (.iload_n 1, 1) := by decide +kernel
theorem dX0_stairStep_3 : decode cX0_stairStep 3 = .ok (.istore 4, 2) := by decide +kernel
theorem dX0_stairStep_5 : decode cX0_stairStep 5 = .ok (.iload_n 1, 1) := by decide +kernel
theorem dX0_stairStep_6 : decode cX0_stairStep 6 = .ok (.iconst 1, 1) := by decide +kernel
theorem dX0_stairStep_7 : decode cX0_stairStep 7 = .ok (.isub, 1) := by decide +kernel
theorem dX0_stairStep_8 : decode cX0_stairStep 8 = .ok (.istore 5, 2) := by decide +kernel
theorem dX0_stairStep_10 : decode cX0_stairStep 10 = .ok (.iload 5, 2) := by decide +kernel
theorem dX0_stairStep_12 : decode cX0_stairStep 12 = .ok (.ifCond .lt 38, 3) := by decide +kernel
theorem dX0_stairStep_15 : decode cX0_stairStep 15 = .ok (.iload_n 3, 1) := by decide +kernel
theorem dX0_stairStep_16 : decode cX0_stairStep 16 = .ok (.iload_n 2, 1) := by decide +kernel
theorem dX0_stairStep_17 : decode cX0_stairStep 17 = .ok (.if_icmp .ge 33, 3) := by decide +kernel
theorem dX0_stairStep_20 : decode cX0_stairStep 20 = .ok (.aload_n 0, 1) := by decide +kernel
theorem dX0_stairStep_21 : decode cX0_stairStep 21 = .ok (.getfield 9, 3) := by decide +kernel
theorem dX0_stairStep_24 : decode cX0_stairStep 24 = .ok (.iload 5, 2) := by decide +kernel
theorem dX0_stairStep_26 : decode cX0_stairStep 26 = .ok (.iaload, 1) := by decide +kernel
theorem dX0_stairStep_27 : decode cX0_stairStep 27 = .ok (.aload_n 0, 1) := by decide +kernel
theorem dX0_stairStep_28 : decode cX0_stairStep 28 = .ok (.getfield 9, 3) := by decide +kernel
theorem dX0_stairStep_31 : decode cX0_stairStep 31 = .ok (.iload 4, 2) := by decide +kernel
theorem dX0_stairStep_33 : decode cX0_stairStep 33 = .ok (.iaload, 1) := by decide +kernel
theorem dX0_stairStep_34 : decode cX0_stairStep 34 = .ok (.if_icmp .ge 10, 3) := by decide +kernel
theorem dX0_stairStep_37 : decode cX0_stairStep 37 = .ok (.iload 5, 2) := by decide +kernel
theorem dX0_stairStep_39 : decode cX0_stairStep 39 = .ok (.istore 4, 2) := by decide +kernel
theorem dX0_stairStep_41 : decode cX0_stairStep 41 = .ok (.iinc 3 1, 3) := by decide +kernel
theorem dX0_stairStep_44 : decode cX0_stairStep 44 = .ok (.iinc 5 (-1), 3) := by decide +kernel
theorem dX0_stairStep_47 : decode cX0_stairStep 47 = .ok (.goto (-37), 3) := by decide +kernel
theorem dX0_stairStep_50 : decode cX0_stairStep 50 = .ok (.iload_n 3, 1) := by decide +kernel
theorem dX0_stairStep_51 : decode cX0_stairStep 51 = .ok (.iload_n 2, 1) := by decide +kernel
theorem dX0_stairStep_52 : decode cX0_stairStep 52 = .ok (.if_icmp .ne 8, 3) := by decide +kernel
theorem dX0_stairStep_55 : decode cX0_stairStep 55 = .ok (.iload 4, 2) := by decide +kernel
theorem dX0_stairStep_57 : decode cX0_stairStep 57 = .ok (.goto 5, 3) := by decide +kernel
theorem dX0_stairStep_60 : decode cX0_stairStep 60 = .ok (.bipush (-9), 2) := by decide +kernel
theorem dX0_stairStep_62 : decode cX0_stairStep 62 = .ok (.ireturn, 1) := by decide +kernel
theorem dX0_firstDifference_0 : decode cX0_firstDifference 0 = .ok (.aload_n 0, 1) := by decide +kernel
theorem dX0_firstDifference_1 : decode cX0_firstDifference 1 = .ok (.getfield 15, 3) := by decide +kernel
theorem dX0_firstDifference_4 : decode cX0_firstDifference 4 = .ok (.aload_n 1, 1) := by decide +kernel
theorem dX0_firstDifference_5 : decode cX0_firstDifference 5 = .ok (.getfield 15, 3) := by decide +kernel
theorem dX0_firstDifference_8 : decode cX0_firstDifference 8 = .ok (.invokestatic 25, 3) := by decide +kernel
theorem dX0_firstDifference_11 : decode cX0_firstDifference 11 = .ok (.istore_n 2, 1) := by decide +kernel
theorem dX0_firstDifference_12 : decode cX0_firstDifference 12 = .ok (.iconst 0, 1) := by decide +kernel
theorem dX0_firstDifference_13 : decode cX0_firstDifference 13 = .ok (.istore_n 3, 1) := by decide +kernel
theorem dX0_firstDifference_14 : decode cX0_firstDifference 14 = .ok (.iload_n 3, 1) := by decide +kernel
theorem dX0_firstDifference_15 : decode cX0_firstDifference 15 = .ok (.iload_n 2, 1) := by decide +kernel
theorem dX0_firstDifference_16 : decode cX0_firstDifference 16 = .ok (.if_icmp .ge 26, 3) := by decide +kernel
theorem dX0_firstDifference_19 : decode cX0_firstDifference 19 = .ok (.aload_n 0, 1) := by decide +kernel
theorem dX0_firstDifference_20 : decode cX0_firstDifference 20 = .ok (.getfield 9, 3) := by decide +kernel
theorem dX0_firstDifference_23 : decode cX0_firstDifference 23 = .ok (.iload_n 3, 1) := by decide +kernel
theorem dX0_firstDifference_24 : decode cX0_firstDifference 24 = .ok (.iaload, 1) := by decide +kernel
theorem dX0_firstDifference_25 : decode cX0_firstDifference 25 = .ok (.aload_n 1, 1) := by decide +kernel
theorem dX0_firstDifference_26 : decode cX0_firstDifference 26 = .ok (.getfield 9, 3) := by decide +kernel
theorem dX0_firstDifference_29 : decode cX0_firstDifference 29 = .ok (.iload_n 3, 1) := by decide +kernel
theorem dX0_firstDifference_30 : decode cX0_firstDifference 30 = .ok (.iaload, 1) := by decide +kernel
theorem dX0_firstDifference_31 : decode cX0_firstDifference 31 = .ok (.if_icmp .eq 5, 3) := by decide +kernel
theorem dX0_firstDifference_34 : decode cX0_firstDifference 34 = .ok (.iload_n 3, 1) := by decide +kernel
theorem dX0_firstDifference_35 : decode cX0_firstDifference 35 = .ok (.ireturn, 1) := by decide +kernel
theorem dX0_firstDifference_36 : decode cX0_firstDifference 36 = .ok (.iinc 3 1, 3) := by decide +kernel
theorem dX0_firstDifference_39 : decode cX0_firstDifference 39 = .ok (.goto (-25), 3) := by decide +kernel
theorem dX0_firstDifference_42 : decode cX0_firstDifference 42 = .ok (.aload_n 0, 1) := by decide +kernel
theorem dX0_firstDifference_43 : decode cX0_firstDifference 43 = .ok (.getfield 15, 3) := by decide +kernel
theorem dX0_firstDifference_46 : decode cX0_firstDifference 46 = .ok (.aload_n 1, 1) := by decide +kernel
theorem dX0_firstDifference_47 : decode cX0_firstDifference 47 = .ok (.getfield 15, 3) := by decide +kernel
theorem dX0_firstDifference_50 : decode cX0_firstDifference 50 = .ok (.if_icmp .ne 8, 3) := by decide +kernel
theorem dX0_firstDifference_53 : decode cX0_firstDifference 53 = .ok (.bipush (-9), 2) := by decide +kernel
theorem dX0_firstDifference_55 : decode cX0_firstDifference 55 = .ok (.goto 4, 3) := by decide +kernel
theorem dX0_firstDifference_58 : decode cX0_firstDifference 58 = .ok (.iload_n 2, 1) := by decide +kernel
theorem dX0_firstDifference_59 : decode cX0_firstDifference 59 = .ok (.ireturn, 1) := by decide +kernel
set_option maxRecDepth 20000 in
theorem ggX1_init_X0_init : GoodIn wsX1_init wsX0_init := goodIn_r _ [10, 11, 2, 3, 12, 13, 14, 17, 18] (by decide +kernel) (by decide +kernel)
set_option maxRecDepth 20000 in
theorem gX1_init_X0_init_n21 : GoodIn wsX1_init (wsX0_init) := ggX1_init_X0_init
theorem dX1_init_0 : decode cX1_init 0 = .ok (.aload_n 0, 1) := by decide +kernel
theorem dX1_init_1 : decode cX1_init 1 = .ok (.invokespecial 3, 3) := by decide +kernel
theorem dX1_init_4 : decode cX1_init 4 = .ok (.aload_n 0, 1) := by decide +kernel
theorem dX1_init_5 : decode cX1_init 5 = .ok (.bipush 8, 2) := by decide +kernel
theorem dX1_init_7 : decode cX1_init 7 = .ok (.anewarray 9, 3) := by decide +kernel
theorem dX1_init_10 : decode cX1_init 10 = .ok (.putfield 11, 3) := by decide +kernel
theorem dX1_init_13 : decode cX1_init 13 = .ok (.aload_n 0, 1) := by decide +kernel
theorem dX1_init_14 : decode cX1_init 14 = .ok (.iconst 0, 1) := by decide +kernel
theorem dX1_init_15 : decode cX1_init 15 = .ok (.putfield 17, 3) := by decide +kernel
theorem dX1_init_18 : decode cX1_init 18 = .ok (.iconst 0, 1) := by decide +kernel
theorem dX1_init_19 : decode cX1_init 19 = .ok (.istore_n 1, 1) := by decide +kernel
theorem dX1_init_20 : decode cX1_init 20 = .ok (.iload_n 1, 1) := by decide +kernel
theorem dX1_init_21 : decode cX1_init 21 = .ok (.bipush 8, 2) := by decide +kernel
theorem dX1_init_23 : decode cX1_init 23 = .ok (.if_icmp .ge 22, 3) := by decide +kernel
theorem dX1_init_26 : decode cX1_init 26 = .ok (.aload_n 0, 1) := by decide +kernel
theorem dX1_init_27 : decode cX1_init 27 = .ok (.getfield 11, 3) := by decide +kernel
theorem dX1_init_30 : decode cX1_init 30 = .ok (.iload_n 1, 1) := by decide +kernel
theorem dX1_init_31 : decode cX1_init 31 = .ok (.new 9, 3) := by decide +kernel
theorem dX1_init_34 : decode cX1_init 34 = .ok (.dup, 1) := by decide +kernel
theorem dX1_init_35 : decode cX1_init 35 = .ok (.invokespecial 21, 3) := by decide +kernel
theorem dX1_init_38 : decode cX1_init 38 = .ok (.aastore, 1) := by decide +kernel
theorem dX1_init_39 : decode cX1_init 39 = .ok (.iinc 1 1, 3) := by decide +kernel
theorem dX1_init_42 : decode cX1_init 42 = .ok (.goto (-22), 3) := by decide +kernel
theorem dX1_init_45 : decode cX1_init 45 = .ok (.return_, 1) := by decide +kernel
set_option maxRecDepth 20000 in
theorem ggX1_remember_X1_dropOldest : GoodIn wsX1_remember wsX1_dropOldest := goodIn_r _ [7, 2, 1, 19, 20] (by decide +kernel) (by decide +kernel)
set_option maxRecDepth 20000 in
theorem gX1_remember_X1_dropOldest : GoodIn wsX1_remember (wsV RX1 22 RX1 yX1_dropOldest wsX1_dropOldest) := goodIn_app (goodIn_of _ (by decide +kernel)) ggX1_remember_X1_dropOldest
set_option maxRecDepth 20000 in
theorem ggX1_remember_X0_copyFrom : GoodIn wsX1_remember wsX0_copyFrom := goodIn_r _ [12, 13, 14, 15, 16, 17, 18, 21, 22] (by decide +kernel) (by decide +kernel)
set_option maxRecDepth 20000 in
theorem gX1_remember_X0_copyFrom : GoodIn wsX1_remember (wsV RX1 25 RX0 yX0_copyFrom wsX0_copyFrom) := goodIn_app (goodIn_of _ (by decide +kernel)) ggX1_remember_X0_copyFrom
theorem dX1_remember_0 : decode cX1_remember 0 = .ok (.aload_n 0, 1) := by decide +kernel
theorem dX1_remember_1 : decode cX1_remember 1 = .ok (.getfield 17, 3) := by decide +kernel
theorem dX1_remember_4 : decode cX1_remember 4 = .ok (.bipush 8, 2) := by decide +kernel
theorem dX1_remember_6 : decode cX1_remember 6 = .ok (.if_icmp .ne 7, 3) := by decide +kernel
theorem dX1_remember_9 : decode cX1_remember 9 = .ok (.aload_n 0, 1) := by decide +kernel
theorem dX1_remember_10 : decode cX1_remember 10 = .ok (.invokevirtual 22, 3) := by decide +kernel
theorem dX1_remember_13 : decode cX1_remember 13 = .ok (.aload_n 0, 1) := by decide +kernel
theorem dX1_remember_14 : decode cX1_remember 14 = .ok (.getfield 11, 3) := by decide +kernel
theorem dX1_remember_17 : decode cX1_remember 17 = .ok (.aload_n 0, 1) := by decide +kernel
theorem dX1_remember_18 : decode cX1_remember 18 = .ok (.getfield 17, 3) := by decide +kernel
theorem dX1_remember_21 : decode cX1_remember 21 = .ok (.aaload, 1) := by decide +kernel
theorem dX1_remember_22 : decode cX1_remember 22 = .ok (.aload_n 1, 1) := by decide +kernel
theorem dX1_remember_23 : decode cX1_remember 23 = .ok (.invokevirtual 25, 3) := by decide +kernel
theorem dX1_remember_26 : decode cX1_remember 26 = .ok (.aload_n 0, 1) := by decide +kernel
theorem dX1_remember_27 : decode cX1_remember 27 = .ok (.dup, 1) := by decide +kernel
theorem dX1_remember_28 : decode cX1_remember 28 = .ok (.getfield 17, 3) := by decide +kernel
theorem dX1_remember_31 : decode cX1_remember 31 = .ok (.iconst 1, 1) := by decide +kernel
theorem dX1_remember_32 : decode cX1_remember 32 = .ok (.iadd, 1) := by decide +kernel
theorem dX1_remember_33 : decode cX1_remember 33 = .ok (.putfield 17, 3) := by decide +kernel
theorem dX1_remember_36 : decode cX1_remember 36 = .ok (.return_, 1) := by decide +kernel
set_option maxRecDepth 20000 in
theorem ggX1_restore_X0_copyFrom : GoodIn wsX1_restore wsX0_copyFrom := goodIn_r _ [7, 8, 9, 10, 11, 12, 13, 16, 17] (by decide +kernel) (by decide +kernel)
set_option maxRecDepth 20000 in
theorem gX1_restore_X0_copyFrom : GoodIn wsX1_restore (wsV RX1 25 RX0 yX0_copyFrom wsX0_copyFrom) := goodIn_app (goodIn_of _ (by decide +kernel)) ggX1_restore_X0_copyFrom
theorem dX1_restore_0 : decode cX1_restore 0 = .ok (.aload_n 0, 1) := by decide +kernel
theorem dX1_restore_1 : decode cX1_restore 1 = .ok (.dup, 1) := by decide +kernel
theorem dX1_restore_2 : decode cX1_restore 2 = .ok (.getfield 17, 3) := by decide +kernel
theorem dX1_restore_5 : decode cX1_restore 5 = .ok (.iconst 1, 1) := by decide +kernel
theorem dX1_restore_6 : decode cX1_restore 6 = .ok (.isub, 1) := by decide +kernel
theorem dX1_restore_7 : decode cX1_restore 7 = .ok (.putfield 17, 3) := by decide +kernel
theorem dX1_restore_10 : decode cX1_restore 10 = .ok (.aload_n 1, 1) := by decide +kernel
theorem dX1_restore_11 : decode cX1_restore 11 = .ok (.aload_n 0, 1) := by decide +kernel
theorem dX1_restore_12 : decode cX1_restore 12 = .ok (.getfield 11, 3) := by decide +kernel
theorem dX1_restore_15 : decode cX1_restore 15 = .ok (.aload_n 0, 1) := by decide +kernel
theorem dX1_restore_16 : decode cX1_restore 16 = .ok (.getfield 17, 3) := by decide +kernel
theorem dX1_restore_19 : decode cX1_restore 19 = .ok (.aaload, 1) := by decide +kernel
theorem dX1_restore_20 : decode cX1_restore 20 = .ok (.invokevirtual 25, 3) := by decide +kernel
theorem dX1_restore_23 : decode cX1_restore 23 = .ok (.return_, 1) := by decide +kernel
theorem dX1_dropOldest_0 : decode cX1_dropOldest 0 = .ok (.aload_n 0, 1) := by decide +kernel
theorem dX1_dropOldest_1 : decode cX1_dropOldest 1 = .ok (.getfield 11, 3) := by decide +kernel
theorem dX1_dropOldest_4 : decode cX1_dropOldest 4 = .ok (.iconst 0, 1) := by decide +kernel
theorem dX1_dropOldest_5 : decode cX1_dropOldest 5 = .ok (.aaload, 1) := by decide +kernel
theorem dX1_dropOldest_6 : decode cX1_dropOldest 6 = .ok (.astore_n 1, 1) := by decide +kernel
theorem dX1_dropOldest_7 : decode cX1_dropOldest 7 = .ok (.iconst 1, 1) := by decide +kernel
theorem dX1_dropOldest_8 : decode cX1_dropOldest 8 = .ok (.istore_n 2, 1) := by decide +kernel
theorem dX1_dropOldest_9 : decode cX1_dropOldest 9 = .ok (.iload_n 2, 1) := by decide +kernel
theorem dX1_dropOldest_10 : decode cX1_dropOldest 10 = .ok (.bipush 8, 2) := by decide +kernel
theorem dX1_dropOldest_12 : decode cX1_dropOldest 12 = .ok (.if_icmp .ge 23, 3) := by decide +kernel
theorem dX1_dropOldest_15 : decode cX1_dropOldest 15 = .ok (.aload_n 0, 1) := by decide +kernel
theorem dX1_dropOldest_16 : decode cX1_dropOldest 16 = .ok (.getfield 11, 3) := by decide +kernel
theorem dX1_dropOldest_19 : decode cX1_dropOldest 19 = .ok (.iload_n 2, 1) := by decide +kernel
theorem dX1_dropOldest_20 : decode cX1_dropOldest 20 = .ok (.iconst 1, 1) := by decide +kernel
theorem dX1_dropOldest_21 : decode cX1_dropOldest 21 = .ok (.isub, 1) := by decide +kernel
theorem dX1_dropOldest_22 : decode cX1_dropOldest 22 = .ok (.aload_n 0, 1) := by decide +kernel
theorem dX1_dropOldest_23 : decode cX1_dropOldest 23 = .ok (.getfield 11, 3) := by decide +kernel
theorem dX1_dropOldest_26 : decode cX1_dropOldest 26 = .ok (.iload_n 2, 1) := by decide +kernel
theorem dX1_dropOldest_27 : decode cX1_dropOldest 27 = .ok (.aaload, 1) := by decide +kernel
theorem dX1_dropOldest_28 : decode cX1_dropOldest 28 = .ok (.aastore, 1) := by decide +kernel
theorem dX1_dropOldest_29 : decode cX1_dropOldest 29 = .ok (.iinc 2 1, 3) := by decide +kernel
theorem dX1_dropOldest_32 : decode cX1_dropOldest 32 = .ok (.goto (-23), 3) := by decide +kernel
theorem dX1_dropOldest_35 : decode cX1_dropOldest 35 = .ok (.aload_n 0, 1) := by decide +kernel
theorem dX1_dropOldest_36 : decode cX1_dropOldest 36 = .ok (.getfield 11, 3) := by decide +kernel
theorem dX1_dropOldest_39 : decode cX1_dropOldest 39 = .ok (.bipush 7, 2) := by decide +kernel
theorem dX1_dropOldest_41 : decode cX1_dropOldest 41 = .ok (.aload_n 1, 1) := by decide +kernel
theorem dX1_dropOldest_42 : decode cX1_dropOldest 42 = .ok (.aastore, 1) := by decide +kernel
theorem dX1_dropOldest_43 : decode cX1_dropOldest 43 = .ok (.aload_n 0, 1) := by decide +kernel
theorem dX1_dropOldest_44 : decode cX1_dropOldest 44 = .ok (.dup, 1) := by decide +kernel
theorem dX1_dropOldest_45 : decode cX1_dropOldest 45 = .ok (.getfield 17, 3) := by decide +kernel
theorem dX1_dropOldest_48 : decode cX1_dropOldest 48 = .ok (.iconst 1, 1) := by decide +kernel
theorem dX1_dropOldest_49 : decode cX1_dropOldest 49 = .ok (.isub, 1) := by decide +kernel
theorem dX1_dropOldest_50 : decode cX1_dropOldest 50 = .ok (.putfield 17, 3) := by decide +kernel
theorem dX1_dropOldest_53 : decode cX1_dropOldest 53 = .ok (.return_, 1) := by decide +kernel
theorem dX2_init_0 : decode cX2_init 0 = .ok (.aload_n 0, 1) := by decide +kernel
theorem dX2_init_1 : decode cX2_init 1 = .ok (.invokespecial 3, 3) := by decide +kernel
theorem dX2_init_4 : decode cX2_init 4 = .ok (.aload_n 0, 1) := by decide +kernel
theorem dX2_init_5 : decode cX2_init 5 = .ok (.bipush 40, 2) := by decide +kernel
theorem dX2_init_7 : decode cX2_init 7 = .ok (.newarray .int, 2) := by decide +kernel
theorem dX2_init_9 : decode cX2_init 9 = .ok (.putfield 9, 3) := by decide +kernel
theorem dX2_init_12 : decode cX2_init 12 = .ok (.return_, 1) := by decide +kernel
set_option maxRecDepth 20000 in
theorem ggX2_countStrokes_J7_fill_53178 : GoodIn wsX2_countStrokes wsJ7_fill_53178 := goodIn_r _ [5] (by decide +kernel) (by decide +kernel)
set_option maxRecDepth 20000 in
theorem gX2_countStrokes_J7_fill_53178 : GoodIn wsX2_countStrokes (va_wsS RX2 15 yJ7_fill_53178 wsJ7_fill_53178) := goodIn_app (goodIn_of _ (by decide +kernel)) ggX2_countStrokes_J7_fill_53178
set_option maxRecDepth 20000 in
theorem ggX2_countStrokes_X0_greatestHeight : GoodIn wsX2_countStrokes wsX0_greatestHeight := goodIn_r _ [10, 11, 12, 13, 14, 15, 38, 39] (by decide +kernel) (by decide +kernel)
set_option maxRecDepth 20000 in
theorem gX2_countStrokes_X0_greatestHeight : GoodIn wsX2_countStrokes (wsV RX2 21 RX0 yX0_greatestHeight wsX0_greatestHeight) := goodIn_app (goodIn_of _ (by decide +kernel)) ggX2_countStrokes_X0_greatestHeight
set_option maxRecDepth 20000 in
theorem ggX2_countStrokes_X2_paintRow : GoodIn wsX2_countStrokes wsX2_paintRow := goodIn_r _ [20, 21, 22, 23, 19, 24, 1, 25, 26, 27, 28, 29, 14, 30, 31, 32, 4, 33, 34, 35, 36, 38, 39, 37] (by decide +kernel) (by decide +kernel)
set_option maxRecDepth 20000 in
theorem gX2_countStrokes_X2_paintRow : GoodIn wsX2_countStrokes (wsV RX2 27 RX2 yX2_paintRow wsX2_paintRow) := goodIn_app (goodIn_of _ (by decide +kernel)) ggX2_countStrokes_X2_paintRow
set_option maxRecDepth 20000 in
theorem ggX2_countStrokes_X6_sumOf : GoodIn wsX2_countStrokes wsX6_sumOf := goodIn_r _ [30] (by decide +kernel) (by decide +kernel)
set_option maxRecDepth 20000 in
theorem gX2_countStrokes_X6_sumOf_n35 : GoodIn wsX2_countStrokes (wsX6_sumOf) := ggX2_countStrokes_X6_sumOf
theorem dX2_countStrokes_0 : decode cX2_countStrokes 0 = .ok (.aload_n 0, 1) := by decide +kernel
theorem dX2_countStrokes_1 : decode cX2_countStrokes 1 = .ok (.getfield 9, 3) := by decide +kernel
theorem dX2_countStrokes_4 : decode cX2_countStrokes 4 = .ok (.iconst 0, 1) := by decide +kernel
theorem dX2_countStrokes_5 : decode cX2_countStrokes 5 = .ok (.invokestatic 15, 3) := by decide +kernel
theorem dX2_countStrokes_8 : decode cX2_countStrokes 8 = .ok (.aload_n 1, 1) := by decide +kernel
theorem dX2_countStrokes_9 : decode cX2_countStrokes 9 = .ok (.invokevirtual 21, 3) := by decide +kernel
theorem dX2_countStrokes_12 : decode cX2_countStrokes 12 = .ok (.istore_n 2, 1) := by decide +kernel
theorem dX2_countStrokes_13 : decode cX2_countStrokes 13 = .ok (.iload_n 2, 1) := by decide +kernel
theorem dX2_countStrokes_14 : decode cX2_countStrokes 14 = .ok (.iconst 1, 1) := by decide +kernel
theorem dX2_countStrokes_15 : decode cX2_countStrokes 15 = .ok (.if_icmp .lt 15, 3) := by decide +kernel
theorem dX2_countStrokes_18 : decode cX2_countStrokes 18 = .ok (.aload_n 0, 1) := by decide +kernel
theorem dX2_countStrokes_19 : decode cX2_countStrokes 19 = .ok (.iload_n 2, 1) := by decide +kernel
theorem dX2_countStrokes_20 : decode cX2_countStrokes 20 = .ok (.aload_n 1, 1) := by decide +kernel
theorem dX2_countStrokes_21 : decode cX2_countStrokes 21 = .ok (.invokevirtual 27, 3) := by decide +kernel
theorem dX2_countStrokes_24 : decode cX2_countStrokes 24 = .ok (.iinc 2 (-1), 3) := by decide +kernel
theorem dX2_countStrokes_27 : decode cX2_countStrokes 27 = .ok (.goto (-14), 3) := by decide +kernel
theorem dX2_countStrokes_30 : decode cX2_countStrokes 30 = .ok (.aload_n 0, 1) := by decide +kernel
theorem dX2_countStrokes_31 : decode cX2_countStrokes 31 = .ok (.getfield 9, 3) := by decide +kernel
theorem dX2_countStrokes_34 : decode cX2_countStrokes 34 = .ok (.iconst 0, 1) := by decide +kernel
theorem dX2_countStrokes_35 : decode cX2_countStrokes 35 = .ok (.aload_n 1, 1) := by decide +kernel
theorem dX2_countStrokes_36 : decode cX2_countStrokes 36 = .ok (.getfield 31, 3) := by decide +kernel
theorem dX2_countStrokes_39 : decode cX2_countStrokes 39 = .ok (.iconst 1, 1) := by decide +kernel
theorem dX2_countStrokes_40 : decode cX2_countStrokes 40 = .ok (.isub, 1) := by decide +kernel
theorem dX2_countStrokes_41 : decode cX2_countStrokes 41 = .ok (.invokestatic 35, 3) := by decide +kernel
theorem dX2_countStrokes_44 : decode cX2_countStrokes 44 = .ok (.ireturn, 1) := by decide +kernel
set_option maxRecDepth 20000 in
theorem ggX2_paintRow_X2_paintRun : GoodIn wsX2_paintRow wsX2_paintRun := goodIn_r _ [5, 6, 7, 8, 9, 10, 11, 12, 13, 14, 15, 16, 17, 18, 19, 20, 23] (by decide +kernel) (by decide +kernel)
set_option maxRecDepth 20000 in
theorem gX2_paintRow_X2_paintRun : GoodIn wsX2_paintRow (wsV RX2 42 RX2 yX2_paintRun wsX2_paintRun) := goodIn_app (goodIn_of _ (by decide +kernel)) ggX2_paintRow_X2_paintRun
theorem dX2_paintRow_0 : decode cX2_paintRow 0 = .ok (.bipush (-9), 2) := by decide +kernel
theorem dX2_paintRow_2 : decode cX2_paintRow 2 = .ok (.istore_n 3, 1) := by decide +kernel
theorem dX2_paintRow_3 : decode cX2_paintRow 3 = .ok (.iconst 0, 1) := by decide +kernel
theorem dX2_paintRow_4 : decode cX2_paintRow 4 = .ok (.istore 4, 2) := by decide +kernel
theorem dX2_paintRow_6 : decode cX2_paintRow 6 = .ok (.iload 4, 2) := by decide +kernel
theorem dX2_paintRow_8 : decode cX2_paintRow 8 = .ok (.aload_n 2, 1) := by decide +kernel
theorem dX2_paintRow_9 : decode cX2_paintRow 9 = .ok (.getfield 31, 3) := by decide +kernel
theorem dX2_paintRow_12 : decode cX2_paintRow 12 = .ok (.if_icmp .ge 44, 3) := by decide +kernel
theorem dX2_paintRow_15 : decode cX2_paintRow 15 = .ok (.aload_n 2, 1) := by decide +kernel
theorem dX2_paintRow_16 : decode cX2_paintRow 16 = .ok (.getfield 39, 3) := by decide +kernel
theorem dX2_paintRow_19 : decode cX2_paintRow 19 = .ok (.iload 4, 2) := by decide +kernel
theorem dX2_paintRow_21 : decode cX2_paintRow 21 = .ok (.iaload, 1) := by decide +kernel
theorem dX2_paintRow_22 : decode cX2_paintRow 22 = .ok (.iload_n 1, 1) := by decide +kernel
theorem dX2_paintRow_23 : decode cX2_paintRow 23 = .ok (.if_icmp .ge 18, 3) := by decide +kernel
theorem dX2_paintRow_26 : decode cX2_paintRow 26 = .ok (.aload_n 0, 1) := by decide +kernel
theorem dX2_paintRow_27 : decode cX2_paintRow 27 = .ok (.iload_n 3, 1) := by decide +kernel
theorem dX2_paintRow_28 : decode cX2_paintRow 28 = .ok (.iload 4, 2) := by decide +kernel
theorem dX2_paintRow_30 : decode cX2_paintRow 30 = .ok (.iconst 1, 1) := by decide +kernel
theorem dX2_paintRow_31 : decode cX2_paintRow 31 = .ok (.isub, 1) := by decide +kernel
theorem dX2_paintRow_32 : decode cX2_paintRow 32 = .ok (.invokevirtual 42, 3) := by decide +kernel
theorem dX2_paintRow_35 : decode cX2_paintRow 35 = .ok (.bipush (-9), 2) := by decide +kernel
theorem dX2_paintRow_37 : decode cX2_paintRow 37 = .ok (.istore_n 3, 1) := by decide +kernel
theorem dX2_paintRow_38 : decode cX2_paintRow 38 = .ok (.goto 12, 3) := by decide +kernel
theorem dX2_paintRow_41 : decode cX2_paintRow 41 = .ok (.iload_n 3, 1) := by decide +kernel
theorem dX2_paintRow_42 : decode cX2_paintRow 42 = .ok (.bipush (-9), 2) := by decide +kernel
theorem dX2_paintRow_44 : decode cX2_paintRow 44 = .ok (.if_icmp .ne 6, 3) := by decide +kernel
theorem dX2_paintRow_47 : decode cX2_paintRow 47 = .ok (.iload 4, 2) := by decide +kernel
theorem dX2_paintRow_49 : decode cX2_paintRow 49 = .ok (.istore_n 3, 1) := by decide +kernel
theorem dX2_paintRow_50 : decode cX2_paintRow 50 = .ok (.iinc 4 1, 3) := by decide +kernel
theorem dX2_paintRow_53 : decode cX2_paintRow 53 = .ok (.goto (-47), 3) := by decide +kernel
theorem dX2_paintRow_56 : decode cX2_paintRow 56 = .ok (.aload_n 0, 1) := by decide +kernel
theorem dX2_paintRow_57 : decode cX2_paintRow 57 = .ok (.iload_n 3, 1) := by decide +kernel
theorem dX2_paintRow_58 : decode cX2_paintRow 58 = .ok (.aload_n 2, 1) := by decide +kernel
theorem dX2_paintRow_59 : decode cX2_paintRow 59 = .ok (.getfield 31, 3) := by decide +kernel
theorem dX2_paintRow_62 : decode cX2_paintRow 62 = .ok (.iconst 1, 1) := by decide +kernel
theorem dX2_paintRow_63 : decode cX2_paintRow 63 = .ok (.isub, 1) := by decide +kernel
theorem dX2_paintRow_64 : decode cX2_paintRow 64 = .ok (.invokevirtual 42, 3) := by decide +kernel
theorem dX2_paintRow_67 : decode cX2_paintRow 67 = .ok (.return_, 1) := by decide +kernel
set_option maxRecDepth 20000 in
theorem ggX2_paintRun_X6_sumOf : GoodIn wsX2_paintRun wsX6_sumOf := goodIn_r _ [8] (by decide +kernel) (by decide +kernel)
set_option maxRecDepth 20000 in
theorem gX2_paintRun_X6_sumOf_n35 : GoodIn wsX2_paintRun (wsX6_sumOf) := ggX2_paintRun_X6_sumOf
set_option maxRecDepth 20000 in
theorem ggX2_paintRun_J7_fill_fda19 : GoodIn wsX2_paintRun wsJ7_fill_fda19 := goodIn_r _ [12, 13, 14, 11, 15] (by decide +kernel) (by decide +kernel)
set_option maxRecDepth 20000 in
theorem gX2_paintRun_J7_fill_fda19 : GoodIn wsX2_paintRun (va_wsS RX2 46 yJ7_fill_fda19 wsJ7_fill_fda19) := goodIn_app (goodIn_of _ (by decide +kernel)) ggX2_paintRun_J7_fill_fda19
theorem dX2_paintRun_0 : decode cX2_paintRun 0 = .ok (.iload_n 1, 1) := by decide +kernel
theorem dX2_paintRun_1 : decode cX2_paintRun 1 = .ok (.bipush (-9), 2) := by decide +kernel
theorem dX2_paintRun_3 : decode cX2_paintRun 3 = .ok (.if_icmp .ne 4, 3) := by decide +kernel
theorem dX2_paintRun_6 : decode cX2_paintRun 6 = .ok (.return_, 1) := by decide +kernel
theorem dX2_paintRun_7 : decode cX2_paintRun 7 = .ok (.aload_n 0, 1) := by decide +kernel
theorem dX2_paintRun_8 : decode cX2_paintRun 8 = .ok (.getfield 9, 3) := by decide +kernel
theorem dX2_paintRun_11 : decode cX2_paintRun 11 = .ok (.iload_n 1, 1) := by decide +kernel
theorem dX2_paintRun_12 : decode cX2_paintRun 12 = .ok (.iload_n 2, 1) := by decide +kernel
theorem dX2_paintRun_13 : decode cX2_paintRun 13 = .ok (.invokestatic 35, 3) := by decide +kernel
theorem dX2_paintRun_16 : decode cX2_paintRun 16 = .ok (.istore_n 3, 1) := by decide +kernel
theorem dX2_paintRun_17 : decode cX2_paintRun 17 = .ok (.aload_n 0, 1) := by decide +kernel
theorem dX2_paintRun_18 : decode cX2_paintRun 18 = .ok (.getfield 9, 3) := by decide +kernel
theorem dX2_paintRun_21 : decode cX2_paintRun 21 = .ok (.iload_n 1, 1) := by decide +kernel
theorem dX2_paintRun_22 : decode cX2_paintRun 22 = .ok (.iload_n 2, 1) := by decide +kernel
theorem dX2_paintRun_23 : decode cX2_paintRun 23 = .ok (.iconst 1, 1) := by decide +kernel
theorem dX2_paintRun_24 : decode cX2_paintRun 24 = .ok (.iadd, 1) := by decide +kernel
theorem dX2_paintRun_25 : decode cX2_paintRun 25 = .ok (.iconst 0, 1) := by decide +kernel
theorem dX2_paintRun_26 : decode cX2_paintRun 26 = .ok (.invokestatic 46, 3) := by decide +kernel
theorem dX2_paintRun_29 : decode cX2_paintRun 29 = .ok (.aload_n 0, 1) := by decide +kernel
theorem dX2_paintRun_30 : decode cX2_paintRun 30 = .ok (.getfield 9, 3) := by decide +kernel
theorem dX2_paintRun_33 : decode cX2_paintRun 33 = .ok (.iload_n 1, 1) := by decide +kernel
theorem dX2_paintRun_34 : decode cX2_paintRun 34 = .ok (.iload_n 3, 1) := by decide +kernel
theorem dX2_paintRun_35 : decode cX2_paintRun 35 = .ok (.iconst 1, 1) := by decide +kernel
theorem dX2_paintRun_36 : decode cX2_paintRun 36 = .ok (.iadd, 1) := by decide +kernel
theorem dX2_paintRun_37 : decode cX2_paintRun 37 = .ok (.iload_n 2, 1) := by decide +kernel
theorem dX2_paintRun_38 : decode cX2_paintRun 38 = .ok (.iload_n 1, 1) := by decide +kernel
theorem dX2_paintRun_39 : decode cX2_paintRun 39 = .ok (.isub, 1) := by decide +kernel
theorem dX2_paintRun_40 : decode cX2_paintRun 40 = .ok (.iconst 1, 1) := by decide +kernel
theorem dX2_paintRun_41 : decode cX2_paintRun 41 = .ok (.iadd, 1) := by decide +kernel
theorem dX2_paintRun_42 : decode cX2_paintRun 42 = .ok (.invokestatic 49, 3) := by decide +kernel
theorem dX2_paintRun_45 : decode cX2_paintRun 45 = .ok (.iastore, 1) := by decide +kernel
theorem dX2_paintRun_46 : decode cX2_paintRun 46 = .ok (.return_, 1) := by decide +kernel
theorem dX3_init_0 : decode cX3_init 0 = .ok (.aload_n 0, 1) := by decide +kernel
theorem dX3_init_1 : decode cX3_init 1 = .ok (.invokespecial 3, 3) := by decide +kernel
theorem dX3_init_4 : decode cX3_init 4 = .ok (.aload_n 0, 1) := by decide +kernel
theorem dX3_init_5 : decode cX3_init 5 = .ok (.bipush 40, 2) := by decide +kernel
theorem dX3_init_7 : decode cX3_init 7 = .ok (.newarray .int, 2) := by decide +kernel
theorem dX3_init_9 : decode cX3_init 9 = .ok (.putfield 9, 3) := by decide +kernel
theorem dX3_init_12 : decode cX3_init 12 = .ok (.aload_n 0, 1) := by decide +kernel
theorem dX3_init_13 : decode cX3_init 13 = .ok (.bipush 40, 2) := by decide +kernel
theorem dX3_init_15 : decode cX3_init 15 = .ok (.newarray .int, 2) := by decide +kernel
theorem dX3_init_17 : decode cX3_init 17 = .ok (.putfield 15, 3) := by decide +kernel
theorem dX3_init_20 : decode cX3_init 20 = .ok (.aload_n 0, 1) := by decide +kernel
theorem dX3_init_21 : decode cX3_init 21 = .ok (.bipush 40, 2) := by decide +kernel
theorem dX3_init_23 : decode cX3_init 23 = .ok (.newarray .int, 2) := by decide +kernel
theorem dX3_init_25 : decode cX3_init 25 = .ok (.putfield 18, 3) := by decide +kernel
theorem dX3_init_28 : decode cX3_init 28 = .ok (.aload_n 0, 1) := by decide +kernel
theorem dX3_init_29 : decode cX3_init 29 = .ok (.bipush 40, 2) := by decide +kernel
theorem dX3_init_31 : decode cX3_init 31 = .ok (.newarray .int, 2) := by decide +kernel
theorem dX3_init_33 : decode cX3_init 33 = .ok (.putfield 21, 3) := by decide +kernel
theorem dX3_init_36 : decode cX3_init 36 = .ok (.aload_n 0, 1) := by decide +kernel
theorem dX3_init_37 : decode cX3_init 37 = .ok (.iconst 0, 1) := by decide +kernel
theorem dX3_init_38 : decode cX3_init 38 = .ok (.putfield 24, 3) := by decide +kernel
theorem dX3_init_41 : decode cX3_init 41 = .ok (.return_, 1) := by decide +kernel
set_option maxRecDepth 20000 in
theorem ggX3_find_X3_findOwnedBy : GoodIn wsX3_find wsX3_findOwnedBy := goodIn_r _ [6, 7, 8, 9, 5, 10, 1, 11, 12, 13, 14, 15, 16, 17, 18, 19, 20, 21, 22, 23, 24, 25, 26, 27] (by decide +kernel) (by decide +kernel)
set_option maxRecDepth 20000 in
theorem gX3_find_X3_findOwnedBy : GoodIn wsX3_find (wsV RX3 28 RX3 yX3_findOwnedBy wsX3_findOwnedBy) := goodIn_app (goodIn_of _ (by decide +kernel)) ggX3_find_X3_findOwnedBy
theorem dX3_find_0 : decode cX3_find 0 = .ok (.aload_n 0, 1) := by decide +kernel
theorem dX3_find_1 : decode cX3_find 1 = .ok (.iconst 0, 1) := by decide +kernel
theorem dX3_find_2 : decode cX3_find 2 = .ok (.putfield 24, 3) := by decide +kernel
theorem dX3_find_5 : decode cX3_find 5 = .ok (.iload_n 2, 1) := by decide +kernel
theorem dX3_find_6 : decode cX3_find 6 = .ok (.istore 4, 2) := by decide +kernel
theorem dX3_find_8 : decode cX3_find 8 = .ok (.iload 4, 2) := by decide +kernel
theorem dX3_find_10 : decode cX3_find 10 = .ok (.iload_n 3, 1) := by decide +kernel
theorem dX3_find_11 : decode cX3_find 11 = .ok (.if_icmp .gt 25, 3) := by decide +kernel
theorem dX3_find_14 : decode cX3_find 14 = .ok (.aload_n 1, 1) := by decide +kernel
theorem dX3_find_15 : decode cX3_find 15 = .ok (.iload 4, 2) := by decide +kernel
theorem dX3_find_17 : decode cX3_find 17 = .ok (.iaload, 1) := by decide +kernel
theorem dX3_find_18 : decode cX3_find 18 = .ok (.ifCond .le 12, 3) := by decide +kernel
theorem dX3_find_21 : decode cX3_find 21 = .ok (.aload_n 0, 1) := by decide +kernel
theorem dX3_find_22 : decode cX3_find 22 = .ok (.iload 4, 2) := by decide +kernel
theorem dX3_find_24 : decode cX3_find 24 = .ok (.aload_n 1, 1) := by decide +kernel
theorem dX3_find_25 : decode cX3_find 25 = .ok (.iload_n 2, 1) := by decide +kernel
theorem dX3_find_26 : decode cX3_find 26 = .ok (.iload_n 3, 1) := by decide +kernel
theorem dX3_find_27 : decode cX3_find 27 = .ok (.invokevirtual 28, 3) := by decide +kernel
theorem dX3_find_30 : decode cX3_find 30 = .ok (.iinc 4 1, 3) := by decide +kernel
theorem dX3_find_33 : decode cX3_find 33 = .ok (.goto (-25), 3) := by decide +kernel
theorem dX3_find_36 : decode cX3_find 36 = .ok (.return_, 1) := by decide +kernel
set_option maxRecDepth 20000 in
theorem ggX3_property_X3_area : GoodIn wsX3_property wsX3_area := goodIn_r _ [8, 3, 2, 1, 9, 10, 11, 12, 13] (by decide +kernel) (by decide +kernel)
set_option maxRecDepth 20000 in
theorem gX3_property_X3_area : GoodIn wsX3_property (wsV RX3 32 RX3 yX3_area wsX3_area) := goodIn_app (goodIn_of _ (by decide +kernel)) ggX3_property_X3_area
theorem dX3_property_0 : decode cX3_property 0 = .ok (.iload_n 2, 1) := by decide +kernel
theorem dX3_property_1 : decode cX3_property 1 = .ok (.tableswitch 47 0 2 #[27, 33, 40], 27) := by decide +kernel
theorem dX3_property_28 : decode cX3_property 28 = .ok (.aload_n 0, 1) := by decide +kernel
theorem dX3_property_29 : decode cX3_property 29 = .ok (.iload_n 1, 1) := by decide +kernel
theorem dX3_property_30 : decode cX3_property 30 = .ok (.invokevirtual 32, 3) := by decide +kernel
theorem dX3_property_33 : decode cX3_property 33 = .ok (.ireturn, 1) := by decide +kernel
theorem dX3_property_34 : decode cX3_property 34 = .ok (.aload_n 0, 1) := by decide +kernel
theorem dX3_property_35 : decode cX3_property 35 = .ok (.getfield 9, 3) := by decide +kernel
theorem dX3_property_38 : decode cX3_property 38 = .ok (.iload_n 1, 1) := by decide +kernel
theorem dX3_property_39 : decode cX3_property 39 = .ok (.iaload, 1) := by decide +kernel
theorem dX3_property_40 : decode cX3_property 40 = .ok (.ireturn, 1) := by decide +kernel
theorem dX3_property_41 : decode cX3_property 41 = .ok (.aload_n 0, 1) := by decide +kernel
theorem dX3_property_42 : decode cX3_property 42 = .ok (.getfield 15, 3) := by decide +kernel
theorem dX3_property_45 : decode cX3_property 45 = .ok (.iload_n 1, 1) := by decide +kernel
theorem dX3_property_46 : decode cX3_property 46 = .ok (.iaload, 1) := by decide +kernel
theorem dX3_property_47 : decode cX3_property 47 = .ok (.ireturn, 1) := by decide +kernel
theorem dX3_property_48 : decode cX3_property 48 = .ok (.aload_n 0, 1) := by decide +kernel
theorem dX3_property_49 : decode cX3_property 49 = .ok (.getfield 18, 3) := by decide +kernel
theorem dX3_property_52 : decode cX3_property 52 = .ok (.iload_n 1, 1) := by decide +kernel
theorem dX3_property_53 : decode cX3_property 53 = .ok (.iaload, 1) := by decide +kernel
theorem dX3_property_54 : decode cX3_property 54 = .ok (.ireturn, 1) := by decide +kernel
theorem dX3_countOwners_0 : decode cX3_countOwners 0 = .ok (.iconst 0, 1) := by decide +kernel
theorem dX3_countOwners_1 : decode cX3_countOwners 1 = .ok (.istore_n 3, 1) := by decide +kernel
theorem dX3_countOwners_2 : decode cX3_countOwners 2 = .ok (.aload_n 0, 1) := by decide +kernel
theorem dX3_countOwners_3 : decode cX3_countOwners 3 = .ok (.getfield 9, 3) := by decide +kernel
theorem dX3_countOwners_6 : decode cX3_countOwners 6 = .ok (.iload_n 1, 1) := by decide +kernel
theorem dX3_countOwners_7 : decode cX3_countOwners 7 = .ok (.iaload, 1) := by decide +kernel
theorem dX3_countOwners_8 : decode cX3_countOwners 8 = .ok (.istore 4, 2) := by decide +kernel
theorem dX3_countOwners_10 : decode cX3_countOwners 10 = .ok (.iload 4, 2) := by decide +kernel
theorem dX3_countOwners_12 : decode cX3_countOwners 12 = .ok (.aload_n 0, 1) := by decide +kernel
theorem dX3_countOwners_13 : decode cX3_countOwners 13 = .ok (.getfield 15, 3) := by decide +kernel
theorem dX3_countOwners_16 : decode cX3_countOwners 16 = .ok (.iload_n 1, 1) := by decide +kernel
theorem dX3_countOwners_17 : decode cX3_countOwners 17 = .ok (.iaload, 1) := by decide +kernel
theorem dX3_countOwners_18 : decode cX3_countOwners 18 = .ok (.if_icmp .gt 25, 3) := by decide +kernel
theorem dX3_countOwners_21 : decode cX3_countOwners 21 = .ok (.aload_n 2, 1) := by decide +kernel
theorem dX3_countOwners_22 : decode cX3_countOwners 22 = .ok (.iload 4, 2) := by decide +kernel
theorem dX3_countOwners_24 : decode cX3_countOwners 24 = .ok (.iaload, 1) := by decide +kernel
theorem dX3_countOwners_25 : decode cX3_countOwners 25 = .ok (.aload_n 0, 1) := by decide +kernel
theorem dX3_countOwners_26 : decode cX3_countOwners 26 = .ok (.getfield 18, 3) := by decide +kernel
theorem dX3_countOwners_29 : decode cX3_countOwners 29 = .ok (.iload_n 1, 1) := by decide +kernel
theorem dX3_countOwners_30 : decode cX3_countOwners 30 = .ok (.iaload, 1) := by decide +kernel
theorem dX3_countOwners_31 : decode cX3_countOwners 31 = .ok (.if_icmp .ne 6, 3) := by decide +kernel
theorem dX3_countOwners_34 : decode cX3_countOwners 34 = .ok (.iinc 3 1, 3) := by decide +kernel
theorem dX3_countOwners_37 : decode cX3_countOwners 37 = .ok (.iinc 4 1, 3) := by decide +kernel
theorem dX3_countOwners_40 : decode cX3_countOwners 40 = .ok (.goto (-30), 3) := by decide +kernel
theorem dX3_countOwners_43 : decode cX3_countOwners 43 = .ok (.iload_n 3, 1) := by decide +kernel
theorem dX3_countOwners_44 : decode cX3_countOwners 44 = .ok (.ireturn, 1) := by decide +kernel
theorem dX3_area_0 : decode cX3_area 0 = .ok (.aload_n 0, 1) := by decide +kernel
theorem dX3_area_1 : decode cX3_area 1 = .ok (.getfield 18, 3) := by decide +kernel
theorem dX3_area_4 : decode cX3_area 4 = .ok (.iload_n 1, 1) := by decide +kernel
theorem dX3_area_5 : decode cX3_area 5 = .ok (.iaload, 1) := by decide +kernel
theorem dX3_area_6 : decode cX3_area 6 = .ok (.aload_n 0, 1) := by decide +kernel
theorem dX3_area_7 : decode cX3_area 7 = .ok (.getfield 15, 3) := by decide +kernel
theorem dX3_area_10 : decode cX3_area 10 = .ok (.iload_n 1, 1) := by decide +kernel
theorem dX3_area_11 : decode cX3_area 11 = .ok (.iaload, 1) := by decide +kernel
theorem dX3_area_12 : decode cX3_area 12 = .ok (.aload_n 0, 1) := by decide +kernel
theorem dX3_area_13 : decode cX3_area 13 = .ok (.getfield 9, 3) := by decide +kernel
theorem dX3_area_16 : decode cX3_area 16 = .ok (.iload_n 1, 1) := by decide +kernel
theorem dX3_area_17 : decode cX3_area 17 = .ok (.iaload, 1) := by decide +kernel
theorem dX3_area_18 : decode cX3_area 18 = .ok (.isub, 1) := by decide +kernel
theorem dX3_area_19 : decode cX3_area 19 = .ok (.iconst 1, 1) := by decide +kernel
theorem dX3_area_20 : decode cX3_area 20 = .ok (.iadd, 1) := by decide +kernel
theorem dX3_area_21 : decode cX3_area 21 = .ok (.imul, 1) := by decide +kernel
theorem dX3_area_22 : decode cX3_area 22 = .ok (.ireturn, 1) := by decide +kernel
set_option maxRecDepth 20000 in
theorem ggX3_findOwnedBy_X3_place : GoodIn wsX3_findOwnedBy wsX3_place := goodIn_r _ [5, 6, 7, 8, 9, 10, 11, 12, 13, 4, 14, 15, 16, 17, 18, 19, 20, 21, 22, 23] (by decide +kernel) (by decide +kernel)
set_option maxRecDepth 20000 in
theorem gX3_findOwnedBy_X3_place : GoodIn wsX3_findOwnedBy (wsV RX3 36 RX3 yX3_place wsX3_place) := goodIn_app (goodIn_of _ (by decide +kernel)) ggX3_findOwnedBy_X3_place
theorem dX3_findOwnedBy_0 : decode cX3_findOwnedBy 0 = .ok (.iload_n 1, 1) := by decide +kernel
theorem dX3_findOwnedBy_1 : decode cX3_findOwnedBy 1 = .ok (.istore 5, 2) := by decide +kernel
theorem dX3_findOwnedBy_3 : decode cX3_findOwnedBy 3 = .ok (.iload 5, 2) := by decide +kernel
theorem dX3_findOwnedBy_5 : decode cX3_findOwnedBy 5 = .ok (.iload_n 3, 1) := by decide +kernel
theorem dX3_findOwnedBy_6 : decode cX3_findOwnedBy 6 = .ok (.if_icmp .le 21, 3) := by decide +kernel
theorem dX3_findOwnedBy_9 : decode cX3_findOwnedBy 9 = .ok (.aload_n 2, 1) := by decide +kernel
theorem dX3_findOwnedBy_10 : decode cX3_findOwnedBy 10 = .ok (.iload 5, 2) := by decide +kernel
theorem dX3_findOwnedBy_12 : decode cX3_findOwnedBy 12 = .ok (.iconst 1, 1) := by decide +kernel
theorem dX3_findOwnedBy_13 : decode cX3_findOwnedBy 13 = .ok (.isub, 1) := by decide +kernel
theorem dX3_findOwnedBy_14 : decode cX3_findOwnedBy 14 = .ok (.iaload, 1) := by decide +kernel
theorem dX3_findOwnedBy_15 : decode cX3_findOwnedBy 15 = .ok (.aload_n 2, 1) := by decide +kernel
theorem dX3_findOwnedBy_16 : decode cX3_findOwnedBy 16 = .ok (.iload_n 1, 1) := by decide +kernel
theorem dX3_findOwnedBy_17 : decode cX3_findOwnedBy 17 = .ok (.iaload, 1) := by decide +kernel
theorem dX3_findOwnedBy_18 : decode cX3_findOwnedBy 18 = .ok (.if_icmp .le 9, 3) := by decide +kernel
theorem dX3_findOwnedBy_21 : decode cX3_findOwnedBy 21 = .ok (.iinc 5 (-1), 3) := by decide +kernel
theorem dX3_findOwnedBy_24 : decode cX3_findOwnedBy 24 = .ok (.goto (-21), 3) := by decide +kernel
theorem dX3_findOwnedBy_27 : decode cX3_findOwnedBy 27 = .ok (.iload 5, 2) := by decide +kernel
theorem dX3_findOwnedBy_29 : decode cX3_findOwnedBy 29 = .ok (.iload_n 3, 1) := by decide +kernel
theorem dX3_findOwnedBy_30 : decode cX3_findOwnedBy 30 = .ok (.if_icmp .le 16, 3) := by decide +kernel
theorem dX3_findOwnedBy_33 : decode cX3_findOwnedBy 33 = .ok (.aload_n 2, 1) := by decide +kernel
theorem dX3_findOwnedBy_34 : decode cX3_findOwnedBy 34 = .ok (.iload 5, 2) := by decide +kernel
theorem dX3_findOwnedBy_36 : decode cX3_findOwnedBy 36 = .ok (.iconst 1, 1) := by decide +kernel
theorem dX3_findOwnedBy_37 : decode cX3_findOwnedBy 37 = .ok (.isub, 1) := by decide +kernel
theorem dX3_findOwnedBy_38 : decode cX3_findOwnedBy 38 = .ok (.iaload, 1) := by decide +kernel
theorem dX3_findOwnedBy_39 : decode cX3_findOwnedBy 39 = .ok (.aload_n 2, 1) := by decide +kernel
theorem dX3_findOwnedBy_40 : decode cX3_findOwnedBy 40 = .ok (.iload_n 1, 1) := by decide +kernel
theorem dX3_findOwnedBy_41 : decode cX3_findOwnedBy 41 = .ok (.iaload, 1) := by decide +kernel
theorem dX3_findOwnedBy_42 : decode cX3_findOwnedBy 42 = .ok (.if_icmp .ne 4, 3) := by decide +kernel
theorem dX3_findOwnedBy_45 : decode cX3_findOwnedBy 45 = .ok (.return_, 1) := by decide +kernel
theorem dX3_findOwnedBy_46 : decode cX3_findOwnedBy 46 = .ok (.iload_n 1, 1) := by decide +kernel
theorem dX3_findOwnedBy_47 : decode cX3_findOwnedBy 47 = .ok (.istore 6, 2) := by decide +kernel
theorem dX3_findOwnedBy_49 : decode cX3_findOwnedBy 49 = .ok (.iload 6, 2) := by decide +kernel
theorem dX3_findOwnedBy_51 : decode cX3_findOwnedBy 51 = .ok (.iload 4, 2) := by decide +kernel
theorem dX3_findOwnedBy_53 : decode cX3_findOwnedBy 53 = .ok (.if_icmp .ge 21, 3) := by decide +kernel
theorem dX3_findOwnedBy_56 : decode cX3_findOwnedBy 56 = .ok (.aload_n 2, 1) := by decide +kernel
theorem dX3_findOwnedBy_57 : decode cX3_findOwnedBy 57 = .ok (.iload 6, 2) := by decide +kernel
theorem dX3_findOwnedBy_59 : decode cX3_findOwnedBy 59 = .ok (.iconst 1, 1) := by decide +kernel
theorem dX3_findOwnedBy_60 : decode cX3_findOwnedBy 60 = .ok (.iadd, 1) := by decide +kernel
theorem dX3_findOwnedBy_61 : decode cX3_findOwnedBy 61 = .ok (.iaload, 1) := by decide +kernel
theorem dX3_findOwnedBy_62 : decode cX3_findOwnedBy 62 = .ok (.aload_n 2, 1) := by decide +kernel
theorem dX3_findOwnedBy_63 : decode cX3_findOwnedBy 63 = .ok (.iload_n 1, 1) := by decide +kernel
theorem dX3_findOwnedBy_64 : decode cX3_findOwnedBy 64 = .ok (.iaload, 1) := by decide +kernel
theorem dX3_findOwnedBy_65 : decode cX3_findOwnedBy 65 = .ok (.if_icmp .lt 9, 3) := by decide +kernel
theorem dX3_findOwnedBy_68 : decode cX3_findOwnedBy 68 = .ok (.iinc 6 1, 3) := by decide +kernel
theorem dX3_findOwnedBy_71 : decode cX3_findOwnedBy 71 = .ok (.goto (-22), 3) := by decide +kernel
theorem dX3_findOwnedBy_74 : decode cX3_findOwnedBy 74 = .ok (.aload_n 0, 1) := by decide +kernel
theorem dX3_findOwnedBy_75 : decode cX3_findOwnedBy 75 = .ok (.iload 5, 2) := by decide +kernel
theorem dX3_findOwnedBy_77 : decode cX3_findOwnedBy 77 = .ok (.iload 6, 2) := by decide +kernel
theorem dX3_findOwnedBy_79 : decode cX3_findOwnedBy 79 = .ok (.aload_n 2, 1) := by decide +kernel
theorem dX3_findOwnedBy_80 : decode cX3_findOwnedBy 80 = .ok (.iload_n 1, 1) := by decide +kernel
theorem dX3_findOwnedBy_81 : decode cX3_findOwnedBy 81 = .ok (.iaload, 1) := by decide +kernel
theorem dX3_findOwnedBy_82 : decode cX3_findOwnedBy 82 = .ok (.iload_n 1, 1) := by decide +kernel
theorem dX3_findOwnedBy_83 : decode cX3_findOwnedBy 83 = .ok (.invokevirtual 36, 3) := by decide +kernel
theorem dX3_findOwnedBy_86 : decode cX3_findOwnedBy 86 = .ok (.return_, 1) := by decide +kernel
set_option maxRecDepth 20000 in
theorem ggX3_place_X3_comesBefore : GoodIn wsX3_place wsX3_comesBefore := goodIn_r _ [10, 2, 3, 11, 12, 13, 9, 14, 4, 15, 16, 17, 18, 19] (by decide +kernel) (by decide +kernel)
set_option maxRecDepth 20000 in
theorem gX3_place_X3_comesBefore : GoodIn wsX3_place (wsV RX3 40 RX3 yX3_comesBefore wsX3_comesBefore) := goodIn_app (goodIn_of _ (by decide +kernel)) ggX3_place_X3_comesBefore
theorem dX3_place_0 : decode cX3_place 0 = .ok (.aload_n 0, 1) := by decide +kernel
theorem dX3_place_1 : decode cX3_place 1 = .ok (.getfield 24, 3) := by decide +kernel
theorem dX3_place_4 : decode cX3_place 4 = .ok (.istore 5, 2) := by decide +kernel
theorem dX3_place_6 : decode cX3_place 6 = .ok (.iload 5, 2) := by decide +kernel
theorem dX3_place_8 : decode cX3_place 8 = .ok (.ifCond .le 87, 3) := by decide +kernel
theorem dX3_place_11 : decode cX3_place 11 = .ok (.aload_n 0, 1) := by decide +kernel
theorem dX3_place_12 : decode cX3_place 12 = .ok (.iload_n 1, 1) := by decide +kernel
theorem dX3_place_13 : decode cX3_place 13 = .ok (.iload_n 2, 1) := by decide +kernel
theorem dX3_place_14 : decode cX3_place 14 = .ok (.iload_n 3, 1) := by decide +kernel
theorem dX3_place_15 : decode cX3_place 15 = .ok (.iload 5, 2) := by decide +kernel
theorem dX3_place_17 : decode cX3_place 17 = .ok (.iconst 1, 1) := by decide +kernel
theorem dX3_place_18 : decode cX3_place 18 = .ok (.isub, 1) := by decide +kernel
theorem dX3_place_19 : decode cX3_place 19 = .ok (.invokevirtual 40, 3) := by decide +kernel
theorem dX3_place_22 : decode cX3_place 22 = .ok (.ifCond .eq 73, 3) := by decide +kernel
theorem dX3_place_25 : decode cX3_place 25 = .ok (.aload_n 0, 1) := by decide +kernel
theorem dX3_place_26 : decode cX3_place 26 = .ok (.getfield 9, 3) := by decide +kernel
theorem dX3_place_29 : decode cX3_place 29 = .ok (.iload 5, 2) := by decide +kernel
theorem dX3_place_31 : decode cX3_place 31 = .ok (.aload_n 0, 1) := by decide +kernel
theorem dX3_place_32 : decode cX3_place 32 = .ok (.getfield 9, 3) := by decide +kernel
theorem dX3_place_35 : decode cX3_place 35 = .ok (.iload 5, 2) := by decide +kernel
theorem dX3_place_37 : decode cX3_place 37 = .ok (.iconst 1, 1) := by decide +kernel
theorem dX3_place_38 : decode cX3_place 38 = .ok (.isub, 1) := by decide +kernel
theorem dX3_place_39 : decode cX3_place 39 = .ok (.iaload, 1) := by decide +kernel
theorem dX3_place_40 : decode cX3_place 40 = .ok (.iastore, 1) := by decide +kernel
theorem dX3_place_41 : decode cX3_place 41 = .ok (.aload_n 0, 1) := by decide +kernel
theorem dX3_place_42 : decode cX3_place 42 = .ok (.getfield 15, 3) := by decide +kernel
theorem dX3_place_45 : decode cX3_place 45 = .ok (.iload 5, 2) := by decide +kernel
theorem dX3_place_47 : decode cX3_place 47 = .ok (.aload_n 0, 1) := by decide +kernel
theorem dX3_place_48 : decode cX3_place 48 = .ok (.getfield 15, 3) := by decide +kernel
theorem dX3_place_51 : decode cX3_place 51 = .ok (.iload 5, 2) := by decide +kernel
theorem dX3_place_53 : decode cX3_place 53 = .ok (.iconst 1, 1) := by decide +kernel
theorem dX3_place_54 : decode cX3_place 54 = .ok (.isub, 1) := by decide +kernel
theorem dX3_place_55 : decode cX3_place 55 = .ok (.iaload, 1) := by decide +kernel
theorem dX3_place_56 : decode cX3_place 56 = .ok (.iastore, 1) := by decide +kernel
theorem dX3_place_57 : decode cX3_place 57 = .ok (.aload_n 0, 1) := by decide +kernel
theorem dX3_place_58 : decode cX3_place 58 = .ok (.getfield 18, 3) := by decide +kernel
theorem dX3_place_61 : decode cX3_place 61 = .ok (.iload 5, 2) := by decide +kernel
theorem dX3_place_63 : decode cX3_place 63 = .ok (.aload_n 0, 1) := by decide +kernel
theorem dX3_place_64 : decode cX3_place 64 = .ok (.getfield 18, 3) := by decide +kernel
theorem dX3_place_67 : decode cX3_place 67 = .ok (.iload 5, 2) := by decide +kernel
theorem dX3_place_69 : decode cX3_place 69 = .ok (.iconst 1, 1) := by decide +kernel
theorem dX3_place_70 : decode cX3_place 70 = .ok (.isub, 1) := by decide +kernel
theorem dX3_place_71 : decode cX3_place 71 = .ok (.iaload, 1) := by decide +kernel
theorem dX3_place_72 : decode cX3_place 72 = .ok (.iastore, 1) := by decide +kernel
theorem dX3_place_73 : decode cX3_place 73 = .ok (.aload_n 0, 1) := by decide +kernel
theorem dX3_place_74 : decode cX3_place 74 = .ok (.getfield 21, 3) := by decide +kernel
theorem dX3_place_77 : decode cX3_place 77 = .ok (.iload 5, 2) := by decide +kernel
theorem dX3_place_79 : decode cX3_place 79 = .ok (.aload_n 0, 1) := by decide +kernel
theorem dX3_place_80 : decode cX3_place 80 = .ok (.getfield 21, 3) := by decide +kernel
theorem dX3_place_83 : decode cX3_place 83 = .ok (.iload 5, 2) := by decide +kernel
theorem dX3_place_85 : decode cX3_place 85 = .ok (.iconst 1, 1) := by decide +kernel
theorem dX3_place_86 : decode cX3_place 86 = .ok (.isub, 1) := by decide +kernel
theorem dX3_place_87 : decode cX3_place 87 = .ok (.iaload, 1) := by decide +kernel
theorem dX3_place_88 : decode cX3_place 88 = .ok (.iastore, 1) := by decide +kernel
theorem dX3_place_89 : decode cX3_place 89 = .ok (.iinc 5 (-1), 3) := by decide +kernel
theorem dX3_place_92 : decode cX3_place 92 = .ok (.goto (-86), 3) := by decide +kernel
theorem dX3_place_95 : decode cX3_place 95 = .ok (.aload_n 0, 1) := by decide +kernel
theorem dX3_place_96 : decode cX3_place 96 = .ok (.getfield 9, 3) := by decide +kernel
theorem dX3_place_99 : decode cX3_place 99 = .ok (.iload 5, 2) := by decide +kernel
theorem dX3_place_101 : decode cX3_place 101 = .ok (.iload_n 1, 1) := by decide +kernel
theorem dX3_place_102 : decode cX3_place 102 = .ok (.iastore, 1) := by decide +kernel
theorem dX3_place_103 : decode cX3_place 103 = .ok (.aload_n 0, 1) := by decide +kernel
theorem dX3_place_104 : decode cX3_place 104 = .ok (.getfield 15, 3) := by decide +kernel
theorem dX3_place_107 : decode cX3_place 107 = .ok (.iload 5, 2) := by decide +kernel
theorem dX3_place_109 : decode cX3_place 109 = .ok (.iload_n 2, 1) := by decide +kernel
theorem dX3_place_110 : decode cX3_place 110 = .ok (.iastore, 1) := by decide +kernel
theorem dX3_place_111 : decode cX3_place 111 = .ok (.aload_n 0, 1) := by decide +kernel
theorem dX3_place_112 : decode cX3_place 112 = .ok (.getfield 18, 3) := by decide +kernel
theorem dX3_place_115 : decode cX3_place 115 = .ok (.iload 5, 2) := by decide +kernel
theorem dX3_place_117 : decode cX3_place 117 = .ok (.iload_n 3, 1) := by decide +kernel
theorem dX3_place_118 : decode cX3_place 118 = .ok (.iastore, 1) := by decide +kernel
theorem dX3_place_119 : decode cX3_place 119 = .ok (.aload_n 0, 1) := by decide +kernel
theorem dX3_place_120 : decode cX3_place 120 = .ok (.getfield 21, 3) := by decide +kernel
theorem dX3_place_123 : decode cX3_place 123 = .ok (.iload 5, 2) := by decide +kernel
