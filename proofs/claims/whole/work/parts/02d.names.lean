set_option maxRecDepth 20000 in
theorem gX2_load_X2_outside : GoodIn wsX2_load (va_wsS RX2 34 yX2_outside wsX2_outside) := goodIn_app (goodIn_of _ (by decide +kernel)) ggX2_load_X2_outside
set_option maxRecDepth 20000 in
theorem ggX2_load_X2_fails : GoodIn wsX2_load wsX2_fails := goodIn_r _ [10, 11, 21, 22, 23, 24, 25, 26, 27, 28, 29, 30, 31, 32, 33] (by decide +kernel) (by decide +kernel)
set_option maxRecDepth 20000 in
theorem gX2_load_X2_fails : GoodIn wsX2_load (wsV RX2 38 RX2 yX2_fails wsX2_fails) := goodIn_app (goodIn_of _ (by decide +kernel)) ggX2_load_X2_fails
set_option maxRecDepth 20000 in
theorem ggX2_load_X2_upper : GoodIn wsX2_load wsX2_upper := goodIn_r _ [15, 2, 21, 22, 23, 24, 25, 26, 27, 28, 29, 30, 31, 32, 33] (by decide +kernel) (by decide +kernel)
set_option maxRecDepth 20000 in
theorem gX2_load_X2_upper : GoodIn wsX2_load (wsV RX2 77 RX2 yX2_upper wsX2_upper) := goodIn_app (goodIn_of _ (by decide +kernel)) ggX2_load_X2_upper
set_option maxRecDepth 20000 in
theorem ggX2_load_X2_copy : GoodIn wsX2_load wsX2_copy := goodIn_r _ [19, 20, 21, 22, 23, 24, 25, 26, 27, 28, 29, 30, 31, 32, 33] (by decide +kernel) (by decide +kernel)
set_option maxRecDepth 20000 in
theorem gX2_load_X2_copy : GoodIn wsX2_load (wsV RX2 48 RX2 yX2_copy wsX2_copy) := goodIn_app (goodIn_of _ (by decide +kernel)) ggX2_load_X2_copy
theorem dX2_load_0 : decode cX2_load 0 = .ok (.aload_n 0, 1) := by decide +kernel
theorem dX2_load_1 : decode cX2_load 1 = .ok (.iload_n 1, 1) := by decide +kernel
theorem dX2_load_2 : decode cX2_load 2 = .ok (.iconst 0, 1) := by decide +kernel
theorem dX2_load_3 : decode cX2_load 3 = .ok (.aload_n 0, 1) := by decide +kernel
theorem dX2_load_4 : decode cX2_load 4 = .ok (.getfield 45, 3) := by decide +kernel
theorem dX2_load_7 : decode cX2_load 7 = .ok (.iconst 1, 1) := by decide +kernel
theorem dX2_load_8 : decode cX2_load 8 = .ok (.isub, 1) := by decide +kernel
theorem dX2_load_9 : decode cX2_load 9 = .ok (.invokestatic 34, 3) := by decide +kernel
theorem dX2_load_12 : decode cX2_load 12 = .ok (.aload_n 0, 1) := by decide +kernel
theorem dX2_load_13 : decode cX2_load 13 = .ok (.getfield 74, 3) := by decide +kernel
theorem dX2_load_16 : decode cX2_load 16 = .ok (.bipush 6, 2) := by decide +kernel
theorem dX2_load_18 : decode cX2_load 18 = .ok (.if_icmp .ne 7, 3) := by decide +kernel
theorem dX2_load_21 : decode cX2_load 21 = .ok (.iconst 1, 1) := by decide +kernel
theorem dX2_load_22 : decode cX2_load 22 = .ok (.goto 4, 3) := by decide +kernel
theorem dX2_load_25 : decode cX2_load 25 = .ok (.iconst 0, 1) := by decide +kernel
theorem dX2_load_26 : decode cX2_load 26 = .ok (.iconst 0, 1) := by decide +kernel
theorem dX2_load_27 : decode cX2_load 27 = .ok (.invokevirtual 38, 3) := by decide +kernel
theorem dX2_load_30 : decode cX2_load 30 = .ok (.ifCond .eq 4, 3) := by decide +kernel
theorem dX2_load_33 : decode cX2_load 33 = .ok (.return_, 1) := by decide +kernel
theorem dX2_load_34 : decode cX2_load 34 = .ok (.aload_n 0, 1) := by decide +kernel
theorem dX2_load_35 : decode cX2_load 35 = .ok (.dup, 1) := by decide +kernel
theorem dX2_load_36 : decode cX2_load 36 = .ok (.getfield 74, 3) := by decide +kernel
theorem dX2_load_39 : decode cX2_load 39 = .ok (.iconst 1, 1) := by decide +kernel
theorem dX2_load_40 : decode cX2_load 40 = .ok (.iadd, 1) := by decide +kernel
theorem dX2_load_41 : decode cX2_load 41 = .ok (.putfield 74, 3) := by decide +kernel
theorem dX2_load_44 : decode cX2_load 44 = .ok (.aload_n 0, 1) := by decide +kernel
theorem dX2_load_45 : decode cX2_load 45 = .ok (.iload_n 1, 1) := by decide +kernel
theorem dX2_load_46 : decode cX2_load 46 = .ok (.aload_n 0, 1) := by decide +kernel
theorem dX2_load_47 : decode cX2_load 47 = .ok (.invokevirtual 77, 3) := by decide +kernel
theorem dX2_load_50 : decode cX2_load 50 = .ok (.invokevirtual 48, 3) := by decide +kernel
theorem dX2_load_53 : decode cX2_load 53 = .ok (.return_, 1) := by decide +kernel
set_option maxRecDepth 20000 in
theorem ggX2_axiom_X2_outside : GoodIn wsX2_axiom wsX2_outside := goodIn_r _ [6] (by decide +kernel) (by decide +kernel)
set_option maxRecDepth 20000 in
theorem gX2_axiom_X2_outside : GoodIn wsX2_axiom (va_wsS RX2 34 yX2_outside wsX2_outside) := goodIn_app (goodIn_of _ (by decide +kernel)) ggX2_axiom_X2_outside
set_option maxRecDepth 20000 in
theorem ggX2_axiom_X2_fails : GoodIn wsX2_axiom wsX2_fails := goodIn_r _ [10, 11, 16, 17, 18, 19, 20, 21, 22, 23, 24, 25, 26, 27, 28] (by decide +kernel) (by decide +kernel)
set_option maxRecDepth 20000 in
theorem gX2_axiom_X2_fails : GoodIn wsX2_axiom (wsV RX2 38 RX2 yX2_fails wsX2_fails) := goodIn_app (goodIn_of _ (by decide +kernel)) ggX2_axiom_X2_fails
set_option maxRecDepth 20000 in
theorem ggX2_axiom_X2_upper : GoodIn wsX2_axiom wsX2_upper := goodIn_r _ [15, 1, 16, 17, 18, 19, 20, 21, 22, 23, 24, 25, 26, 27, 28] (by decide +kernel) (by decide +kernel)
set_option maxRecDepth 20000 in
theorem gX2_axiom_X2_upper : GoodIn wsX2_axiom (wsV RX2 77 RX2 yX2_upper wsX2_upper) := goodIn_app (goodIn_of _ (by decide +kernel)) ggX2_axiom_X2_upper
theorem dX2_axiom_0 : decode cX2_axiom 0 = .ok (.aload_n 0, 1) := by decide +kernel
theorem dX2_axiom_1 : decode cX2_axiom 1 = .ok (.iload_n 1, 1) := by decide +kernel
theorem dX2_axiom_2 : decode cX2_axiom 2 = .ok (.iconst 0, 1) := by decide +kernel
theorem dX2_axiom_3 : decode cX2_axiom 3 = .ok (.bipush 9, 2) := by decide +kernel
theorem dX2_axiom_5 : decode cX2_axiom 5 = .ok (.invokestatic 34, 3) := by decide +kernel
theorem dX2_axiom_8 : decode cX2_axiom 8 = .ok (.aload_n 0, 1) := by decide +kernel
theorem dX2_axiom_9 : decode cX2_axiom 9 = .ok (.getfield 74, 3) := by decide +kernel
theorem dX2_axiom_12 : decode cX2_axiom 12 = .ok (.bipush 6, 2) := by decide +kernel
theorem dX2_axiom_14 : decode cX2_axiom 14 = .ok (.if_icmp .ne 7, 3) := by decide +kernel
theorem dX2_axiom_17 : decode cX2_axiom 17 = .ok (.iconst 1, 1) := by decide +kernel
theorem dX2_axiom_18 : decode cX2_axiom 18 = .ok (.goto 4, 3) := by decide +kernel
theorem dX2_axiom_21 : decode cX2_axiom 21 = .ok (.iconst 0, 1) := by decide +kernel
theorem dX2_axiom_22 : decode cX2_axiom 22 = .ok (.iconst 0, 1) := by decide +kernel
theorem dX2_axiom_23 : decode cX2_axiom 23 = .ok (.invokevirtual 38, 3) := by decide +kernel
theorem dX2_axiom_26 : decode cX2_axiom 26 = .ok (.ifCond .eq 4, 3) := by decide +kernel
theorem dX2_axiom_29 : decode cX2_axiom 29 = .ok (.return_, 1) := by decide +kernel
theorem dX2_axiom_30 : decode cX2_axiom 30 = .ok (.aload_n 0, 1) := by decide +kernel
theorem dX2_axiom_31 : decode cX2_axiom 31 = .ok (.dup, 1) := by decide +kernel
theorem dX2_axiom_32 : decode cX2_axiom 32 = .ok (.getfield 74, 3) := by decide +kernel
theorem dX2_axiom_35 : decode cX2_axiom 35 = .ok (.iconst 1, 1) := by decide +kernel
theorem dX2_axiom_36 : decode cX2_axiom 36 = .ok (.iadd, 1) := by decide +kernel
theorem dX2_axiom_37 : decode cX2_axiom 37 = .ok (.putfield 74, 3) := by decide +kernel
theorem dX2_axiom_40 : decode cX2_axiom 40 = .ok (.iconst 0, 1) := by decide +kernel
theorem dX2_axiom_41 : decode cX2_axiom 41 = .ok (.istore_n 3, 1) := by decide +kernel
theorem dX2_axiom_42 : decode cX2_axiom 42 = .ok (.iload_n 3, 1) := by decide +kernel
theorem dX2_axiom_43 : decode cX2_axiom 43 = .ok (.bipush 11, 2) := by decide +kernel
theorem dX2_axiom_45 : decode cX2_axiom 45 = .ok (.if_icmp .ge 24, 3) := by decide +kernel
theorem dX2_axiom_48 : decode cX2_axiom 48 = .ok (.aload_n 0, 1) := by decide +kernel
theorem dX2_axiom_49 : decode cX2_axiom 49 = .ok (.getfield 7, 3) := by decide +kernel
theorem dX2_axiom_52 : decode cX2_axiom 52 = .ok (.bipush 11, 2) := by decide +kernel
theorem dX2_axiom_54 : decode cX2_axiom 54 = .ok (.aload_n 0, 1) := by decide +kernel
theorem dX2_axiom_55 : decode cX2_axiom 55 = .ok (.invokevirtual 77, 3) := by decide +kernel
theorem dX2_axiom_58 : decode cX2_axiom 58 = .ok (.imul, 1) := by decide +kernel
theorem dX2_axiom_59 : decode cX2_axiom 59 = .ok (.iload_n 3, 1) := by decide +kernel
theorem dX2_axiom_60 : decode cX2_axiom 60 = .ok (.iadd, 1) := by decide +kernel
theorem dX2_axiom_61 : decode cX2_axiom 61 = .ok (.iconst 0, 1) := by decide +kernel
theorem dX2_axiom_62 : decode cX2_axiom 62 = .ok (.iastore, 1) := by decide +kernel
theorem dX2_axiom_63 : decode cX2_axiom 63 = .ok (.iinc 3 1, 3) := by decide +kernel
theorem dX2_axiom_66 : decode cX2_axiom 66 = .ok (.goto (-24), 3) := by decide +kernel
theorem dX2_axiom_69 : decode cX2_axiom 69 = .ok (.aload_n 0, 1) := by decide +kernel
theorem dX2_axiom_70 : decode cX2_axiom 70 = .ok (.getfield 7, 3) := by decide +kernel
theorem dX2_axiom_73 : decode cX2_axiom 73 = .ok (.bipush 11, 2) := by decide +kernel
theorem dX2_axiom_75 : decode cX2_axiom 75 = .ok (.aload_n 0, 1) := by decide +kernel
theorem dX2_axiom_76 : decode cX2_axiom 76 = .ok (.invokevirtual 77, 3) := by decide +kernel
theorem dX2_axiom_79 : decode cX2_axiom 79 = .ok (.imul, 1) := by decide +kernel
theorem dX2_axiom_80 : decode cX2_axiom 80 = .ok (.iload_n 1, 1) := by decide +kernel
theorem dX2_axiom_81 : decode cX2_axiom 81 = .ok (.iadd, 1) := by decide +kernel
theorem dX2_axiom_82 : decode cX2_axiom 82 = .ok (.iload_n 2, 1) := by decide +kernel
theorem dX2_axiom_83 : decode cX2_axiom 83 = .ok (.ifCond .eq 7, 3) := by decide +kernel
theorem dX2_axiom_86 : decode cX2_axiom 86 = .ok (.iconst 1, 1) := by decide +kernel
theorem dX2_axiom_87 : decode cX2_axiom 87 = .ok (.goto 4, 3) := by decide +kernel
theorem dX2_axiom_90 : decode cX2_axiom 90 = .ok (.iconst (-1), 1) := by decide +kernel
theorem dX2_axiom_91 : decode cX2_axiom 91 = .ok (.iastore, 1) := by decide +kernel
theorem dX2_axiom_92 : decode cX2_axiom 92 = .ok (.return_, 1) := by decide +kernel
set_option maxRecDepth 20000 in
theorem ggX2_large_X2_size : GoodIn wsX2_large wsX2_size := goodIn_r _ [6] (by decide +kernel) (by decide +kernel)
set_option maxRecDepth 20000 in
theorem gX2_large_X2_size : GoodIn wsX2_large (va_wsS RX2 30 yX2_size wsX2_size) := goodIn_app (goodIn_of _ (by decide +kernel)) ggX2_large_X2_size
theorem dX2_large_0 : decode cX2_large 0 = .ok (.aload_n 0, 1) := by decide +kernel
theorem dX2_large_1 : decode cX2_large 1 = .ok (.getfield 7, 3) := by decide +kernel
theorem dX2_large_4 : decode cX2_large 4 = .ok (.bipush 11, 2) := by decide +kernel
theorem dX2_large_6 : decode cX2_large 6 = .ok (.iload_n 1, 1) := by decide +kernel
theorem dX2_large_7 : decode cX2_large 7 = .ok (.imul, 1) := by decide +kernel
theorem dX2_large_8 : decode cX2_large 8 = .ok (.bipush 10, 2) := by decide +kernel
theorem dX2_large_10 : decode cX2_large 10 = .ok (.iadd, 1) := by decide +kernel
theorem dX2_large_11 : decode cX2_large 11 = .ok (.iaload, 1) := by decide +kernel
theorem dX2_large_12 : decode cX2_large 12 = .ok (.ldc 81, 2) := by decide +kernel
theorem dX2_large_14 : decode cX2_large 14 = .ok (.if_icmp .le 7, 3) := by decide +kernel
theorem dX2_large_17 : decode cX2_large 17 = .ok (.iconst 1, 1) := by decide +kernel
theorem dX2_large_18 : decode cX2_large 18 = .ok (.goto 4, 3) := by decide +kernel
theorem dX2_large_21 : decode cX2_large 21 = .ok (.iconst 0, 1) := by decide +kernel
theorem dX2_large_22 : decode cX2_large 22 = .ok (.istore_n 2, 1) := by decide +kernel
theorem dX2_large_23 : decode cX2_large 23 = .ok (.iconst 0, 1) := by decide +kernel
theorem dX2_large_24 : decode cX2_large 24 = .ok (.istore_n 3, 1) := by decide +kernel
theorem dX2_large_25 : decode cX2_large 25 = .ok (.iload_n 3, 1) := by decide +kernel
theorem dX2_large_26 : decode cX2_large 26 = .ok (.bipush 10, 2) := by decide +kernel
theorem dX2_large_28 : decode cX2_large 28 = .ok (.if_icmp .ge 38, 3) := by decide +kernel
theorem dX2_large_31 : decode cX2_large 31 = .ok (.iload_n 2, 1) := by decide +kernel
theorem dX2_large_32 : decode cX2_large 32 = .ok (.ifCond .ne 22, 3) := by decide +kernel
theorem dX2_large_35 : decode cX2_large 35 = .ok (.aload_n 0, 1) := by decide +kernel
theorem dX2_large_36 : decode cX2_large 36 = .ok (.getfield 7, 3) := by decide +kernel
theorem dX2_large_39 : decode cX2_large 39 = .ok (.bipush 11, 2) := by decide +kernel
theorem dX2_large_41 : decode cX2_large 41 = .ok (.iload_n 1, 1) := by decide +kernel
theorem dX2_large_42 : decode cX2_large 42 = .ok (.imul, 1) := by decide +kernel
theorem dX2_large_43 : decode cX2_large 43 = .ok (.iload_n 3, 1) := by decide +kernel
theorem dX2_large_44 : decode cX2_large 44 = .ok (.iadd, 1) := by decide +kernel
theorem dX2_large_45 : decode cX2_large 45 = .ok (.iaload, 1) := by decide +kernel
theorem dX2_large_46 : decode cX2_large 46 = .ok (.invokestatic 30, 3) := by decide +kernel
theorem dX2_large_49 : decode cX2_large 49 = .ok (.ldc 81, 2) := by decide +kernel
theorem dX2_large_51 : decode cX2_large 51 = .ok (.if_icmp .le 7, 3) := by decide +kernel
theorem dX2_large_54 : decode cX2_large 54 = .ok (.iconst 1, 1) := by decide +kernel
theorem dX2_large_55 : decode cX2_large 55 = .ok (.goto 4, 3) := by decide +kernel
theorem dX2_large_58 : decode cX2_large 58 = .ok (.iconst 0, 1) := by decide +kernel
theorem dX2_large_59 : decode cX2_large 59 = .ok (.istore_n 2, 1) := by decide +kernel
theorem dX2_large_60 : decode cX2_large 60 = .ok (.iinc 3 1, 3) := by decide +kernel
theorem dX2_large_63 : decode cX2_large 63 = .ok (.goto (-38), 3) := by decide +kernel
theorem dX2_large_66 : decode cX2_large 66 = .ok (.iload_n 2, 1) := by decide +kernel
theorem dX2_large_67 : decode cX2_large 67 = .ok (.ireturn, 1) := by decide +kernel
set_option maxRecDepth 20000 in
theorem ggX2_add_X2_fails : GoodIn wsX2_add wsX2_fails := goodIn_r _ [7, 8, 25, 26, 27, 28, 29, 30, 31, 32, 33, 34, 35, 36, 37] (by decide +kernel) (by decide +kernel)
set_option maxRecDepth 20000 in
theorem gX2_add_X2_fails : GoodIn wsX2_add (wsV RX2 38 RX2 yX2_fails wsX2_fails) := goodIn_app (goodIn_of _ (by decide +kernel)) ggX2_add_X2_fails
set_option maxRecDepth 20000 in
theorem ggX2_add_X2_upper : GoodIn wsX2_add wsX2_upper := goodIn_r _ [12, 1, 25, 26, 27, 28, 29, 30, 31, 32, 33, 34, 35, 36, 37] (by decide +kernel) (by decide +kernel)
set_option maxRecDepth 20000 in
theorem gX2_add_X2_upper : GoodIn wsX2_add (wsV RX2 77 RX2 yX2_upper wsX2_upper) := goodIn_app (goodIn_of _ (by decide +kernel)) ggX2_add_X2_upper
set_option maxRecDepth 20000 in
theorem ggX2_add_X2_size : GoodIn wsX2_add wsX2_size := goodIn_r _ [15] (by decide +kernel) (by decide +kernel)
set_option maxRecDepth 20000 in
theorem gX2_add_X2_size : GoodIn wsX2_add (va_wsS RX2 30 yX2_size wsX2_size) := goodIn_app (goodIn_of _ (by decide +kernel)) ggX2_add_X2_size
set_option maxRecDepth 20000 in
theorem ggX2_add_X2_large : GoodIn wsX2_add wsX2_large := goodIn_r _ [19, 2, 20, 13, 14, 6, 15, 25, 26, 27, 28, 29, 30, 31, 32, 33, 34, 35, 36, 37] (by decide +kernel) (by decide +kernel)
set_option maxRecDepth 20000 in
theorem gX2_add_X2_large : GoodIn wsX2_add (wsV RX2 82 RX2 yX2_large wsX2_large) := goodIn_app (goodIn_of _ (by decide +kernel)) ggX2_add_X2_large
set_option maxRecDepth 20000 in
theorem ggX2_add_X2_copy : GoodIn wsX2_add wsX2_copy := goodIn_r _ [24, 2, 25, 26, 27, 28, 29, 30, 31, 32, 33, 34, 35, 36, 37] (by decide +kernel) (by decide +kernel)
set_option maxRecDepth 20000 in
theorem gX2_add_X2_copy : GoodIn wsX2_add (wsV RX2 48 RX2 yX2_copy wsX2_copy) := goodIn_app (goodIn_of _ (by decide +kernel)) ggX2_add_X2_copy
theorem dX2_add_0 : decode cX2_add 0 = .ok (.aload_n 0, 1) := by decide +kernel
theorem dX2_add_1 : decode cX2_add 1 = .ok (.aload_n 0, 1) := by decide +kernel
theorem dX2_add_2 : decode cX2_add 2 = .ok (.getfield 74, 3) := by decide +kernel
theorem dX2_add_5 : decode cX2_add 5 = .ok (.iconst 2, 1) := by decide +kernel
theorem dX2_add_6 : decode cX2_add 6 = .ok (.if_icmp .ge 7, 3) := by decide +kernel
theorem dX2_add_9 : decode cX2_add 9 = .ok (.iconst 1, 1) := by decide +kernel
theorem dX2_add_10 : decode cX2_add 10 = .ok (.goto 4, 3) := by decide +kernel
theorem dX2_add_13 : decode cX2_add 13 = .ok (.iconst 0, 1) := by decide +kernel
theorem dX2_add_14 : decode cX2_add 14 = .ok (.iconst 0, 1) := by decide +kernel
theorem dX2_add_15 : decode cX2_add 15 = .ok (.iconst 0, 1) := by decide +kernel
theorem dX2_add_16 : decode cX2_add 16 = .ok (.invokevirtual 38, 3) := by decide +kernel
theorem dX2_add_19 : decode cX2_add 19 = .ok (.ifCond .eq 4, 3) := by decide +kernel
theorem dX2_add_22 : decode cX2_add 22 = .ok (.return_, 1) := by decide +kernel
theorem dX2_add_23 : decode cX2_add 23 = .ok (.bipush 11, 2) := by decide +kernel
theorem dX2_add_25 : decode cX2_add 25 = .ok (.aload_n 0, 1) := by decide +kernel
theorem dX2_add_26 : decode cX2_add 26 = .ok (.invokevirtual 77, 3) := by decide +kernel
theorem dX2_add_29 : decode cX2_add 29 = .ok (.imul, 1) := by decide +kernel
theorem dX2_add_30 : decode cX2_add 30 = .ok (.istore_n 1, 1) := by decide +kernel
theorem dX2_add_31 : decode cX2_add 31 = .ok (.iload_n 1, 1) := by decide +kernel
theorem dX2_add_32 : decode cX2_add 32 = .ok (.bipush 11, 2) := by decide +kernel
theorem dX2_add_34 : decode cX2_add 34 = .ok (.isub, 1) := by decide +kernel
theorem dX2_add_35 : decode cX2_add 35 = .ok (.istore_n 2, 1) := by decide +kernel
theorem dX2_add_36 : decode cX2_add 36 = .ok (.aload_n 0, 1) := by decide +kernel
theorem dX2_add_37 : decode cX2_add 37 = .ok (.getfield 7, 3) := by decide +kernel
theorem dX2_add_40 : decode cX2_add 40 = .ok (.iload_n 1, 1) := by decide +kernel
theorem dX2_add_41 : decode cX2_add 41 = .ok (.bipush 10, 2) := by decide +kernel
theorem dX2_add_43 : decode cX2_add 43 = .ok (.iadd, 1) := by decide +kernel
theorem dX2_add_44 : decode cX2_add 44 = .ok (.iaload, 1) := by decide +kernel
theorem dX2_add_45 : decode cX2_add 45 = .ok (.aload_n 0, 1) := by decide +kernel
theorem dX2_add_46 : decode cX2_add 46 = .ok (.getfield 7, 3) := by decide +kernel
theorem dX2_add_49 : decode cX2_add 49 = .ok (.iload_n 2, 1) := by decide +kernel
theorem dX2_add_50 : decode cX2_add 50 = .ok (.bipush 10, 2) := by decide +kernel
theorem dX2_add_52 : decode cX2_add 52 = .ok (.iadd, 1) := by decide +kernel
theorem dX2_add_53 : decode cX2_add 53 = .ok (.iaload, 1) := by decide +kernel
theorem dX2_add_54 : decode cX2_add 54 = .ok (.iadd, 1) := by decide +kernel
theorem dX2_add_55 : decode cX2_add 55 = .ok (.istore_n 3, 1) := by decide +kernel
theorem dX2_add_56 : decode cX2_add 56 = .ok (.iconst 0, 1) := by decide +kernel
theorem dX2_add_57 : decode cX2_add 57 = .ok (.istore 4, 2) := by decide +kernel
theorem dX2_add_59 : decode cX2_add 59 = .ok (.iload 4, 2) := by decide +kernel
theorem dX2_add_61 : decode cX2_add 61 = .ok (.bipush 10, 2) := by decide +kernel
theorem dX2_add_63 : decode cX2_add 63 = .ok (.if_icmp .ge 112, 3) := by decide +kernel
theorem dX2_add_66 : decode cX2_add 66 = .ok (.aload_n 0, 1) := by decide +kernel
theorem dX2_add_67 : decode cX2_add 67 = .ok (.getfield 7, 3) := by decide +kernel
theorem dX2_add_70 : decode cX2_add 70 = .ok (.iload_n 1, 1) := by decide +kernel
theorem dX2_add_71 : decode cX2_add 71 = .ok (.iload 4, 2) := by decide +kernel
theorem dX2_add_73 : decode cX2_add 73 = .ok (.iadd, 1) := by decide +kernel
theorem dX2_add_74 : decode cX2_add 74 = .ok (.iaload, 1) := by decide +kernel
theorem dX2_add_75 : decode cX2_add 75 = .ok (.istore 5, 2) := by decide +kernel
theorem dX2_add_77 : decode cX2_add 77 = .ok (.aload_n 0, 1) := by decide +kernel
theorem dX2_add_78 : decode cX2_add 78 = .ok (.getfield 7, 3) := by decide +kernel
theorem dX2_add_81 : decode cX2_add 81 = .ok (.iload_n 2, 1) := by decide +kernel
theorem dX2_add_82 : decode cX2_add 82 = .ok (.iload 4, 2) := by decide +kernel
theorem dX2_add_84 : decode cX2_add 84 = .ok (.iadd, 1) := by decide +kernel
theorem dX2_add_85 : decode cX2_add 85 = .ok (.iaload, 1) := by decide +kernel
theorem dX2_add_86 : decode cX2_add 86 = .ok (.istore 6, 2) := by decide +kernel
theorem dX2_add_88 : decode cX2_add 88 = .ok (.iload 5, 2) := by decide +kernel
theorem dX2_add_90 : decode cX2_add 90 = .ok (.ifCond .le 8, 3) := by decide +kernel
theorem dX2_add_93 : decode cX2_add 93 = .ok (.iload 6, 2) := by decide +kernel
theorem dX2_add_95 : decode cX2_add 95 = .ok (.ifCond .lt 13, 3) := by decide +kernel
theorem dX2_add_98 : decode cX2_add 98 = .ok (.iload 5, 2) := by decide +kernel
theorem dX2_add_100 : decode cX2_add 100 = .ok (.ifCond .ge 12, 3) := by decide +kernel
theorem dX2_add_103 : decode cX2_add 103 = .ok (.iload 6, 2) := by decide +kernel
theorem dX2_add_105 : decode cX2_add 105 = .ok (.ifCond .le 7, 3) := by decide +kernel
theorem dX2_add_108 : decode cX2_add 108 = .ok (.iconst 1, 1) := by decide +kernel
theorem dX2_add_109 : decode cX2_add 109 = .ok (.goto 4, 3) := by decide +kernel
theorem dX2_add_112 : decode cX2_add 112 = .ok (.iconst 0, 1) := by decide +kernel
theorem dX2_add_113 : decode cX2_add 113 = .ok (.istore 7, 2) := by decide +kernel
theorem dX2_add_115 : decode cX2_add 115 = .ok (.iload_n 3, 1) := by decide +kernel
theorem dX2_add_116 : decode cX2_add 116 = .ok (.iload 7, 2) := by decide +kernel
theorem dX2_add_118 : decode cX2_add 118 = .ok (.ifCond .ne 7, 3) := by decide +kernel
theorem dX2_add_121 : decode cX2_add 121 = .ok (.iconst 0, 1) := by decide +kernel
theorem dX2_add_122 : decode cX2_add 122 = .ok (.goto 29, 3) := by decide +kernel
theorem dX2_add_125 : decode cX2_add 125 = .ok (.iload 5, 2) := by decide +kernel
theorem dX2_add_127 : decode cX2_add 127 = .ok (.invokestatic 30, 3) := by decide +kernel
theorem dX2_add_130 : decode cX2_add 130 = .ok (.iload 6, 2) := by decide +kernel
theorem dX2_add_132 : decode cX2_add 132 = .ok (.invokestatic 30, 3) := by decide +kernel
theorem dX2_add_135 : decode cX2_add 135 = .ok (.if_icmp .ge 11, 3) := by decide +kernel
theorem dX2_add_138 : decode cX2_add 138 = .ok (.iload 5, 2) := by decide +kernel
theorem dX2_add_140 : decode cX2_add 140 = .ok (.invokestatic 30, 3) := by decide +kernel
theorem dX2_add_143 : decode cX2_add 143 = .ok (.goto 8, 3) := by decide +kernel
theorem dX2_add_146 : decode cX2_add 146 = .ok (.iload 6, 2) := by decide +kernel
theorem dX2_add_148 : decode cX2_add 148 = .ok (.invokestatic 30, 3) := by decide +kernel
theorem dX2_add_151 : decode cX2_add 151 = .ok (.isub, 1) := by decide +kernel
theorem dX2_add_152 : decode cX2_add 152 = .ok (.istore_n 3, 1) := by decide +kernel
theorem dX2_add_153 : decode cX2_add 153 = .ok (.aload_n 0, 1) := by decide +kernel
theorem dX2_add_154 : decode cX2_add 154 = .ok (.getfield 7, 3) := by decide +kernel
theorem dX2_add_157 : decode cX2_add 157 = .ok (.sipush 396, 3) := by decide +kernel
theorem dX2_add_160 : decode cX2_add 160 = .ok (.iload 4, 2) := by decide +kernel
theorem dX2_add_162 : decode cX2_add 162 = .ok (.iadd, 1) := by decide +kernel
theorem dX2_add_163 : decode cX2_add 163 = .ok (.iload 5, 2) := by decide +kernel
theorem dX2_add_165 : decode cX2_add 165 = .ok (.iload 6, 2) := by decide +kernel
theorem dX2_add_167 : decode cX2_add 167 = .ok (.iadd, 1) := by decide +kernel
theorem dX2_add_168 : decode cX2_add 168 = .ok (.iastore, 1) := by decide +kernel
theorem dX2_add_169 : decode cX2_add 169 = .ok (.iinc 4 1, 3) := by decide +kernel
theorem dX2_add_172 : decode cX2_add 172 = .ok (.goto (-113), 3) := by decide +kernel
theorem dX2_add_175 : decode cX2_add 175 = .ok (.aload_n 0, 1) := by decide +kernel
theorem dX2_add_176 : decode cX2_add 176 = .ok (.getfield 7, 3) := by decide +kernel
theorem dX2_add_179 : decode cX2_add 179 = .ok (.sipush 406, 3) := by decide +kernel
theorem dX2_add_182 : decode cX2_add 182 = .ok (.iload_n 3, 1) := by decide +kernel
theorem dX2_add_183 : decode cX2_add 183 = .ok (.ifCond .ge 7, 3) := by decide +kernel
theorem dX2_add_186 : decode cX2_add 186 = .ok (.iconst 0, 1) := by decide +kernel
theorem dX2_add_187 : decode cX2_add 187 = .ok (.goto 4, 3) := by decide +kernel
theorem dX2_add_190 : decode cX2_add 190 = .ok (.iload_n 3, 1) := by decide +kernel
theorem dX2_add_191 : decode cX2_add 191 = .ok (.iastore, 1) := by decide +kernel
theorem dX2_add_192 : decode cX2_add 192 = .ok (.aload_n 0, 1) := by decide +kernel
theorem dX2_add_193 : decode cX2_add 193 = .ok (.iconst 0, 1) := by decide +kernel
theorem dX2_add_194 : decode cX2_add 194 = .ok (.aload_n 0, 1) := by decide +kernel
theorem dX2_add_195 : decode cX2_add 195 = .ok (.bipush 36, 2) := by decide +kernel
theorem dX2_add_197 : decode cX2_add 197 = .ok (.invokevirtual 82, 3) := by decide +kernel
theorem dX2_add_200 : decode cX2_add 200 = .ok (.iconst 0, 1) := by decide +kernel
theorem dX2_add_201 : decode cX2_add 201 = .ok (.invokevirtual 38, 3) := by decide +kernel
theorem dX2_add_204 : decode cX2_add 204 = .ok (.ifCond .eq 4, 3) := by decide +kernel
theorem dX2_add_207 : decode cX2_add 207 = .ok (.return_, 1) := by decide +kernel
theorem dX2_add_208 : decode cX2_add 208 = .ok (.aload_n 0, 1) := by decide +kernel
theorem dX2_add_209 : decode cX2_add 209 = .ok (.dup, 1) := by decide +kernel
theorem dX2_add_210 : decode cX2_add 210 = .ok (.getfield 74, 3) := by decide +kernel
theorem dX2_add_213 : decode cX2_add 213 = .ok (.iconst 1, 1) := by decide +kernel
theorem dX2_add_214 : decode cX2_add 214 = .ok (.isub, 1) := by decide +kernel
theorem dX2_add_215 : decode cX2_add 215 = .ok (.putfield 74, 3) := by decide +kernel
theorem dX2_add_218 : decode cX2_add 218 = .ok (.aload_n 0, 1) := by decide +kernel
theorem dX2_add_219 : decode cX2_add 219 = .ok (.bipush 36, 2) := by decide +kernel
theorem dX2_add_221 : decode cX2_add 221 = .ok (.aload_n 0, 1) := by decide +kernel
theorem dX2_add_222 : decode cX2_add 222 = .ok (.invokevirtual 77, 3) := by decide +kernel
theorem dX2_add_225 : decode cX2_add 225 = .ok (.invokevirtual 48, 3) := by decide +kernel
theorem dX2_add_228 : decode cX2_add 228 = .ok (.return_, 1) := by decide +kernel
set_option maxRecDepth 20000 in
theorem ggX2_times_X2_outside : GoodIn wsX2_times wsX2_outside := goodIn_r _ [6] (by decide +kernel) (by decide +kernel)
set_option maxRecDepth 20000 in
theorem gX2_times_X2_outside : GoodIn wsX2_times (va_wsS RX2 34 yX2_outside wsX2_outside) := goodIn_app (goodIn_of _ (by decide +kernel)) ggX2_times_X2_outside
set_option maxRecDepth 20000 in
theorem ggX2_times_X2_fails : GoodIn wsX2_times wsX2_fails := goodIn_r _ [10, 11, 28, 29, 30, 31, 32, 33, 34, 35, 36, 37, 38, 39, 40] (by decide +kernel) (by decide +kernel)
set_option maxRecDepth 20000 in
theorem gX2_times_X2_fails : GoodIn wsX2_times (wsV RX2 38 RX2 yX2_fails wsX2_fails) := goodIn_app (goodIn_of _ (by decide +kernel)) ggX2_times_X2_fails
set_option maxRecDepth 20000 in
theorem ggX2_times_X2_upper : GoodIn wsX2_times wsX2_upper := goodIn_r _ [15, 1, 28, 29, 30, 31, 32, 33, 34, 35, 36, 37, 38, 39, 40] (by decide +kernel) (by decide +kernel)
set_option maxRecDepth 20000 in
theorem gX2_times_X2_upper : GoodIn wsX2_times (wsV RX2 77 RX2 yX2_upper wsX2_upper) := goodIn_app (goodIn_of _ (by decide +kernel)) ggX2_times_X2_upper
set_option maxRecDepth 20000 in
theorem ggX2_times_X2_large : GoodIn wsX2_times wsX2_large := goodIn_r _ [19, 2, 20, 21, 22, 5, 23, 28, 29, 30, 31, 32, 33, 34, 35, 36, 37, 38, 39, 40] (by decide +kernel) (by decide +kernel)
set_option maxRecDepth 20000 in
theorem gX2_times_X2_large : GoodIn wsX2_times (wsV RX2 82 RX2 yX2_large wsX2_large) := goodIn_app (goodIn_of _ (by decide +kernel)) ggX2_times_X2_large
set_option maxRecDepth 20000 in
theorem ggX2_times_X2_copy : GoodIn wsX2_times wsX2_copy := goodIn_r _ [27, 2, 28, 29, 30, 31, 32, 33, 34, 35, 36, 37, 38, 39, 40] (by decide +kernel) (by decide +kernel)
set_option maxRecDepth 20000 in
theorem gX2_times_X2_copy : GoodIn wsX2_times (wsV RX2 48 RX2 yX2_copy wsX2_copy) := goodIn_app (goodIn_of _ (by decide +kernel)) ggX2_times_X2_copy
theorem dX2_times_0 : decode cX2_times 0 = .ok (.aload_n 0, 1) := by decide +kernel
theorem dX2_times_1 : decode cX2_times 1 = .ok (.aload_n 0, 1) := by decide +kernel
theorem dX2_times_2 : decode cX2_times 2 = .ok (.getfield 74, 3) := by decide +kernel
theorem dX2_times_5 : decode cX2_times 5 = .ok (.iconst 1, 1) := by decide +kernel
theorem dX2_times_6 : decode cX2_times 6 = .ok (.if_icmp .ge 7, 3) := by decide +kernel
theorem dX2_times_9 : decode cX2_times 9 = .ok (.iconst 1, 1) := by decide +kernel
theorem dX2_times_10 : decode cX2_times 10 = .ok (.goto 4, 3) := by decide +kernel
theorem dX2_times_13 : decode cX2_times 13 = .ok (.iconst 0, 1) := by decide +kernel
theorem dX2_times_14 : decode cX2_times 14 = .ok (.iload_n 1, 1) := by decide +kernel
theorem dX2_times_15 : decode cX2_times 15 = .ok (.iconst 1, 1) := by decide +kernel
theorem dX2_times_16 : decode cX2_times 16 = .ok (.sipush 1000, 3) := by decide +kernel
theorem dX2_times_19 : decode cX2_times 19 = .ok (.invokestatic 34, 3) := by decide +kernel
theorem dX2_times_22 : decode cX2_times 22 = .ok (.iconst 0, 1) := by decide +kernel
theorem dX2_times_23 : decode cX2_times 23 = .ok (.invokevirtual 38, 3) := by decide +kernel
theorem dX2_times_26 : decode cX2_times 26 = .ok (.ifCond .eq 4, 3) := by decide +kernel
theorem dX2_times_29 : decode cX2_times 29 = .ok (.return_, 1) := by decide +kernel
theorem dX2_times_30 : decode cX2_times 30 = .ok (.iconst 0, 1) := by decide +kernel
theorem dX2_times_31 : decode cX2_times 31 = .ok (.istore_n 2, 1) := by decide +kernel
theorem dX2_times_32 : decode cX2_times 32 = .ok (.iload_n 2, 1) := by decide +kernel
theorem dX2_times_33 : decode cX2_times 33 = .ok (.bipush 11, 2) := by decide +kernel
theorem dX2_times_35 : decode cX2_times 35 = .ok (.if_icmp .ge 35, 3) := by decide +kernel
theorem dX2_times_38 : decode cX2_times 38 = .ok (.aload_n 0, 1) := by decide +kernel
theorem dX2_times_39 : decode cX2_times 39 = .ok (.getfield 7, 3) := by decide +kernel
theorem dX2_times_42 : decode cX2_times 42 = .ok (.sipush 396, 3) := by decide +kernel
theorem dX2_times_45 : decode cX2_times 45 = .ok (.iload_n 2, 1) := by decide +kernel
theorem dX2_times_46 : decode cX2_times 46 = .ok (.iadd, 1) := by decide +kernel
theorem dX2_times_47 : decode cX2_times 47 = .ok (.iload_n 1, 1) := by decide +kernel
theorem dX2_times_48 : decode cX2_times 48 = .ok (.aload_n 0, 1) := by decide +kernel
theorem dX2_times_49 : decode cX2_times 49 = .ok (.getfield 7, 3) := by decide +kernel
theorem dX2_times_52 : decode cX2_times 52 = .ok (.bipush 11, 2) := by decide +kernel
theorem dX2_times_54 : decode cX2_times 54 = .ok (.aload_n 0, 1) := by decide +kernel
theorem dX2_times_55 : decode cX2_times 55 = .ok (.invokevirtual 77, 3) := by decide +kernel
theorem dX2_times_58 : decode cX2_times 58 = .ok (.imul, 1) := by decide +kernel
theorem dX2_times_59 : decode cX2_times 59 = .ok (.iload_n 2, 1) := by decide +kernel
theorem dX2_times_60 : decode cX2_times 60 = .ok (.iadd, 1) := by decide +kernel
theorem dX2_times_61 : decode cX2_times 61 = .ok (.iaload, 1) := by decide +kernel
theorem dX2_times_62 : decode cX2_times 62 = .ok (.imul, 1) := by decide +kernel
theorem dX2_times_63 : decode cX2_times 63 = .ok (.iastore, 1) := by decide +kernel
theorem dX2_times_64 : decode cX2_times 64 = .ok (.iinc 2 1, 3) := by decide +kernel
theorem dX2_times_67 : decode cX2_times 67 = .ok (.goto (-35), 3) := by decide +kernel
theorem dX2_times_70 : decode cX2_times 70 = .ok (.aload_n 0, 1) := by decide +kernel
theorem dX2_times_71 : decode cX2_times 71 = .ok (.iconst 0, 1) := by decide +kernel
theorem dX2_times_72 : decode cX2_times 72 = .ok (.iconst 0, 1) := by decide +kernel
theorem dX2_times_73 : decode cX2_times 73 = .ok (.aload_n 0, 1) := by decide +kernel
theorem dX2_times_74 : decode cX2_times 74 = .ok (.bipush 36, 2) := by decide +kernel
theorem dX2_times_76 : decode cX2_times 76 = .ok (.invokevirtual 82, 3) := by decide +kernel
theorem dX2_times_79 : decode cX2_times 79 = .ok (.invokevirtual 38, 3) := by decide +kernel
theorem dX2_times_82 : decode cX2_times 82 = .ok (.ifCond .eq 4, 3) := by decide +kernel
theorem dX2_times_85 : decode cX2_times 85 = .ok (.return_, 1) := by decide +kernel
theorem dX2_times_86 : decode cX2_times 86 = .ok (.aload_n 0, 1) := by decide +kernel
theorem dX2_times_87 : decode cX2_times 87 = .ok (.bipush 36, 2) := by decide +kernel
theorem dX2_times_89 : decode cX2_times 89 = .ok (.aload_n 0, 1) := by decide +kernel
theorem dX2_times_90 : decode cX2_times 90 = .ok (.invokevirtual 77, 3) := by decide +kernel
theorem dX2_times_93 : decode cX2_times 93 = .ok (.invokevirtual 48, 3) := by decide +kernel
theorem dX2_times_96 : decode cX2_times 96 = .ok (.return_, 1) := by decide +kernel
theorem dX2_part_0 : decode cX2_part 0 = .ok (.iload_n 0, 1) := by decide +kernel
theorem dX2_part_1 : decode cX2_part 1 = .ok (.ifCond .ne 7, 3) := by decide +kernel
theorem dX2_part_4 : decode cX2_part 4 = .ok (.iconst 0, 1) := by decide +kernel
theorem dX2_part_5 : decode cX2_part 5 = .ok (.goto 10, 3) := by decide +kernel
theorem dX2_part_8 : decode cX2_part 8 = .ok (.iload_n 0, 1) := by decide +kernel
theorem dX2_part_9 : decode cX2_part 9 = .ok (.iconst 1, 1) := by decide +kernel
theorem dX2_part_10 : decode cX2_part 10 = .ok (.isub, 1) := by decide +kernel
theorem dX2_part_11 : decode cX2_part 11 = .ok (.iload_n 1, 1) := by decide +kernel
theorem dX2_part_12 : decode cX2_part 12 = .ok (.idiv, 1) := by decide +kernel
theorem dX2_part_13 : decode cX2_part 13 = .ok (.iconst 1, 1) := by decide +kernel
theorem dX2_part_14 : decode cX2_part 14 = .ok (.iadd, 1) := by decide +kernel
theorem dX2_part_15 : decode cX2_part 15 = .ok (.ireturn, 1) := by decide +kernel
set_option maxRecDepth 20000 in
theorem ggX2_divide_X2_outside : GoodIn wsX2_divide wsX2_outside := goodIn_r _ [7] (by decide +kernel) (by decide +kernel)
set_option maxRecDepth 20000 in
theorem gX2_divide_X2_outside : GoodIn wsX2_divide (va_wsS RX2 34 yX2_outside wsX2_outside) := goodIn_app (goodIn_of _ (by decide +kernel)) ggX2_divide_X2_outside
set_option maxRecDepth 20000 in
theorem ggX2_divide_X2_fails : GoodIn wsX2_divide wsX2_fails := goodIn_r _ [11, 12, 20, 21, 22, 23, 24, 25, 26, 27, 28, 29, 30, 31, 32] (by decide +kernel) (by decide +kernel)
set_option maxRecDepth 20000 in
theorem gX2_divide_X2_fails : GoodIn wsX2_divide (wsV RX2 38 RX2 yX2_fails wsX2_fails) := goodIn_app (goodIn_of _ (by decide +kernel)) ggX2_divide_X2_fails
set_option maxRecDepth 20000 in
theorem ggX2_divide_X2_upper : GoodIn wsX2_divide wsX2_upper := goodIn_r _ [16, 1, 20, 21, 22, 23, 24, 25, 26, 27, 28, 29, 30, 31, 32] (by decide +kernel) (by decide +kernel)
set_option maxRecDepth 20000 in
theorem gX2_divide_X2_upper : GoodIn wsX2_divide (wsV RX2 77 RX2 yX2_upper wsX2_upper) := goodIn_app (goodIn_of _ (by decide +kernel)) ggX2_divide_X2_upper
set_option maxRecDepth 20000 in
theorem ggX2_divide_X2_part : GoodIn wsX2_divide wsX2_part := goodIn_r _ [19] (by decide +kernel) (by decide +kernel)
set_option maxRecDepth 20000 in
theorem gX2_divide_X2_part : GoodIn wsX2_divide (va_wsS RX2 86 yX2_part wsX2_part) := goodIn_app (goodIn_of _ (by decide +kernel)) ggX2_divide_X2_part
theorem dX2_divide_0 : decode cX2_divide 0 = .ok (.aload_n 0, 1) := by decide +kernel
theorem dX2_divide_1 : decode cX2_divide 1 = .ok (.aload_n 0, 1) := by decide +kernel
theorem dX2_divide_2 : decode cX2_divide 2 = .ok (.getfield 74, 3) := by decide +kernel
theorem dX2_divide_5 : decode cX2_divide 5 = .ok (.iconst 1, 1) := by decide +kernel
theorem dX2_divide_6 : decode cX2_divide 6 = .ok (.if_icmp .ge 7, 3) := by decide +kernel
theorem dX2_divide_9 : decode cX2_divide 9 = .ok (.iconst 1, 1) := by decide +kernel
theorem dX2_divide_10 : decode cX2_divide 10 = .ok (.goto 4, 3) := by decide +kernel
theorem dX2_divide_13 : decode cX2_divide 13 = .ok (.iconst 0, 1) := by decide +kernel
theorem dX2_divide_14 : decode cX2_divide 14 = .ok (.iload_n 1, 1) := by decide +kernel
theorem dX2_divide_15 : decode cX2_divide 15 = .ok (.iconst 1, 1) := by decide +kernel
theorem dX2_divide_16 : decode cX2_divide 16 = .ok (.ldc 81, 2) := by decide +kernel
theorem dX2_divide_18 : decode cX2_divide 18 = .ok (.invokestatic 34, 3) := by decide +kernel
theorem dX2_divide_21 : decode cX2_divide 21 = .ok (.iconst 0, 1) := by decide +kernel
theorem dX2_divide_22 : decode cX2_divide 22 = .ok (.invokevirtual 38, 3) := by decide +kernel
theorem dX2_divide_25 : decode cX2_divide 25 = .ok (.ifCond .eq 4, 3) := by decide +kernel
theorem dX2_divide_28 : decode cX2_divide 28 = .ok (.return_, 1) := by decide +kernel
theorem dX2_divide_29 : decode cX2_divide 29 = .ok (.iconst 0, 1) := by decide +kernel
theorem dX2_divide_30 : decode cX2_divide 30 = .ok (.istore_n 2, 1) := by decide +kernel
theorem dX2_divide_31 : decode cX2_divide 31 = .ok (.iload_n 2, 1) := by decide +kernel
theorem dX2_divide_32 : decode cX2_divide 32 = .ok (.bipush 11, 2) := by decide +kernel
theorem dX2_divide_34 : decode cX2_divide 34 = .ok (.if_icmp .ge 57, 3) := by decide +kernel
theorem dX2_divide_37 : decode cX2_divide 37 = .ok (.aload_n 0, 1) := by decide +kernel
theorem dX2_divide_38 : decode cX2_divide 38 = .ok (.getfield 7, 3) := by decide +kernel
theorem dX2_divide_41 : decode cX2_divide 41 = .ok (.bipush 11, 2) := by decide +kernel
theorem dX2_divide_43 : decode cX2_divide 43 = .ok (.aload_n 0, 1) := by decide +kernel
theorem dX2_divide_44 : decode cX2_divide 44 = .ok (.invokevirtual 77, 3) := by decide +kernel
theorem dX2_divide_47 : decode cX2_divide 47 = .ok (.imul, 1) := by decide +kernel
theorem dX2_divide_48 : decode cX2_divide 48 = .ok (.iload_n 2, 1) := by decide +kernel
theorem dX2_divide_49 : decode cX2_divide 49 = .ok (.iadd, 1) := by decide +kernel
theorem dX2_divide_50 : decode cX2_divide 50 = .ok (.iaload, 1) := by decide +kernel
theorem dX2_divide_51 : decode cX2_divide 51 = .ok (.istore_n 3, 1) := by decide +kernel
theorem dX2_divide_52 : decode cX2_divide 52 = .ok (.aload_n 0, 1) := by decide +kernel
theorem dX2_divide_53 : decode cX2_divide 53 = .ok (.getfield 7, 3) := by decide +kernel
theorem dX2_divide_56 : decode cX2_divide 56 = .ok (.bipush 11, 2) := by decide +kernel
theorem dX2_divide_58 : decode cX2_divide 58 = .ok (.aload_n 0, 1) := by decide +kernel
theorem dX2_divide_59 : decode cX2_divide 59 = .ok (.invokevirtual 77, 3) := by decide +kernel
theorem dX2_divide_62 : decode cX2_divide 62 = .ok (.imul, 1) := by decide +kernel
theorem dX2_divide_63 : decode cX2_divide 63 = .ok (.iload_n 2, 1) := by decide +kernel
theorem dX2_divide_64 : decode cX2_divide 64 = .ok (.iadd, 1) := by decide +kernel
theorem dX2_divide_65 : decode cX2_divide 65 = .ok (.iload_n 3, 1) := by decide +kernel
theorem dX2_divide_66 : decode cX2_divide 66 = .ok (.ifCond .ge 13, 3) := by decide +kernel
theorem dX2_divide_69 : decode cX2_divide 69 = .ok (.iload_n 3, 1) := by decide +kernel
theorem dX2_divide_70 : decode cX2_divide 70 = .ok (.ineg, 1) := by decide +kernel
theorem dX2_divide_71 : decode cX2_divide 71 = .ok (.iload_n 1, 1) := by decide +kernel
theorem dX2_divide_72 : decode cX2_divide 72 = .ok (.invokestatic 86, 3) := by decide +kernel
theorem dX2_divide_75 : decode cX2_divide 75 = .ok (.ineg, 1) := by decide +kernel
theorem dX2_divide_76 : decode cX2_divide 76 = .ok (.goto 8, 3) := by decide +kernel
theorem dX2_divide_79 : decode cX2_divide 79 = .ok (.iload_n 3, 1) := by decide +kernel
theorem dX2_divide_80 : decode cX2_divide 80 = .ok (.iload_n 1, 1) := by decide +kernel
theorem dX2_divide_81 : decode cX2_divide 81 = .ok (.invokestatic 86, 3) := by decide +kernel
theorem dX2_divide_84 : decode cX2_divide 84 = .ok (.iastore, 1) := by decide +kernel
theorem dX2_divide_85 : decode cX2_divide 85 = .ok (.iinc 2 1, 3) := by decide +kernel
theorem dX2_divide_88 : decode cX2_divide 88 = .ok (.goto (-57), 3) := by decide +kernel
theorem dX2_divide_91 : decode cX2_divide 91 = .ok (.return_, 1) := by decide +kernel
set_option maxRecDepth 20000 in
theorem ggX2_saturate_X2_fails : GoodIn wsX2_saturate wsX2_fails := goodIn_r _ [7, 8, 16, 17, 18, 19, 20, 21, 22, 23, 24, 25, 26, 27, 28] (by decide +kernel) (by decide +kernel)
set_option maxRecDepth 20000 in
theorem gX2_saturate_X2_fails : GoodIn wsX2_saturate (wsV RX2 38 RX2 yX2_fails wsX2_fails) := goodIn_app (goodIn_of _ (by decide +kernel)) ggX2_saturate_X2_fails
set_option maxRecDepth 20000 in
theorem ggX2_saturate_X2_upper : GoodIn wsX2_saturate wsX2_upper := goodIn_r _ [12, 1, 16, 17, 18, 19, 20, 21, 22, 23, 24, 25, 26, 27, 28] (by decide +kernel) (by decide +kernel)
set_option maxRecDepth 20000 in
theorem gX2_saturate_X2_upper : GoodIn wsX2_saturate (wsV RX2 77 RX2 yX2_upper wsX2_upper) := goodIn_app (goodIn_of _ (by decide +kernel)) ggX2_saturate_X2_upper
set_option maxRecDepth 20000 in
theorem ggX2_saturate_X2_size : GoodIn wsX2_saturate wsX2_size := goodIn_r _ [15] (by decide +kernel) (by decide +kernel)
set_option maxRecDepth 20000 in
theorem gX2_saturate_X2_size : GoodIn wsX2_saturate (va_wsS RX2 30 yX2_size wsX2_size) := goodIn_app (goodIn_of _ (by decide +kernel)) ggX2_saturate_X2_size
theorem dX2_saturate_0 : decode cX2_saturate 0 = .ok (.aload_n 0, 1) := by decide +kernel
theorem dX2_saturate_1 : decode cX2_saturate 1 = .ok (.aload_n 0, 1) := by decide +kernel
theorem dX2_saturate_2 : decode cX2_saturate 2 = .ok (.getfield 74, 3) := by decide +kernel
theorem dX2_saturate_5 : decode cX2_saturate 5 = .ok (.iconst 1, 1) := by decide +kernel
theorem dX2_saturate_6 : decode cX2_saturate 6 = .ok (.if_icmp .ge 7, 3) := by decide +kernel
theorem dX2_saturate_9 : decode cX2_saturate 9 = .ok (.iconst 1, 1) := by decide +kernel
theorem dX2_saturate_10 : decode cX2_saturate 10 = .ok (.goto 4, 3) := by decide +kernel
theorem dX2_saturate_13 : decode cX2_saturate 13 = .ok (.iconst 0, 1) := by decide +kernel
theorem dX2_saturate_14 : decode cX2_saturate 14 = .ok (.iconst 0, 1) := by decide +kernel
theorem dX2_saturate_15 : decode cX2_saturate 15 = .ok (.iconst 0, 1) := by decide +kernel
theorem dX2_saturate_16 : decode cX2_saturate 16 = .ok (.invokevirtual 38, 3) := by decide +kernel
theorem dX2_saturate_19 : decode cX2_saturate 19 = .ok (.ifCond .eq 4, 3) := by decide +kernel
theorem dX2_saturate_22 : decode cX2_saturate 22 = .ok (.return_, 1) := by decide +kernel
theorem dX2_saturate_23 : decode cX2_saturate 23 = .ok (.aload_n 0, 1) := by decide +kernel
theorem dX2_saturate_24 : decode cX2_saturate 24 = .ok (.getfield 7, 3) := by decide +kernel
theorem dX2_saturate_27 : decode cX2_saturate 27 = .ok (.bipush 11, 2) := by decide +kernel
theorem dX2_saturate_29 : decode cX2_saturate 29 = .ok (.aload_n 0, 1) := by decide +kernel
theorem dX2_saturate_30 : decode cX2_saturate 30 = .ok (.invokevirtual 77, 3) := by decide +kernel
theorem dX2_saturate_33 : decode cX2_saturate 33 = .ok (.imul, 1) := by decide +kernel
theorem dX2_saturate_34 : decode cX2_saturate 34 = .ok (.bipush 10, 2) := by decide +kernel
theorem dX2_saturate_36 : decode cX2_saturate 36 = .ok (.iadd, 1) := by decide +kernel
theorem dX2_saturate_37 : decode cX2_saturate 37 = .ok (.iaload, 1) := by decide +kernel
theorem dX2_saturate_38 : decode cX2_saturate 38 = .ok (.istore_n 1, 1) := by decide +kernel
theorem dX2_saturate_39 : decode cX2_saturate 39 = .ok (.iconst 0, 1) := by decide +kernel
theorem dX2_saturate_40 : decode cX2_saturate 40 = .ok (.istore_n 2, 1) := by decide +kernel
theorem dX2_saturate_41 : decode cX2_saturate 41 = .ok (.iload_n 2, 1) := by decide +kernel
theorem dX2_saturate_42 : decode cX2_saturate 42 = .ok (.bipush 10, 2) := by decide +kernel
theorem dX2_saturate_44 : decode cX2_saturate 44 = .ok (.if_icmp .ge 56, 3) := by decide +kernel
theorem dX2_saturate_47 : decode cX2_saturate 47 = .ok (.aload_n 0, 1) := by decide +kernel
theorem dX2_saturate_48 : decode cX2_saturate 48 = .ok (.getfield 7, 3) := by decide +kernel
theorem dX2_saturate_51 : decode cX2_saturate 51 = .ok (.bipush 11, 2) := by decide +kernel
theorem dX2_saturate_53 : decode cX2_saturate 53 = .ok (.aload_n 0, 1) := by decide +kernel
theorem dX2_saturate_54 : decode cX2_saturate 54 = .ok (.invokevirtual 77, 3) := by decide +kernel
theorem dX2_saturate_57 : decode cX2_saturate 57 = .ok (.imul, 1) := by decide +kernel
theorem dX2_saturate_58 : decode cX2_saturate 58 = .ok (.iload_n 2, 1) := by decide +kernel
theorem dX2_saturate_59 : decode cX2_saturate 59 = .ok (.iadd, 1) := by decide +kernel
theorem dX2_saturate_60 : decode cX2_saturate 60 = .ok (.iaload, 1) := by decide +kernel
theorem dX2_saturate_61 : decode cX2_saturate 61 = .ok (.istore_n 3, 1) := by decide +kernel
theorem dX2_saturate_62 : decode cX2_saturate 62 = .ok (.iload_n 3, 1) := by decide +kernel
theorem dX2_saturate_63 : decode cX2_saturate 63 = .ok (.invokestatic 30, 3) := by decide +kernel
theorem dX2_saturate_66 : decode cX2_saturate 66 = .ok (.iload_n 1, 1) := by decide +kernel
theorem dX2_saturate_67 : decode cX2_saturate 67 = .ok (.if_icmp .le 27, 3) := by decide +kernel
theorem dX2_saturate_70 : decode cX2_saturate 70 = .ok (.aload_n 0, 1) := by decide +kernel
theorem dX2_saturate_71 : decode cX2_saturate 71 = .ok (.getfield 7, 3) := by decide +kernel
theorem dX2_saturate_74 : decode cX2_saturate 74 = .ok (.bipush 11, 2) := by decide +kernel
theorem dX2_saturate_76 : decode cX2_saturate 76 = .ok (.aload_n 0, 1) := by decide +kernel
theorem dX2_saturate_77 : decode cX2_saturate 77 = .ok (.invokevirtual 77, 3) := by decide +kernel
theorem dX2_saturate_80 : decode cX2_saturate 80 = .ok (.imul, 1) := by decide +kernel
theorem dX2_saturate_81 : decode cX2_saturate 81 = .ok (.iload_n 2, 1) := by decide +kernel
theorem dX2_saturate_82 : decode cX2_saturate 82 = .ok (.iadd, 1) := by decide +kernel
theorem dX2_saturate_83 : decode cX2_saturate 83 = .ok (.iload_n 3, 1) := by decide +kernel
theorem dX2_saturate_84 : decode cX2_saturate 84 = .ok (.ifCond .ge 8, 3) := by decide +kernel
theorem dX2_saturate_87 : decode cX2_saturate 87 = .ok (.iload_n 1, 1) := by decide +kernel
theorem dX2_saturate_88 : decode cX2_saturate 88 = .ok (.ineg, 1) := by decide +kernel
theorem dX2_saturate_89 : decode cX2_saturate 89 = .ok (.goto 4, 3) := by decide +kernel
theorem dX2_saturate_92 : decode cX2_saturate 92 = .ok (.iload_n 1, 1) := by decide +kernel
theorem dX2_saturate_93 : decode cX2_saturate 93 = .ok (.iastore, 1) := by decide +kernel
theorem dX2_saturate_94 : decode cX2_saturate 94 = .ok (.iinc 2 1, 3) := by decide +kernel
theorem dX2_saturate_97 : decode cX2_saturate 97 = .ok (.goto (-56), 3) := by decide +kernel
theorem dX2_saturate_100 : decode cX2_saturate 100 = .ok (.return_, 1) := by decide +kernel
set_option maxRecDepth 20000 in
theorem ggX2_weaken_X2_outside : GoodIn wsX2_weaken wsX2_outside := goodIn_r _ [6] (by decide +kernel) (by decide +kernel)
set_option maxRecDepth 20000 in
theorem gX2_weaken_X2_outside : GoodIn wsX2_weaken (va_wsS RX2 34 yX2_outside wsX2_outside) := goodIn_app (goodIn_of _ (by decide +kernel)) ggX2_weaken_X2_outside
set_option maxRecDepth 20000 in
theorem ggX2_weaken_X2_fails : GoodIn wsX2_weaken wsX2_fails := goodIn_r _ [10, 11, 19, 20, 21, 22, 23, 24, 25, 26, 27, 28, 29, 30, 31] (by decide +kernel) (by decide +kernel)
set_option maxRecDepth 20000 in
theorem gX2_weaken_X2_fails : GoodIn wsX2_weaken (wsV RX2 38 RX2 yX2_fails wsX2_fails) := goodIn_app (goodIn_of _ (by decide +kernel)) ggX2_weaken_X2_fails
set_option maxRecDepth 20000 in
theorem ggX2_weaken_X2_upper : GoodIn wsX2_weaken wsX2_upper := goodIn_r _ [15, 1, 19, 20, 21, 22, 23, 24, 25, 26, 27, 28, 29, 30, 31] (by decide +kernel) (by decide +kernel)
set_option maxRecDepth 20000 in
theorem gX2_weaken_X2_upper : GoodIn wsX2_weaken (wsV RX2 77 RX2 yX2_upper wsX2_upper) := goodIn_app (goodIn_of _ (by decide +kernel)) ggX2_weaken_X2_upper
set_option maxRecDepth 20000 in
theorem ggX2_weaken_X2_size : GoodIn wsX2_weaken wsX2_size := goodIn_r _ [18] (by decide +kernel) (by decide +kernel)
set_option maxRecDepth 20000 in
theorem gX2_weaken_X2_size : GoodIn wsX2_weaken (va_wsS RX2 30 yX2_size wsX2_size) := goodIn_app (goodIn_of _ (by decide +kernel)) ggX2_weaken_X2_size
theorem dX2_weaken_0 : decode cX2_weaken 0 = .ok (.aload_n 0, 1) := by decide +kernel
theorem dX2_weaken_1 : decode cX2_weaken 1 = .ok (.aload_n 0, 1) := by decide +kernel
theorem dX2_weaken_2 : decode cX2_weaken 2 = .ok (.getfield 74, 3) := by decide +kernel
theorem dX2_weaken_5 : decode cX2_weaken 5 = .ok (.iconst 1, 1) := by decide +kernel
theorem dX2_weaken_6 : decode cX2_weaken 6 = .ok (.if_icmp .ge 7, 3) := by decide +kernel
theorem dX2_weaken_9 : decode cX2_weaken 9 = .ok (.iconst 1, 1) := by decide +kernel
theorem dX2_weaken_10 : decode cX2_weaken 10 = .ok (.goto 4, 3) := by decide +kernel
theorem dX2_weaken_13 : decode cX2_weaken 13 = .ok (.iconst 0, 1) := by decide +kernel
theorem dX2_weaken_14 : decode cX2_weaken 14 = .ok (.iload_n 1, 1) := by decide +kernel
theorem dX2_weaken_15 : decode cX2_weaken 15 = .ok (.iconst 0, 1) := by decide +kernel
theorem dX2_weaken_16 : decode cX2_weaken 16 = .ok (.bipush 9, 2) := by decide +kernel
theorem dX2_weaken_18 : decode cX2_weaken 18 = .ok (.invokestatic 34, 3) := by decide +kernel
theorem dX2_weaken_21 : decode cX2_weaken 21 = .ok (.iconst 0, 1) := by decide +kernel
theorem dX2_weaken_22 : decode cX2_weaken 22 = .ok (.invokevirtual 38, 3) := by decide +kernel
theorem dX2_weaken_25 : decode cX2_weaken 25 = .ok (.ifCond .eq 4, 3) := by decide +kernel
theorem dX2_weaken_28 : decode cX2_weaken 28 = .ok (.return_, 1) := by decide +kernel
theorem dX2_weaken_29 : decode cX2_weaken 29 = .ok (.aload_n 0, 1) := by decide +kernel
theorem dX2_weaken_30 : decode cX2_weaken 30 = .ok (.getfield 7, 3) := by decide +kernel
theorem dX2_weaken_33 : decode cX2_weaken 33 = .ok (.bipush 11, 2) := by decide +kernel
theorem dX2_weaken_35 : decode cX2_weaken 35 = .ok (.aload_n 0, 1) := by decide +kernel
theorem dX2_weaken_36 : decode cX2_weaken 36 = .ok (.invokevirtual 77, 3) := by decide +kernel
theorem dX2_weaken_39 : decode cX2_weaken 39 = .ok (.imul, 1) := by decide +kernel
theorem dX2_weaken_40 : decode cX2_weaken 40 = .ok (.bipush 10, 2) := by decide +kernel
theorem dX2_weaken_42 : decode cX2_weaken 42 = .ok (.iadd, 1) := by decide +kernel
theorem dX2_weaken_43 : decode cX2_weaken 43 = .ok (.iaload, 1) := by decide +kernel
theorem dX2_weaken_44 : decode cX2_weaken 44 = .ok (.aload_n 0, 1) := by decide +kernel
theorem dX2_weaken_45 : decode cX2_weaken 45 = .ok (.getfield 7, 3) := by decide +kernel
theorem dX2_weaken_48 : decode cX2_weaken 48 = .ok (.bipush 11, 2) := by decide +kernel
theorem dX2_weaken_50 : decode cX2_weaken 50 = .ok (.aload_n 0, 1) := by decide +kernel
theorem dX2_weaken_51 : decode cX2_weaken 51 = .ok (.invokevirtual 77, 3) := by decide +kernel
theorem dX2_weaken_54 : decode cX2_weaken 54 = .ok (.imul, 1) := by decide +kernel
theorem dX2_weaken_55 : decode cX2_weaken 55 = .ok (.iload_n 1, 1) := by decide +kernel
theorem dX2_weaken_56 : decode cX2_weaken 56 = .ok (.iadd, 1) := by decide +kernel
theorem dX2_weaken_57 : decode cX2_weaken 57 = .ok (.iaload, 1) := by decide +kernel
theorem dX2_weaken_58 : decode cX2_weaken 58 = .ok (.invokestatic 30, 3) := by decide +kernel
theorem dX2_weaken_61 : decode cX2_weaken 61 = .ok (.isub, 1) := by decide +kernel
theorem dX2_weaken_62 : decode cX2_weaken 62 = .ok (.istore_n 2, 1) := by decide +kernel
theorem dX2_weaken_63 : decode cX2_weaken 63 = .ok (.aload_n 0, 1) := by decide +kernel
theorem dX2_weaken_64 : decode cX2_weaken 64 = .ok (.getfield 7, 3) := by decide +kernel
theorem dX2_weaken_67 : decode cX2_weaken 67 = .ok (.bipush 11, 2) := by decide +kernel
theorem dX2_weaken_69 : decode cX2_weaken 69 = .ok (.aload_n 0, 1) := by decide +kernel
theorem dX2_weaken_70 : decode cX2_weaken 70 = .ok (.invokevirtual 77, 3) := by decide +kernel
theorem dX2_weaken_73 : decode cX2_weaken 73 = .ok (.imul, 1) := by decide +kernel
theorem dX2_weaken_74 : decode cX2_weaken 74 = .ok (.bipush 10, 2) := by decide +kernel
theorem dX2_weaken_76 : decode cX2_weaken 76 = .ok (.iadd, 1) := by decide +kernel
theorem dX2_weaken_77 : decode cX2_weaken 77 = .ok (.iload_n 2, 1) := by decide +kernel
theorem dX2_weaken_78 : decode cX2_weaken 78 = .ok (.ifCond .ge 7, 3) := by decide +kernel
theorem dX2_weaken_81 : decode cX2_weaken 81 = .ok (.iconst 0, 1) := by decide +kernel
theorem dX2_weaken_82 : decode cX2_weaken 82 = .ok (.goto 4, 3) := by decide +kernel
theorem dX2_weaken_85 : decode cX2_weaken 85 = .ok (.iload_n 2, 1) := by decide +kernel
theorem dX2_weaken_86 : decode cX2_weaken 86 = .ok (.iastore, 1) := by decide +kernel
theorem dX2_weaken_87 : decode cX2_weaken 87 = .ok (.aload_n 0, 1) := by decide +kernel
theorem dX2_weaken_88 : decode cX2_weaken 88 = .ok (.getfield 7, 3) := by decide +kernel
theorem dX2_weaken_91 : decode cX2_weaken 91 = .ok (.bipush 11, 2) := by decide +kernel
theorem dX2_weaken_93 : decode cX2_weaken 93 = .ok (.aload_n 0, 1) := by decide +kernel
theorem dX2_weaken_94 : decode cX2_weaken 94 = .ok (.invokevirtual 77, 3) := by decide +kernel
theorem dX2_weaken_97 : decode cX2_weaken 97 = .ok (.imul, 1) := by decide +kernel
theorem dX2_weaken_98 : decode cX2_weaken 98 = .ok (.iload_n 1, 1) := by decide +kernel
theorem dX2_weaken_99 : decode cX2_weaken 99 = .ok (.iadd, 1) := by decide +kernel
theorem dX2_weaken_100 : decode cX2_weaken 100 = .ok (.iconst 0, 1) := by decide +kernel
theorem dX2_weaken_101 : decode cX2_weaken 101 = .ok (.iastore, 1) := by decide +kernel
theorem dX2_weaken_102 : decode cX2_weaken 102 = .ok (.return_, 1) := by decide +kernel
set_option maxRecDepth 20000 in
theorem ggX2_drop_X2_fails : GoodIn wsX2_drop wsX2_fails := goodIn_r _ [6, 7, 8, 9, 10, 11, 12, 13, 14, 15, 16, 17, 18, 19, 20] (by decide +kernel) (by decide +kernel)
set_option maxRecDepth 20000 in
theorem gX2_drop_X2_fails : GoodIn wsX2_drop (wsV RX2 38 RX2 yX2_fails wsX2_fails) := goodIn_app (goodIn_of _ (by decide +kernel)) ggX2_drop_X2_fails
theorem dX2_drop_0 : decode cX2_drop 0 = .ok (.aload_n 0, 1) := by decide +kernel
theorem dX2_drop_1 : decode cX2_drop 1 = .ok (.aload_n 0, 1) := by decide +kernel
theorem dX2_drop_2 : decode cX2_drop 2 = .ok (.getfield 74, 3) := by decide +kernel
theorem dX2_drop_5 : decode cX2_drop 5 = .ok (.iconst 1, 1) := by decide +kernel
theorem dX2_drop_6 : decode cX2_drop 6 = .ok (.if_icmp .ge 7, 3) := by decide +kernel
theorem dX2_drop_9 : decode cX2_drop 9 = .ok (.iconst 1, 1) := by decide +kernel
theorem dX2_drop_10 : decode cX2_drop 10 = .ok (.goto 4, 3) := by decide +kernel
theorem dX2_drop_13 : decode cX2_drop 13 = .ok (.iconst 0, 1) := by decide +kernel
theorem dX2_drop_14 : decode cX2_drop 14 = .ok (.iconst 0, 1) := by decide +kernel
theorem dX2_drop_15 : decode cX2_drop 15 = .ok (.iconst 0, 1) := by decide +kernel
theorem dX2_drop_16 : decode cX2_drop 16 = .ok (.invokevirtual 38, 3) := by decide +kernel
theorem dX2_drop_19 : decode cX2_drop 19 = .ok (.ifCond .ne 13, 3) := by decide +kernel
theorem dX2_drop_22 : decode cX2_drop 22 = .ok (.aload_n 0, 1) := by decide +kernel
theorem dX2_drop_23 : decode cX2_drop 23 = .ok (.dup, 1) := by decide +kernel
theorem dX2_drop_24 : decode cX2_drop 24 = .ok (.getfield 74, 3) := by decide +kernel
theorem dX2_drop_27 : decode cX2_drop 27 = .ok (.iconst 1, 1) := by decide +kernel
theorem dX2_drop_28 : decode cX2_drop 28 = .ok (.isub, 1) := by decide +kernel
theorem dX2_drop_29 : decode cX2_drop 29 = .ok (.putfield 74, 3) := by decide +kernel
theorem dX2_drop_32 : decode cX2_drop 32 = .ok (.return_, 1) := by decide +kernel
set_option maxRecDepth 20000 in
theorem ggX2_top_X2_outside : GoodIn wsX2_top wsX2_outside := goodIn_r _ [6] (by decide +kernel) (by decide +kernel)
set_option maxRecDepth 20000 in
theorem gX2_top_X2_outside : GoodIn wsX2_top (va_wsS RX2 34 yX2_outside wsX2_outside) := goodIn_app (goodIn_of _ (by decide +kernel)) ggX2_top_X2_outside
set_option maxRecDepth 20000 in
theorem ggX2_top_X2_fails : GoodIn wsX2_top wsX2_fails := goodIn_r _ [10, 11, 16, 17, 18, 19, 20, 21, 22, 23, 24, 25, 26, 27, 28] (by decide +kernel) (by decide +kernel)
set_option maxRecDepth 20000 in
theorem gX2_top_X2_fails : GoodIn wsX2_top (wsV RX2 38 RX2 yX2_fails wsX2_fails) := goodIn_app (goodIn_of _ (by decide +kernel)) ggX2_top_X2_fails
set_option maxRecDepth 20000 in
theorem ggX2_top_X2_upper : GoodIn wsX2_top wsX2_upper := goodIn_r _ [15, 1, 16, 17, 18, 19, 20, 21, 22, 23, 24, 25, 26, 27, 28] (by decide +kernel) (by decide +kernel)
set_option maxRecDepth 20000 in
theorem gX2_top_X2_upper : GoodIn wsX2_top (wsV RX2 77 RX2 yX2_upper wsX2_upper) := goodIn_app (goodIn_of _ (by decide +kernel)) ggX2_top_X2_upper
theorem dX2_top_0 : decode cX2_top 0 = .ok (.aload_n 0, 1) := by decide +kernel
theorem dX2_top_1 : decode cX2_top 1 = .ok (.iload_n 1, 1) := by decide +kernel
theorem dX2_top_2 : decode cX2_top 2 = .ok (.bipush (-2), 2) := by decide +kernel
theorem dX2_top_4 : decode cX2_top 4 = .ok (.bipush 9, 2) := by decide +kernel
theorem dX2_top_6 : decode cX2_top 6 = .ok (.invokestatic 34, 3) := by decide +kernel
theorem dX2_top_9 : decode cX2_top 9 = .ok (.iload_n 1, 1) := by decide +kernel
theorem dX2_top_10 : decode cX2_top 10 = .ok (.bipush (-2), 2) := by decide +kernel
theorem dX2_top_12 : decode cX2_top 12 = .ok (.if_icmp .eq 15, 3) := by decide +kernel
theorem dX2_top_15 : decode cX2_top 15 = .ok (.aload_n 0, 1) := by decide +kernel
theorem dX2_top_16 : decode cX2_top 16 = .ok (.getfield 74, 3) := by decide +kernel
theorem dX2_top_19 : decode cX2_top 19 = .ok (.iconst 1, 1) := by decide +kernel
theorem dX2_top_20 : decode cX2_top 20 = .ok (.if_icmp .ge 7, 3) := by decide +kernel
theorem dX2_top_23 : decode cX2_top 23 = .ok (.iconst 1, 1) := by decide +kernel
theorem dX2_top_24 : decode cX2_top 24 = .ok (.goto 4, 3) := by decide +kernel
theorem dX2_top_27 : decode cX2_top 27 = .ok (.iconst 0, 1) := by decide +kernel
theorem dX2_top_28 : decode cX2_top 28 = .ok (.iconst 0, 1) := by decide +kernel
theorem dX2_top_29 : decode cX2_top 29 = .ok (.invokevirtual 38, 3) := by decide +kernel
theorem dX2_top_32 : decode cX2_top 32 = .ok (.ifCond .eq 5, 3) := by decide +kernel
theorem dX2_top_35 : decode cX2_top 35 = .ok (.iconst 0, 1) := by decide +kernel
theorem dX2_top_36 : decode cX2_top 36 = .ok (.ireturn, 1) := by decide +kernel
theorem dX2_top_37 : decode cX2_top 37 = .ok (.iload_n 1, 1) := by decide +kernel
theorem dX2_top_38 : decode cX2_top 38 = .ok (.bipush (-2), 2) := by decide +kernel
theorem dX2_top_40 : decode cX2_top 40 = .ok (.if_icmp .ne 10, 3) := by decide +kernel
theorem dX2_top_43 : decode cX2_top 43 = .ok (.aload_n 0, 1) := by decide +kernel
theorem dX2_top_44 : decode cX2_top 44 = .ok (.getfield 74, 3) := by decide +kernel
theorem dX2_top_47 : decode cX2_top 47 = .ok (.goto 27, 3) := by decide +kernel
theorem dX2_top_50 : decode cX2_top 50 = .ok (.aload_n 0, 1) := by decide +kernel
theorem dX2_top_51 : decode cX2_top 51 = .ok (.getfield 7, 3) := by decide +kernel
theorem dX2_top_54 : decode cX2_top 54 = .ok (.bipush 11, 2) := by decide +kernel
theorem dX2_top_56 : decode cX2_top 56 = .ok (.aload_n 0, 1) := by decide +kernel
theorem dX2_top_57 : decode cX2_top 57 = .ok (.invokevirtual 77, 3) := by decide +kernel
theorem dX2_top_60 : decode cX2_top 60 = .ok (.imul, 1) := by decide +kernel
theorem dX2_top_61 : decode cX2_top 61 = .ok (.iload_n 1, 1) := by decide +kernel
theorem dX2_top_62 : decode cX2_top 62 = .ok (.iconst (-1), 1) := by decide +kernel
theorem dX2_top_63 : decode cX2_top 63 = .ok (.if_icmp .ne 8, 3) := by decide +kernel
theorem dX2_top_66 : decode cX2_top 66 = .ok (.bipush 10, 2) := by decide +kernel
theorem dX2_top_68 : decode cX2_top 68 = .ok (.goto 4, 3) := by decide +kernel
theorem dX2_top_71 : decode cX2_top 71 = .ok (.iload_n 1, 1) := by decide +kernel
theorem dX2_top_72 : decode cX2_top 72 = .ok (.iadd, 1) := by decide +kernel
theorem dX2_top_73 : decode cX2_top 73 = .ok (.iaload, 1) := by decide +kernel
theorem dX2_top_74 : decode cX2_top 74 = .ok (.ireturn, 1) := by decide +kernel
set_option maxRecDepth 20000 in
theorem ggX2_learn_X2_fails : GoodIn wsX2_learn wsX2_fails := goodIn_r _ [7, 8, 23, 24, 25, 26, 27, 28, 29, 30, 31, 32, 33, 34, 35] (by decide +kernel) (by decide +kernel)
set_option maxRecDepth 20000 in
theorem gX2_learn_X2_fails : GoodIn wsX2_learn (wsV RX2 38 RX2 yX2_fails wsX2_fails) := goodIn_app (goodIn_of _ (by decide +kernel)) ggX2_learn_X2_fails
set_option maxRecDepth 20000 in
theorem ggX2_learn_X2_upper : GoodIn wsX2_learn wsX2_upper := goodIn_r _ [12, 1, 23, 24, 25, 26, 27, 28, 29, 30, 31, 32, 33, 34, 35] (by decide +kernel) (by decide +kernel)
set_option maxRecDepth 20000 in
theorem gX2_learn_X2_upper : GoodIn wsX2_learn (wsV RX2 77 RX2 yX2_upper wsX2_upper) := goodIn_app (goodIn_of _ (by decide +kernel)) ggX2_learn_X2_upper
set_option maxRecDepth 20000 in
theorem ggX2_learn_X2_keep : GoodIn wsX2_learn wsX2_keep := goodIn_r _ [16, 2, 17, 18, 19, 20, 6, 21, 22, 23, 24, 25, 26, 27, 28, 29, 30, 31, 32, 33, 34, 35] (by decide +kernel) (by decide +kernel)
set_option maxRecDepth 20000 in
theorem gX2_learn_X2_keep : GoodIn wsX2_learn (wsV RX2 60 RX2 yX2_keep wsX2_keep) := goodIn_app (goodIn_of _ (by decide +kernel)) ggX2_learn_X2_keep
theorem dX2_learn_0 : decode cX2_learn 0 = .ok (.aload_n 0, 1) := by decide +kernel
theorem dX2_learn_1 : decode cX2_learn 1 = .ok (.aload_n 0, 1) := by decide +kernel
theorem dX2_learn_2 : decode cX2_learn 2 = .ok (.getfield 74, 3) := by decide +kernel
theorem dX2_learn_5 : decode cX2_learn 5 = .ok (.iconst 1, 1) := by decide +kernel
theorem dX2_learn_6 : decode cX2_learn 6 = .ok (.if_icmp .lt 12, 3) := by decide +kernel
theorem dX2_learn_9 : decode cX2_learn 9 = .ok (.aload_n 0, 1) := by decide +kernel
theorem dX2_learn_10 : decode cX2_learn 10 = .ok (.getfield 45, 3) := by decide +kernel
theorem dX2_learn_13 : decode cX2_learn 13 = .ok (.bipush 30, 2) := by decide +kernel
theorem dX2_learn_15 : decode cX2_learn 15 = .ok (.if_icmp .ne 7, 3) := by decide +kernel
theorem dX2_learn_18 : decode cX2_learn 18 = .ok (.iconst 1, 1) := by decide +kernel
theorem dX2_learn_19 : decode cX2_learn 19 = .ok (.goto 4, 3) := by decide +kernel
theorem dX2_learn_22 : decode cX2_learn 22 = .ok (.iconst 0, 1) := by decide +kernel
theorem dX2_learn_23 : decode cX2_learn 23 = .ok (.iconst 0, 1) := by decide +kernel
theorem dX2_learn_24 : decode cX2_learn 24 = .ok (.iconst 0, 1) := by decide +kernel
theorem dX2_learn_25 : decode cX2_learn 25 = .ok (.invokevirtual 38, 3) := by decide +kernel
theorem dX2_learn_28 : decode cX2_learn 28 = .ok (.ifCond .eq 5, 3) := by decide +kernel
theorem dX2_learn_31 : decode cX2_learn 31 = .ok (.iconst 0, 1) := by decide +kernel
theorem dX2_learn_32 : decode cX2_learn 32 = .ok (.ireturn, 1) := by decide +kernel
theorem dX2_learn_33 : decode cX2_learn 33 = .ok (.aload_n 0, 1) := by decide +kernel
theorem dX2_learn_34 : decode cX2_learn 34 = .ok (.aload_n 0, 1) := by decide +kernel
theorem dX2_learn_35 : decode cX2_learn 35 = .ok (.invokevirtual 77, 3) := by decide +kernel
theorem dX2_learn_38 : decode cX2_learn 38 = .ok (.iconst 0, 1) := by decide +kernel
theorem dX2_learn_39 : decode cX2_learn 39 = .ok (.invokevirtual 60, 3) := by decide +kernel
theorem dX2_learn_42 : decode cX2_learn 42 = .ok (.istore_n 1, 1) := by decide +kernel
theorem dX2_learn_43 : decode cX2_learn 43 = .ok (.aload_n 0, 1) := by decide +kernel
theorem dX2_learn_44 : decode cX2_learn 44 = .ok (.dup, 1) := by decide +kernel
theorem dX2_learn_45 : decode cX2_learn 45 = .ok (.getfield 74, 3) := by decide +kernel
theorem dX2_learn_48 : decode cX2_learn 48 = .ok (.iconst 1, 1) := by decide +kernel
theorem dX2_learn_49 : decode cX2_learn 49 = .ok (.isub, 1) := by decide +kernel
theorem dX2_learn_50 : decode cX2_learn 50 = .ok (.putfield 74, 3) := by decide +kernel
theorem dX2_learn_53 : decode cX2_learn 53 = .ok (.iload_n 1, 1) := by decide +kernel
theorem dX2_learn_54 : decode cX2_learn 54 = .ok (.ireturn, 1) := by decide +kernel
set_option maxRecDepth 20000 in
theorem ggX2_contradict_X2_outside : GoodIn wsX2_contradict wsX2_outside := goodIn_r _ [7] (by decide +kernel) (by decide +kernel)
set_option maxRecDepth 20000 in
theorem gX2_contradict_X2_outside : GoodIn wsX2_contradict (va_wsS RX2 34 yX2_outside wsX2_outside) := goodIn_app (goodIn_of _ (by decide +kernel)) ggX2_contradict_X2_outside
set_option maxRecDepth 20000 in
theorem ggX2_contradict_X2_fails : GoodIn wsX2_contradict wsX2_fails := goodIn_r _ [11, 12, 51, 52, 53, 54, 55, 56, 57, 58, 59, 60, 61, 62, 63] (by decide +kernel) (by decide +kernel)
set_option maxRecDepth 20000 in
theorem gX2_contradict_X2_fails : GoodIn wsX2_contradict (wsV RX2 38 RX2 yX2_fails wsX2_fails) := goodIn_app (goodIn_of _ (by decide +kernel)) ggX2_contradict_X2_fails
set_option maxRecDepth 20000 in
theorem ggX2_contradict_X2_normalize : GoodIn wsX2_contradict wsX2_normalize := goodIn_r _ [16, 17, 18, 2, 51, 52, 53, 54, 55, 56, 57, 58, 59, 60, 61, 62, 63] (by decide +kernel) (by decide +kernel)
set_option maxRecDepth 20000 in
theorem gX2_contradict_X2_normalize : GoodIn wsX2_contradict (wsV RX2 56 RX2 yX2_normalize wsX2_normalize) := goodIn_app (goodIn_of _ (by decide +kernel)) ggX2_contradict_X2_normalize
set_option maxRecDepth 20000 in
theorem ggX2_contradict_X2_sizes : GoodIn wsX2_contradict wsX2_sizes := goodIn_r _ [22, 2, 23, 24, 6, 25, 51, 52, 53, 54, 55, 56, 57, 58, 59, 60, 61, 62, 63] (by decide +kernel) (by decide +kernel)
set_option maxRecDepth 20000 in
theorem gX2_contradict_X2_sizes : GoodIn wsX2_contradict (wsV RX2 90 RX2 yX2_sizes wsX2_sizes) := goodIn_app (goodIn_of _ (by decide +kernel)) ggX2_contradict_X2_sizes
set_option maxRecDepth 20000 in
theorem ggX2_contradict_X2_closes : GoodIn wsX2_contradict wsX2_closes := goodIn_r _ [29, 1, 30, 31, 32, 6, 33, 2, 3, 34, 35, 36, 37, 23, 24, 25, 51, 52, 53, 54, 55, 56, 57, 58, 59, 60, 61, 62, 63] (by decide +kernel) (by decide +kernel)
set_option maxRecDepth 20000 in
theorem gX2_contradict_X2_closes : GoodIn wsX2_contradict (wsV RX2 70 RX2 yX2_closes wsX2_closes) := goodIn_app (goodIn_of _ (by decide +kernel)) ggX2_contradict_X2_closes
set_option maxRecDepth 20000 in
theorem ggX2_contradict_X2_empty : GoodIn wsX2_contradict wsX2_empty := goodIn_r _ [41, 18, 51, 52, 53, 54, 55, 56, 57, 58, 59, 60, 61, 62, 63] (by decide +kernel) (by decide +kernel)
set_option maxRecDepth 20000 in
theorem gX2_contradict_X2_empty : GoodIn wsX2_contradict (wsV RX2 42 RX2 yX2_empty wsX2_empty) := goodIn_app (goodIn_of _ (by decide +kernel)) ggX2_contradict_X2_empty
set_option maxRecDepth 20000 in
theorem ggX2_contradict_X2_keep : GoodIn wsX2_contradict wsX2_keep := goodIn_r _ [45, 1, 46, 47, 48, 49, 6, 50, 2, 51, 52, 53, 54, 55, 56, 57, 58, 59, 60, 61, 62, 63] (by decide +kernel) (by decide +kernel)
set_option maxRecDepth 20000 in
theorem gX2_contradict_X2_keep : GoodIn wsX2_contradict (wsV RX2 60 RX2 yX2_keep wsX2_keep) := goodIn_app (goodIn_of _ (by decide +kernel)) ggX2_contradict_X2_keep
theorem dX2_contradict_0 : decode cX2_contradict 0 = .ok (.aload_n 0, 1) := by decide +kernel
theorem dX2_contradict_1 : decode cX2_contradict 1 = .ok (.iload_n 1, 1) := by decide +kernel
theorem dX2_contradict_2 : decode cX2_contradict 2 = .ok (.sipush (-9999), 3) := by decide +kernel
theorem dX2_contradict_5 : decode cX2_contradict 5 = .ok (.sipush 9999, 3) := by decide +kernel
theorem dX2_contradict_8 : decode cX2_contradict 8 = .ok (.invokestatic 34, 3) := by decide +kernel
theorem dX2_contradict_11 : decode cX2_contradict 11 = .ok (.aload_n 0, 1) := by decide +kernel
theorem dX2_contradict_12 : decode cX2_contradict 12 = .ok (.getfield 45, 3) := by decide +kernel
theorem dX2_contradict_15 : decode cX2_contradict 15 = .ok (.bipush 30, 2) := by decide +kernel
theorem dX2_contradict_17 : decode cX2_contradict 17 = .ok (.if_icmp .ne 7, 3) := by decide +kernel
theorem dX2_contradict_20 : decode cX2_contradict 20 = .ok (.iconst 1, 1) := by decide +kernel
theorem dX2_contradict_21 : decode cX2_contradict 21 = .ok (.goto 4, 3) := by decide +kernel
theorem dX2_contradict_24 : decode cX2_contradict 24 = .ok (.iconst 0, 1) := by decide +kernel
theorem dX2_contradict_25 : decode cX2_contradict 25 = .ok (.iconst 0, 1) := by decide +kernel
theorem dX2_contradict_26 : decode cX2_contradict 26 = .ok (.invokevirtual 38, 3) := by decide +kernel
theorem dX2_contradict_29 : decode cX2_contradict 29 = .ok (.ifCond .eq 5, 3) := by decide +kernel
theorem dX2_contradict_32 : decode cX2_contradict 32 = .ok (.iconst 0, 1) := by decide +kernel
theorem dX2_contradict_33 : decode cX2_contradict 33 = .ok (.ireturn, 1) := by decide +kernel
theorem dX2_contradict_34 : decode cX2_contradict 34 = .ok (.aload_n 0, 1) := by decide +kernel
theorem dX2_contradict_35 : decode cX2_contradict 35 = .ok (.iconst 0, 1) := by decide +kernel
theorem dX2_contradict_36 : decode cX2_contradict 36 = .ok (.iconst 1, 1) := by decide +kernel
theorem dX2_contradict_37 : decode cX2_contradict 37 = .ok (.iload_n 1, 1) := by decide +kernel
theorem dX2_contradict_38 : decode cX2_contradict 38 = .ok (.invokevirtual 56, 3) := by decide +kernel
theorem dX2_contradict_41 : decode cX2_contradict 41 = .ok (.aload_n 0, 1) := by decide +kernel
theorem dX2_contradict_42 : decode cX2_contradict 42 = .ok (.bipush 36, 2) := by decide +kernel
theorem dX2_contradict_44 : decode cX2_contradict 44 = .ok (.invokevirtual 90, 3) := by decide +kernel
theorem dX2_contradict_47 : decode cX2_contradict 47 = .ok (.iconst 1, 1) := by decide +kernel
theorem dX2_contradict_48 : decode cX2_contradict 48 = .ok (.iadd, 1) := by decide +kernel
theorem dX2_contradict_49 : decode cX2_contradict 49 = .ok (.aload_n 0, 1) := by decide +kernel
theorem dX2_contradict_50 : decode cX2_contradict 50 = .ok (.getfield 7, 3) := by decide +kernel
theorem dX2_contradict_53 : decode cX2_contradict 53 = .ok (.sipush 406, 3) := by decide +kernel
theorem dX2_contradict_56 : decode cX2_contradict 56 = .ok (.iaload, 1) := by decide +kernel
theorem dX2_contradict_57 : decode cX2_contradict 57 = .ok (.isub, 1) := by decide +kernel
theorem dX2_contradict_58 : decode cX2_contradict 58 = .ok (.istore_n 2, 1) := by decide +kernel
theorem dX2_contradict_59 : decode cX2_contradict 59 = .ok (.iconst 0, 1) := by decide +kernel
theorem dX2_contradict_60 : decode cX2_contradict 60 = .ok (.istore_n 3, 1) := by decide +kernel
theorem dX2_contradict_61 : decode cX2_contradict 61 = .ok (.iload_n 3, 1) := by decide +kernel
theorem dX2_contradict_62 : decode cX2_contradict 62 = .ok (.bipush 10, 2) := by decide +kernel
theorem dX2_contradict_64 : decode cX2_contradict 64 = .ok (.if_icmp .ge 37, 3) := by decide +kernel
theorem dX2_contradict_67 : decode cX2_contradict 67 = .ok (.aload_n 0, 1) := by decide +kernel
theorem dX2_contradict_68 : decode cX2_contradict 68 = .ok (.getfield 7, 3) := by decide +kernel
theorem dX2_contradict_71 : decode cX2_contradict 71 = .ok (.sipush 407, 3) := by decide +kernel
theorem dX2_contradict_74 : decode cX2_contradict 74 = .ok (.iload_n 3, 1) := by decide +kernel
theorem dX2_contradict_75 : decode cX2_contradict 75 = .ok (.iadd, 1) := by decide +kernel
theorem dX2_contradict_76 : decode cX2_contradict 76 = .ok (.aload_n 0, 1) := by decide +kernel
theorem dX2_contradict_77 : decode cX2_contradict 77 = .ok (.getfield 7, 3) := by decide +kernel
theorem dX2_contradict_80 : decode cX2_contradict 80 = .ok (.sipush 396, 3) := by decide +kernel
theorem dX2_contradict_83 : decode cX2_contradict 83 = .ok (.iload_n 3, 1) := by decide +kernel
theorem dX2_contradict_84 : decode cX2_contradict 84 = .ok (.iadd, 1) := by decide +kernel
theorem dX2_contradict_85 : decode cX2_contradict 85 = .ok (.iaload, 1) := by decide +kernel
theorem dX2_contradict_86 : decode cX2_contradict 86 = .ok (.ineg, 1) := by decide +kernel
theorem dX2_contradict_87 : decode cX2_contradict 87 = .ok (.iastore, 1) := by decide +kernel
theorem dX2_contradict_88 : decode cX2_contradict 88 = .ok (.aload_n 0, 1) := by decide +kernel
theorem dX2_contradict_89 : decode cX2_contradict 89 = .ok (.getfield 23, 3) := by decide +kernel
theorem dX2_contradict_92 : decode cX2_contradict 92 = .ok (.iload_n 3, 1) := by decide +kernel
theorem dX2_contradict_93 : decode cX2_contradict 93 = .ok (.iconst (-1), 1) := by decide +kernel
theorem dX2_contradict_94 : decode cX2_contradict 94 = .ok (.iastore, 1) := by decide +kernel
theorem dX2_contradict_95 : decode cX2_contradict 95 = .ok (.iinc 3 1, 3) := by decide +kernel
theorem dX2_contradict_98 : decode cX2_contradict 98 = .ok (.goto (-37), 3) := by decide +kernel
theorem dX2_contradict_101 : decode cX2_contradict 101 = .ok (.aload_n 0, 1) := by decide +kernel
theorem dX2_contradict_102 : decode cX2_contradict 102 = .ok (.getfield 7, 3) := by decide +kernel
theorem dX2_contradict_105 : decode cX2_contradict 105 = .ok (.sipush 417, 3) := by decide +kernel
theorem dX2_contradict_108 : decode cX2_contradict 108 = .ok (.iload_n 2, 1) := by decide +kernel
theorem dX2_contradict_109 : decode cX2_contradict 109 = .ok (.ifCond .ge 7, 3) := by decide +kernel
theorem dX2_contradict_112 : decode cX2_contradict 112 = .ok (.iconst 0, 1) := by decide +kernel
theorem dX2_contradict_113 : decode cX2_contradict 113 = .ok (.goto 4, 3) := by decide +kernel
theorem dX2_contradict_116 : decode cX2_contradict 116 = .ok (.iload_n 2, 1) := by decide +kernel
theorem dX2_contradict_117 : decode cX2_contradict 117 = .ok (.iastore, 1) := by decide +kernel
theorem dX2_contradict_118 : decode cX2_contradict 118 = .ok (.aload_n 0, 1) := by decide +kernel
theorem dX2_contradict_119 : decode cX2_contradict 119 = .ok (.iconst 1, 1) := by decide +kernel
theorem dX2_contradict_120 : decode cX2_contradict 120 = .ok (.invokevirtual 70, 3) := by decide +kernel
theorem dX2_contradict_123 : decode cX2_contradict 123 = .ok (.ifCond .eq 5, 3) := by decide +kernel
theorem dX2_contradict_126 : decode cX2_contradict 126 = .ok (.iconst (-1), 1) := by decide +kernel
theorem dX2_contradict_127 : decode cX2_contradict 127 = .ok (.ireturn, 1) := by decide +kernel
theorem dX2_contradict_128 : decode cX2_contradict 128 = .ok (.aload_n 0, 1) := by decide +kernel
theorem dX2_contradict_129 : decode cX2_contradict 129 = .ok (.invokevirtual 42, 3) := by decide +kernel
theorem dX2_contradict_132 : decode cX2_contradict 132 = .ok (.aload_n 0, 1) := by decide +kernel
theorem dX2_contradict_133 : decode cX2_contradict 133 = .ok (.bipush 36, 2) := by decide +kernel
theorem dX2_contradict_135 : decode cX2_contradict 135 = .ok (.iconst 0, 1) := by decide +kernel
theorem dX2_contradict_136 : decode cX2_contradict 136 = .ok (.invokevirtual 60, 3) := by decide +kernel
theorem dX2_contradict_139 : decode cX2_contradict 139 = .ok (.ireturn, 1) := by decide +kernel
set_option maxRecDepth 20000 in
theorem ggX2_meets_X2_size : GoodIn wsX2_meets wsX2_size := goodIn_r _ [5] (by decide +kernel) (by decide +kernel)
set_option maxRecDepth 20000 in
theorem gX2_meets_X2_size : GoodIn wsX2_meets (va_wsS RX2 30 yX2_size wsX2_size) := goodIn_app (goodIn_of _ (by decide +kernel)) ggX2_meets_X2_size
theorem dX2_meets_0 : decode cX2_meets 0 = .ok (.iconst 0, 1) := by decide +kernel
theorem dX2_meets_1 : decode cX2_meets 1 = .ok (.istore_n 3, 1) := by decide +kernel
theorem dX2_meets_2 : decode cX2_meets 2 = .ok (.iconst 0, 1) := by decide +kernel
theorem dX2_meets_3 : decode cX2_meets 3 = .ok (.istore 4, 2) := by decide +kernel
theorem dX2_meets_5 : decode cX2_meets 5 = .ok (.iload 4, 2) := by decide +kernel
theorem dX2_meets_7 : decode cX2_meets 7 = .ok (.bipush 10, 2) := by decide +kernel
theorem dX2_meets_9 : decode cX2_meets 9 = .ok (.if_icmp .ge 67, 3) := by decide +kernel
theorem dX2_meets_12 : decode cX2_meets 12 = .ok (.aload_n 0, 1) := by decide +kernel
theorem dX2_meets_13 : decode cX2_meets 13 = .ok (.getfield 7, 3) := by decide +kernel
theorem dX2_meets_16 : decode cX2_meets 16 = .ok (.bipush 11, 2) := by decide +kernel
theorem dX2_meets_18 : decode cX2_meets 18 = .ok (.iload_n 1, 1) := by decide +kernel
theorem dX2_meets_19 : decode cX2_meets 19 = .ok (.imul, 1) := by decide +kernel
theorem dX2_meets_20 : decode cX2_meets 20 = .ok (.iload 4, 2) := by decide +kernel
theorem dX2_meets_22 : decode cX2_meets 22 = .ok (.iadd, 1) := by decide +kernel
theorem dX2_meets_23 : decode cX2_meets 23 = .ok (.iaload, 1) := by decide +kernel
theorem dX2_meets_24 : decode cX2_meets 24 = .ok (.istore 5, 2) := by decide +kernel
theorem dX2_meets_26 : decode cX2_meets 26 = .ok (.iload_n 2, 1) := by decide +kernel
theorem dX2_meets_27 : decode cX2_meets 27 = .ok (.iload 4, 2) := by decide +kernel
theorem dX2_meets_29 : decode cX2_meets 29 = .ok (.ishr, 1) := by decide +kernel
theorem dX2_meets_30 : decode cX2_meets 30 = .ok (.iconst 1, 1) := by decide +kernel
theorem dX2_meets_31 : decode cX2_meets 31 = .ok (.iand, 1) := by decide +kernel
theorem dX2_meets_32 : decode cX2_meets 32 = .ok (.iconst 1, 1) := by decide +kernel
theorem dX2_meets_33 : decode cX2_meets 33 = .ok (.if_icmp .ne 7, 3) := by decide +kernel
theorem dX2_meets_36 : decode cX2_meets 36 = .ok (.iconst 1, 1) := by decide +kernel
theorem dX2_meets_37 : decode cX2_meets 37 = .ok (.goto 4, 3) := by decide +kernel
theorem dX2_meets_40 : decode cX2_meets 40 = .ok (.iconst 0, 1) := by decide +kernel
theorem dX2_meets_41 : decode cX2_meets 41 = .ok (.istore 6, 2) := by decide +kernel
theorem dX2_meets_43 : decode cX2_meets 43 = .ok (.iload_n 3, 1) := by decide +kernel
theorem dX2_meets_44 : decode cX2_meets 44 = .ok (.iload 5, 2) := by decide +kernel
theorem dX2_meets_46 : decode cX2_meets 46 = .ok (.ifCond .le 7, 3) := by decide +kernel
theorem dX2_meets_49 : decode cX2_meets 49 = .ok (.iconst 1, 1) := by decide +kernel
theorem dX2_meets_50 : decode cX2_meets 50 = .ok (.goto 4, 3) := by decide +kernel
theorem dX2_meets_53 : decode cX2_meets 53 = .ok (.iconst 0, 1) := by decide +kernel
theorem dX2_meets_54 : decode cX2_meets 54 = .ok (.iload 6, 2) := by decide +kernel
theorem dX2_meets_56 : decode cX2_meets 56 = .ok (.if_icmp .ne 11, 3) := by decide +kernel
theorem dX2_meets_59 : decode cX2_meets 59 = .ok (.iload 5, 2) := by decide +kernel
theorem dX2_meets_61 : decode cX2_meets 61 = .ok (.invokestatic 30, 3) := by decide +kernel
theorem dX2_meets_64 : decode cX2_meets 64 = .ok (.goto 4, 3) := by decide +kernel
theorem dX2_meets_67 : decode cX2_meets 67 = .ok (.iconst 0, 1) := by decide +kernel
theorem dX2_meets_68 : decode cX2_meets 68 = .ok (.iadd, 1) := by decide +kernel
theorem dX2_meets_69 : decode cX2_meets 69 = .ok (.istore_n 3, 1) := by decide +kernel
theorem dX2_meets_70 : decode cX2_meets 70 = .ok (.iinc 4 1, 3) := by decide +kernel
theorem dX2_meets_73 : decode cX2_meets 73 = .ok (.goto (-68), 3) := by decide +kernel
theorem dX2_meets_76 : decode cX2_meets 76 = .ok (.iload_n 3, 1) := by decide +kernel
theorem dX2_meets_77 : decode cX2_meets 77 = .ok (.aload_n 0, 1) := by decide +kernel
theorem dX2_meets_78 : decode cX2_meets 78 = .ok (.getfield 7, 3) := by decide +kernel
theorem dX2_meets_81 : decode cX2_meets 81 = .ok (.bipush 11, 2) := by decide +kernel
theorem dX2_meets_83 : decode cX2_meets 83 = .ok (.iload_n 1, 1) := by decide +kernel
theorem dX2_meets_84 : decode cX2_meets 84 = .ok (.imul, 1) := by decide +kernel
theorem dX2_meets_85 : decode cX2_meets 85 = .ok (.bipush 10, 2) := by decide +kernel
theorem dX2_meets_87 : decode cX2_meets 87 = .ok (.iadd, 1) := by decide +kernel
theorem dX2_meets_88 : decode cX2_meets 88 = .ok (.iaload, 1) := by decide +kernel
theorem dX2_meets_89 : decode cX2_meets 89 = .ok (.if_icmp .lt 7, 3) := by decide +kernel
theorem dX2_meets_92 : decode cX2_meets 92 = .ok (.iconst 1, 1) := by decide +kernel
theorem dX2_meets_93 : decode cX2_meets 93 = .ok (.goto 4, 3) := by decide +kernel
theorem dX2_meets_96 : decode cX2_meets 96 = .ok (.iconst 0, 1) := by decide +kernel
theorem dX2_meets_97 : decode cX2_meets 97 = .ok (.ireturn, 1) := by decide +kernel
theorem dX2_worth_0 : decode cX2_worth 0 = .ok (.iconst 0, 1) := by decide +kernel
theorem dX2_worth_1 : decode cX2_worth 1 = .ok (.istore_n 2, 1) := by decide +kernel
theorem dX2_worth_2 : decode cX2_worth 2 = .ok (.iconst 0, 1) := by decide +kernel
theorem dX2_worth_3 : decode cX2_worth 3 = .ok (.istore_n 3, 1) := by decide +kernel
theorem dX2_worth_4 : decode cX2_worth 4 = .ok (.iload_n 3, 1) := by decide +kernel
theorem dX2_worth_5 : decode cX2_worth 5 = .ok (.bipush 10, 2) := by decide +kernel
theorem dX2_worth_7 : decode cX2_worth 7 = .ok (.if_icmp .ge 24, 3) := by decide +kernel
theorem dX2_worth_10 : decode cX2_worth 10 = .ok (.iload_n 2, 1) := by decide +kernel
theorem dX2_worth_11 : decode cX2_worth 11 = .ok (.iload_n 1, 1) := by decide +kernel
theorem dX2_worth_12 : decode cX2_worth 12 = .ok (.iload_n 3, 1) := by decide +kernel
theorem dX2_worth_13 : decode cX2_worth 13 = .ok (.ishr, 1) := by decide +kernel
theorem dX2_worth_14 : decode cX2_worth 14 = .ok (.iconst 1, 1) := by decide +kernel
theorem dX2_worth_15 : decode cX2_worth 15 = .ok (.iand, 1) := by decide +kernel
theorem dX2_worth_16 : decode cX2_worth 16 = .ok (.aload_n 0, 1) := by decide +kernel
theorem dX2_worth_17 : decode cX2_worth 17 = .ok (.getfield 20, 3) := by decide +kernel
theorem dX2_worth_20 : decode cX2_worth 20 = .ok (.iload_n 3, 1) := by decide +kernel
theorem dX2_worth_21 : decode cX2_worth 21 = .ok (.iaload, 1) := by decide +kernel
theorem dX2_worth_22 : decode cX2_worth 22 = .ok (.imul, 1) := by decide +kernel
theorem dX2_worth_23 : decode cX2_worth 23 = .ok (.iadd, 1) := by decide +kernel
theorem dX2_worth_24 : decode cX2_worth 24 = .ok (.istore_n 2, 1) := by decide +kernel
theorem dX2_worth_25 : decode cX2_worth 25 = .ok (.iinc 3 1, 3) := by decide +kernel
theorem dX2_worth_28 : decode cX2_worth 28 = .ok (.goto (-24), 3) := by decide +kernel
theorem dX2_worth_31 : decode cX2_worth 31 = .ok (.iload_n 2, 1) := by decide +kernel
theorem dX2_worth_32 : decode cX2_worth 32 = .ok (.ireturn, 1) := by decide +kernel
theorem dX2_noGoal_0 : decode cX2_noGoal 0 = .ok (.iconst 1, 1) := by decide +kernel
theorem dX2_noGoal_1 : decode cX2_noGoal 1 = .ok (.istore_n 1, 1) := by decide +kernel
theorem dX2_noGoal_2 : decode cX2_noGoal 2 = .ok (.iconst 0, 1) := by decide +kernel
theorem dX2_noGoal_3 : decode cX2_noGoal 3 = .ok (.istore_n 2, 1) := by decide +kernel
theorem dX2_noGoal_4 : decode cX2_noGoal 4 = .ok (.iload_n 2, 1) := by decide +kernel
theorem dX2_noGoal_5 : decode cX2_noGoal 5 = .ok (.bipush 10, 2) := by decide +kernel
theorem dX2_noGoal_7 : decode cX2_noGoal 7 = .ok (.if_icmp .ge 28, 3) := by decide +kernel
theorem dX2_noGoal_10 : decode cX2_noGoal 10 = .ok (.iload_n 1, 1) := by decide +kernel
theorem dX2_noGoal_11 : decode cX2_noGoal 11 = .ok (.ifCond .eq 16, 3) := by decide +kernel
theorem dX2_noGoal_14 : decode cX2_noGoal 14 = .ok (.aload_n 0, 1) := by decide +kernel
theorem dX2_noGoal_15 : decode cX2_noGoal 15 = .ok (.getfield 20, 3) := by decide +kernel
theorem dX2_noGoal_18 : decode cX2_noGoal 18 = .ok (.iload_n 2, 1) := by decide +kernel
theorem dX2_noGoal_19 : decode cX2_noGoal 19 = .ok (.iaload, 1) := by decide +kernel
theorem dX2_noGoal_20 : decode cX2_noGoal 20 = .ok (.ifCond .ne 7, 3) := by decide +kernel
theorem dX2_noGoal_23 : decode cX2_noGoal 23 = .ok (.iconst 1, 1) := by decide +kernel
theorem dX2_noGoal_24 : decode cX2_noGoal 24 = .ok (.goto 4, 3) := by decide +kernel
theorem dX2_noGoal_27 : decode cX2_noGoal 27 = .ok (.iconst 0, 1) := by decide +kernel
theorem dX2_noGoal_28 : decode cX2_noGoal 28 = .ok (.istore_n 1, 1) := by decide +kernel
theorem dX2_noGoal_29 : decode cX2_noGoal 29 = .ok (.iinc 2 1, 3) := by decide +kernel
theorem dX2_noGoal_32 : decode cX2_noGoal 32 = .ok (.goto (-28), 3) := by decide +kernel
theorem dX2_noGoal_35 : decode cX2_noGoal 35 = .ok (.iload_n 1, 1) := by decide +kernel
theorem dX2_noGoal_36 : decode cX2_noGoal 36 = .ok (.ireturn, 1) := by decide +kernel
set_option maxRecDepth 20000 in
theorem ggX2_found_X2_outside : GoodIn wsX2_found wsX2_outside := goodIn_r _ [7] (by decide +kernel) (by decide +kernel)
set_option maxRecDepth 20000 in
theorem gX2_found_X2_outside : GoodIn wsX2_found (va_wsS RX2 34 yX2_outside wsX2_outside) := goodIn_app (goodIn_of _ (by decide +kernel)) ggX2_found_X2_outside
set_option maxRecDepth 20000 in
theorem ggX2_found_X2_fails : GoodIn wsX2_found wsX2_fails := goodIn_r _ [11, 12, 44, 45, 46, 47, 48, 49, 50, 51, 52, 53, 54, 55, 56] (by decide +kernel) (by decide +kernel)
set_option maxRecDepth 20000 in
theorem gX2_found_X2_fails : GoodIn wsX2_found (wsV RX2 38 RX2 yX2_fails wsX2_fails) := goodIn_app (goodIn_of _ (by decide +kernel)) ggX2_found_X2_fails
set_option maxRecDepth 20000 in
theorem ggX2_found_X2_meets : GoodIn wsX2_found wsX2_meets := goodIn_r _ [16, 17, 18, 19, 6, 20, 44, 45, 46, 47, 48, 49, 50, 51, 52, 53, 54, 55, 56] (by decide +kernel) (by decide +kernel)
set_option maxRecDepth 20000 in
theorem gX2_found_X2_meets : GoodIn wsX2_found (wsV RX2 93 RX2 yX2_meets wsX2_meets) := goodIn_app (goodIn_of _ (by decide +kernel)) ggX2_found_X2_meets
set_option maxRecDepth 20000 in
theorem ggX2_found_X2_worth : GoodIn wsX2_found wsX2_worth := goodIn_r _ [24, 25, 44, 45, 46, 47, 48, 49, 50, 51, 52, 53, 54, 55, 56] (by decide +kernel) (by decide +kernel)
set_option maxRecDepth 20000 in
theorem gX2_found_X2_worth : GoodIn wsX2_found (wsV RX2 97 RX2 yX2_worth wsX2_worth) := goodIn_app (goodIn_of _ (by decide +kernel)) ggX2_found_X2_worth
set_option maxRecDepth 20000 in
theorem ggX2_found_X2_noGoal : GoodIn wsX2_found wsX2_noGoal := goodIn_r _ [29, 25, 44, 45, 46, 47, 48, 49, 50, 51, 52, 53, 54, 55, 56] (by decide +kernel) (by decide +kernel)
set_option maxRecDepth 20000 in
theorem gX2_found_X2_noGoal : GoodIn wsX2_found (wsV RX2 103 RX2 yX2_noGoal wsX2_noGoal) := goodIn_app (goodIn_of _ (by decide +kernel)) ggX2_found_X2_noGoal
set_option maxRecDepth 20000 in
theorem ggX2_found_X2_normalize : GoodIn wsX2_found wsX2_normalize := goodIn_r _ [33, 25, 34, 17, 44, 45, 46, 47, 48, 49, 50, 51, 52, 53, 54, 55, 56] (by decide +kernel) (by decide +kernel)
set_option maxRecDepth 20000 in
theorem gX2_found_X2_normalize : GoodIn wsX2_found (wsV RX2 56 RX2 yX2_normalize wsX2_normalize) := goodIn_app (goodIn_of _ (by decide +kernel)) ggX2_found_X2_normalize
set_option maxRecDepth 20000 in
theorem ggX2_found_X2_keep : GoodIn wsX2_found wsX2_keep := goodIn_r _ [38, 1, 39, 40, 41, 42, 6, 43, 17, 44, 45, 46, 47, 48, 49, 50, 51, 52, 53, 54, 55, 56] (by decide +kernel) (by decide +kernel)
set_option maxRecDepth 20000 in
theorem gX2_found_X2_keep : GoodIn wsX2_found (wsV RX2 60 RX2 yX2_keep wsX2_keep) := goodIn_app (goodIn_of _ (by decide +kernel)) ggX2_found_X2_keep
theorem dX2_found_0 : decode cX2_found 0 = .ok (.aload_n 0, 1) := by decide +kernel
theorem dX2_found_1 : decode cX2_found 1 = .ok (.iload_n 1, 1) := by decide +kernel
theorem dX2_found_2 : decode cX2_found 2 = .ok (.iconst 0, 1) := by decide +kernel
theorem dX2_found_3 : decode cX2_found 3 = .ok (.sipush 1023, 3) := by decide +kernel
theorem dX2_found_6 : decode cX2_found 6 = .ok (.invokestatic 34, 3) := by decide +kernel
theorem dX2_found_9 : decode cX2_found 9 = .ok (.aload_n 0, 1) := by decide +kernel
theorem dX2_found_10 : decode cX2_found 10 = .ok (.getfield 45, 3) := by decide +kernel
theorem dX2_found_13 : decode cX2_found 13 = .ok (.bipush 30, 2) := by decide +kernel
theorem dX2_found_15 : decode cX2_found 15 = .ok (.if_icmp .ne 7, 3) := by decide +kernel
theorem dX2_found_18 : decode cX2_found 18 = .ok (.iconst 1, 1) := by decide +kernel
theorem dX2_found_19 : decode cX2_found 19 = .ok (.goto 4, 3) := by decide +kernel
theorem dX2_found_22 : decode cX2_found 22 = .ok (.iconst 0, 1) := by decide +kernel
theorem dX2_found_23 : decode cX2_found 23 = .ok (.iconst 0, 1) := by decide +kernel
theorem dX2_found_24 : decode cX2_found 24 = .ok (.invokevirtual 38, 3) := by decide +kernel
theorem dX2_found_27 : decode cX2_found 27 = .ok (.ifCond .eq 5, 3) := by decide +kernel
theorem dX2_found_30 : decode cX2_found 30 = .ok (.iconst 0, 1) := by decide +kernel
theorem dX2_found_31 : decode cX2_found 31 = .ok (.ireturn, 1) := by decide +kernel
theorem dX2_found_32 : decode cX2_found 32 = .ok (.iconst 0, 1) := by decide +kernel
theorem dX2_found_33 : decode cX2_found 33 = .ok (.istore_n 2, 1) := by decide +kernel
theorem dX2_found_34 : decode cX2_found 34 = .ok (.iload_n 2, 1) := by decide +kernel
theorem dX2_found_35 : decode cX2_found 35 = .ok (.aload_n 0, 1) := by decide +kernel
theorem dX2_found_36 : decode cX2_found 36 = .ok (.getfield 45, 3) := by decide +kernel
theorem dX2_found_39 : decode cX2_found 39 = .ok (.if_icmp .ge 20, 3) := by decide +kernel
theorem dX2_found_42 : decode cX2_found 42 = .ok (.aload_n 0, 1) := by decide +kernel
theorem dX2_found_43 : decode cX2_found 43 = .ok (.iload_n 2, 1) := by decide +kernel
theorem dX2_found_44 : decode cX2_found 44 = .ok (.iload_n 1, 1) := by decide +kernel
theorem dX2_found_45 : decode cX2_found 45 = .ok (.invokevirtual 93, 3) := by decide +kernel
theorem dX2_found_48 : decode cX2_found 48 = .ok (.ifCond .ne 5, 3) := by decide +kernel
theorem dX2_found_51 : decode cX2_found 51 = .ok (.iconst 0, 1) := by decide +kernel
theorem dX2_found_52 : decode cX2_found 52 = .ok (.ireturn, 1) := by decide +kernel
theorem dX2_found_53 : decode cX2_found 53 = .ok (.iinc 2 1, 3) := by decide +kernel
theorem dX2_found_56 : decode cX2_found 56 = .ok (.goto (-22), 3) := by decide +kernel
theorem dX2_found_59 : decode cX2_found 59 = .ok (.aload_n 0, 1) := by decide +kernel
theorem dX2_found_60 : decode cX2_found 60 = .ok (.iconst 1, 1) := by decide +kernel
theorem dX2_found_61 : decode cX2_found 61 = .ok (.putfield 52, 3) := by decide +kernel
theorem dX2_found_64 : decode cX2_found 64 = .ok (.aload_n 0, 1) := by decide +kernel
theorem dX2_found_65 : decode cX2_found 65 = .ok (.aload_n 0, 1) := by decide +kernel
theorem dX2_found_66 : decode cX2_found 66 = .ok (.iload_n 1, 1) := by decide +kernel
theorem dX2_found_67 : decode cX2_found 67 = .ok (.invokevirtual 97, 3) := by decide +kernel
theorem dX2_found_70 : decode cX2_found 70 = .ok (.putfield 100, 3) := by decide +kernel
theorem dX2_found_73 : decode cX2_found 73 = .ok (.aload_n 0, 1) := by decide +kernel
theorem dX2_found_74 : decode cX2_found 74 = .ok (.invokevirtual 103, 3) := by decide +kernel
theorem dX2_found_77 : decode cX2_found 77 = .ok (.ifCond .eq 5, 3) := by decide +kernel
theorem dX2_found_80 : decode cX2_found 80 = .ok (.iconst 1, 1) := by decide +kernel
theorem dX2_found_81 : decode cX2_found 81 = .ok (.ireturn, 1) := by decide +kernel
theorem dX2_found_82 : decode cX2_found 82 = .ok (.aload_n 0, 1) := by decide +kernel
theorem dX2_found_83 : decode cX2_found 83 = .ok (.iconst 1, 1) := by decide +kernel
theorem dX2_found_84 : decode cX2_found 84 = .ok (.iconst (-1), 1) := by decide +kernel
theorem dX2_found_85 : decode cX2_found 85 = .ok (.iconst 1, 1) := by decide +kernel
theorem dX2_found_86 : decode cX2_found 86 = .ok (.aload_n 0, 1) := by decide +kernel
theorem dX2_found_87 : decode cX2_found 87 = .ok (.getfield 100, 3) := by decide +kernel
theorem dX2_found_90 : decode cX2_found 90 = .ok (.isub, 1) := by decide +kernel
theorem dX2_found_91 : decode cX2_found 91 = .ok (.invokevirtual 56, 3) := by decide +kernel
theorem dX2_found_94 : decode cX2_found 94 = .ok (.aload_n 0, 1) := by decide +kernel
theorem dX2_found_95 : decode cX2_found 95 = .ok (.bipush 36, 2) := by decide +kernel
theorem dX2_found_97 : decode cX2_found 97 = .ok (.iconst 0, 1) := by decide +kernel
theorem dX2_found_98 : decode cX2_found 98 = .ok (.invokevirtual 60, 3) := by decide +kernel
theorem dX2_found_101 : decode cX2_found 101 = .ok (.pop, 1) := by decide +kernel
theorem dX2_found_102 : decode cX2_found 102 = .ok (.iconst 1, 1) := by decide +kernel
theorem dX2_found_103 : decode cX2_found 103 = .ok (.ireturn, 1) := by decide +kernel
set_option maxRecDepth 20000 in
theorem ggX2_verdict_X2_sizes : GoodIn wsX2_verdict wsX2_sizes := goodIn_r _ [9, 3, 10, 11, 8, 12, 18, 19, 20, 21, 22, 23, 24, 25, 26, 27, 28, 29, 30] (by decide +kernel) (by decide +kernel)
set_option maxRecDepth 20000 in
theorem gX2_verdict_X2_sizes : GoodIn wsX2_verdict (wsV RX2 90 RX2 yX2_sizes wsX2_sizes) := goodIn_app (goodIn_of _ (by decide +kernel)) ggX2_verdict_X2_sizes
set_option maxRecDepth 20000 in
theorem ggX2_verdict_X2_noGoal : GoodIn wsX2_verdict wsX2_noGoal := goodIn_r _ [16, 17, 18, 19, 20, 21, 22, 23, 24, 25, 26, 27, 28, 29, 30] (by decide +kernel) (by decide +kernel)
set_option maxRecDepth 20000 in
theorem gX2_verdict_X2_noGoal : GoodIn wsX2_verdict (wsV RX2 103 RX2 yX2_noGoal wsX2_noGoal) := goodIn_app (goodIn_of _ (by decide +kernel)) ggX2_verdict_X2_noGoal
theorem dX2_verdict_0 : decode cX2_verdict 0 = .ok (.aload_n 0, 1) := by decide +kernel
theorem dX2_verdict_1 : decode cX2_verdict 1 = .ok (.iconst 0, 1) := by decide +kernel
theorem dX2_verdict_2 : decode cX2_verdict 2 = .ok (.putfield 26, 3) := by decide +kernel
theorem dX2_verdict_5 : decode cX2_verdict 5 = .ok (.iconst 0, 1) := by decide +kernel
theorem dX2_verdict_6 : decode cX2_verdict 6 = .ok (.istore_n 1, 1) := by decide +kernel
theorem dX2_verdict_7 : decode cX2_verdict 7 = .ok (.iload_n 1, 1) := by decide +kernel
theorem dX2_verdict_8 : decode cX2_verdict 8 = .ok (.aload_n 0, 1) := by decide +kernel
theorem dX2_verdict_9 : decode cX2_verdict 9 = .ok (.getfield 45, 3) := by decide +kernel
theorem dX2_verdict_12 : decode cX2_verdict 12 = .ok (.if_icmp .ge 42, 3) := by decide +kernel
theorem dX2_verdict_15 : decode cX2_verdict 15 = .ok (.aload_n 0, 1) := by decide +kernel
theorem dX2_verdict_16 : decode cX2_verdict 16 = .ok (.iload_n 1, 1) := by decide +kernel
theorem dX2_verdict_17 : decode cX2_verdict 17 = .ok (.invokevirtual 90, 3) := by decide +kernel
theorem dX2_verdict_20 : decode cX2_verdict 20 = .ok (.aload_n 0, 1) := by decide +kernel
theorem dX2_verdict_21 : decode cX2_verdict 21 = .ok (.getfield 7, 3) := by decide +kernel
theorem dX2_verdict_24 : decode cX2_verdict 24 = .ok (.bipush 11, 2) := by decide +kernel
theorem dX2_verdict_26 : decode cX2_verdict 26 = .ok (.iload_n 1, 1) := by decide +kernel
theorem dX2_verdict_27 : decode cX2_verdict 27 = .ok (.imul, 1) := by decide +kernel
theorem dX2_verdict_28 : decode cX2_verdict 28 = .ok (.bipush 10, 2) := by decide +kernel
theorem dX2_verdict_30 : decode cX2_verdict 30 = .ok (.iadd, 1) := by decide +kernel
theorem dX2_verdict_31 : decode cX2_verdict 31 = .ok (.iaload, 1) := by decide +kernel
theorem dX2_verdict_32 : decode cX2_verdict 32 = .ok (.if_icmp .ge 16, 3) := by decide +kernel
theorem dX2_verdict_35 : decode cX2_verdict 35 = .ok (.aload_n 0, 1) := by decide +kernel
theorem dX2_verdict_36 : decode cX2_verdict 36 = .ok (.getfield 52, 3) := by decide +kernel
theorem dX2_verdict_39 : decode cX2_verdict 39 = .ok (.ifCond .eq 7, 3) := by decide +kernel
theorem dX2_verdict_42 : decode cX2_verdict 42 = .ok (.iconst 2, 1) := by decide +kernel
theorem dX2_verdict_43 : decode cX2_verdict 43 = .ok (.goto 4, 3) := by decide +kernel
theorem dX2_verdict_46 : decode cX2_verdict 46 = .ok (.iconst 1, 1) := by decide +kernel
theorem dX2_verdict_47 : decode cX2_verdict 47 = .ok (.ireturn, 1) := by decide +kernel
theorem dX2_verdict_48 : decode cX2_verdict 48 = .ok (.iinc 1 1, 3) := by decide +kernel
theorem dX2_verdict_51 : decode cX2_verdict 51 = .ok (.goto (-44), 3) := by decide +kernel
theorem dX2_verdict_54 : decode cX2_verdict 54 = .ok (.aload_n 0, 1) := by decide +kernel
theorem dX2_verdict_55 : decode cX2_verdict 55 = .ok (.getfield 52, 3) := by decide +kernel
theorem dX2_verdict_58 : decode cX2_verdict 58 = .ok (.ifCond .eq 14, 3) := by decide +kernel
theorem dX2_verdict_61 : decode cX2_verdict 61 = .ok (.aload_n 0, 1) := by decide +kernel
theorem dX2_verdict_62 : decode cX2_verdict 62 = .ok (.invokevirtual 103, 3) := by decide +kernel
theorem dX2_verdict_65 : decode cX2_verdict 65 = .ok (.ifCond .eq 7, 3) := by decide +kernel
theorem dX2_verdict_68 : decode cX2_verdict 68 = .ok (.iconst 3, 1) := by decide +kernel
theorem dX2_verdict_69 : decode cX2_verdict 69 = .ok (.goto 4, 3) := by decide +kernel
theorem dX2_verdict_72 : decode cX2_verdict 72 = .ok (.iconst 0, 1) := by decide +kernel
theorem dX2_verdict_73 : decode cX2_verdict 73 = .ok (.ireturn, 1) := by decide +kernel
set_option maxRecDepth 20000 in
theorem ggX2_best_X2_fails : GoodIn wsX2_best wsX2_fails := goodIn_r _ [7, 8, 9, 10, 11, 12, 13, 14, 15, 16, 17, 18, 19, 20, 21] (by decide +kernel) (by decide +kernel)
set_option maxRecDepth 20000 in
theorem gX2_best_X2_fails : GoodIn wsX2_best (wsV RX2 38 RX2 yX2_fails wsX2_fails) := goodIn_app (goodIn_of _ (by decide +kernel)) ggX2_best_X2_fails
theorem dX2_best_0 : decode cX2_best 0 = .ok (.aload_n 0, 1) := by decide +kernel
theorem dX2_best_1 : decode cX2_best 1 = .ok (.aload_n 0, 1) := by decide +kernel
theorem dX2_best_2 : decode cX2_best 2 = .ok (.getfield 52, 3) := by decide +kernel
theorem dX2_best_5 : decode cX2_best 5 = .ok (.ifCond .ne 7, 3) := by decide +kernel
theorem dX2_best_8 : decode cX2_best 8 = .ok (.iconst 1, 1) := by decide +kernel
theorem dX2_best_9 : decode cX2_best 9 = .ok (.goto 4, 3) := by decide +kernel
theorem dX2_best_12 : decode cX2_best 12 = .ok (.iconst 0, 1) := by decide +kernel
theorem dX2_best_13 : decode cX2_best 13 = .ok (.iconst 0, 1) := by decide +kernel
theorem dX2_best_14 : decode cX2_best 14 = .ok (.iconst 0, 1) := by decide +kernel
theorem dX2_best_15 : decode cX2_best 15 = .ok (.invokevirtual 38, 3) := by decide +kernel
theorem dX2_best_18 : decode cX2_best 18 = .ok (.ifCond .eq 7, 3) := by decide +kernel
theorem dX2_best_21 : decode cX2_best 21 = .ok (.iconst 0, 1) := by decide +kernel
theorem dX2_best_22 : decode cX2_best 22 = .ok (.goto 7, 3) := by decide +kernel
theorem dX2_best_25 : decode cX2_best 25 = .ok (.aload_n 0, 1) := by decide +kernel
theorem dX2_best_26 : decode cX2_best 26 = .ok (.getfield 100, 3) := by decide +kernel
theorem dX2_best_29 : decode cX2_best 29 = .ok (.ireturn, 1) := by decide +kernel
theorem dX2_turned_0 : decode cX2_turned 0 = .ok (.iconst 0, 1) := by decide +kernel
theorem dX2_turned_1 : decode cX2_turned 1 = .ok (.istore_n 1, 1) := by decide +kernel
theorem dX2_turned_2 : decode cX2_turned 2 = .ok (.iconst 0, 1) := by decide +kernel
theorem dX2_turned_3 : decode cX2_turned 3 = .ok (.istore_n 2, 1) := by decide +kernel
theorem dX2_turned_4 : decode cX2_turned 4 = .ok (.iload_n 2, 1) := by decide +kernel
theorem dX2_turned_5 : decode cX2_turned 5 = .ok (.bipush 10, 2) := by decide +kernel
theorem dX2_turned_7 : decode cX2_turned 7 = .ok (.if_icmp .ge 22, 3) := by decide +kernel
theorem dX2_turned_10 : decode cX2_turned 10 = .ok (.iload_n 1, 1) := by decide +kernel
theorem dX2_turned_11 : decode cX2_turned 11 = .ok (.iload_n 0, 1) := by decide +kernel
theorem dX2_turned_12 : decode cX2_turned 12 = .ok (.bipush 9, 2) := by decide +kernel
theorem dX2_turned_14 : decode cX2_turned 14 = .ok (.iload_n 2, 1) := by decide +kernel
theorem dX2_turned_15 : decode cX2_turned 15 = .ok (.isub, 1) := by decide +kernel
theorem dX2_turned_16 : decode cX2_turned 16 = .ok (.ishr, 1) := by decide +kernel
theorem dX2_turned_17 : decode cX2_turned 17 = .ok (.iconst 1, 1) := by decide +kernel
theorem dX2_turned_18 : decode cX2_turned 18 = .ok (.iand, 1) := by decide +kernel
theorem dX2_turned_19 : decode cX2_turned 19 = .ok (.iload_n 2, 1) := by decide +kernel
theorem dX2_turned_20 : decode cX2_turned 20 = .ok (.ishl, 1) := by decide +kernel
theorem dX2_turned_21 : decode cX2_turned 21 = .ok (.ior, 1) := by decide +kernel
theorem dX2_turned_22 : decode cX2_turned 22 = .ok (.istore_n 1, 1) := by decide +kernel
theorem dX2_turned_23 : decode cX2_turned 23 = .ok (.iinc 2 1, 3) := by decide +kernel
theorem dX2_turned_26 : decode cX2_turned 26 = .ok (.goto (-22), 3) := by decide +kernel
theorem dX2_turned_29 : decode cX2_turned 29 = .ok (.iload_n 1, 1) := by decide +kernel
theorem dX2_turned_30 : decode cX2_turned 30 = .ok (.ireturn, 1) := by decide +kernel
set_option maxRecDepth 20000 in
theorem ggX2_solve_X2_turned : GoodIn wsX2_solve wsX2_turned := goodIn_r _ [10] (by decide +kernel) (by decide +kernel)
set_option maxRecDepth 20000 in
theorem gX2_solve_X2_turned : GoodIn wsX2_solve (va_wsS RX2 110 yX2_turned wsX2_turned) := goodIn_app (goodIn_of _ (by decide +kernel)) ggX2_solve_X2_turned
set_option maxRecDepth 20000 in
theorem ggX2_solve_X2_worth : GoodIn wsX2_solve wsX2_worth := goodIn_r _ [14, 15, 24, 25, 26, 27, 28, 29, 30, 31, 32, 33, 34, 35, 36] (by decide +kernel) (by decide +kernel)
set_option maxRecDepth 20000 in
theorem gX2_solve_X2_worth : GoodIn wsX2_solve (wsV RX2 97 RX2 yX2_worth wsX2_worth) := goodIn_app (goodIn_of _ (by decide +kernel)) ggX2_solve_X2_worth
set_option maxRecDepth 20000 in
theorem ggX2_solve_X2_meets : GoodIn wsX2_solve wsX2_meets := goodIn_r _ [19, 20, 21, 22, 9, 23, 24, 25, 26, 27, 28, 29, 30, 31, 32, 33, 34, 35, 36] (by decide +kernel) (by decide +kernel)
set_option maxRecDepth 20000 in
theorem gX2_solve_X2_meets : GoodIn wsX2_solve (wsV RX2 93 RX2 yX2_meets wsX2_meets) := goodIn_app (goodIn_of _ (by decide +kernel)) ggX2_solve_X2_meets
theorem dX2_solve_0 : decode cX2_solve 0 = .ok (.aload_n 0, 1) := by decide +kernel
theorem dX2_solve_1 : decode cX2_solve 1 = .ok (.iconst 0, 1) := by decide +kernel
theorem dX2_solve_2 : decode cX2_solve 2 = .ok (.putfield 26, 3) := by decide +kernel
theorem dX2_solve_5 : decode cX2_solve 5 = .ok (.aload_n 0, 1) := by decide +kernel
theorem dX2_solve_6 : decode cX2_solve 6 = .ok (.iconst 0, 1) := by decide +kernel
theorem dX2_solve_7 : decode cX2_solve 7 = .ok (.putfield 107, 3) := by decide +kernel
theorem dX2_solve_10 : decode cX2_solve 10 = .ok (.iconst 0, 1) := by decide +kernel
theorem dX2_solve_11 : decode cX2_solve 11 = .ok (.istore_n 1, 1) := by decide +kernel
theorem dX2_solve_12 : decode cX2_solve 12 = .ok (.iload_n 1, 1) := by decide +kernel
theorem dX2_solve_13 : decode cX2_solve 13 = .ok (.sipush 1024, 3) := by decide +kernel
theorem dX2_solve_16 : decode cX2_solve 16 = .ok (.if_icmp .ge 112, 3) := by decide +kernel
theorem dX2_solve_19 : decode cX2_solve 19 = .ok (.iload_n 1, 1) := by decide +kernel
theorem dX2_solve_20 : decode cX2_solve 20 = .ok (.invokestatic 110, 3) := by decide +kernel
theorem dX2_solve_23 : decode cX2_solve 23 = .ok (.istore_n 2, 1) := by decide +kernel
theorem dX2_solve_24 : decode cX2_solve 24 = .ok (.aload_n 0, 1) := by decide +kernel
theorem dX2_solve_25 : decode cX2_solve 25 = .ok (.iload_n 2, 1) := by decide +kernel
theorem dX2_solve_26 : decode cX2_solve 26 = .ok (.invokevirtual 97, 3) := by decide +kernel
theorem dX2_solve_29 : decode cX2_solve 29 = .ok (.istore_n 3, 1) := by decide +kernel
theorem dX2_solve_30 : decode cX2_solve 30 = .ok (.aload_n 0, 1) := by decide +kernel
theorem dX2_solve_31 : decode cX2_solve 31 = .ok (.getfield 107, 3) := by decide +kernel
theorem dX2_solve_34 : decode cX2_solve 34 = .ok (.ifCond .eq 11, 3) := by decide +kernel
theorem dX2_solve_37 : decode cX2_solve 37 = .ok (.iload_n 3, 1) := by decide +kernel
theorem dX2_solve_38 : decode cX2_solve 38 = .ok (.aload_n 0, 1) := by decide +kernel
theorem dX2_solve_39 : decode cX2_solve 39 = .ok (.getfield 113, 3) := by decide +kernel
theorem dX2_solve_42 : decode cX2_solve 42 = .ok (.if_icmp .ge 7, 3) := by decide +kernel
theorem dX2_solve_45 : decode cX2_solve 45 = .ok (.iconst 1, 1) := by decide +kernel
theorem dX2_solve_46 : decode cX2_solve 46 = .ok (.goto 4, 3) := by decide +kernel
theorem dX2_solve_49 : decode cX2_solve 49 = .ok (.iconst 0, 1) := by decide +kernel
theorem dX2_solve_50 : decode cX2_solve 50 = .ok (.istore 4, 2) := by decide +kernel
theorem dX2_solve_52 : decode cX2_solve 52 = .ok (.iconst 0, 1) := by decide +kernel
theorem dX2_solve_53 : decode cX2_solve 53 = .ok (.istore 5, 2) := by decide +kernel
theorem dX2_solve_55 : decode cX2_solve 55 = .ok (.iload 5, 2) := by decide +kernel
theorem dX2_solve_57 : decode cX2_solve 57 = .ok (.aload_n 0, 1) := by decide +kernel
theorem dX2_solve_58 : decode cX2_solve 58 = .ok (.getfield 45, 3) := by decide +kernel
theorem dX2_solve_61 : decode cX2_solve 61 = .ok (.if_icmp .ge 41, 3) := by decide +kernel
theorem dX2_solve_64 : decode cX2_solve 64 = .ok (.iload 4, 2) := by decide +kernel
theorem dX2_solve_66 : decode cX2_solve 66 = .ok (.ifCond .eq 36, 3) := by decide +kernel
theorem dX2_solve_69 : decode cX2_solve 69 = .ok (.aload_n 0, 1) := by decide +kernel
theorem dX2_solve_70 : decode cX2_solve 70 = .ok (.getfield 13, 3) := by decide +kernel
theorem dX2_solve_73 : decode cX2_solve 73 = .ok (.iload 5, 2) := by decide +kernel
theorem dX2_solve_75 : decode cX2_solve 75 = .ok (.baload, 1) := by decide +kernel
theorem dX2_solve_76 : decode cX2_solve 76 = .ok (.ifCond .eq 13, 3) := by decide +kernel
theorem dX2_solve_79 : decode cX2_solve 79 = .ok (.aload_n 0, 1) := by decide +kernel
theorem dX2_solve_80 : decode cX2_solve 80 = .ok (.iload 5, 2) := by decide +kernel
theorem dX2_solve_82 : decode cX2_solve 82 = .ok (.iload_n 2, 1) := by decide +kernel
theorem dX2_solve_83 : decode cX2_solve 83 = .ok (.invokevirtual 93, 3) := by decide +kernel
theorem dX2_solve_86 : decode cX2_solve 86 = .ok (.ifCond .eq 7, 3) := by decide +kernel
theorem dX2_solve_89 : decode cX2_solve 89 = .ok (.iconst 1, 1) := by decide +kernel
theorem dX2_solve_90 : decode cX2_solve 90 = .ok (.goto 4, 3) := by decide +kernel
theorem dX2_solve_93 : decode cX2_solve 93 = .ok (.iconst 0, 1) := by decide +kernel
theorem dX2_solve_94 : decode cX2_solve 94 = .ok (.istore 4, 2) := by decide +kernel
theorem dX2_solve_96 : decode cX2_solve 96 = .ok (.iinc 5 1, 3) := by decide +kernel
theorem dX2_solve_99 : decode cX2_solve 99 = .ok (.goto (-44), 3) := by decide +kernel
theorem dX2_solve_102 : decode cX2_solve 102 = .ok (.iload 4, 2) := by decide +kernel
theorem dX2_solve_104 : decode cX2_solve 104 = .ok (.ifCond .eq 18, 3) := by decide +kernel
theorem dX2_solve_107 : decode cX2_solve 107 = .ok (.aload_n 0, 1) := by decide +kernel
theorem dX2_solve_108 : decode cX2_solve 108 = .ok (.iconst 1, 1) := by decide +kernel
theorem dX2_solve_109 : decode cX2_solve 109 = .ok (.putfield 107, 3) := by decide +kernel
theorem dX2_solve_112 : decode cX2_solve 112 = .ok (.aload_n 0, 1) := by decide +kernel
theorem dX2_solve_113 : decode cX2_solve 113 = .ok (.iload_n 3, 1) := by decide +kernel
theorem dX2_solve_114 : decode cX2_solve 114 = .ok (.putfield 113, 3) := by decide +kernel
theorem dX2_solve_117 : decode cX2_solve 117 = .ok (.aload_n 0, 1) := by decide +kernel
theorem dX2_solve_118 : decode cX2_solve 118 = .ok (.iload_n 2, 1) := by decide +kernel
theorem dX2_solve_119 : decode cX2_solve 119 = .ok (.putfield 116, 3) := by decide +kernel
theorem dX2_solve_122 : decode cX2_solve 122 = .ok (.iinc 1 1, 3) := by decide +kernel
theorem dX2_solve_125 : decode cX2_solve 125 = .ok (.goto (-113), 3) := by decide +kernel
theorem dX2_solve_128 : decode cX2_solve 128 = .ok (.aload_n 0, 1) := by decide +kernel
theorem dX2_solve_129 : decode cX2_solve 129 = .ok (.getfield 107, 3) := by decide +kernel
theorem dX2_solve_132 : decode cX2_solve 132 = .ok (.ifCond .eq 7, 3) := by decide +kernel
theorem dX2_solve_135 : decode cX2_solve 135 = .ok (.iconst 1, 1) := by decide +kernel
theorem dX2_solve_136 : decode cX2_solve 136 = .ok (.goto 4, 3) := by decide +kernel
theorem dX2_solve_139 : decode cX2_solve 139 = .ok (.iconst 0, 1) := by decide +kernel
theorem dX2_solve_140 : decode cX2_solve 140 = .ok (.ireturn, 1) := by decide +kernel
set_option maxRecDepth 20000 in
theorem ggX2_least_X2_fails : GoodIn wsX2_least wsX2_fails := goodIn_r _ [7, 8, 9, 10, 11, 12, 13, 14, 15, 16, 17, 18, 19, 20, 21] (by decide +kernel) (by decide +kernel)
set_option maxRecDepth 20000 in
theorem gX2_least_X2_fails : GoodIn wsX2_least (wsV RX2 38 RX2 yX2_fails wsX2_fails) := goodIn_app (goodIn_of _ (by decide +kernel)) ggX2_least_X2_fails
theorem dX2_least_0 : decode cX2_least 0 = .ok (.aload_n 0, 1) := by decide +kernel
theorem dX2_least_1 : decode cX2_least 1 = .ok (.aload_n 0, 1) := by decide +kernel
theorem dX2_least_2 : decode cX2_least 2 = .ok (.getfield 107, 3) := by decide +kernel
theorem dX2_least_5 : decode cX2_least 5 = .ok (.ifCond .ne 7, 3) := by decide +kernel
theorem dX2_least_8 : decode cX2_least 8 = .ok (.iconst 1, 1) := by decide +kernel
theorem dX2_least_9 : decode cX2_least 9 = .ok (.goto 4, 3) := by decide +kernel
theorem dX2_least_12 : decode cX2_least 12 = .ok (.iconst 0, 1) := by decide +kernel
theorem dX2_least_13 : decode cX2_least 13 = .ok (.iconst 0, 1) := by decide +kernel
theorem dX2_least_14 : decode cX2_least 14 = .ok (.iconst 0, 1) := by decide +kernel
theorem dX2_least_15 : decode cX2_least 15 = .ok (.invokevirtual 38, 3) := by decide +kernel
theorem dX2_least_18 : decode cX2_least 18 = .ok (.ifCond .eq 7, 3) := by decide +kernel
theorem dX2_least_21 : decode cX2_least 21 = .ok (.iconst 0, 1) := by decide +kernel
theorem dX2_least_22 : decode cX2_least 22 = .ok (.goto 7, 3) := by decide +kernel
theorem dX2_least_25 : decode cX2_least 25 = .ok (.aload_n 0, 1) := by decide +kernel
theorem dX2_least_26 : decode cX2_least 26 = .ok (.getfield 113, 3) := by decide +kernel
theorem dX2_least_29 : decode cX2_least 29 = .ok (.ireturn, 1) := by decide +kernel
set_option maxRecDepth 20000 in
theorem ggX2_value_X2_outside : GoodIn wsX2_value wsX2_outside := goodIn_r _ [6] (by decide +kernel) (by decide +kernel)
set_option maxRecDepth 20000 in
theorem gX2_value_X2_outside : GoodIn wsX2_value (va_wsS RX2 34 yX2_outside wsX2_outside) := goodIn_app (goodIn_of _ (by decide +kernel)) ggX2_value_X2_outside
set_option maxRecDepth 20000 in
theorem ggX2_value_X2_fails : GoodIn wsX2_value wsX2_fails := goodIn_r _ [10, 11, 12, 13, 14, 15, 16, 17, 18, 19, 20, 21, 22, 23, 24] (by decide +kernel) (by decide +kernel)
set_option maxRecDepth 20000 in
theorem gX2_value_X2_fails : GoodIn wsX2_value (wsV RX2 38 RX2 yX2_fails wsX2_fails) := goodIn_app (goodIn_of _ (by decide +kernel)) ggX2_value_X2_fails
theorem dX2_value_0 : decode cX2_value 0 = .ok (.aload_n 0, 1) := by decide +kernel
theorem dX2_value_1 : decode cX2_value 1 = .ok (.aload_n 0, 1) := by decide +kernel
theorem dX2_value_2 : decode cX2_value 2 = .ok (.getfield 107, 3) := by decide +kernel
theorem dX2_value_5 : decode cX2_value 5 = .ok (.ifCond .ne 7, 3) := by decide +kernel
theorem dX2_value_8 : decode cX2_value 8 = .ok (.iconst 1, 1) := by decide +kernel
theorem dX2_value_9 : decode cX2_value 9 = .ok (.goto 4, 3) := by decide +kernel
theorem dX2_value_12 : decode cX2_value 12 = .ok (.iconst 0, 1) := by decide +kernel
theorem dX2_value_13 : decode cX2_value 13 = .ok (.iload_n 1, 1) := by decide +kernel
theorem dX2_value_14 : decode cX2_value 14 = .ok (.iconst 0, 1) := by decide +kernel
theorem dX2_value_15 : decode cX2_value 15 = .ok (.bipush 9, 2) := by decide +kernel
theorem dX2_value_17 : decode cX2_value 17 = .ok (.invokestatic 34, 3) := by decide +kernel
theorem dX2_value_20 : decode cX2_value 20 = .ok (.iconst 0, 1) := by decide +kernel
theorem dX2_value_21 : decode cX2_value 21 = .ok (.invokevirtual 38, 3) := by decide +kernel
theorem dX2_value_24 : decode cX2_value 24 = .ok (.ifCond .eq 7, 3) := by decide +kernel
theorem dX2_value_27 : decode cX2_value 27 = .ok (.iconst 0, 1) := by decide +kernel
theorem dX2_value_28 : decode cX2_value 28 = .ok (.goto 11, 3) := by decide +kernel
theorem dX2_value_31 : decode cX2_value 31 = .ok (.aload_n 0, 1) := by decide +kernel
theorem dX2_value_32 : decode cX2_value 32 = .ok (.getfield 116, 3) := by decide +kernel
theorem dX2_value_35 : decode cX2_value 35 = .ok (.iload_n 1, 1) := by decide +kernel
theorem dX2_value_36 : decode cX2_value 36 = .ok (.ishr, 1) := by decide +kernel
theorem dX2_value_37 : decode cX2_value 37 = .ok (.iconst 1, 1) := by decide +kernel
theorem dX2_value_38 : decode cX2_value 38 = .ok (.iand, 1) := by decide +kernel
theorem dX2_value_39 : decode cX2_value 39 = .ok (.ireturn, 1) := by decide +kernel
theorem dJ9_abs_0f7a4_0 : decode cJ9_abs_0f7a4 0 = .ok (.iload_n 0, 1) := by decide +kernel
theorem dJ9_abs_0f7a4_1 : decode cJ9_abs_0f7a4 1 = .ok (.ifCond .ge 8, 3) := by decide +kernel
theorem dJ9_abs_0f7a4_4 : decode cJ9_abs_0f7a4 4 = .ok (.iload_n 0, 1) := by decide +kernel
theorem dJ9_abs_0f7a4_5 : decode cJ9_abs_0f7a4 5 = .ok (.ineg, 1) := by decide +kernel
theorem dJ9_abs_0f7a4_6 : decode cJ9_abs_0f7a4 6 = .ok (.goto 4, 3) := by decide +kernel
theorem dJ9_abs_0f7a4_9 : decode cJ9_abs_0f7a4 9 = .ok (.iload_n 0, 1) := by decide +kernel
theorem dJ9_abs_0f7a4_10 : decode cJ9_abs_0f7a4 10 = .ok (.ireturn, 1) := by decide +kernel
theorem dJ9_max_7cf53_0 : decode cJ9_max_7cf53 0 = .ok (.iload_n 0, 1) := by decide +kernel
theorem dJ9_max_7cf53_1 : decode cJ9_max_7cf53 1 = .ok (.iload_n 1, 1) := by decide +kernel
theorem dJ9_max_7cf53_2 : decode cJ9_max_7cf53 2 = .ok (.if_icmp .lt 7, 3) := by decide +kernel
theorem dJ9_max_7cf53_5 : decode cJ9_max_7cf53 5 = .ok (.iload_n 0, 1) := by decide +kernel
theorem dJ9_max_7cf53_6 : decode cJ9_max_7cf53 6 = .ok (.goto 4, 3) := by decide +kernel
theorem dJ9_max_7cf53_9 : decode cJ9_max_7cf53 9 = .ok (.iload_n 1, 1) := by decide +kernel
theorem dJ9_max_7cf53_10 : decode cJ9_max_7cf53 10 = .ok (.ireturn, 1) := by decide +kernel
theorem dJ9_min_7cf53_0 : decode cJ9_min_7cf53 0 = .ok (.iload_n 0, 1) := by decide +kernel
theorem dJ9_min_7cf53_1 : decode cJ9_min_7cf53 1 = .ok (.iload_n 1, 1) := by decide +kernel
theorem dJ9_min_7cf53_2 : decode cJ9_min_7cf53 2 = .ok (.if_icmp .gt 7, 3) := by decide +kernel
theorem dJ9_min_7cf53_5 : decode cJ9_min_7cf53 5 = .ok (.iload_n 0, 1) := by decide +kernel
theorem dJ9_min_7cf53_6 : decode cJ9_min_7cf53 6 = .ok (.goto 4, 3) := by decide +kernel
theorem dJ9_min_7cf53_9 : decode cJ9_min_7cf53 9 = .ok (.iload_n 1, 1) := by decide +kernel
theorem dJ9_min_7cf53_10 : decode cJ9_min_7cf53 10 = .ok (.ireturn, 1) := by decide +kernel
theorem dJ7_fill_53178_0 : decode cJ7_fill_53178 0 = .ok (.iconst 0, 1) := by decide +kernel
theorem dJ7_fill_53178_1 : decode cJ7_fill_53178 1 = .ok (.istore_n 2, 1) := by decide +kernel
theorem dJ7_fill_53178_2 : decode cJ7_fill_53178 2 = .ok (.aload_n 0, 1) := by decide +kernel
theorem dJ7_fill_53178_3 : decode cJ7_fill_53178 3 = .ok (.arraylength, 1) := by decide +kernel
theorem dJ7_fill_53178_4 : decode cJ7_fill_53178 4 = .ok (.istore_n 3, 1) := by decide +kernel
theorem dJ7_fill_53178_5 : decode cJ7_fill_53178 5 = .ok (.iload_n 2, 1) := by decide +kernel
theorem dJ7_fill_53178_6 : decode cJ7_fill_53178 6 = .ok (.iload_n 3, 1) := by decide +kernel
theorem dJ7_fill_53178_7 : decode cJ7_fill_53178 7 = .ok (.if_icmp .ge 13, 3) := by decide +kernel
theorem dJ7_fill_53178_10 : decode cJ7_fill_53178 10 = .ok (.aload_n 0, 1) := by decide +kernel
theorem dJ7_fill_53178_11 : decode cJ7_fill_53178 11 = .ok (.iload_n 2, 1) := by decide +kernel
theorem dJ7_fill_53178_12 : decode cJ7_fill_53178 12 = .ok (.iload_n 1, 1) := by decide +kernel
theorem dJ7_fill_53178_13 : decode cJ7_fill_53178 13 = .ok (.iastore, 1) := by decide +kernel
theorem dJ7_fill_53178_14 : decode cJ7_fill_53178 14 = .ok (.iinc 2 1, 3) := by decide +kernel
theorem dJ7_fill_53178_17 : decode cJ7_fill_53178 17 = .ok (.goto (-12), 3) := by decide +kernel
theorem dJ7_fill_53178_20 : decode cJ7_fill_53178 20 = .ok (.return_, 1) := by decide +kernel
set_option maxRecDepth 20000 in
theorem ggL_term_X1_term : GoodIn wsL_term wsX1_term := goodIn_ca (goodIn_r _ [6, 7, 8, 9, 10, 11, 5, 12, 13, 14, 15, 16, 17, 18, 19, 20, 21, 22, 23, 24, 25, 26, 27] (by decide +kernel) (by decide +kernel)) (goodIn_sub (fun _ h => List.mem_cons_of_mem _ (List.mem_append_right _ h)) (by decide +kernel))
set_option maxRecDepth 20000 in
theorem gL_term_X1_term : GoodIn wsL_term (wsV RL 7 RX1 yX1_term wsX1_term) := goodIn_app (goodIn_of _ (by decide +kernel)) ggL_term_X1_term
theorem dL_term_0 : decode cL_term 0 = .ok (.aload_n 0, 1) := by decide +kernel
theorem dL_term_1 : decode cL_term 1 = .ok (.iload_n 1, 1) := by decide +kernel
theorem dL_term_2 : decode cL_term 2 = .ok (.iload_n 2, 1) := by decide +kernel
theorem dL_term_3 : decode cL_term 3 = .ok (.invokevirtual 7, 3) := by decide +kernel
theorem dL_term_6 : decode cL_term 6 = .ok (.goto 6, 3) := by decide +kernel
theorem dL_term_9 : decode cL_term 9 = .ok (.astore_n 3, 1) := by decide +kernel
theorem dL_term_10 : decode cL_term 10 = .ok (.iconst 1, 1) := by decide +kernel
theorem dL_term_11 : decode cL_term 11 = .ok (.ireturn, 1) := by decide +kernel
theorem dL_term_12 : decode cL_term 12 = .ok (.iconst 0, 1) := by decide +kernel
theorem dL_term_13 : decode cL_term 13 = .ok (.ireturn, 1) := by decide +kernel
set_option maxRecDepth 20000 in
theorem ggL_require_X1_require : GoodIn wsL_require wsX1_require := goodIn_ca (goodIn_ca (goodIn_r _ [7, 8, 9, 10, 11, 12, 13, 14, 15, 16, 17, 6, 18, 19, 20, 21, 22, 23, 24, 25, 26, 27, 28, 29, 30, 31, 32, 33, 34, 35, 36, 37, 38, 39, 40, 41, 42, 43, 44, 45, 46, 47, 48, 49, 50, 51, 52, 53, 54, 55, 56, 57, 58, 59, 60, 61, 62, 63, 64, 65, 66, 67, 68, 69, 70, 71, 72, 73, 74, 75] (by decide +kernel) (by decide +kernel)) (goodIn_sub (fun _ h => List.mem_cons_of_mem _ (List.mem_append_left _ (List.mem_append_right _ h))) (by decide +kernel))) (goodIn_sub (fun _ h => List.mem_cons_of_mem _ (List.mem_append_right _ h)) (by decide +kernel))
set_option maxRecDepth 20000 in
theorem gL_require_X1_require : GoodIn wsL_require (wsV RL 15 RX1 yX1_require wsX1_require) := goodIn_app (goodIn_of _ (by decide +kernel)) ggL_require_X1_require
theorem dL_require_0 : decode cL_require 0 = .ok (.aload_n 3, 1) := by decide +kernel
theorem dL_require_1 : decode cL_require 1 = .ok (.iconst 0, 1) := by decide +kernel
theorem dL_require_2 : decode cL_require 2 = .ok (.aload_n 0, 1) := by decide +kernel
theorem dL_require_3 : decode cL_require 3 = .ok (.iload_n 1, 1) := by decide +kernel
theorem dL_require_4 : decode cL_require 4 = .ok (.iload_n 2, 1) := by decide +kernel
theorem dL_require_5 : decode cL_require 5 = .ok (.invokevirtual 15, 3) := by decide +kernel
theorem dL_require_8 : decode cL_require 8 = .ok (.i2l, 1) := by decide +kernel
theorem dL_require_9 : decode cL_require 9 = .ok (.lastore, 1) := by decide +kernel
theorem dL_require_10 : decode cL_require 10 = .ok (.goto 11, 3) := by decide +kernel
theorem dL_require_13 : decode cL_require 13 = .ok (.astore 4, 2) := by decide +kernel
theorem dL_require_15 : decode cL_require 15 = .ok (.iconst 1, 1) := by decide +kernel
theorem dL_require_16 : decode cL_require 16 = .ok (.ireturn, 1) := by decide +kernel
theorem dL_require_17 : decode cL_require 17 = .ok (.astore 4, 2) := by decide +kernel
theorem dL_require_19 : decode cL_require 19 = .ok (.iconst 2, 1) := by decide +kernel
theorem dL_require_20 : decode cL_require 20 = .ok (.ireturn, 1) := by decide +kernel
theorem dL_require_21 : decode cL_require 21 = .ok (.iconst 0, 1) := by decide +kernel
theorem dL_require_22 : decode cL_require 22 = .ok (.ireturn, 1) := by decide +kernel
set_option maxRecDepth 20000 in
theorem ggL_objective_X1_objective : GoodIn wsL_objective wsX1_objective := goodIn_ca (goodIn_r _ [6, 7, 8, 9, 10, 11, 12, 13, 14, 15, 16, 17, 18, 5, 19, 20, 21, 22, 23, 24, 25, 26, 27, 28, 29, 30, 31, 32, 33, 34, 35] (by decide +kernel) (by decide +kernel)) (goodIn_sub (fun _ h => List.mem_cons_of_mem _ (List.mem_append_right _ h)) (by decide +kernel))
set_option maxRecDepth 20000 in
theorem gL_objective_X1_objective : GoodIn wsL_objective (wsV RL 21 RX1 yX1_objective wsX1_objective) := goodIn_app (goodIn_of _ (by decide +kernel)) ggL_objective_X1_objective
theorem dL_objective_0 : decode cL_objective 0 = .ok (.aload_n 0, 1) := by decide +kernel
theorem dL_objective_1 : decode cL_objective 1 = .ok (.invokevirtual 21, 3) := by decide +kernel
theorem dL_objective_4 : decode cL_objective 4 = .ok (.goto 6, 3) := by decide +kernel
theorem dL_objective_7 : decode cL_objective 7 = .ok (.astore_n 1, 1) := by decide +kernel
theorem dL_objective_8 : decode cL_objective 8 = .ok (.iconst 1, 1) := by decide +kernel
theorem dL_objective_9 : decode cL_objective 9 = .ok (.ireturn, 1) := by decide +kernel
theorem dL_objective_10 : decode cL_objective 10 = .ok (.iconst 0, 1) := by decide +kernel
theorem dL_objective_11 : decode cL_objective 11 = .ok (.ireturn, 1) := by decide +kernel
set_option maxRecDepth 20000 in
theorem ggL_constraint_X1_constraint : GoodIn wsL_constraint wsX1_constraint := goodIn_ca (goodIn_ca (goodIn_r _ [7, 8, 9, 10, 11, 12, 13, 14, 15, 6, 16, 17, 18, 19, 20, 21, 22, 23, 24, 25, 26, 27, 28, 29, 30, 31, 32, 33, 34, 35, 36, 37, 38, 39, 40, 41, 42, 43, 44, 45] (by decide +kernel) (by decide +kernel)) (goodIn_sub (fun _ h => List.mem_cons_of_mem _ (List.mem_append_left _ (List.mem_append_right _ h))) (by decide +kernel))) (goodIn_sub (fun _ h => List.mem_cons_of_mem _ (List.mem_append_right _ h)) (by decide +kernel))
set_option maxRecDepth 20000 in
theorem gL_constraint_X1_constraint : GoodIn wsL_constraint (wsV RL 24 RX1 yX1_constraint wsX1_constraint) := goodIn_app (goodIn_of _ (by decide +kernel)) ggL_constraint_X1_constraint
theorem dL_constraint_0 : decode cL_constraint 0 = .ok (.aload_n 3, 1) := by decide +kernel
theorem dL_constraint_1 : decode cL_constraint 1 = .ok (.iconst 0, 1) := by decide +kernel
theorem dL_constraint_2 : decode cL_constraint 2 = .ok (.aload_n 0, 1) := by decide +kernel
theorem dL_constraint_3 : decode cL_constraint 3 = .ok (.iload_n 1, 1) := by decide +kernel
theorem dL_constraint_4 : decode cL_constraint 4 = .ok (.iload_n 2, 1) := by decide +kernel
theorem dL_constraint_5 : decode cL_constraint 5 = .ok (.invokevirtual 24, 3) := by decide +kernel
theorem dL_constraint_8 : decode cL_constraint 8 = .ok (.i2l, 1) := by decide +kernel
theorem dL_constraint_9 : decode cL_constraint 9 = .ok (.lastore, 1) := by decide +kernel
theorem dL_constraint_10 : decode cL_constraint 10 = .ok (.goto 11, 3) := by decide +kernel
theorem dL_constraint_13 : decode cL_constraint 13 = .ok (.astore 4, 2) := by decide +kernel
theorem dL_constraint_15 : decode cL_constraint 15 = .ok (.iconst 1, 1) := by decide +kernel
theorem dL_constraint_16 : decode cL_constraint 16 = .ok (.ireturn, 1) := by decide +kernel
theorem dL_constraint_17 : decode cL_constraint 17 = .ok (.astore 4, 2) := by decide +kernel
theorem dL_constraint_19 : decode cL_constraint 19 = .ok (.iconst 2, 1) := by decide +kernel
theorem dL_constraint_20 : decode cL_constraint 20 = .ok (.ireturn, 1) := by decide +kernel
theorem dL_constraint_21 : decode cL_constraint 21 = .ok (.iconst 0, 1) := by decide +kernel
theorem dL_constraint_22 : decode cL_constraint 22 = .ok (.ireturn, 1) := by decide +kernel
set_option maxRecDepth 20000 in
theorem ggL_close_X1_close : GoodIn wsL_close wsX1_close := goodIn_ca (goodIn_r _ [6, 7, 8, 9, 10, 11, 5, 12, 13, 14, 15, 16, 17, 18, 19, 20, 21, 22, 23, 24, 25, 26, 27, 28, 29, 30, 31, 32, 33, 34, 35, 36, 37, 38, 39, 40, 41, 42, 43, 44, 45, 46, 47, 48, 49, 50, 51, 52, 53, 54, 55, 56, 57, 58, 59, 60] (by decide +kernel) (by decide +kernel)) (goodIn_sub (fun _ h => List.mem_cons_of_mem _ (List.mem_append_right _ h)) (by decide +kernel))
set_option maxRecDepth 20000 in
theorem gL_close_X1_close : GoodIn wsL_close (wsV RL 29 RX1 yX1_close wsX1_close) := goodIn_app (goodIn_of _ (by decide +kernel)) ggL_close_X1_close
theorem dL_close_0 : decode cL_close 0 = .ok (.aload_n 3, 1) := by decide +kernel
theorem dL_close_1 : decode cL_close 1 = .ok (.iconst 0, 1) := by decide +kernel
theorem dL_close_2 : decode cL_close 2 = .ok (.aload_n 0, 1) := by decide +kernel
theorem dL_close_3 : decode cL_close 3 = .ok (.iload_n 1, 1) := by decide +kernel
theorem dL_close_4 : decode cL_close 4 = .ok (.iload_n 2, 1) := by decide +kernel
theorem dL_close_5 : decode cL_close 5 = .ok (.invokevirtual 29, 3) := by decide +kernel
theorem dL_close_8 : decode cL_close 8 = .ok (.i2l, 1) := by decide +kernel
theorem dL_close_9 : decode cL_close 9 = .ok (.lastore, 1) := by decide +kernel
theorem dL_close_10 : decode cL_close 10 = .ok (.goto 7, 3) := by decide +kernel
theorem dL_close_13 : decode cL_close 13 = .ok (.astore 4, 2) := by decide +kernel
theorem dL_close_15 : decode cL_close 15 = .ok (.iconst 1, 1) := by decide +kernel
theorem dL_close_16 : decode cL_close 16 = .ok (.ireturn, 1) := by decide +kernel
theorem dL_close_17 : decode cL_close 17 = .ok (.iconst 0, 1) := by decide +kernel
theorem dL_close_18 : decode cL_close 18 = .ok (.ireturn, 1) := by decide +kernel
set_option maxRecDepth 20000 in
theorem ggL_load_X1_load : GoodIn wsL_load wsX1_load := goodIn_ca (goodIn_ca (goodIn_r _ [7, 8, 9, 10, 11, 12, 13, 14, 15, 6, 16, 17, 18, 19, 20, 21, 22, 23, 24, 25, 26, 27, 28, 29, 30, 31, 32, 33, 34, 35, 36, 37, 38, 39, 40, 41, 42, 43, 44, 45, 46, 47, 48, 49, 50, 51, 52] (by decide +kernel) (by decide +kernel)) (goodIn_sub (fun _ h => List.mem_cons_of_mem _ (List.mem_append_left _ (List.mem_append_right _ h))) (by decide +kernel))) (goodIn_sub (fun _ h => List.mem_cons_of_mem _ (List.mem_append_right _ h)) (by decide +kernel))
set_option maxRecDepth 20000 in
theorem gL_load_X1_load : GoodIn wsL_load (wsV RL 32 RX1 yX1_load wsX1_load) := goodIn_app (goodIn_of _ (by decide +kernel)) ggL_load_X1_load
theorem dL_load_0 : decode cL_load 0 = .ok (.aload_n 0, 1) := by decide +kernel
theorem dL_load_1 : decode cL_load 1 = .ok (.iload_n 1, 1) := by decide +kernel
theorem dL_load_2 : decode cL_load 2 = .ok (.invokevirtual 32, 3) := by decide +kernel
theorem dL_load_5 : decode cL_load 5 = .ok (.goto 9, 3) := by decide +kernel
theorem dL_load_8 : decode cL_load 8 = .ok (.astore_n 2, 1) := by decide +kernel
theorem dL_load_9 : decode cL_load 9 = .ok (.iconst 1, 1) := by decide +kernel
theorem dL_load_10 : decode cL_load 10 = .ok (.ireturn, 1) := by decide +kernel
theorem dL_load_11 : decode cL_load 11 = .ok (.astore_n 2, 1) := by decide +kernel
theorem dL_load_12 : decode cL_load 12 = .ok (.iconst 2, 1) := by decide +kernel
theorem dL_load_13 : decode cL_load 13 = .ok (.ireturn, 1) := by decide +kernel
theorem dL_load_14 : decode cL_load 14 = .ok (.iconst 0, 1) := by decide +kernel
theorem dL_load_15 : decode cL_load 15 = .ok (.ireturn, 1) := by decide +kernel
set_option maxRecDepth 20000 in
theorem ggL_axiom_X1_axiom : GoodIn wsL_axiom wsX1_axiom := goodIn_ca (goodIn_ca (goodIn_r _ [7, 8, 9, 10, 11, 12, 13, 6, 14, 15, 16, 17, 18, 19, 20, 21, 22, 23, 24, 25, 26, 27, 28, 29, 30, 31, 32, 33, 34, 35, 36, 37, 38, 39, 40, 41, 42, 43, 44, 45, 46, 47, 48, 49] (by decide +kernel) (by decide +kernel)) (goodIn_sub (fun _ h => List.mem_cons_of_mem _ (List.mem_append_left _ (List.mem_append_right _ h))) (by decide +kernel))) (goodIn_sub (fun _ h => List.mem_cons_of_mem _ (List.mem_append_right _ h)) (by decide +kernel))
set_option maxRecDepth 20000 in
theorem gL_axiom_X1_axiom : GoodIn wsL_axiom (wsV RL 36 RX1 yX1_axiom wsX1_axiom) := goodIn_app (goodIn_of _ (by decide +kernel)) ggL_axiom_X1_axiom
theorem dL_axiom_0 : decode cL_axiom 0 = .ok (.aload_n 0, 1) := by decide +kernel
theorem dL_axiom_1 : decode cL_axiom 1 = .ok (.iload_n 1, 1) := by decide +kernel
theorem dL_axiom_2 : decode cL_axiom 2 = .ok (.iload_n 2, 1) := by decide +kernel
theorem dL_axiom_3 : decode cL_axiom 3 = .ok (.invokevirtual 36, 3) := by decide +kernel
theorem dL_axiom_6 : decode cL_axiom 6 = .ok (.goto 9, 3) := by decide +kernel
theorem dL_axiom_9 : decode cL_axiom 9 = .ok (.astore_n 3, 1) := by decide +kernel
theorem dL_axiom_10 : decode cL_axiom 10 = .ok (.iconst 1, 1) := by decide +kernel
theorem dL_axiom_11 : decode cL_axiom 11 = .ok (.ireturn, 1) := by decide +kernel
theorem dL_axiom_12 : decode cL_axiom 12 = .ok (.astore_n 3, 1) := by decide +kernel
theorem dL_axiom_13 : decode cL_axiom 13 = .ok (.iconst 2, 1) := by decide +kernel
theorem dL_axiom_14 : decode cL_axiom 14 = .ok (.ireturn, 1) := by decide +kernel
theorem dL_axiom_15 : decode cL_axiom 15 = .ok (.iconst 0, 1) := by decide +kernel
theorem dL_axiom_16 : decode cL_axiom 16 = .ok (.ireturn, 1) := by decide +kernel
set_option maxRecDepth 20000 in
theorem ggL_add_X1_add : GoodIn wsL_add wsX1_add := goodIn_ca (goodIn_ca (goodIn_r _ [7, 8, 9, 10, 11, 12, 13, 14, 15, 16, 17, 18, 19, 20, 21, 22, 23, 24, 25, 26, 27, 28, 29, 30, 31, 32, 33, 34, 35, 36, 37, 38, 39, 40, 6, 41, 42, 43, 44, 45, 46, 47, 48, 49, 50, 51, 52, 53, 54, 55, 56, 57, 58, 59, 60, 61, 62, 63, 64, 65, 66, 67, 68, 69, 70, 71] (by decide +kernel) (by decide +kernel)) (goodIn_sub (fun _ h => List.mem_cons_of_mem _ (List.mem_append_left _ (List.mem_append_right _ h))) (by decide +kernel))) (goodIn_sub (fun _ h => List.mem_cons_of_mem _ (List.mem_append_right _ h)) (by decide +kernel))
set_option maxRecDepth 20000 in
theorem gL_add_X1_add : GoodIn wsL_add (wsV RL 40 RX1 yX1_add wsX1_add) := goodIn_app (goodIn_of _ (by decide +kernel)) ggL_add_X1_add
theorem dL_add_0 : decode cL_add 0 = .ok (.aload_n 0, 1) := by decide +kernel
theorem dL_add_1 : decode cL_add 1 = .ok (.invokevirtual 40, 3) := by decide +kernel
theorem dL_add_4 : decode cL_add 4 = .ok (.goto 9, 3) := by decide +kernel
theorem dL_add_7 : decode cL_add 7 = .ok (.astore_n 1, 1) := by decide +kernel
theorem dL_add_8 : decode cL_add 8 = .ok (.iconst 1, 1) := by decide +kernel
theorem dL_add_9 : decode cL_add 9 = .ok (.ireturn, 1) := by decide +kernel
theorem dL_add_10 : decode cL_add 10 = .ok (.astore_n 1, 1) := by decide +kernel
theorem dL_add_11 : decode cL_add 11 = .ok (.iconst 2, 1) := by decide +kernel
theorem dL_add_12 : decode cL_add 12 = .ok (.ireturn, 1) := by decide +kernel
theorem dL_add_13 : decode cL_add 13 = .ok (.iconst 0, 1) := by decide +kernel
theorem dL_add_14 : decode cL_add 14 = .ok (.ireturn, 1) := by decide +kernel
set_option maxRecDepth 20000 in
theorem ggL_times_X1_times : GoodIn wsL_times wsX1_times := goodIn_ca (goodIn_ca (goodIn_ca (goodIn_r _ [8, 9, 10, 11, 12, 13, 14, 15, 16, 7, 17, 18, 19, 20, 21, 22, 23, 24, 25, 26, 27, 28, 29, 30, 31, 32, 33, 34, 35, 36, 37, 38, 39, 40, 41, 42, 43, 44, 45, 46, 47, 48, 49, 50, 51, 52, 53, 54, 55, 56, 57, 58, 59, 60, 61, 62, 63, 64, 65, 66, 67, 68, 69, 70, 71] (by decide +kernel) (by decide +kernel)) (goodIn_sub (fun _ h => List.mem_cons_of_mem _ (List.mem_append_left _ (List.mem_append_left _ (List.mem_append_right _ h)))) (by decide +kernel))) (goodIn_sub (fun _ h => List.mem_cons_of_mem _ (List.mem_append_left _ (List.mem_append_right _ h))) (by decide +kernel))) (goodIn_sub (fun _ h => List.mem_cons_of_mem _ (List.mem_append_right _ h)) (by decide +kernel))
set_option maxRecDepth 20000 in
theorem gL_times_X1_times : GoodIn wsL_times (wsV RL 45 RX1 yX1_times wsX1_times) := goodIn_app (goodIn_of _ (by decide +kernel)) ggL_times_X1_times
theorem dL_times_0 : decode cL_times 0 = .ok (.aload_n 0, 1) := by decide +kernel
theorem dL_times_1 : decode cL_times 1 = .ok (.iload_n 1, 1) := by decide +kernel
theorem dL_times_2 : decode cL_times 2 = .ok (.invokevirtual 45, 3) := by decide +kernel
theorem dL_times_5 : decode cL_times 5 = .ok (.goto 12, 3) := by decide +kernel
theorem dL_times_8 : decode cL_times 8 = .ok (.astore_n 2, 1) := by decide +kernel
theorem dL_times_9 : decode cL_times 9 = .ok (.iconst 1, 1) := by decide +kernel
theorem dL_times_10 : decode cL_times 10 = .ok (.ireturn, 1) := by decide +kernel
theorem dL_times_11 : decode cL_times 11 = .ok (.astore_n 2, 1) := by decide +kernel
theorem dL_times_12 : decode cL_times 12 = .ok (.iconst 2, 1) := by decide +kernel
theorem dL_times_13 : decode cL_times 13 = .ok (.ireturn, 1) := by decide +kernel
theorem dL_times_14 : decode cL_times 14 = .ok (.astore_n 2, 1) := by decide +kernel
theorem dL_times_15 : decode cL_times 15 = .ok (.iconst 3, 1) := by decide +kernel
theorem dL_times_16 : decode cL_times 16 = .ok (.ireturn, 1) := by decide +kernel
theorem dL_times_17 : decode cL_times 17 = .ok (.iconst 0, 1) := by decide +kernel
theorem dL_times_18 : decode cL_times 18 = .ok (.ireturn, 1) := by decide +kernel
set_option maxRecDepth 20000 in
theorem ggL_divide_X1_divide : GoodIn wsL_divide wsX1_divide := goodIn_ca (goodIn_ca (goodIn_r _ [7, 8, 9, 10, 11, 12, 13, 14, 15, 6, 16, 17, 18, 19, 20, 21, 22, 23, 24, 25, 26, 27, 28, 29, 30, 31, 32, 33, 34, 35, 36, 37, 38, 39, 40, 41, 42, 43, 44, 45, 46, 47, 48, 49, 50, 51, 52, 53, 54, 55, 56, 57, 58] (by decide +kernel) (by decide +kernel)) (goodIn_sub (fun _ h => List.mem_cons_of_mem _ (List.mem_append_left _ (List.mem_append_right _ h))) (by decide +kernel))) (goodIn_sub (fun _ h => List.mem_cons_of_mem _ (List.mem_append_right _ h)) (by decide +kernel))
set_option maxRecDepth 20000 in
theorem gL_divide_X1_divide : GoodIn wsL_divide (wsV RL 48 RX1 yX1_divide wsX1_divide) := goodIn_app (goodIn_of _ (by decide +kernel)) ggL_divide_X1_divide
theorem dL_divide_0 : decode cL_divide 0 = .ok (.aload_n 0, 1) := by decide +kernel
theorem dL_divide_1 : decode cL_divide 1 = .ok (.iload_n 1, 1) := by decide +kernel
theorem dL_divide_2 : decode cL_divide 2 = .ok (.invokevirtual 48, 3) := by decide +kernel
theorem dL_divide_5 : decode cL_divide 5 = .ok (.goto 9, 3) := by decide +kernel
theorem dL_divide_8 : decode cL_divide 8 = .ok (.astore_n 2, 1) := by decide +kernel
theorem dL_divide_9 : decode cL_divide 9 = .ok (.iconst 1, 1) := by decide +kernel
theorem dL_divide_10 : decode cL_divide 10 = .ok (.ireturn, 1) := by decide +kernel
theorem dL_divide_11 : decode cL_divide 11 = .ok (.astore_n 2, 1) := by decide +kernel
theorem dL_divide_12 : decode cL_divide 12 = .ok (.iconst 2, 1) := by decide +kernel
theorem dL_divide_13 : decode cL_divide 13 = .ok (.ireturn, 1) := by decide +kernel
theorem dL_divide_14 : decode cL_divide 14 = .ok (.iconst 0, 1) := by decide +kernel
theorem dL_divide_15 : decode cL_divide 15 = .ok (.ireturn, 1) := by decide +kernel
set_option maxRecDepth 20000 in
theorem ggL_saturate_X1_saturate : GoodIn wsL_saturate wsX1_saturate := goodIn_ca (goodIn_r _ [6, 7, 8, 9, 10, 11, 5, 12, 13, 14, 15, 16, 17, 18, 19, 20, 21, 22, 23, 24, 25, 26, 27, 28, 29, 30, 31, 32, 33, 34, 35, 36, 37, 38, 39, 40, 41, 42, 43, 44, 45, 46, 47, 48, 49, 50, 51] (by decide +kernel) (by decide +kernel)) (goodIn_sub (fun _ h => List.mem_cons_of_mem _ (List.mem_append_right _ h)) (by decide +kernel))
set_option maxRecDepth 20000 in
theorem gL_saturate_X1_saturate : GoodIn wsL_saturate (wsV RL 51 RX1 yX1_saturate wsX1_saturate) := goodIn_app (goodIn_of _ (by decide +kernel)) ggL_saturate_X1_saturate
theorem dL_saturate_0 : decode cL_saturate 0 = .ok (.aload_n 0, 1) := by decide +kernel
theorem dL_saturate_1 : decode cL_saturate 1 = .ok (.invokevirtual 51, 3) := by decide +kernel
theorem dL_saturate_4 : decode cL_saturate 4 = .ok (.goto 6, 3) := by decide +kernel
theorem dL_saturate_7 : decode cL_saturate 7 = .ok (.astore_n 1, 1) := by decide +kernel
theorem dL_saturate_8 : decode cL_saturate 8 = .ok (.iconst 1, 1) := by decide +kernel
theorem dL_saturate_9 : decode cL_saturate 9 = .ok (.ireturn, 1) := by decide +kernel
theorem dL_saturate_10 : decode cL_saturate 10 = .ok (.iconst 0, 1) := by decide +kernel
theorem dL_saturate_11 : decode cL_saturate 11 = .ok (.ireturn, 1) := by decide +kernel
set_option maxRecDepth 20000 in
theorem ggL_weaken_X1_weaken : GoodIn wsL_weaken wsX1_weaken := goodIn_ca (goodIn_ca (goodIn_r _ [7, 8, 9, 10, 11, 12, 13, 14, 6, 15, 16, 17, 18, 19, 20, 21, 22, 23, 24, 25, 26, 27, 28, 29, 30, 31, 32, 33, 34, 35, 36, 37, 38, 39, 40, 41, 42, 43, 44, 45, 46, 47, 48, 49, 50, 51, 52, 53, 54, 55, 56] (by decide +kernel) (by decide +kernel)) (goodIn_sub (fun _ h => List.mem_cons_of_mem _ (List.mem_append_left _ (List.mem_append_right _ h))) (by decide +kernel))) (goodIn_sub (fun _ h => List.mem_cons_of_mem _ (List.mem_append_right _ h)) (by decide +kernel))
set_option maxRecDepth 20000 in
theorem gL_weaken_X1_weaken : GoodIn wsL_weaken (wsV RL 54 RX1 yX1_weaken wsX1_weaken) := goodIn_app (goodIn_of _ (by decide +kernel)) ggL_weaken_X1_weaken
theorem dL_weaken_0 : decode cL_weaken 0 = .ok (.aload_n 0, 1) := by decide +kernel
theorem dL_weaken_1 : decode cL_weaken 1 = .ok (.iload_n 1, 1) := by decide +kernel
theorem dL_weaken_2 : decode cL_weaken 2 = .ok (.invokevirtual 54, 3) := by decide +kernel
theorem dL_weaken_5 : decode cL_weaken 5 = .ok (.goto 9, 3) := by decide +kernel
theorem dL_weaken_8 : decode cL_weaken 8 = .ok (.astore_n 2, 1) := by decide +kernel
theorem dL_weaken_9 : decode cL_weaken 9 = .ok (.iconst 1, 1) := by decide +kernel
theorem dL_weaken_10 : decode cL_weaken 10 = .ok (.ireturn, 1) := by decide +kernel
theorem dL_weaken_11 : decode cL_weaken 11 = .ok (.astore_n 2, 1) := by decide +kernel
theorem dL_weaken_12 : decode cL_weaken 12 = .ok (.iconst 2, 1) := by decide +kernel
theorem dL_weaken_13 : decode cL_weaken 13 = .ok (.ireturn, 1) := by decide +kernel
theorem dL_weaken_14 : decode cL_weaken 14 = .ok (.iconst 0, 1) := by decide +kernel
theorem dL_weaken_15 : decode cL_weaken 15 = .ok (.ireturn, 1) := by decide +kernel
set_option maxRecDepth 20000 in
theorem ggL_drop_X1_drop : GoodIn wsL_drop wsX1_drop := goodIn_ca (goodIn_r _ [6, 7, 8, 9, 10, 5, 11, 12, 13, 14, 15, 16, 17, 18, 19, 20, 21, 22, 23, 24, 25] (by decide +kernel) (by decide +kernel)) (goodIn_sub (fun _ h => List.mem_cons_of_mem _ (List.mem_append_right _ h)) (by decide +kernel))
set_option maxRecDepth 20000 in
theorem gL_drop_X1_drop : GoodIn wsL_drop (wsV RL 57 RX1 yX1_drop wsX1_drop) := goodIn_app (goodIn_of _ (by decide +kernel)) ggL_drop_X1_drop
theorem dL_drop_0 : decode cL_drop 0 = .ok (.aload_n 0, 1) := by decide +kernel
theorem dL_drop_1 : decode cL_drop 1 = .ok (.invokevirtual 57, 3) := by decide +kernel
theorem dL_drop_4 : decode cL_drop 4 = .ok (.goto 6, 3) := by decide +kernel
theorem dL_drop_7 : decode cL_drop 7 = .ok (.astore_n 1, 1) := by decide +kernel
theorem dL_drop_8 : decode cL_drop 8 = .ok (.iconst 1, 1) := by decide +kernel
theorem dL_drop_9 : decode cL_drop 9 = .ok (.ireturn, 1) := by decide +kernel
theorem dL_drop_10 : decode cL_drop 10 = .ok (.iconst 0, 1) := by decide +kernel
theorem dL_drop_11 : decode cL_drop 11 = .ok (.ireturn, 1) := by decide +kernel
set_option maxRecDepth 20000 in
theorem ggL_top_X1_top : GoodIn wsL_top wsX1_top := goodIn_ca (goodIn_ca (goodIn_r _ [7, 8, 9, 10, 11, 12, 13, 6, 14, 15, 16, 17, 18, 19, 20, 21, 22, 23, 24, 25, 26, 27, 28, 29, 30, 31, 32, 33, 34, 35, 36, 37, 38, 39, 40, 41, 42, 43, 44, 45] (by decide +kernel) (by decide +kernel)) (goodIn_sub (fun _ h => List.mem_cons_of_mem _ (List.mem_append_left _ (List.mem_append_right _ h))) (by decide +kernel))) (goodIn_sub (fun _ h => List.mem_cons_of_mem _ (List.mem_append_right _ h)) (by decide +kernel))
set_option maxRecDepth 20000 in
theorem gL_top_X1_top : GoodIn wsL_top (wsV RL 60 RX1 yX1_top wsX1_top) := goodIn_app (goodIn_of _ (by decide +kernel)) ggL_top_X1_top
theorem dL_top_0 : decode cL_top 0 = .ok (.aload_n 2, 1) := by decide +kernel
theorem dL_top_1 : decode cL_top 1 = .ok (.iconst 0, 1) := by decide +kernel
theorem dL_top_2 : decode cL_top 2 = .ok (.aload_n 0, 1) := by decide +kernel
theorem dL_top_3 : decode cL_top 3 = .ok (.iload_n 1, 1) := by decide +kernel
theorem dL_top_4 : decode cL_top 4 = .ok (.invokevirtual 60, 3) := by decide +kernel
theorem dL_top_7 : decode cL_top 7 = .ok (.i2l, 1) := by decide +kernel
theorem dL_top_8 : decode cL_top 8 = .ok (.lastore, 1) := by decide +kernel
theorem dL_top_9 : decode cL_top 9 = .ok (.goto 9, 3) := by decide +kernel
theorem dL_top_12 : decode cL_top 12 = .ok (.astore_n 3, 1) := by decide +kernel
theorem dL_top_13 : decode cL_top 13 = .ok (.iconst 1, 1) := by decide +kernel
theorem dL_top_14 : decode cL_top 14 = .ok (.ireturn, 1) := by decide +kernel
theorem dL_top_15 : decode cL_top 15 = .ok (.astore_n 3, 1) := by decide +kernel
theorem dL_top_16 : decode cL_top 16 = .ok (.iconst 2, 1) := by decide +kernel
theorem dL_top_17 : decode cL_top 17 = .ok (.ireturn, 1) := by decide +kernel
theorem dL_top_18 : decode cL_top 18 = .ok (.iconst 0, 1) := by decide +kernel
theorem dL_top_19 : decode cL_top 19 = .ok (.ireturn, 1) := by decide +kernel
set_option maxRecDepth 20000 in
theorem ggL_learn_X1_learn : GoodIn wsL_learn wsX1_learn := goodIn_ca (goodIn_r _ [6, 7, 8, 9, 10, 11, 12, 13, 5, 14, 15, 16, 17, 18, 19, 20, 21, 22, 23, 24, 25, 26, 27, 28, 29, 30, 31, 32, 33, 34, 35, 36, 37, 38, 39, 40, 41, 42, 43, 44, 45, 46, 47, 48, 49, 50, 51, 52, 53, 54] (by decide +kernel) (by decide +kernel)) (goodIn_sub (fun _ h => List.mem_cons_of_mem _ (List.mem_append_right _ h)) (by decide +kernel))
set_option maxRecDepth 20000 in
theorem gL_learn_X1_learn : GoodIn wsL_learn (wsV RL 64 RX1 yX1_learn wsX1_learn) := goodIn_app (goodIn_of _ (by decide +kernel)) ggL_learn_X1_learn
theorem dL_learn_0 : decode cL_learn 0 = .ok (.aload_n 1, 1) := by decide +kernel
theorem dL_learn_1 : decode cL_learn 1 = .ok (.iconst 0, 1) := by decide +kernel
theorem dL_learn_2 : decode cL_learn 2 = .ok (.aload_n 0, 1) := by decide +kernel
theorem dL_learn_3 : decode cL_learn 3 = .ok (.invokevirtual 64, 3) := by decide +kernel
theorem dL_learn_6 : decode cL_learn 6 = .ok (.i2l, 1) := by decide +kernel
theorem dL_learn_7 : decode cL_learn 7 = .ok (.lastore, 1) := by decide +kernel
theorem dL_learn_8 : decode cL_learn 8 = .ok (.goto 6, 3) := by decide +kernel
theorem dL_learn_11 : decode cL_learn 11 = .ok (.astore_n 2, 1) := by decide +kernel
theorem dL_learn_12 : decode cL_learn 12 = .ok (.iconst 1, 1) := by decide +kernel
theorem dL_learn_13 : decode cL_learn 13 = .ok (.ireturn, 1) := by decide +kernel
theorem dL_learn_14 : decode cL_learn 14 = .ok (.iconst 0, 1) := by decide +kernel
theorem dL_learn_15 : decode cL_learn 15 = .ok (.ireturn, 1) := by decide +kernel
set_option maxRecDepth 20000 in
theorem ggL_contradict_X1_contradict : GoodIn wsL_contradict wsX1_contradict := goodIn_ca (goodIn_ca (goodIn_r _ [7, 8, 9, 10, 11, 12, 13, 14, 6, 15, 16, 17, 18, 19, 20, 21, 22, 23, 24, 25, 26, 27, 28, 29, 30, 31, 32, 33, 34, 35, 36, 37, 38, 39, 40, 41, 42, 43, 44, 45, 46, 47, 48, 49, 50, 51, 52, 53, 54, 55, 56, 57, 58, 59, 60, 61, 62, 63, 64, 65, 66, 67, 68, 69, 70, 71, 72, 73, 74, 75, 76, 77, 78, 79, 80, 81, 82, 83, 84, 85, 86, 87, 88, 89, 90, 91, 92, 93, 94, 95, 96, 97, 98, 99, 100] (by decide +kernel) (by decide +kernel)) (goodIn_sub (fun _ h => List.mem_cons_of_mem _ (List.mem_append_left _ (List.mem_append_right _ h))) (by decide +kernel))) (goodIn_sub (fun _ h => List.mem_cons_of_mem _ (List.mem_append_right _ h)) (by decide +kernel))
set_option maxRecDepth 20000 in
theorem gL_contradict_X1_contradict : GoodIn wsL_contradict (wsV RL 68 RX1 yX1_contradict wsX1_contradict) := goodIn_app (goodIn_of _ (by decide +kernel)) ggL_contradict_X1_contradict
theorem dL_contradict_0 : decode cL_contradict 0 = .ok (.aload_n 2, 1) := by decide +kernel
theorem dL_contradict_1 : decode cL_contradict 1 = .ok (.iconst 0, 1) := by decide +kernel
theorem dL_contradict_2 : decode cL_contradict 2 = .ok (.aload_n 0, 1) := by decide +kernel
theorem dL_contradict_3 : decode cL_contradict 3 = .ok (.iload_n 1, 1) := by decide +kernel
theorem dL_contradict_4 : decode cL_contradict 4 = .ok (.invokevirtual 68, 3) := by decide +kernel
theorem dL_contradict_7 : decode cL_contradict 7 = .ok (.i2l, 1) := by decide +kernel
theorem dL_contradict_8 : decode cL_contradict 8 = .ok (.lastore, 1) := by decide +kernel
theorem dL_contradict_9 : decode cL_contradict 9 = .ok (.goto 9, 3) := by decide +kernel
theorem dL_contradict_12 : decode cL_contradict 12 = .ok (.astore_n 3, 1) := by decide +kernel
theorem dL_contradict_13 : decode cL_contradict 13 = .ok (.iconst 1, 1) := by decide +kernel
theorem dL_contradict_14 : decode cL_contradict 14 = .ok (.ireturn, 1) := by decide +kernel
theorem dL_contradict_15 : decode cL_contradict 15 = .ok (.astore_n 3, 1) := by decide +kernel
theorem dL_contradict_16 : decode cL_contradict 16 = .ok (.iconst 2, 1) := by decide +kernel
theorem dL_contradict_17 : decode cL_contradict 17 = .ok (.ireturn, 1) := by decide +kernel
theorem dL_contradict_18 : decode cL_contradict 18 = .ok (.iconst 0, 1) := by decide +kernel
theorem dL_contradict_19 : decode cL_contradict 19 = .ok (.ireturn, 1) := by decide +kernel
set_option maxRecDepth 20000 in
theorem ggL_found_X1_found : GoodIn wsL_found wsX1_found := goodIn_ca (goodIn_ca (goodIn_r _ [7, 8, 9, 10, 11, 12, 13, 14, 15, 16, 6, 17, 18, 19, 20, 21, 22, 23, 24, 25, 26, 27, 28, 29, 30, 31, 32, 33, 34, 35, 36, 37, 38, 39, 40, 41, 42, 43, 44, 45, 46, 47, 48, 49, 50, 51, 52, 53, 54, 55, 56, 57, 58, 59, 60, 61, 62, 63, 64, 65, 66, 67, 68, 69, 70, 71, 72, 73, 74, 75, 76, 77, 78, 79, 80, 81, 82, 83, 84, 85, 86, 87, 88, 89, 90, 91, 92, 93, 94, 95, 96, 97, 98] (by decide +kernel) (by decide +kernel)) (goodIn_sub (fun _ h => List.mem_cons_of_mem _ (List.mem_append_left _ (List.mem_append_right _ h))) (by decide +kernel))) (goodIn_sub (fun _ h => List.mem_cons_of_mem _ (List.mem_append_right _ h)) (by decide +kernel))
set_option maxRecDepth 20000 in
theorem gL_found_X1_found : GoodIn wsL_found (wsV RL 71 RX1 yX1_found wsX1_found) := goodIn_app (goodIn_of _ (by decide +kernel)) ggL_found_X1_found
theorem dL_found_0 : decode cL_found 0 = .ok (.aload_n 2, 1) := by decide +kernel
theorem dL_found_1 : decode cL_found 1 = .ok (.iconst 0, 1) := by decide +kernel
theorem dL_found_2 : decode cL_found 2 = .ok (.aload_n 0, 1) := by decide +kernel
theorem dL_found_3 : decode cL_found 3 = .ok (.iload_n 1, 1) := by decide +kernel
theorem dL_found_4 : decode cL_found 4 = .ok (.invokevirtual 71, 3) := by decide +kernel
theorem dL_found_7 : decode cL_found 7 = .ok (.ifCond .eq 7, 3) := by decide +kernel
theorem dL_found_10 : decode cL_found 10 = .ok (.lconst 1, 1) := by decide +kernel
theorem dL_found_11 : decode cL_found 11 = .ok (.goto 4, 3) := by decide +kernel
theorem dL_found_14 : decode cL_found 14 = .ok (.lconst 0, 1) := by decide +kernel
theorem dL_found_15 : decode cL_found 15 = .ok (.lastore, 1) := by decide +kernel
theorem dL_found_16 : decode cL_found 16 = .ok (.goto 9, 3) := by decide +kernel
theorem dL_found_19 : decode cL_found 19 = .ok (.astore_n 3, 1) := by decide +kernel
theorem dL_found_20 : decode cL_found 20 = .ok (.iconst 1, 1) := by decide +kernel
theorem dL_found_21 : decode cL_found 21 = .ok (.ireturn, 1) := by decide +kernel
theorem dL_found_22 : decode cL_found 22 = .ok (.astore_n 3, 1) := by decide +kernel
theorem dL_found_23 : decode cL_found 23 = .ok (.iconst 2, 1) := by decide +kernel
theorem dL_found_24 : decode cL_found 24 = .ok (.ireturn, 1) := by decide +kernel
theorem dL_found_25 : decode cL_found 25 = .ok (.iconst 0, 1) := by decide +kernel
theorem dL_found_26 : decode cL_found 26 = .ok (.ireturn, 1) := by decide +kernel
set_option maxRecDepth 20000 in
theorem ggL_best_X1_best : GoodIn wsL_best wsX1_best := goodIn_ca (goodIn_r _ [6, 7, 8, 9, 10, 11, 12, 13, 14, 15, 16, 17, 18, 19, 20, 21, 22] (by decide +kernel) (by decide +kernel)) (goodIn_sub (fun _ h => List.mem_cons_of_mem _ (List.mem_append_right _ h)) (by decide +kernel))
set_option maxRecDepth 20000 in
theorem gL_best_X1_best : GoodIn wsL_best (wsV RL 75 RX1 yX1_best wsX1_best) := goodIn_app (goodIn_of _ (by decide +kernel)) ggL_best_X1_best
theorem dL_best_0 : decode cL_best 0 = .ok (.aload_n 1, 1) := by decide +kernel
theorem dL_best_1 : decode cL_best 1 = .ok (.iconst 0, 1) := by decide +kernel
theorem dL_best_2 : decode cL_best 2 = .ok (.aload_n 0, 1) := by decide +kernel
theorem dL_best_3 : decode cL_best 3 = .ok (.invokevirtual 75, 3) := by decide +kernel
theorem dL_best_6 : decode cL_best 6 = .ok (.i2l, 1) := by decide +kernel
theorem dL_best_7 : decode cL_best 7 = .ok (.lastore, 1) := by decide +kernel
theorem dL_best_8 : decode cL_best 8 = .ok (.goto 6, 3) := by decide +kernel
theorem dL_best_11 : decode cL_best 11 = .ok (.astore_n 2, 1) := by decide +kernel
theorem dL_best_12 : decode cL_best 12 = .ok (.iconst 1, 1) := by decide +kernel
theorem dL_best_13 : decode cL_best 13 = .ok (.ireturn, 1) := by decide +kernel
theorem dL_best_14 : decode cL_best 14 = .ok (.iconst 0, 1) := by decide +kernel
theorem dL_best_15 : decode cL_best 15 = .ok (.ireturn, 1) := by decide +kernel
set_option maxRecDepth 20000 in
theorem ggL_least_X1_least : GoodIn wsL_least wsX1_least := goodIn_ca (goodIn_r _ [6, 7, 8, 9, 10, 5, 11, 12, 13, 14, 15, 16, 17, 18, 19, 20, 21, 22, 23, 24, 25, 26] (by decide +kernel) (by decide +kernel)) (goodIn_sub (fun _ h => List.mem_cons_of_mem _ (List.mem_append_right _ h)) (by decide +kernel))
set_option maxRecDepth 20000 in
theorem gL_least_X1_least : GoodIn wsL_least (wsV RL 78 RX1 yX1_least wsX1_least) := goodIn_app (goodIn_of _ (by decide +kernel)) ggL_least_X1_least
theorem dL_least_0 : decode cL_least 0 = .ok (.aload_n 1, 1) := by decide +kernel
theorem dL_least_1 : decode cL_least 1 = .ok (.iconst 0, 1) := by decide +kernel
theorem dL_least_2 : decode cL_least 2 = .ok (.aload_n 0, 1) := by decide +kernel
theorem dL_least_3 : decode cL_least 3 = .ok (.invokevirtual 78, 3) := by decide +kernel
theorem dL_least_6 : decode cL_least 6 = .ok (.i2l, 1) := by decide +kernel
theorem dL_least_7 : decode cL_least 7 = .ok (.lastore, 1) := by decide +kernel
theorem dL_least_8 : decode cL_least 8 = .ok (.goto 6, 3) := by decide +kernel
theorem dL_least_11 : decode cL_least 11 = .ok (.astore_n 2, 1) := by decide +kernel
theorem dL_least_12 : decode cL_least 12 = .ok (.iconst 1, 1) := by decide +kernel
theorem dL_least_13 : decode cL_least 13 = .ok (.ireturn, 1) := by decide +kernel
theorem dL_least_14 : decode cL_least 14 = .ok (.iconst 0, 1) := by decide +kernel
theorem dL_least_15 : decode cL_least 15 = .ok (.ireturn, 1) := by decide +kernel
set_option maxRecDepth 20000 in
theorem ggL_value_X1_value : GoodIn wsL_value wsX1_value := goodIn_ca (goodIn_ca (goodIn_r _ [7, 8, 9, 10, 11, 12, 13, 6, 14, 15, 16, 17, 18, 19, 20, 21, 22, 23, 24, 25, 26, 27, 28, 29, 30, 31, 32, 33, 34, 35, 36, 37, 38] (by decide +kernel) (by decide +kernel)) (goodIn_sub (fun _ h => List.mem_cons_of_mem _ (List.mem_append_left _ (List.mem_append_right _ h))) (by decide +kernel))) (goodIn_sub (fun _ h => List.mem_cons_of_mem _ (List.mem_append_right _ h)) (by decide +kernel))
set_option maxRecDepth 20000 in
theorem gL_value_X1_value : GoodIn wsL_value (wsV RL 81 RX1 yX1_value wsX1_value) := goodIn_app (goodIn_of _ (by decide +kernel)) ggL_value_X1_value
theorem dL_value_0 : decode cL_value 0 = .ok (.aload_n 2, 1) := by decide +kernel
theorem dL_value_1 : decode cL_value 1 = .ok (.iconst 0, 1) := by decide +kernel
theorem dL_value_2 : decode cL_value 2 = .ok (.aload_n 0, 1) := by decide +kernel
theorem dL_value_3 : decode cL_value 3 = .ok (.iload_n 1, 1) := by decide +kernel
theorem dL_value_4 : decode cL_value 4 = .ok (.invokevirtual 81, 3) := by decide +kernel
theorem dL_value_7 : decode cL_value 7 = .ok (.i2l, 1) := by decide +kernel
theorem dL_value_8 : decode cL_value 8 = .ok (.lastore, 1) := by decide +kernel
theorem dL_value_9 : decode cL_value 9 = .ok (.goto 9, 3) := by decide +kernel
theorem dL_value_12 : decode cL_value 12 = .ok (.astore_n 3, 1) := by decide +kernel
theorem dL_value_13 : decode cL_value 13 = .ok (.iconst 1, 1) := by decide +kernel
theorem dL_value_14 : decode cL_value 14 = .ok (.ireturn, 1) := by decide +kernel
theorem dL_value_15 : decode cL_value 15 = .ok (.astore_n 3, 1) := by decide +kernel
theorem dL_value_16 : decode cL_value 16 = .ok (.iconst 2, 1) := by decide +kernel
theorem dL_value_17 : decode cL_value 17 = .ok (.ireturn, 1) := by decide +kernel
theorem dL_value_18 : decode cL_value 18 = .ok (.iconst 0, 1) := by decide +kernel
theorem dL_value_19 : decode cL_value 19 = .ok (.ireturn, 1) := by decide +kernel
set_option maxRecDepth 20000 in
theorem ggL_law_X1_init : GoodIn wsL_law wsX1_init := goodIn_r _ [9, 10, 11, 12, 13, 14, 15, 16, 17, 18, 19, 20, 21, 22, 23, 24, 25, 26, 27, 28, 29, 30, 31, 32, 33, 34, 579, 580, 581, 582, 583, 584, 585, 586, 587, 588, 589, 590, 604, 605, 606] (by decide +kernel) (by decide +kernel)
set_option maxRecDepth 20000 in
theorem gL_law_X1_init : GoodIn wsL_law (wsX1_init) := ggL_law_X1_init
set_option maxRecDepth 20000 in
theorem ggL_law_X2_init : GoodIn wsL_law wsX2_init := goodIn_r _ [37, 38, 11, 12, 13, 39, 40, 41, 42, 43, 44, 591, 592, 593, 594, 595, 596, 597, 598, 599, 600, 601, 602, 603] (by decide +kernel) (by decide +kernel)
set_option maxRecDepth 20000 in
theorem gL_law_X2_init : GoodIn wsL_law (wsX2_init) := ggL_law_X2_init
set_option maxRecDepth 20000 in
theorem ggL_law_L_term : GoodIn wsL_law wsL_term := goodIn_ca (goodIn_r _ [48, 49, 50, 51, 52, 2, 53, 54, 55, 14, 56, 57, 58, 59, 60, 61, 579, 580, 581, 582, 583, 584, 585, 586, 587, 588, 589, 590] (by decide +kernel) (by decide +kernel)) (goodIn_sub (fun _ h => List.mem_append_left _ (List.mem_append_left _ (List.mem_append_left _ (List.mem_append_right _ h)))) (by decide +kernel))
set_option maxRecDepth 20000 in
theorem gL_law_L_term : GoodIn wsL_law (va_wsS RL 88 yL_term wsL_term) := goodIn_app (goodIn_of _ (by decide +kernel)) ggL_law_L_term
set_option maxRecDepth 20000 in
theorem ggL_law_X2_term : GoodIn wsL_law wsX2_term := goodIn_r _ [65, 42, 66, 67, 5, 68, 69, 70, 71, 72, 73, 591, 592, 593, 594, 595, 596, 597, 598, 599, 600, 601, 602, 603] (by decide +kernel) (by decide +kernel)
set_option maxRecDepth 20000 in
theorem gL_law_X2_term : GoodIn wsL_law (wsV RL 93 RX2 yX2_term wsX2_term) := goodIn_app (goodIn_of _ (by decide +kernel)) ggL_law_X2_term
set_option maxRecDepth 20000 in
theorem ggL_law_X2_thrown : GoodIn wsL_law wsX2_thrown := goodIn_r _ [77, 73, 591, 592, 593, 594, 595, 596, 597, 598, 599, 600, 601, 602, 603] (by decide +kernel) (by decide +kernel)
set_option maxRecDepth 20000 in
theorem gL_law_X2_thrown : GoodIn wsL_law (wsV RL 94 RX2 yX2_thrown wsX2_thrown) := goodIn_app (goodIn_of _ (by decide +kernel)) ggL_law_X2_thrown
set_option maxRecDepth 20000 in
theorem ggL_law_X1_clear : GoodIn wsL_law wsX1_clear := goodIn_r _ [81, 14, 82, 83, 84, 85, 579, 580, 581, 582, 583, 584, 585, 586, 587, 588, 589, 590] (by decide +kernel) (by decide +kernel)
set_option maxRecDepth 20000 in
theorem gL_law_X1_clear : GoodIn wsL_law (wsV RL 97 RX1 yX1_clear wsX1_clear) := goodIn_app (goodIn_of _ (by decide +kernel)) ggL_law_X1_clear
set_option maxRecDepth 20000 in
theorem ggL_law_X2_clear : GoodIn wsL_law wsX2_clear := goodIn_r _ [89, 73, 90, 91, 92, 5, 93, 42, 591, 592, 593, 594, 595, 596, 597, 598, 599, 600, 601, 602, 603] (by decide +kernel) (by decide +kernel)
set_option maxRecDepth 20000 in
theorem gL_law_X2_clear : GoodIn wsL_law (wsV RL 100 RX2 yX2_clear wsX2_clear) := goodIn_app (goodIn_of _ (by decide +kernel)) ggL_law_X2_clear
set_option maxRecDepth 20000 in
theorem ggL_law_L_require : GoodIn wsL_law wsL_require := goodIn_ca (goodIn_ca (goodIn_r _ [96, 49, 97, 98, 99, 100, 2, 101, 54, 55, 102, 103, 24, 17, 18, 14, 59, 60, 61, 104, 105, 106, 107, 108, 109, 110, 22, 111, 112, 113, 114, 115, 32, 116, 117, 118, 119, 33, 120, 121, 122, 123, 124, 125, 126, 127, 128, 129, 130, 131, 79, 80, 81, 82, 83, 84, 85, 132, 133, 134, 135, 579, 580, 581, 582, 583, 584, 585, 586, 587, 588, 589, 590, 604, 605, 606] (by decide +kernel) (by decide +kernel)) (goodIn_sub (fun _ h => List.mem_append_left _ (List.mem_append_left _ (List.mem_append_left _ (List.mem_append_right _ h)))) (by decide +kernel))) (goodIn_sub (fun _ h => List.mem_append_left _ (List.mem_append_left _ (List.mem_append_right _ h))) (by decide +kernel))
set_option maxRecDepth 20000 in
theorem gL_law_L_require : GoodIn wsL_law (va_wsS RL 101 yL_require wsL_require) := goodIn_app (goodIn_of _ (by decide +kernel)) ggL_law_L_require
set_option maxRecDepth 20000 in
theorem ggL_law_X2_require : GoodIn wsL_law wsX2_require := goodIn_r _ [139, 140, 141, 66, 67, 5, 68, 69, 70, 71, 72, 73, 142, 143, 144, 145, 43, 42, 39, 90, 91, 92, 93, 146, 147, 148, 149, 41, 150, 151, 152, 153, 591, 592, 593, 594, 595, 596, 597, 598, 599, 600, 601, 602, 603] (by decide +kernel) (by decide +kernel)
set_option maxRecDepth 20000 in
theorem gL_law_X2_require : GoodIn wsL_law (wsV RL 104 RX2 yX2_require wsX2_require) := goodIn_app (goodIn_of _ (by decide +kernel)) ggL_law_X2_require
set_option maxRecDepth 20000 in
theorem ggL_law_L_objective : GoodIn wsL_law wsL_objective := goodIn_ca (goodIn_r _ [156, 97, 157, 158, 159, 2, 160, 102, 103, 24, 14, 15, 161, 162, 163, 164, 131, 79, 80, 81, 82, 83, 84, 85, 579, 580, 581, 582, 583, 584, 585, 586, 587, 588, 589, 590] (by decide +kernel) (by decide +kernel)) (goodIn_sub (fun _ h => List.mem_append_left _ (List.mem_append_left _ (List.mem_append_right _ h))) (by decide +kernel))
set_option maxRecDepth 20000 in
theorem gL_law_L_objective : GoodIn wsL_law (va_wsS RL 105 yL_objective wsL_objective) := goodIn_app (goodIn_of _ (by decide +kernel)) ggL_law_L_objective
set_option maxRecDepth 20000 in
theorem ggL_law_X2_objective : GoodIn wsL_law wsX2_objective := goodIn_r _ [168, 141, 43, 42, 69, 70, 71, 5, 72, 73, 90, 91, 92, 93, 591, 592, 593, 594, 595, 596, 597, 598, 599, 600, 601, 602, 603] (by decide +kernel) (by decide +kernel)
set_option maxRecDepth 20000 in
theorem gL_law_X2_objective : GoodIn wsL_law (wsV RL 108 RX2 yX2_objective wsX2_objective) := goodIn_app (goodIn_of _ (by decide +kernel)) ggL_law_X2_objective
set_option maxRecDepth 20000 in
theorem ggL_law_X1_constraints : GoodIn wsL_law wsX1_constraints := goodIn_r _ [172, 18, 579, 580, 581, 582, 583, 584, 585, 586, 587, 588, 589, 590] (by decide +kernel) (by decide +kernel)
set_option maxRecDepth 20000 in
theorem gL_law_X1_constraints : GoodIn wsL_law (wsV RL 109 RX1 yX1_constraints wsX1_constraints) := goodIn_app (goodIn_of _ (by decide +kernel)) ggL_law_X1_constraints
set_option maxRecDepth 20000 in
theorem ggL_law_X2_constraints : GoodIn wsL_law wsX2_constraints := goodIn_r _ [176, 73, 140, 591, 592, 593, 594, 595, 596, 597, 598, 599, 600, 601, 602, 603] (by decide +kernel) (by decide +kernel)
set_option maxRecDepth 20000 in
theorem gL_law_X2_constraints : GoodIn wsL_law (wsV RL 112 RX2 yX2_constraints wsX2_constraints) := goodIn_app (goodIn_of _ (by decide +kernel)) ggL_law_X2_constraints
set_option maxRecDepth 20000 in
theorem ggL_law_L_constraint : GoodIn wsL_law wsL_constraint := goodIn_ca (goodIn_ca (goodIn_r _ [179, 180, 49, 181, 182, 183, 2, 184, 185, 186, 54, 55, 17, 187, 188, 189, 190, 18, 59, 60, 61, 191, 192, 193, 194, 195, 196, 22, 197, 33, 32, 579, 580, 581, 582, 583, 584, 585, 586, 587, 588, 589, 590, 604, 605, 606] (by decide +kernel) (by decide +kernel)) (goodIn_sub (fun _ h => List.mem_append_left _ (List.mem_append_right _ h)) (by decide +kernel))) (goodIn_sub (fun _ h => List.mem_append_left _ (List.mem_append_left _ (List.mem_append_left _ (List.mem_append_right _ h)))) (by decide +kernel))
set_option maxRecDepth 20000 in
theorem gL_law_L_constraint : GoodIn wsL_law (va_wsS RL 113 yL_constraint wsL_constraint) := goodIn_app (goodIn_of _ (by decide +kernel)) ggL_law_L_constraint
set_option maxRecDepth 20000 in
theorem ggL_law_X2_constraint : GoodIn wsL_law wsX2_constraint := goodIn_r _ [201, 140, 41, 39, 66, 67, 5, 68, 69, 70, 71, 72, 73, 591, 592, 593, 594, 595, 596, 597, 598, 599, 600, 601, 602, 603] (by decide +kernel) (by decide +kernel)
set_option maxRecDepth 20000 in
theorem gL_law_X2_constraint : GoodIn wsL_law (wsV RL 115 RX2 yX2_constraint wsX2_constraint) := goodIn_app (goodIn_of _ (by decide +kernel)) ggL_law_X2_constraint
set_option maxRecDepth 20000 in
theorem ggL_law_L_close : GoodIn wsL_law wsL_close := goodIn_ca (goodIn_r _ [204, 49, 205, 206, 207, 2, 208, 54, 55, 18, 209, 210, 211, 59, 60, 61, 212, 213, 214, 215, 17, 216, 217, 218, 22, 219, 220, 221, 222, 223, 33, 224, 225, 226, 227, 228, 229, 32, 120, 121, 122, 123, 124, 125, 118, 126, 579, 580, 581, 582, 583, 584, 585, 586, 587, 588, 589, 590, 604, 605, 606] (by decide +kernel) (by decide +kernel)) (goodIn_sub (fun _ h => List.mem_append_left _ (List.mem_append_left _ (List.mem_append_left _ (List.mem_append_right _ h)))) (by decide +kernel))
set_option maxRecDepth 20000 in
theorem gL_law_L_close : GoodIn wsL_law (va_wsS RL 116 yL_close wsL_close) := goodIn_app (goodIn_of _ (by decide +kernel)) ggL_law_L_close
set_option maxRecDepth 20000 in
theorem ggL_law_X2_close : GoodIn wsL_law wsX2_close := goodIn_r _ [233, 44, 66, 67, 5, 68, 69, 70, 71, 72, 73, 234, 235, 236, 237, 140, 238, 239, 240, 241, 39, 242, 243, 244, 245, 246, 247, 248, 591, 592, 593, 594, 595, 596, 597, 598, 599, 600, 601, 602, 603] (by decide +kernel) (by decide +kernel)
set_option maxRecDepth 20000 in
theorem gL_law_X2_close : GoodIn wsL_law (wsV RL 118 RX2 yX2_close wsX2_close) := goodIn_app (goodIn_of _ (by decide +kernel)) ggL_law_X2_close
set_option maxRecDepth 20000 in
theorem ggL_law_L_load : GoodIn wsL_law wsL_load := goodIn_ca (goodIn_ca (goodIn_r _ [251, 180, 97, 252, 253, 254, 2, 255, 185, 186, 19, 20, 17, 187, 188, 189, 190, 18, 59, 60, 61, 256, 257, 258, 259, 102, 103, 260, 261, 262, 22, 263, 32, 264, 162, 163, 164, 33, 579, 580, 581, 582, 583, 584, 585, 586, 587, 588, 589, 590, 604, 605, 606] (by decide +kernel) (by decide +kernel)) (goodIn_sub (fun _ h => List.mem_append_left _ (List.mem_append_right _ h)) (by decide +kernel))) (goodIn_sub (fun _ h => List.mem_append_left _ (List.mem_append_left _ (List.mem_append_right _ h))) (by decide +kernel))
set_option maxRecDepth 20000 in
theorem gL_law_L_load : GoodIn wsL_law (va_wsS RL 119 yL_load wsL_load) := goodIn_app (goodIn_of _ (by decide +kernel)) ggL_law_L_load
set_option maxRecDepth 20000 in
theorem ggL_law_X2_load : GoodIn wsL_law wsX2_load := goodIn_r _ [268, 140, 269, 66, 67, 5, 68, 69, 70, 71, 72, 73, 270, 271, 272, 273, 150, 151, 152, 153, 39, 591, 592, 593, 594, 595, 596, 597, 598, 599, 600, 601, 602, 603] (by decide +kernel) (by decide +kernel)
set_option maxRecDepth 20000 in
theorem gL_law_X2_load : GoodIn wsL_law (wsV RL 122 RX2 yX2_load wsX2_load) := goodIn_app (goodIn_of _ (by decide +kernel)) ggL_law_X2_load
set_option maxRecDepth 20000 in
theorem ggL_law_L_axiom : GoodIn wsL_law wsL_axiom := goodIn_ca (goodIn_ca (goodIn_r _ [276, 180, 97, 277, 278, 279, 2, 280, 185, 186, 19, 20, 56, 57, 58, 59, 60, 61, 256, 257, 258, 259, 102, 103, 281, 282, 283, 22, 284, 32, 33, 285, 83, 84, 85, 579, 580, 581, 582, 583, 584, 585, 586, 587, 588, 589, 590, 604, 605, 606] (by decide +kernel) (by decide +kernel)) (goodIn_sub (fun _ h => List.mem_append_left _ (List.mem_append_right _ h)) (by decide +kernel))) (goodIn_sub (fun _ h => List.mem_append_left _ (List.mem_append_left _ (List.mem_append_right _ h))) (by decide +kernel))
set_option maxRecDepth 20000 in
theorem gL_law_L_axiom : GoodIn wsL_law (va_wsS RL 123 yL_axiom wsL_axiom) := goodIn_app (goodIn_of _ (by decide +kernel)) ggL_law_L_axiom
set_option maxRecDepth 20000 in
theorem ggL_law_X2_axiom : GoodIn wsL_law wsX2_axiom := goodIn_r _ [289, 269, 39, 66, 67, 5, 68, 69, 70, 71, 72, 73, 270, 271, 272, 273, 591, 592, 593, 594, 595, 596, 597, 598, 599, 600, 601, 602, 603] (by decide +kernel) (by decide +kernel)
set_option maxRecDepth 20000 in
theorem gL_law_X2_axiom : GoodIn wsL_law (wsV RL 126 RX2 yX2_axiom wsX2_axiom) := goodIn_app (goodIn_of _ (by decide +kernel)) ggL_law_X2_axiom
set_option maxRecDepth 20000 in
theorem ggL_law_L_add : GoodIn wsL_law wsL_add := goodIn_ca (goodIn_ca (goodIn_r _ [292, 97, 293, 294, 295, 296, 2, 297, 102, 103, 20, 23, 19, 298, 299, 300, 22, 301, 33, 32, 302, 303, 118, 304, 116, 117, 119, 305, 306, 307, 308, 120, 121, 122, 123, 124, 125, 126, 309, 310, 311, 312, 313, 314, 315, 316, 317, 318, 319, 260, 261, 262, 263, 264, 162, 163, 164, 579, 580, 581, 582, 583, 584, 585, 586, 587, 588, 589, 590, 604, 605, 606] (by decide +kernel) (by decide +kernel)) (goodIn_sub (fun _ h => List.mem_append_left _ (List.mem_append_left _ (List.mem_append_right _ h))) (by decide +kernel))) (goodIn_sub (fun _ h => List.mem_append_right _ h) (by decide +kernel))
set_option maxRecDepth 20000 in
theorem gL_law_L_add : GoodIn wsL_law (va_wsS RL 127 yL_add wsL_add) := goodIn_app (goodIn_of _ (by decide +kernel)) ggL_law_L_add
set_option maxRecDepth 20000 in
theorem ggL_law_X2_add : GoodIn wsL_law wsX2_add := goodIn_r _ [323, 269, 39, 69, 70, 71, 5, 72, 73, 270, 271, 272, 273, 246, 247, 248, 324, 325, 326, 327, 328, 150, 151, 152, 153, 591, 592, 593, 594, 595, 596, 597, 598, 599, 600, 601, 602, 603] (by decide +kernel) (by decide +kernel)
set_option maxRecDepth 20000 in
theorem gL_law_X2_add : GoodIn wsL_law (wsV RL 129 RX2 yX2_add wsX2_add) := goodIn_app (goodIn_of _ (by decide +kernel)) ggL_law_X2_add
set_option maxRecDepth 20000 in
theorem ggL_law_L_times : GoodIn wsL_law wsL_times := goodIn_ca (goodIn_ca (goodIn_ca (goodIn_r _ [331, 97, 49, 293, 332, 333, 334, 2, 335, 54, 55, 23, 19, 20, 336, 337, 338, 339, 102, 103, 59, 60, 61, 340, 341, 342, 22, 343, 32, 33, 309, 310, 311, 312, 313, 314, 315, 316, 317, 318, 319, 120, 121, 122, 123, 124, 125, 118, 126, 260, 261, 262, 263, 264, 162, 163, 164, 579, 580, 581, 582, 583, 584, 585, 586, 587, 588, 589, 590, 604, 605, 606] (by decide +kernel) (by decide +kernel)) (goodIn_sub (fun _ h => List.mem_append_left _ (List.mem_append_left _ (List.mem_append_left _ (List.mem_append_right _ h)))) (by decide +kernel))) (goodIn_sub (fun _ h => List.mem_append_left _ (List.mem_append_left _ (List.mem_append_right _ h))) (by decide +kernel))) (goodIn_sub (fun _ h => List.mem_append_right _ h) (by decide +kernel))
set_option maxRecDepth 20000 in
theorem gL_law_L_times : GoodIn wsL_law (va_wsS RL 130 yL_times wsL_times) := goodIn_app (goodIn_of _ (by decide +kernel)) ggL_law_L_times
set_option maxRecDepth 20000 in
theorem ggL_law_X2_times : GoodIn wsL_law wsX2_times := goodIn_r _ [347, 269, 39, 66, 67, 5, 68, 69, 70, 71, 72, 73, 270, 271, 272, 273, 324, 325, 326, 327, 328, 246, 247, 248, 150, 151, 152, 153, 591, 592, 593, 594, 595, 596, 597, 598, 599, 600, 601, 602, 603] (by decide +kernel) (by decide +kernel)
set_option maxRecDepth 20000 in
theorem gL_law_X2_times : GoodIn wsL_law (wsV RL 132 RX2 yX2_times wsX2_times) := goodIn_app (goodIn_of _ (by decide +kernel)) ggL_law_X2_times
set_option maxRecDepth 20000 in
theorem ggL_law_L_divide : GoodIn wsL_law wsL_divide := goodIn_ca (goodIn_ca (goodIn_r _ [350, 97, 49, 351, 352, 353, 2, 354, 54, 55, 355, 19, 20, 336, 337, 338, 339, 102, 103, 59, 60, 61, 356, 357, 358, 22, 359, 33, 120, 121, 122, 123, 32, 124, 125, 118, 126, 360, 361, 362, 363, 364, 365, 366, 579, 580, 581, 582, 583, 584, 585, 586, 587, 588, 589, 590, 604, 605, 606] (by decide +kernel) (by decide +kernel)) (goodIn_sub (fun _ h => List.mem_append_left _ (List.mem_append_left _ (List.mem_append_left _ (List.mem_append_right _ h)))) (by decide +kernel))) (goodIn_sub (fun _ h => List.mem_append_left _ (List.mem_append_left _ (List.mem_append_right _ h))) (by decide +kernel))
set_option maxRecDepth 20000 in
theorem gL_law_L_divide : GoodIn wsL_law (va_wsS RL 133 yL_divide wsL_divide) := goodIn_app (goodIn_of _ (by decide +kernel)) ggL_law_L_divide
set_option maxRecDepth 20000 in
theorem ggL_law_X2_divide : GoodIn wsL_law wsX2_divide := goodIn_r _ [370, 269, 328, 39, 66, 67, 5, 68, 69, 70, 71, 72, 73, 270, 271, 272, 273, 371, 372, 373, 591, 592, 593, 594, 595, 596, 597, 598, 599, 600, 601, 602, 603] (by decide +kernel) (by decide +kernel)
set_option maxRecDepth 20000 in
theorem gL_law_X2_divide : GoodIn wsL_law (wsV RL 135 RX2 yX2_divide wsX2_divide) := goodIn_app (goodIn_of _ (by decide +kernel)) ggL_law_X2_divide
set_option maxRecDepth 20000 in
theorem ggL_law_L_saturate : GoodIn wsL_law wsL_saturate := goodIn_ca (goodIn_r _ [376, 97, 377, 378, 379, 2, 380, 19, 20, 336, 337, 338, 339, 102, 103, 381, 382, 383, 22, 384, 33, 302, 303, 118, 304, 120, 121, 122, 123, 32, 124, 125, 126, 363, 364, 365, 366, 579, 580, 581, 582, 583, 584, 585, 586, 587, 588, 589, 590, 604, 605, 606] (by decide +kernel) (by decide +kernel)) (goodIn_sub (fun _ h => List.mem_append_left _ (List.mem_append_left _ (List.mem_append_right _ h))) (by decide +kernel))
set_option maxRecDepth 20000 in
theorem gL_law_L_saturate : GoodIn wsL_law (va_wsS RL 136 yL_saturate wsL_saturate) := goodIn_app (goodIn_of _ (by decide +kernel)) ggL_law_L_saturate
set_option maxRecDepth 20000 in
theorem ggL_law_X2_saturate : GoodIn wsL_law wsX2_saturate := goodIn_r _ [388, 269, 39, 69, 70, 71, 5, 72, 73, 270, 271, 272, 273, 246, 247, 248, 591, 592, 593, 594, 595, 596, 597, 598, 599, 600, 601, 602, 603] (by decide +kernel) (by decide +kernel)
set_option maxRecDepth 20000 in
theorem gL_law_X2_saturate : GoodIn wsL_law (wsV RL 138 RX2 yX2_saturate wsX2_saturate) := goodIn_app (goodIn_of _ (by decide +kernel)) ggL_law_X2_saturate
set_option maxRecDepth 20000 in
theorem ggL_law_L_weaken : GoodIn wsL_law wsL_weaken := goodIn_ca (goodIn_ca (goodIn_r _ [391, 97, 180, 392, 393, 394, 2, 395, 185, 186, 19, 20, 336, 337, 338, 339, 102, 103, 56, 57, 58, 59, 60, 61, 396, 397, 398, 22, 399, 33, 116, 117, 118, 119, 32, 120, 121, 122, 123, 124, 125, 126, 579, 580, 581, 582, 583, 584, 585, 586, 587, 588, 589, 590, 604, 605, 606] (by decide +kernel) (by decide +kernel)) (goodIn_sub (fun _ h => List.mem_append_left _ (List.mem_append_right _ h)) (by decide +kernel))) (goodIn_sub (fun _ h => List.mem_append_left _ (List.mem_append_left _ (List.mem_append_right _ h))) (by decide +kernel))
set_option maxRecDepth 20000 in
theorem gL_law_L_weaken : GoodIn wsL_law (va_wsS RL 139 yL_weaken wsL_weaken) := goodIn_app (goodIn_of _ (by decide +kernel)) ggL_law_L_weaken
set_option maxRecDepth 20000 in
theorem ggL_law_X2_weaken : GoodIn wsL_law wsX2_weaken := goodIn_r _ [403, 269, 39, 66, 67, 5, 68, 69, 70, 71, 72, 73, 270, 271, 272, 273, 246, 247, 248, 591, 592, 593, 594, 595, 596, 597, 598, 599, 600, 601, 602, 603] (by decide +kernel) (by decide +kernel)
set_option maxRecDepth 20000 in
theorem gL_law_X2_weaken : GoodIn wsL_law (wsV RL 141 RX2 yX2_weaken wsX2_weaken) := goodIn_app (goodIn_of _ (by decide +kernel)) ggL_law_X2_weaken
set_option maxRecDepth 20000 in
theorem ggL_law_L_drop : GoodIn wsL_law wsL_drop := goodIn_ca (goodIn_r _ [406, 97, 407, 408, 409, 2, 410, 20, 336, 337, 338, 339, 102, 103, 579, 580, 581, 582, 583, 584, 585, 586, 587, 588, 589, 590] (by decide +kernel) (by decide +kernel)) (goodIn_sub (fun _ h => List.mem_append_left _ (List.mem_append_left _ (List.mem_append_right _ h))) (by decide +kernel))
set_option maxRecDepth 20000 in
theorem gL_law_L_drop : GoodIn wsL_law (va_wsS RL 142 yL_drop wsL_drop) := goodIn_app (goodIn_of _ (by decide +kernel)) ggL_law_L_drop
set_option maxRecDepth 20000 in
theorem ggL_law_X2_drop : GoodIn wsL_law wsX2_drop := goodIn_r _ [414, 269, 69, 70, 71, 5, 72, 73, 591, 592, 593, 594, 595, 596, 597, 598, 599, 600, 601, 602, 603] (by decide +kernel) (by decide +kernel)
set_option maxRecDepth 20000 in
theorem gL_law_X2_drop : GoodIn wsL_law (wsV RL 144 RX2 yX2_drop wsX2_drop) := goodIn_app (goodIn_of _ (by decide +kernel)) ggL_law_X2_drop
set_option maxRecDepth 20000 in
theorem ggL_law_L_top : GoodIn wsL_law wsL_top := goodIn_ca (goodIn_ca (goodIn_r _ [417, 49, 97, 418, 419, 420, 2, 421, 54, 55, 20, 19, 191, 192, 193, 59, 60, 61, 336, 337, 338, 339, 102, 103, 194, 195, 196, 22, 197, 33, 32, 579, 580, 581, 582, 583, 584, 585, 586, 587, 588, 589, 590, 604, 605, 606] (by decide +kernel) (by decide +kernel)) (goodIn_sub (fun _ h => List.mem_append_left _ (List.mem_append_left _ (List.mem_append_left _ (List.mem_append_right _ h)))) (by decide +kernel))) (goodIn_sub (fun _ h => List.mem_append_left _ (List.mem_append_left _ (List.mem_append_right _ h))) (by decide +kernel))
set_option maxRecDepth 20000 in
theorem gL_law_L_top : GoodIn wsL_law (va_wsS RL 145 yL_top wsL_top) := goodIn_app (goodIn_of _ (by decide +kernel)) ggL_law_L_top
set_option maxRecDepth 20000 in
theorem ggL_law_X2_top : GoodIn wsL_law wsX2_top := goodIn_r _ [425, 269, 39, 66, 67, 5, 68, 69, 70, 71, 72, 73, 270, 271, 272, 273, 591, 592, 593, 594, 595, 596, 597, 598, 599, 600, 601, 602, 603] (by decide +kernel) (by decide +kernel)
set_option maxRecDepth 20000 in
theorem gL_law_X2_top : GoodIn wsL_law (wsV RL 148 RX2 yX2_top wsX2_top) := goodIn_app (goodIn_of _ (by decide +kernel)) ggL_law_X2_top
set_option maxRecDepth 20000 in
theorem ggL_law_L_learn : GoodIn wsL_law wsL_learn := goodIn_ca (goodIn_r _ [428, 97, 429, 430, 431, 2, 432, 20, 17, 18, 19, 336, 337, 338, 339, 102, 103, 433, 434, 435, 436, 104, 105, 106, 107, 260, 261, 262, 22, 263, 32, 264, 162, 163, 164, 33, 132, 133, 134, 135, 579, 580, 581, 582, 583, 584, 585, 586, 587, 588, 589, 590, 604, 605, 606] (by decide +kernel) (by decide +kernel)) (goodIn_sub (fun _ h => List.mem_append_left _ (List.mem_append_left _ (List.mem_append_right _ h))) (by decide +kernel))
set_option maxRecDepth 20000 in
theorem gL_law_L_learn : GoodIn wsL_law (va_wsS RL 149 yL_learn wsL_learn) := goodIn_app (goodIn_of _ (by decide +kernel)) ggL_law_L_learn
set_option maxRecDepth 20000 in
theorem ggL_law_X2_learn : GoodIn wsL_law wsX2_learn := goodIn_r _ [440, 269, 140, 69, 70, 71, 5, 72, 73, 270, 271, 272, 273, 146, 147, 148, 149, 41, 150, 151, 152, 153, 39, 591, 592, 593, 594, 595, 596, 597, 598, 599, 600, 601, 602, 603] (by decide +kernel) (by decide +kernel)
set_option maxRecDepth 20000 in
theorem gL_law_X2_learn : GoodIn wsL_law (wsV RL 152 RX2 yX2_learn wsX2_learn) := goodIn_app (goodIn_of _ (by decide +kernel)) ggL_law_X2_learn
set_option maxRecDepth 20000 in
theorem ggL_law_L_contradict : GoodIn wsL_law wsL_contradict := goodIn_ca (goodIn_ca (goodIn_r _ [443, 49, 97, 444, 445, 446, 2, 447, 54, 55, 17, 18, 14, 59, 60, 61, 433, 434, 435, 436, 102, 103, 104, 105, 106, 107, 108, 109, 110, 22, 111, 112, 113, 114, 115, 32, 116, 117, 118, 119, 33, 120, 121, 122, 123, 124, 125, 126, 448, 449, 450, 451, 452, 453, 454, 455, 212, 213, 214, 215, 216, 217, 218, 219, 220, 221, 222, 223, 224, 225, 226, 227, 228, 229, 131, 79, 80, 81, 82, 83, 84, 85, 132, 133, 134, 135, 579, 580, 581, 582, 583, 584, 585, 586, 587, 588, 589, 590, 604, 605, 606] (by decide +kernel) (by decide +kernel)) (goodIn_sub (fun _ h => List.mem_append_left _ (List.mem_append_left _ (List.mem_append_left _ (List.mem_append_right _ h)))) (by decide +kernel))) (goodIn_sub (fun _ h => List.mem_append_left _ (List.mem_append_left _ (List.mem_append_right _ h))) (by decide +kernel))
set_option maxRecDepth 20000 in
theorem gL_law_L_contradict : GoodIn wsL_law (va_wsS RL 153 yL_contradict wsL_contradict) := goodIn_app (goodIn_of _ (by decide +kernel)) ggL_law_L_contradict
set_option maxRecDepth 20000 in
theorem ggL_law_X2_contradict : GoodIn wsL_law wsX2_contradict := goodIn_r _ [459, 140, 39, 44, 66, 67, 5, 68, 69, 70, 71, 72, 73, 142, 143, 144, 145, 43, 42, 460, 461, 462, 463, 246, 247, 248, 234, 235, 236, 237, 238, 239, 240, 241, 242, 243, 244, 245, 90, 91, 92, 93, 146, 147, 148, 149, 41, 150, 151, 152, 153, 591, 592, 593, 594, 595, 596, 597, 598, 599, 600, 601, 602, 603] (by decide +kernel) (by decide +kernel)
set_option maxRecDepth 20000 in
theorem gL_law_X2_contradict : GoodIn wsL_law (wsV RL 155 RX2 yX2_contradict wsX2_contradict) := goodIn_app (goodIn_of _ (by decide +kernel)) ggL_law_X2_contradict
set_option maxRecDepth 20000 in
theorem ggL_law_L_found : GoodIn wsL_law wsL_found := goodIn_ca (goodIn_ca (goodIn_r _ [466, 49, 97, 467, 468, 469, 2, 470, 54, 55, 24, 25, 17, 18, 15, 209, 210, 211, 59, 60, 61, 433, 434, 435, 436, 102, 103, 104, 105, 106, 107, 471, 472, 473, 474, 475, 476, 477, 22, 478, 220, 221, 222, 223, 33, 224, 225, 226, 227, 228, 229, 32, 120, 121, 122, 123, 124, 125, 118, 126, 479, 480, 481, 482, 483, 484, 485, 486, 487, 127, 128, 129, 130, 112, 113, 114, 115, 116, 117, 119, 132, 133, 134, 135, 579, 580, 581, 582, 583, 584, 585, 586, 587, 588, 589, 590, 604, 605, 606] (by decide +kernel) (by decide +kernel)) (goodIn_sub (fun _ h => List.mem_append_left _ (List.mem_append_left _ (List.mem_append_left _ (List.mem_append_right _ h)))) (by decide +kernel))) (goodIn_sub (fun _ h => List.mem_append_left _ (List.mem_append_left _ (List.mem_append_right _ h))) (by decide +kernel))
set_option maxRecDepth 20000 in
theorem gL_law_L_found : GoodIn wsL_law (va_wsS RL 156 yL_found wsL_found) := goodIn_app (goodIn_of _ (by decide +kernel)) ggL_law_L_found
set_option maxRecDepth 20000 in
theorem ggL_law_X2_found : GoodIn wsL_law wsX2_found := goodIn_r _ [491, 140, 141, 492, 66, 67, 5, 68, 69, 70, 71, 72, 73, 493, 494, 495, 496, 39, 246, 247, 248, 497, 498, 499, 500, 43, 501, 502, 503, 504, 142, 143, 144, 145, 42, 146, 147, 148, 149, 41, 150, 151, 152, 153, 591, 592, 593, 594, 595, 596, 597, 598, 599, 600, 601, 602, 603] (by decide +kernel) (by decide +kernel)
set_option maxRecDepth 20000 in
theorem gL_law_X2_found : GoodIn wsL_law (wsV RL 158 RX2 yX2_found wsX2_found) := goodIn_app (goodIn_of _ (by decide +kernel)) ggL_law_X2_found
set_option maxRecDepth 20000 in
theorem ggL_law_X1_verdict : GoodIn wsL_law wsX1_verdict := goodIn_r _ [508, 24, 509, 510, 511, 2, 512, 18, 17, 513, 514, 515, 22, 516, 33, 452, 453, 454, 455, 120, 121, 122, 123, 32, 124, 125, 118, 126, 484, 485, 486, 487, 15, 579, 580, 581, 582, 583, 584, 585, 586, 587, 588, 589, 590, 604, 605, 606] (by decide +kernel) (by decide +kernel)
set_option maxRecDepth 20000 in
theorem gL_law_X1_verdict : GoodIn wsL_law (wsV RL 159 RX1 yX1_verdict wsX1_verdict) := goodIn_app (goodIn_of _ (by decide +kernel)) ggL_law_X1_verdict
set_option maxRecDepth 20000 in
theorem ggL_law_X2_verdict : GoodIn wsL_law wsX2_verdict := goodIn_r _ [520, 73, 140, 39, 141, 460, 461, 462, 5, 463, 246, 247, 248, 501, 502, 503, 504, 43, 591, 592, 593, 594, 595, 596, 597, 598, 599, 600, 601, 602, 603] (by decide +kernel) (by decide +kernel)
set_option maxRecDepth 20000 in
theorem gL_law_X2_verdict : GoodIn wsL_law (wsV RL 162 RX2 yX2_verdict wsX2_verdict) := goodIn_app (goodIn_of _ (by decide +kernel)) ggL_law_X2_verdict
set_option maxRecDepth 20000 in
theorem ggL_law_L_best : GoodIn wsL_law wsL_best := goodIn_ca (goodIn_r _ [523, 180, 524, 525, 526, 2, 527, 185, 186, 24, 25, 579, 580, 581, 582, 583, 584, 585, 586, 587, 588, 589, 590] (by decide +kernel) (by decide +kernel)) (goodIn_sub (fun _ h => List.mem_append_left _ (List.mem_append_right _ h)) (by decide +kernel))
set_option maxRecDepth 20000 in
theorem gL_law_L_best : GoodIn wsL_law (va_wsS RL 163 yL_best wsL_best) := goodIn_app (goodIn_of _ (by decide +kernel)) ggL_law_L_best
set_option maxRecDepth 20000 in
theorem ggL_law_X2_best : GoodIn wsL_law wsX2_best := goodIn_r _ [531, 141, 492, 69, 70, 71, 5, 72, 73, 591, 592, 593, 594, 595, 596, 597, 598, 599, 600, 601, 602, 603] (by decide +kernel) (by decide +kernel)
set_option maxRecDepth 20000 in
theorem gL_law_X2_best : GoodIn wsL_law (wsV RL 165 RX2 yX2_best wsX2_best) := goodIn_app (goodIn_of _ (by decide +kernel)) ggL_law_X2_best
set_option maxRecDepth 20000 in
theorem ggL_law_X1_solve : GoodIn wsL_law wsX1_solve := goodIn_r _ [535, 26, 27, 28, 479, 480, 481, 2, 482, 15, 483, 224, 225, 536, 537, 538, 539, 540, 541, 542, 471, 472, 473, 474, 18, 17, 475, 476, 477, 22, 478, 220, 221, 222, 223, 33, 226, 227, 228, 229, 32, 120, 121, 122, 123, 124, 125, 118, 126, 579, 580, 581, 582, 583, 584, 585, 586, 587, 588, 589, 590, 604, 605, 606] (by decide +kernel) (by decide +kernel)
set_option maxRecDepth 20000 in
theorem gL_law_X1_solve : GoodIn wsL_law (wsV RL 166 RX1 yX1_solve wsX1_solve) := goodIn_app (goodIn_of _ (by decide +kernel)) ggL_law_X1_solve
set_option maxRecDepth 20000 in
theorem ggL_law_X2_solve : GoodIn wsL_law wsX2_solve := goodIn_r _ [546, 73, 547, 548, 140, 41, 549, 550, 551, 5, 552, 497, 498, 499, 500, 43, 493, 494, 495, 496, 39, 246, 247, 248, 591, 592, 593, 594, 595, 596, 597, 598, 599, 600, 601, 602, 603] (by decide +kernel) (by decide +kernel)
set_option maxRecDepth 20000 in
theorem gL_law_X2_solve : GoodIn wsL_law (wsV RL 169 RX2 yX2_solve wsX2_solve) := goodIn_app (goodIn_of _ (by decide +kernel)) ggL_law_X2_solve
set_option maxRecDepth 20000 in
theorem ggL_law_L_least : GoodIn wsL_law wsL_least := goodIn_ca (goodIn_r _ [555, 180, 556, 557, 558, 2, 559, 27, 560, 561, 562, 563, 185, 186, 26, 579, 580, 581, 582, 583, 584, 585, 586, 587, 588, 589, 590] (by decide +kernel) (by decide +kernel)) (goodIn_sub (fun _ h => List.mem_append_left _ (List.mem_append_right _ h)) (by decide +kernel))
set_option maxRecDepth 20000 in
theorem gL_law_L_least : GoodIn wsL_law (va_wsS RL 170 yL_least wsL_least) := goodIn_app (goodIn_of _ (by decide +kernel)) ggL_law_L_least
set_option maxRecDepth 20000 in
theorem ggL_law_X2_least : GoodIn wsL_law wsX2_least := goodIn_r _ [567, 547, 548, 69, 70, 71, 5, 72, 73, 591, 592, 593, 594, 595, 596, 597, 598, 599, 600, 601, 602, 603] (by decide +kernel) (by decide +kernel)
set_option maxRecDepth 20000 in
theorem gL_law_X2_least : GoodIn wsL_law (wsV RL 172 RX2 yX2_least wsX2_least) := goodIn_app (goodIn_of _ (by decide +kernel)) ggL_law_X2_least
set_option maxRecDepth 20000 in
theorem ggL_law_L_value : GoodIn wsL_law wsL_value := goodIn_ca (goodIn_ca (goodIn_r _ [570, 180, 49, 571, 572, 573, 2, 574, 54, 55, 28, 560, 561, 562, 563, 185, 186, 26, 56, 57, 58, 59, 60, 61, 483, 224, 225, 579, 580, 581, 582, 583, 584, 585, 586, 587, 588, 589, 590] (by decide +kernel) (by decide +kernel)) (goodIn_sub (fun _ h => List.mem_append_left _ (List.mem_append_left _ (List.mem_append_left _ (List.mem_append_right _ h)))) (by decide +kernel))) (goodIn_sub (fun _ h => List.mem_append_left _ (List.mem_append_right _ h)) (by decide +kernel))
set_option maxRecDepth 20000 in
theorem gL_law_L_value : GoodIn wsL_law (va_wsS RL 173 yL_value wsL_value) := goodIn_app (goodIn_of _ (by decide +kernel)) ggL_law_L_value
set_option maxRecDepth 20000 in
theorem ggL_law_X2_value : GoodIn wsL_law wsX2_value := goodIn_r _ [578, 547, 549, 66, 67, 5, 68, 69, 70, 71, 72, 73, 591, 592, 593, 594, 595, 596, 597, 598, 599, 600, 601, 602, 603] (by decide +kernel) (by decide +kernel)
set_option maxRecDepth 20000 in
theorem gL_law_X2_value : GoodIn wsL_law (wsV RL 175 RX2 yX2_value wsX2_value) := goodIn_app (goodIn_of _ (by decide +kernel)) ggL_law_X2_value
theorem dL_law_0 : decode cL_law 0 = .ok (.new 8, 3) := by decide +kernel
theorem dL_law_3 : decode cL_law 3 = .ok (.dup, 1) := by decide +kernel
theorem dL_law_4 : decode cL_law 4 = .ok (.invokespecial 84, 3) := by decide +kernel
theorem dL_law_7 : decode cL_law 7 = .ok (.astore_n 1, 1) := by decide +kernel
theorem dL_law_8 : decode cL_law 8 = .ok (.new 85, 3) := by decide +kernel
theorem dL_law_11 : decode cL_law 11 = .ok (.dup, 1) := by decide +kernel
theorem dL_law_12 : decode cL_law 12 = .ok (.invokespecial 87, 3) := by decide +kernel
theorem dL_law_15 : decode cL_law 15 = .ok (.astore_n 2, 1) := by decide +kernel
theorem dL_law_16 : decode cL_law 16 = .ok (.iconst 1, 1) := by decide +kernel
theorem dL_law_17 : decode cL_law 17 = .ok (.newarray .long, 2) := by decide +kernel
theorem dL_law_19 : decode cL_law 19 = .ok (.astore_n 3, 1) := by decide +kernel
theorem dL_law_20 : decode cL_law 20 = .ok (.iconst 0, 1) := by decide +kernel
theorem dL_law_21 : decode cL_law 21 = .ok (.istore 4, 2) := by decide +kernel
theorem dL_law_23 : decode cL_law 23 = .ok (.iload 4, 2) := by decide +kernel
theorem dL_law_25 : decode cL_law 25 = .ok (.aload_n 0, 1) := by decide +kernel
theorem dL_law_26 : decode cL_law 26 = .ok (.arraylength, 1) := by decide +kernel
theorem dL_law_27 : decode cL_law 27 = .ok (.iconst 3, 1) := by decide +kernel
theorem dL_law_28 : decode cL_law 28 = .ok (.isub, 1) := by decide +kernel
theorem dL_law_29 : decode cL_law 29 = .ok (.if_icmp .gt 1094, 3) := by decide +kernel
theorem dL_law_32 : decode cL_law 32 = .ok (.aload_n 0, 1) := by decide +kernel
theorem dL_law_33 : decode cL_law 33 = .ok (.iload 4, 2) := by decide +kernel
theorem dL_law_35 : decode cL_law 35 = .ok (.iaload, 1) := by decide +kernel
theorem dL_law_36 : decode cL_law 36 = .ok (.bipush 31, 2) := by decide +kernel
theorem dL_law_38 : decode cL_law 38 = .ok (.iand, 1) := by decide +kernel
theorem dL_law_39 : decode cL_law 39 = .ok (.tableswitch 1078 0 23 #[109, 157, 168, 236, 260, 273, 341, 409, 445, 509, 533, 569, 605, 629, 665, 689, 745, 789, 845, 908, 921, 965, 978, 1022], 109) := by decide +kernel
theorem dL_law_148 : decode cL_law 148 = .ok (.aload_n 1, 1) := by decide +kernel
theorem dL_law_149 : decode cL_law 149 = .ok (.aload_n 0, 1) := by decide +kernel
theorem dL_law_150 : decode cL_law 150 = .ok (.iload 4, 2) := by decide +kernel
theorem dL_law_152 : decode cL_law 152 = .ok (.iconst 1, 1) := by decide +kernel
theorem dL_law_153 : decode cL_law 153 = .ok (.iadd, 1) := by decide +kernel
theorem dL_law_154 : decode cL_law 154 = .ok (.iaload, 1) := by decide +kernel
theorem dL_law_155 : decode cL_law 155 = .ok (.aload_n 0, 1) := by decide +kernel
theorem dL_law_156 : decode cL_law 156 = .ok (.iload 4, 2) := by decide +kernel
theorem dL_law_158 : decode cL_law 158 = .ok (.iconst 2, 1) := by decide +kernel
theorem dL_law_159 : decode cL_law 159 = .ok (.iadd, 1) := by decide +kernel
theorem dL_law_160 : decode cL_law 160 = .ok (.iaload, 1) := by decide +kernel
theorem dL_law_161 : decode cL_law 161 = .ok (.invokestatic 88, 3) := by decide +kernel
theorem dL_law_164 : decode cL_law 164 = .ok (.istore 5, 2) := by decide +kernel
theorem dL_law_166 : decode cL_law 166 = .ok (.aload_n 2, 1) := by decide +kernel
theorem dL_law_167 : decode cL_law 167 = .ok (.aload_n 0, 1) := by decide +kernel
theorem dL_law_168 : decode cL_law 168 = .ok (.iload 4, 2) := by decide +kernel
theorem dL_law_170 : decode cL_law 170 = .ok (.iconst 1, 1) := by decide +kernel
theorem dL_law_171 : decode cL_law 171 = .ok (.iadd, 1) := by decide +kernel
theorem dL_law_172 : decode cL_law 172 = .ok (.iaload, 1) := by decide +kernel
theorem dL_law_173 : decode cL_law 173 = .ok (.aload_n 0, 1) := by decide +kernel
theorem dL_law_174 : decode cL_law 174 = .ok (.iload 4, 2) := by decide +kernel
theorem dL_law_176 : decode cL_law 176 = .ok (.iconst 2, 1) := by decide +kernel
theorem dL_law_177 : decode cL_law 177 = .ok (.iadd, 1) := by decide +kernel
theorem dL_law_178 : decode cL_law 178 = .ok (.iaload, 1) := by decide +kernel
theorem dL_law_179 : decode cL_law 179 = .ok (.invokevirtual 93, 3) := by decide +kernel
theorem dL_law_182 : decode cL_law 182 = .ok (.aload_n 2, 1) := by decide +kernel
theorem dL_law_183 : decode cL_law 183 = .ok (.invokevirtual 94, 3) := by decide +kernel
theorem dL_law_186 : decode cL_law 186 = .ok (.iload 5, 2) := by decide +kernel
theorem dL_law_188 : decode cL_law 188 = .ok (.if_icmp .eq 5, 3) := by decide +kernel
theorem dL_law_191 : decode cL_law 191 = .ok (.iconst 0, 1) := by decide +kernel
theorem dL_law_192 : decode cL_law 192 = .ok (.ireturn, 1) := by decide +kernel
theorem dL_law_193 : decode cL_law 193 = .ok (.goto 924, 3) := by decide +kernel
theorem dL_law_196 : decode cL_law 196 = .ok (.aload_n 1, 1) := by decide +kernel
theorem dL_law_197 : decode cL_law 197 = .ok (.invokevirtual 97, 3) := by decide +kernel
theorem dL_law_200 : decode cL_law 200 = .ok (.aload_n 2, 1) := by decide +kernel
theorem dL_law_201 : decode cL_law 201 = .ok (.invokevirtual 100, 3) := by decide +kernel
theorem dL_law_204 : decode cL_law 204 = .ok (.goto 913, 3) := by decide +kernel
theorem dL_law_207 : decode cL_law 207 = .ok (.aload_n 1, 1) := by decide +kernel
theorem dL_law_208 : decode cL_law 208 = .ok (.aload_n 0, 1) := by decide +kernel
