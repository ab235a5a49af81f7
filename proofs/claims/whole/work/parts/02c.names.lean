theorem dX1_init_59 : decode cX1_init 59 = .ok (.aload_n 0, 1) := by decide +kernel
theorem dX1_init_60 : decode cX1_init 60 = .ok (.iconst 0, 1) := by decide +kernel
theorem dX1_init_61 : decode cX1_init 61 = .ok (.putfield 37, 3) := by decide +kernel
theorem dX1_init_64 : decode cX1_init 64 = .ok (.aload_n 0, 1) := by decide +kernel
theorem dX1_init_65 : decode cX1_init 65 = .ok (.iconst 0, 1) := by decide +kernel
theorem dX1_init_66 : decode cX1_init 66 = .ok (.putfield 41, 3) := by decide +kernel
theorem dX1_init_69 : decode cX1_init 69 = .ok (.aload_n 0, 1) := by decide +kernel
theorem dX1_init_70 : decode cX1_init 70 = .ok (.iconst 0, 1) := by decide +kernel
theorem dX1_init_71 : decode cX1_init 71 = .ok (.putfield 44, 3) := by decide +kernel
theorem dX1_init_74 : decode cX1_init 74 = .ok (.aload_n 0, 1) := by decide +kernel
theorem dX1_init_75 : decode cX1_init 75 = .ok (.iconst 0, 1) := by decide +kernel
theorem dX1_init_76 : decode cX1_init 76 = .ok (.putfield 47, 3) := by decide +kernel
theorem dX1_init_79 : decode cX1_init 79 = .ok (.aload_n 0, 1) := by decide +kernel
theorem dX1_init_80 : decode cX1_init 80 = .ok (.iconst 0, 1) := by decide +kernel
theorem dX1_init_81 : decode cX1_init 81 = .ok (.putfield 50, 3) := by decide +kernel
theorem dX1_init_84 : decode cX1_init 84 = .ok (.iconst 0, 1) := by decide +kernel
theorem dX1_init_85 : decode cX1_init 85 = .ok (.istore_n 1, 1) := by decide +kernel
theorem dX1_init_86 : decode cX1_init 86 = .ok (.iload_n 1, 1) := by decide +kernel
theorem dX1_init_87 : decode cX1_init 87 = .ok (.bipush 30, 2) := by decide +kernel
theorem dX1_init_89 : decode cX1_init 89 = .ok (.if_icmp .ge 22, 3) := by decide +kernel
theorem dX1_init_92 : decode cX1_init 92 = .ok (.aload_n 0, 1) := by decide +kernel
theorem dX1_init_93 : decode cX1_init 93 = .ok (.getfield 18, 3) := by decide +kernel
theorem dX1_init_96 : decode cX1_init 96 = .ok (.iload_n 1, 1) := by decide +kernel
theorem dX1_init_97 : decode cX1_init 97 = .ok (.new 16, 3) := by decide +kernel
theorem dX1_init_100 : decode cX1_init 100 = .ok (.dup, 1) := by decide +kernel
theorem dX1_init_101 : decode cX1_init 101 = .ok (.invokespecial 32, 3) := by decide +kernel
theorem dX1_init_104 : decode cX1_init 104 = .ok (.aastore, 1) := by decide +kernel
theorem dX1_init_105 : decode cX1_init 105 = .ok (.iinc 1 1, 3) := by decide +kernel
theorem dX1_init_108 : decode cX1_init 108 = .ok (.goto (-22), 3) := by decide +kernel
theorem dX1_init_111 : decode cX1_init 111 = .ok (.iconst 0, 1) := by decide +kernel
theorem dX1_init_112 : decode cX1_init 112 = .ok (.istore_n 1, 1) := by decide +kernel
theorem dX1_init_113 : decode cX1_init 113 = .ok (.iload_n 1, 1) := by decide +kernel
theorem dX1_init_114 : decode cX1_init 114 = .ok (.bipush 6, 2) := by decide +kernel
theorem dX1_init_116 : decode cX1_init 116 = .ok (.if_icmp .ge 22, 3) := by decide +kernel
theorem dX1_init_119 : decode cX1_init 119 = .ok (.aload_n 0, 1) := by decide +kernel
theorem dX1_init_120 : decode cX1_init 120 = .ok (.getfield 26, 3) := by decide +kernel
theorem dX1_init_123 : decode cX1_init 123 = .ok (.iload_n 1, 1) := by decide +kernel
theorem dX1_init_124 : decode cX1_init 124 = .ok (.new 16, 3) := by decide +kernel
theorem dX1_init_127 : decode cX1_init 127 = .ok (.dup, 1) := by decide +kernel
theorem dX1_init_128 : decode cX1_init 128 = .ok (.invokespecial 32, 3) := by decide +kernel
theorem dX1_init_131 : decode cX1_init 131 = .ok (.aastore, 1) := by decide +kernel
theorem dX1_init_132 : decode cX1_init 132 = .ok (.iinc 1 1, 3) := by decide +kernel
theorem dX1_init_135 : decode cX1_init 135 = .ok (.goto (-22), 3) := by decide +kernel
theorem dX1_init_138 : decode cX1_init 138 = .ok (.return_, 1) := by decide +kernel
set_option maxRecDepth 20000 in
theorem ggX1_term_X1_isVariable : GoodIn wsX1_term wsX1_isVariable := goodIn_r _ [7, 8, 9, 6, 10] (by decide +kernel) (by decide +kernel)
set_option maxRecDepth 20000 in
theorem gX1_term_X1_isVariable : GoodIn wsX1_term (va_wsS RX1 53 yX1_isVariable wsX1_isVariable) := goodIn_app (goodIn_of _ (by decide +kernel)) ggX1_term_X1_isVariable
set_option maxRecDepth 20000 in
theorem ggX1_term_X1_isWithin : GoodIn wsX1_term wsX1_isWithin := goodIn_r _ [10] (by decide +kernel) (by decide +kernel)
set_option maxRecDepth 20000 in
theorem gX1_term_X1_isWithin : GoodIn wsX1_term (va_wsS RX1 57 yX1_isWithin wsX1_isWithin) := goodIn_app (goodIn_of _ (by decide +kernel)) ggX1_term_X1_isWithin
theorem dX1_term_0 : decode cX1_term 0 = .ok (.iload_n 1, 1) := by decide +kernel
theorem dX1_term_1 : decode cX1_term 1 = .ok (.invokestatic 53, 3) := by decide +kernel
theorem dX1_term_4 : decode cX1_term 4 = .ok (.ifCond .eq 14, 3) := by decide +kernel
theorem dX1_term_7 : decode cX1_term 7 = .ok (.iload_n 2, 1) := by decide +kernel
theorem dX1_term_8 : decode cX1_term 8 = .ok (.bipush (-99), 2) := by decide +kernel
theorem dX1_term_10 : decode cX1_term 10 = .ok (.bipush 99, 2) := by decide +kernel
theorem dX1_term_12 : decode cX1_term 12 = .ok (.invokestatic 57, 3) := by decide +kernel
theorem dX1_term_15 : decode cX1_term 15 = .ok (.ifCond .ne 11, 3) := by decide +kernel
theorem dX1_term_18 : decode cX1_term 18 = .ok (.new 61, 3) := by decide +kernel
theorem dX1_term_21 : decode cX1_term 21 = .ok (.dup, 1) := by decide +kernel
theorem dX1_term_22 : decode cX1_term 22 = .ok (.invokespecial 63, 3) := by decide +kernel
theorem dX1_term_25 : decode cX1_term 25 = .ok (.athrow, 1) := by decide +kernel
theorem dX1_term_26 : decode cX1_term 26 = .ok (.aload_n 0, 1) := by decide +kernel
theorem dX1_term_27 : decode cX1_term 27 = .ok (.getfield 9, 3) := by decide +kernel
theorem dX1_term_30 : decode cX1_term 30 = .ok (.iload_n 1, 1) := by decide +kernel
theorem dX1_term_31 : decode cX1_term 31 = .ok (.iload_n 2, 1) := by decide +kernel
theorem dX1_term_32 : decode cX1_term 32 = .ok (.iastore, 1) := by decide +kernel
theorem dX1_term_33 : decode cX1_term 33 = .ok (.return_, 1) := by decide +kernel
set_option maxRecDepth 20000 in
theorem ggX1_clear_J7_fill_53178 : GoodIn wsX1_clear wsJ7_fill_53178 := goodIn_r _ [5] (by decide +kernel) (by decide +kernel)
set_option maxRecDepth 20000 in
theorem gX1_clear_J7_fill_53178 : GoodIn wsX1_clear (va_wsS RX1 64 yJ7_fill_53178 wsJ7_fill_53178) := goodIn_app (goodIn_of _ (by decide +kernel)) ggX1_clear_J7_fill_53178
theorem dX1_clear_0 : decode cX1_clear 0 = .ok (.aload_n 0, 1) := by decide +kernel
theorem dX1_clear_1 : decode cX1_clear 1 = .ok (.getfield 9, 3) := by decide +kernel
theorem dX1_clear_4 : decode cX1_clear 4 = .ok (.iconst 0, 1) := by decide +kernel
theorem dX1_clear_5 : decode cX1_clear 5 = .ok (.invokestatic 64, 3) := by decide +kernel
theorem dX1_clear_8 : decode cX1_clear 8 = .ok (.return_, 1) := by decide +kernel
set_option maxRecDepth 20000 in
theorem ggX1_require_X1_isWithin : GoodIn wsX1_require wsX1_isWithin := goodIn_r _ [12] (by decide +kernel) (by decide +kernel)
set_option maxRecDepth 20000 in
theorem gX1_require_X1_isWithin : GoodIn wsX1_require (va_wsS RX1 57 yX1_isWithin wsX1_isWithin) := goodIn_app (goodIn_of _ (by decide +kernel)) ggX1_require_X1_isWithin
set_option maxRecDepth 20000 in
theorem ggX1_require_X1_isStoreFull : GoodIn wsX1_require wsX1_isStoreFull := goodIn_r _ [16, 7, 55, 56, 57, 58, 59, 60, 61, 62, 63, 64, 65, 66] (by decide +kernel) (by decide +kernel)
set_option maxRecDepth 20000 in
theorem gX1_require_X1_isStoreFull : GoodIn wsX1_require (wsV RX1 70 RX1 yX1_isStoreFull wsX1_isStoreFull) := goodIn_app (goodIn_of _ (by decide +kernel)) ggX1_require_X1_isStoreFull
set_option maxRecDepth 20000 in
theorem ggX1_require_X0_becomeAtLeast : GoodIn wsX1_require wsX0_becomeAtLeast := goodIn_r _ [21, 22, 23, 24, 20, 25, 26, 27, 28, 29, 30, 31, 32, 33, 34, 35, 36, 37, 38, 67, 68, 69] (by decide +kernel) (by decide +kernel)
set_option maxRecDepth 20000 in
theorem gX1_require_X0_becomeAtLeast : GoodIn wsX1_require (wsV RX1 77 RX0 yX0_becomeAtLeast wsX0_becomeAtLeast) := goodIn_app (goodIn_of _ (by decide +kernel)) ggX1_require_X0_becomeAtLeast
set_option maxRecDepth 20000 in
theorem ggX1_require_X0_becomeAtMost : GoodIn wsX1_require wsX0_becomeAtMost := goodIn_r _ [42, 22, 23, 24, 20, 25, 26, 27, 28, 29, 30, 31, 32, 33, 34, 35, 36, 37, 38, 67, 68, 69] (by decide +kernel) (by decide +kernel)
set_option maxRecDepth 20000 in
theorem gX1_require_X0_becomeAtMost : GoodIn wsX1_require (wsV RX1 80 RX0 yX0_becomeAtMost wsX0_becomeAtMost) := goodIn_app (goodIn_of _ (by decide +kernel)) ggX1_require_X0_becomeAtMost
set_option maxRecDepth 20000 in
theorem ggX1_require_X1_clear : GoodIn wsX1_require wsX1_clear := goodIn_r _ [46, 8, 47, 48, 49, 50, 55, 56, 57, 58, 59, 60, 61, 62, 63, 64, 65, 66] (by decide +kernel) (by decide +kernel)
set_option maxRecDepth 20000 in
theorem gX1_require_X1_clear : GoodIn wsX1_require (wsV RX1 83 RX1 yX1_clear wsX1_clear) := goodIn_app (goodIn_of _ (by decide +kernel)) ggX1_require_X1_clear
set_option maxRecDepth 20000 in
theorem ggX1_require_X1_keepNext : GoodIn wsX1_require wsX1_keepNext := goodIn_r _ [54, 6, 7, 55, 56, 57, 58, 59, 60, 61, 62, 63, 64, 65, 66, 67, 68, 69] (by decide +kernel) (by decide +kernel)
set_option maxRecDepth 20000 in
theorem gX1_require_X1_keepNext : GoodIn wsX1_require (wsV RX1 86 RX1 yX1_keepNext wsX1_keepNext) := goodIn_app (goodIn_of _ (by decide +kernel)) ggX1_require_X1_keepNext
theorem dX1_require_0 : decode cX1_require 0 = .ok (.iload_n 1, 1) := by decide +kernel
theorem dX1_require_1 : decode cX1_require 1 = .ok (.iconst 0, 1) := by decide +kernel
theorem dX1_require_2 : decode cX1_require 2 = .ok (.iconst 1, 1) := by decide +kernel
theorem dX1_require_3 : decode cX1_require 3 = .ok (.invokestatic 57, 3) := by decide +kernel
theorem dX1_require_6 : decode cX1_require 6 = .ok (.ifCond .eq 16, 3) := by decide +kernel
theorem dX1_require_9 : decode cX1_require 9 = .ok (.iload_n 2, 1) := by decide +kernel
theorem dX1_require_10 : decode cX1_require 10 = .ok (.sipush (-9999), 3) := by decide +kernel
theorem dX1_require_13 : decode cX1_require 13 = .ok (.sipush 9999, 3) := by decide +kernel
theorem dX1_require_16 : decode cX1_require 16 = .ok (.invokestatic 57, 3) := by decide +kernel
theorem dX1_require_19 : decode cX1_require 19 = .ok (.ifCond .ne 11, 3) := by decide +kernel
theorem dX1_require_22 : decode cX1_require 22 = .ok (.new 61, 3) := by decide +kernel
theorem dX1_require_25 : decode cX1_require 25 = .ok (.dup, 1) := by decide +kernel
theorem dX1_require_26 : decode cX1_require 26 = .ok (.invokespecial 63, 3) := by decide +kernel
theorem dX1_require_29 : decode cX1_require 29 = .ok (.athrow, 1) := by decide +kernel
theorem dX1_require_30 : decode cX1_require 30 = .ok (.aload_n 0, 1) := by decide +kernel
theorem dX1_require_31 : decode cX1_require 31 = .ok (.invokevirtual 70, 3) := by decide +kernel
theorem dX1_require_34 : decode cX1_require 34 = .ok (.ifCond .ne 10, 3) := by decide +kernel
theorem dX1_require_37 : decode cX1_require 37 = .ok (.aload_n 0, 1) := by decide +kernel
theorem dX1_require_38 : decode cX1_require 38 = .ok (.getfield 37, 3) := by decide +kernel
theorem dX1_require_41 : decode cX1_require 41 = .ok (.ifCond .eq 11, 3) := by decide +kernel
theorem dX1_require_44 : decode cX1_require 44 = .ok (.new 74, 3) := by decide +kernel
theorem dX1_require_47 : decode cX1_require 47 = .ok (.dup, 1) := by decide +kernel
theorem dX1_require_48 : decode cX1_require 48 = .ok (.invokespecial 76, 3) := by decide +kernel
theorem dX1_require_51 : decode cX1_require 51 = .ok (.athrow, 1) := by decide +kernel
theorem dX1_require_52 : decode cX1_require 52 = .ok (.iload_n 1, 1) := by decide +kernel
theorem dX1_require_53 : decode cX1_require 53 = .ok (.ifCond .ne 23, 3) := by decide +kernel
theorem dX1_require_56 : decode cX1_require 56 = .ok (.aload_n 0, 1) := by decide +kernel
theorem dX1_require_57 : decode cX1_require 57 = .ok (.getfield 18, 3) := by decide +kernel
theorem dX1_require_60 : decode cX1_require 60 = .ok (.aload_n 0, 1) := by decide +kernel
theorem dX1_require_61 : decode cX1_require 61 = .ok (.getfield 22, 3) := by decide +kernel
theorem dX1_require_64 : decode cX1_require 64 = .ok (.aaload, 1) := by decide +kernel
theorem dX1_require_65 : decode cX1_require 65 = .ok (.aload_n 0, 1) := by decide +kernel
theorem dX1_require_66 : decode cX1_require 66 = .ok (.getfield 9, 3) := by decide +kernel
theorem dX1_require_69 : decode cX1_require 69 = .ok (.iload_n 2, 1) := by decide +kernel
theorem dX1_require_70 : decode cX1_require 70 = .ok (.invokevirtual 77, 3) := by decide +kernel
theorem dX1_require_73 : decode cX1_require 73 = .ok (.goto 20, 3) := by decide +kernel
theorem dX1_require_76 : decode cX1_require 76 = .ok (.aload_n 0, 1) := by decide +kernel
theorem dX1_require_77 : decode cX1_require 77 = .ok (.getfield 18, 3) := by decide +kernel
theorem dX1_require_80 : decode cX1_require 80 = .ok (.aload_n 0, 1) := by decide +kernel
theorem dX1_require_81 : decode cX1_require 81 = .ok (.getfield 22, 3) := by decide +kernel
theorem dX1_require_84 : decode cX1_require 84 = .ok (.aaload, 1) := by decide +kernel
theorem dX1_require_85 : decode cX1_require 85 = .ok (.aload_n 0, 1) := by decide +kernel
theorem dX1_require_86 : decode cX1_require 86 = .ok (.getfield 9, 3) := by decide +kernel
theorem dX1_require_89 : decode cX1_require 89 = .ok (.iload_n 2, 1) := by decide +kernel
theorem dX1_require_90 : decode cX1_require 90 = .ok (.invokevirtual 80, 3) := by decide +kernel
theorem dX1_require_93 : decode cX1_require 93 = .ok (.aload_n 0, 1) := by decide +kernel
theorem dX1_require_94 : decode cX1_require 94 = .ok (.invokevirtual 83, 3) := by decide +kernel
theorem dX1_require_97 : decode cX1_require 97 = .ok (.aload_n 0, 1) := by decide +kernel
theorem dX1_require_98 : decode cX1_require 98 = .ok (.iconst 1, 1) := by decide +kernel
theorem dX1_require_99 : decode cX1_require 99 = .ok (.invokevirtual 86, 3) := by decide +kernel
theorem dX1_require_102 : decode cX1_require 102 = .ok (.ireturn, 1) := by decide +kernel
set_option maxRecDepth 20000 in
theorem ggX1_objective_X1_clear : GoodIn wsX1_objective wsX1_clear := goodIn_r _ [14, 4, 15, 16, 17, 18, 19, 20, 21, 22, 23, 24, 25, 26, 27, 28, 29, 30] (by decide +kernel) (by decide +kernel)
set_option maxRecDepth 20000 in
theorem gX1_objective_X1_clear : GoodIn wsX1_objective (wsV RX1 83 RX1 yX1_clear wsX1_clear) := goodIn_app (goodIn_of _ (by decide +kernel)) ggX1_objective_X1_clear
theorem dX1_objective_0 : decode cX1_objective 0 = .ok (.aload_n 0, 1) := by decide +kernel
theorem dX1_objective_1 : decode cX1_objective 1 = .ok (.getfield 37, 3) := by decide +kernel
theorem dX1_objective_4 : decode cX1_objective 4 = .ok (.ifCond .eq 11, 3) := by decide +kernel
theorem dX1_objective_7 : decode cX1_objective 7 = .ok (.new 74, 3) := by decide +kernel
theorem dX1_objective_10 : decode cX1_objective 10 = .ok (.dup, 1) := by decide +kernel
theorem dX1_objective_11 : decode cX1_objective 11 = .ok (.invokespecial 76, 3) := by decide +kernel
theorem dX1_objective_14 : decode cX1_objective 14 = .ok (.athrow, 1) := by decide +kernel
theorem dX1_objective_15 : decode cX1_objective 15 = .ok (.aload_n 0, 1) := by decide +kernel
theorem dX1_objective_16 : decode cX1_objective 16 = .ok (.getfield 9, 3) := by decide +kernel
theorem dX1_objective_19 : decode cX1_objective 19 = .ok (.iconst 0, 1) := by decide +kernel
theorem dX1_objective_20 : decode cX1_objective 20 = .ok (.aload_n 0, 1) := by decide +kernel
theorem dX1_objective_21 : decode cX1_objective 21 = .ok (.getfield 13, 3) := by decide +kernel
theorem dX1_objective_24 : decode cX1_objective 24 = .ok (.iconst 0, 1) := by decide +kernel
theorem dX1_objective_25 : decode cX1_objective 25 = .ok (.bipush 10, 2) := by decide +kernel
theorem dX1_objective_27 : decode cX1_objective 27 = .ok (.invokestatic 90, 3) := by decide +kernel
theorem dX1_objective_30 : decode cX1_objective 30 = .ok (.aload_n 0, 1) := by decide +kernel
theorem dX1_objective_31 : decode cX1_objective 31 = .ok (.invokevirtual 83, 3) := by decide +kernel
theorem dX1_objective_34 : decode cX1_objective 34 = .ok (.return_, 1) := by decide +kernel
theorem dX1_constraints_0 : decode cX1_constraints 0 = .ok (.aload_n 0, 1) := by decide +kernel
theorem dX1_constraints_1 : decode cX1_constraints 1 = .ok (.getfield 22, 3) := by decide +kernel
theorem dX1_constraints_4 : decode cX1_constraints 4 = .ok (.ireturn, 1) := by decide +kernel
set_option maxRecDepth 20000 in
theorem ggX1_constraint_X1_isStored : GoodIn wsX1_constraint wsX1_isStored := goodIn_r _ [10, 11, 12, 13, 9, 14, 25, 26, 27, 28, 29, 30, 31, 32, 33, 34, 35, 36] (by decide +kernel) (by decide +kernel)
set_option maxRecDepth 20000 in
theorem gX1_constraint_X1_isStored : GoodIn wsX1_constraint (wsV RX1 96 RX1 yX1_isStored wsX1_isStored) := goodIn_app (goodIn_of _ (by decide +kernel)) ggX1_constraint_X1_isStored
set_option maxRecDepth 20000 in
theorem ggX1_constraint_X1_isQuestion : GoodIn wsX1_constraint wsX1_isQuestion := goodIn_r _ [17, 12, 13, 9, 14] (by decide +kernel) (by decide +kernel)
set_option maxRecDepth 20000 in
theorem gX1_constraint_X1_isQuestion : GoodIn wsX1_constraint (va_wsS RX1 102 yX1_isQuestion wsX1_isQuestion) := goodIn_app (goodIn_of _ (by decide +kernel)) ggX1_constraint_X1_isQuestion
set_option maxRecDepth 20000 in
theorem ggX1_constraint_X0_weightOrDegree : GoodIn wsX1_constraint wsX0_weightOrDegree := goodIn_r _ [22, 23, 24, 37, 38, 39] (by decide +kernel) (by decide +kernel)
set_option maxRecDepth 20000 in
theorem gX1_constraint_X0_weightOrDegree : GoodIn wsX1_constraint (wsV RX1 108 RX0 yX0_weightOrDegree wsX0_weightOrDegree) := goodIn_app (goodIn_of _ (by decide +kernel)) ggX1_constraint_X0_weightOrDegree
theorem dX1_constraint_0 : decode cX1_constraint 0 = .ok (.aload_n 0, 1) := by decide +kernel
theorem dX1_constraint_1 : decode cX1_constraint 1 = .ok (.iload_n 1, 1) := by decide +kernel
theorem dX1_constraint_2 : decode cX1_constraint 2 = .ok (.invokevirtual 96, 3) := by decide +kernel
theorem dX1_constraint_5 : decode cX1_constraint 5 = .ok (.ifCond .ne 11, 3) := by decide +kernel
theorem dX1_constraint_8 : decode cX1_constraint 8 = .ok (.new 99, 3) := by decide +kernel
theorem dX1_constraint_11 : decode cX1_constraint 11 = .ok (.dup, 1) := by decide +kernel
theorem dX1_constraint_12 : decode cX1_constraint 12 = .ok (.invokespecial 101, 3) := by decide +kernel
theorem dX1_constraint_15 : decode cX1_constraint 15 = .ok (.athrow, 1) := by decide +kernel
theorem dX1_constraint_16 : decode cX1_constraint 16 = .ok (.iload_n 2, 1) := by decide +kernel
theorem dX1_constraint_17 : decode cX1_constraint 17 = .ok (.invokestatic 102, 3) := by decide +kernel
theorem dX1_constraint_20 : decode cX1_constraint 20 = .ok (.ifCond .ne 11, 3) := by decide +kernel
theorem dX1_constraint_23 : decode cX1_constraint 23 = .ok (.new 61, 3) := by decide +kernel
theorem dX1_constraint_26 : decode cX1_constraint 26 = .ok (.dup, 1) := by decide +kernel
theorem dX1_constraint_27 : decode cX1_constraint 27 = .ok (.invokespecial 63, 3) := by decide +kernel
theorem dX1_constraint_30 : decode cX1_constraint 30 = .ok (.athrow, 1) := by decide +kernel
theorem dX1_constraint_31 : decode cX1_constraint 31 = .ok (.iload_n 2, 1) := by decide +kernel
theorem dX1_constraint_32 : decode cX1_constraint 32 = .ok (.bipush (-2), 2) := by decide +kernel
theorem dX1_constraint_34 : decode cX1_constraint 34 = .ok (.if_icmp .ne 21, 3) := by decide +kernel
theorem dX1_constraint_37 : decode cX1_constraint 37 = .ok (.aload_n 0, 1) := by decide +kernel
theorem dX1_constraint_38 : decode cX1_constraint 38 = .ok (.getfield 18, 3) := by decide +kernel
theorem dX1_constraint_41 : decode cX1_constraint 41 = .ok (.iload_n 1, 1) := by decide +kernel
theorem dX1_constraint_42 : decode cX1_constraint 42 = .ok (.aaload, 1) := by decide +kernel
theorem dX1_constraint_43 : decode cX1_constraint 43 = .ok (.getfield 105, 3) := by decide +kernel
theorem dX1_constraint_46 : decode cX1_constraint 46 = .ok (.ifCond .eq 7, 3) := by decide +kernel
theorem dX1_constraint_49 : decode cX1_constraint 49 = .ok (.iconst 1, 1) := by decide +kernel
theorem dX1_constraint_50 : decode cX1_constraint 50 = .ok (.goto 4, 3) := by decide +kernel
theorem dX1_constraint_53 : decode cX1_constraint 53 = .ok (.iconst 0, 1) := by decide +kernel
theorem dX1_constraint_54 : decode cX1_constraint 54 = .ok (.ireturn, 1) := by decide +kernel
theorem dX1_constraint_55 : decode cX1_constraint 55 = .ok (.aload_n 0, 1) := by decide +kernel
theorem dX1_constraint_56 : decode cX1_constraint 56 = .ok (.getfield 18, 3) := by decide +kernel
theorem dX1_constraint_59 : decode cX1_constraint 59 = .ok (.iload_n 1, 1) := by decide +kernel
theorem dX1_constraint_60 : decode cX1_constraint 60 = .ok (.aaload, 1) := by decide +kernel
theorem dX1_constraint_61 : decode cX1_constraint 61 = .ok (.iload_n 2, 1) := by decide +kernel
theorem dX1_constraint_62 : decode cX1_constraint 62 = .ok (.invokevirtual 108, 3) := by decide +kernel
theorem dX1_constraint_65 : decode cX1_constraint 65 = .ok (.ireturn, 1) := by decide +kernel
set_option maxRecDepth 20000 in
theorem ggX1_close_X1_isChoice : GoodIn wsX1_close wsX1_isChoice := goodIn_r _ [7, 8, 9, 6, 10] (by decide +kernel) (by decide +kernel)
set_option maxRecDepth 20000 in
theorem gX1_close_X1_isChoice : GoodIn wsX1_close (va_wsS RX1 112 yX1_isChoice wsX1_isChoice) := goodIn_app (goodIn_of _ (by decide +kernel)) ggX1_close_X1_isChoice
set_option maxRecDepth 20000 in
theorem ggX1_close_X1_closed : GoodIn wsX1_close wsX1_closed := goodIn_r _ [14, 15, 16, 17, 18, 19, 20, 21, 22, 23, 24, 25, 26, 6, 27, 28, 29, 30, 31, 32, 33, 34, 35, 36, 37, 38, 39, 40, 41, 42, 43, 44, 45, 46, 47, 48, 49, 50, 51, 52, 53, 54, 55] (by decide +kernel) (by decide +kernel)
set_option maxRecDepth 20000 in
theorem gX1_close_X1_closed : GoodIn wsX1_close (wsV RX1 115 RX1 yX1_closed wsX1_closed) := goodIn_app (goodIn_of _ (by decide +kernel)) ggX1_close_X1_closed
theorem dX1_close_0 : decode cX1_close 0 = .ok (.iload_n 1, 1) := by decide +kernel
theorem dX1_close_1 : decode cX1_close 1 = .ok (.invokestatic 112, 3) := by decide +kernel
theorem dX1_close_4 : decode cX1_close 4 = .ok (.ifCond .eq 10, 3) := by decide +kernel
theorem dX1_close_7 : decode cX1_close 7 = .ok (.iload_n 2, 1) := by decide +kernel
theorem dX1_close_8 : decode cX1_close 8 = .ok (.invokestatic 112, 3) := by decide +kernel
theorem dX1_close_11 : decode cX1_close 11 = .ok (.ifCond .ne 11, 3) := by decide +kernel
theorem dX1_close_14 : decode cX1_close 14 = .ok (.new 61, 3) := by decide +kernel
theorem dX1_close_17 : decode cX1_close 17 = .ok (.dup, 1) := by decide +kernel
theorem dX1_close_18 : decode cX1_close 18 = .ok (.invokespecial 63, 3) := by decide +kernel
theorem dX1_close_21 : decode cX1_close 21 = .ok (.athrow, 1) := by decide +kernel
theorem dX1_close_22 : decode cX1_close 22 = .ok (.aload_n 0, 1) := by decide +kernel
theorem dX1_close_23 : decode cX1_close 23 = .ok (.iload_n 1, 1) := by decide +kernel
theorem dX1_close_24 : decode cX1_close 24 = .ok (.sipush 1024, 3) := by decide +kernel
theorem dX1_close_27 : decode cX1_close 27 = .ok (.imul, 1) := by decide +kernel
theorem dX1_close_28 : decode cX1_close 28 = .ok (.iload_n 2, 1) := by decide +kernel
theorem dX1_close_29 : decode cX1_close 29 = .ok (.iload_n 1, 1) := by decide +kernel
theorem dX1_close_30 : decode cX1_close 30 = .ok (.iand, 1) := by decide +kernel
theorem dX1_close_31 : decode cX1_close 31 = .ok (.iadd, 1) := by decide +kernel
theorem dX1_close_32 : decode cX1_close 32 = .ok (.aload_n 0, 1) := by decide +kernel
theorem dX1_close_33 : decode cX1_close 33 = .ok (.getfield 22, 3) := by decide +kernel
theorem dX1_close_36 : decode cX1_close 36 = .ok (.invokevirtual 115, 3) := by decide +kernel
theorem dX1_close_39 : decode cX1_close 39 = .ok (.ireturn, 1) := by decide +kernel
set_option maxRecDepth 20000 in
theorem ggX1_load_X1_isStored : GoodIn wsX1_load wsX1_isStored := goodIn_r _ [10, 11, 12, 13, 9, 14, 32, 33, 34, 35, 36, 37, 38, 39, 40, 41, 42, 43] (by decide +kernel) (by decide +kernel)
set_option maxRecDepth 20000 in
theorem gX1_load_X1_isStored : GoodIn wsX1_load (wsV RX1 96 RX1 yX1_isStored wsX1_isStored) := goodIn_app (goodIn_of _ (by decide +kernel)) ggX1_load_X1_isStored
set_option maxRecDepth 20000 in
theorem ggX1_load_X1_refuseFullStack : GoodIn wsX1_load wsX1_refuseFullStack := goodIn_ca (goodIn_r _ [18, 19, 20, 4, 32, 33, 34, 35, 36, 37, 38, 39, 40, 41, 42, 43] (by decide +kernel) (by decide +kernel)) (goodIn_sub (fun _ h => List.mem_cons_of_mem _ (List.mem_append_right _ h)) (by decide +kernel))
set_option maxRecDepth 20000 in
theorem gX1_load_X1_refuseFullStack : GoodIn wsX1_load (wsV RX1 119 RX1 yX1_refuseFullStack wsX1_refuseFullStack) := goodIn_app (goodIn_of _ (by decide +kernel)) ggX1_load_X1_refuseFullStack
set_option maxRecDepth 20000 in
theorem ggX1_load_X0_become : GoodIn wsX1_load wsX0_become := goodIn_r _ [25, 26, 27, 28, 29, 30, 31, 44, 45, 46] (by decide +kernel) (by decide +kernel)
set_option maxRecDepth 20000 in
theorem gX1_load_X0_become : GoodIn wsX1_load (wsV RX1 122 RX0 yX0_become wsX0_become) := goodIn_app (goodIn_of _ (by decide +kernel)) ggX1_load_X0_become
theorem dX1_load_0 : decode cX1_load 0 = .ok (.aload_n 0, 1) := by decide +kernel
theorem dX1_load_1 : decode cX1_load 1 = .ok (.iload_n 1, 1) := by decide +kernel
theorem dX1_load_2 : decode cX1_load 2 = .ok (.invokevirtual 96, 3) := by decide +kernel
theorem dX1_load_5 : decode cX1_load 5 = .ok (.ifCond .ne 11, 3) := by decide +kernel
theorem dX1_load_8 : decode cX1_load 8 = .ok (.new 99, 3) := by decide +kernel
theorem dX1_load_11 : decode cX1_load 11 = .ok (.dup, 1) := by decide +kernel
theorem dX1_load_12 : decode cX1_load 12 = .ok (.invokespecial 101, 3) := by decide +kernel
theorem dX1_load_15 : decode cX1_load 15 = .ok (.athrow, 1) := by decide +kernel
theorem dX1_load_16 : decode cX1_load 16 = .ok (.aload_n 0, 1) := by decide +kernel
theorem dX1_load_17 : decode cX1_load 17 = .ok (.invokevirtual 119, 3) := by decide +kernel
theorem dX1_load_20 : decode cX1_load 20 = .ok (.aload_n 0, 1) := by decide +kernel
theorem dX1_load_21 : decode cX1_load 21 = .ok (.getfield 26, 3) := by decide +kernel
theorem dX1_load_24 : decode cX1_load 24 = .ok (.aload_n 0, 1) := by decide +kernel
theorem dX1_load_25 : decode cX1_load 25 = .ok (.getfield 29, 3) := by decide +kernel
theorem dX1_load_28 : decode cX1_load 28 = .ok (.aaload, 1) := by decide +kernel
theorem dX1_load_29 : decode cX1_load 29 = .ok (.aload_n 0, 1) := by decide +kernel
theorem dX1_load_30 : decode cX1_load 30 = .ok (.getfield 18, 3) := by decide +kernel
theorem dX1_load_33 : decode cX1_load 33 = .ok (.iload_n 1, 1) := by decide +kernel
theorem dX1_load_34 : decode cX1_load 34 = .ok (.aaload, 1) := by decide +kernel
theorem dX1_load_35 : decode cX1_load 35 = .ok (.invokevirtual 122, 3) := by decide +kernel
theorem dX1_load_38 : decode cX1_load 38 = .ok (.aload_n 0, 1) := by decide +kernel
theorem dX1_load_39 : decode cX1_load 39 = .ok (.dup, 1) := by decide +kernel
theorem dX1_load_40 : decode cX1_load 40 = .ok (.getfield 29, 3) := by decide +kernel
theorem dX1_load_43 : decode cX1_load 43 = .ok (.iconst 1, 1) := by decide +kernel
theorem dX1_load_44 : decode cX1_load 44 = .ok (.iadd, 1) := by decide +kernel
theorem dX1_load_45 : decode cX1_load 45 = .ok (.putfield 29, 3) := by decide +kernel
theorem dX1_load_48 : decode cX1_load 48 = .ok (.return_, 1) := by decide +kernel
set_option maxRecDepth 20000 in
theorem ggX1_axiom_X1_isVariable : GoodIn wsX1_axiom wsX1_isVariable := goodIn_r _ [8, 9, 10, 7, 11] (by decide +kernel) (by decide +kernel)
set_option maxRecDepth 20000 in
theorem gX1_axiom_X1_isVariable : GoodIn wsX1_axiom (va_wsS RX1 53 yX1_isVariable wsX1_isVariable) := goodIn_app (goodIn_of _ (by decide +kernel)) ggX1_axiom_X1_isVariable
set_option maxRecDepth 20000 in
theorem ggX1_axiom_X1_refuseFullStack : GoodIn wsX1_axiom wsX1_refuseFullStack := goodIn_ca (goodIn_r _ [15, 16, 17, 4, 29, 30, 31, 32, 33, 34, 35, 36, 37, 38, 39, 40] (by decide +kernel) (by decide +kernel)) (goodIn_sub (fun _ h => List.mem_cons_of_mem _ (List.mem_append_right _ h)) (by decide +kernel))
set_option maxRecDepth 20000 in
theorem gX1_axiom_X1_refuseFullStack : GoodIn wsX1_axiom (wsV RX1 119 RX1 yX1_refuseFullStack wsX1_refuseFullStack) := goodIn_app (goodIn_of _ (by decide +kernel)) ggX1_axiom_X1_refuseFullStack
set_option maxRecDepth 20000 in
theorem ggX1_axiom_X0_becomeAxiom : GoodIn wsX1_axiom wsX0_becomeAxiom := goodIn_r _ [22, 23, 24, 25, 26, 27, 28, 41, 42, 43] (by decide +kernel) (by decide +kernel)
set_option maxRecDepth 20000 in
theorem gX1_axiom_X0_becomeAxiom : GoodIn wsX1_axiom (wsV RX1 126 RX0 yX0_becomeAxiom wsX0_becomeAxiom) := goodIn_app (goodIn_of _ (by decide +kernel)) ggX1_axiom_X0_becomeAxiom
theorem dX1_axiom_0 : decode cX1_axiom 0 = .ok (.iload_n 1, 1) := by decide +kernel
theorem dX1_axiom_1 : decode cX1_axiom 1 = .ok (.invokestatic 53, 3) := by decide +kernel
theorem dX1_axiom_4 : decode cX1_axiom 4 = .ok (.ifCond .ne 11, 3) := by decide +kernel
theorem dX1_axiom_7 : decode cX1_axiom 7 = .ok (.new 99, 3) := by decide +kernel
theorem dX1_axiom_10 : decode cX1_axiom 10 = .ok (.dup, 1) := by decide +kernel
theorem dX1_axiom_11 : decode cX1_axiom 11 = .ok (.invokespecial 101, 3) := by decide +kernel
theorem dX1_axiom_14 : decode cX1_axiom 14 = .ok (.athrow, 1) := by decide +kernel
theorem dX1_axiom_15 : decode cX1_axiom 15 = .ok (.aload_n 0, 1) := by decide +kernel
theorem dX1_axiom_16 : decode cX1_axiom 16 = .ok (.invokevirtual 119, 3) := by decide +kernel
theorem dX1_axiom_19 : decode cX1_axiom 19 = .ok (.aload_n 0, 1) := by decide +kernel
theorem dX1_axiom_20 : decode cX1_axiom 20 = .ok (.getfield 26, 3) := by decide +kernel
theorem dX1_axiom_23 : decode cX1_axiom 23 = .ok (.aload_n 0, 1) := by decide +kernel
theorem dX1_axiom_24 : decode cX1_axiom 24 = .ok (.getfield 29, 3) := by decide +kernel
theorem dX1_axiom_27 : decode cX1_axiom 27 = .ok (.aaload, 1) := by decide +kernel
theorem dX1_axiom_28 : decode cX1_axiom 28 = .ok (.iload_n 1, 1) := by decide +kernel
theorem dX1_axiom_29 : decode cX1_axiom 29 = .ok (.iload_n 2, 1) := by decide +kernel
theorem dX1_axiom_30 : decode cX1_axiom 30 = .ok (.invokevirtual 126, 3) := by decide +kernel
theorem dX1_axiom_33 : decode cX1_axiom 33 = .ok (.aload_n 0, 1) := by decide +kernel
theorem dX1_axiom_34 : decode cX1_axiom 34 = .ok (.dup, 1) := by decide +kernel
theorem dX1_axiom_35 : decode cX1_axiom 35 = .ok (.getfield 29, 3) := by decide +kernel
theorem dX1_axiom_38 : decode cX1_axiom 38 = .ok (.iconst 1, 1) := by decide +kernel
theorem dX1_axiom_39 : decode cX1_axiom 39 = .ok (.iadd, 1) := by decide +kernel
theorem dX1_axiom_40 : decode cX1_axiom 40 = .ok (.putfield 29, 3) := by decide +kernel
theorem dX1_axiom_43 : decode cX1_axiom 43 = .ok (.return_, 1) := by decide +kernel
set_option maxRecDepth 20000 in
theorem ggX1_add_X0_becomeSum : GoodIn wsX1_add wsX0_becomeSum := goodIn_r _ [10, 11, 12, 13, 14, 15, 16, 17, 18, 19, 20, 21, 22, 9, 23, 24, 25, 26, 27, 28, 29, 30, 63, 64, 65] (by decide +kernel) (by decide +kernel)
set_option maxRecDepth 20000 in
theorem gX1_add_X0_becomeSum : GoodIn wsX1_add (wsV RX1 130 RX0 yX0_becomeSum wsX0_becomeSum) := goodIn_app (goodIn_of _ (by decide +kernel)) ggX1_add_X0_becomeSum
set_option maxRecDepth 20000 in
theorem ggX1_add_X1_refuseTooLargeScratch : GoodIn wsX1_add wsX1_refuseTooLargeScratch := goodIn_ca (goodIn_r _ [35, 36, 37, 4, 38, 39, 40, 9, 41, 42, 11, 24, 25, 26, 27, 12, 28, 29, 15, 30, 51, 52, 53, 54, 55, 56, 57, 58, 59, 60, 61, 62, 63, 64, 65] (by decide +kernel) (by decide +kernel)) (goodIn_sub (fun _ h => List.mem_cons_of_mem _ (List.mem_append_right _ h)) (by decide +kernel))
set_option maxRecDepth 20000 in
theorem gX1_add_X1_refuseTooLargeScratch : GoodIn wsX1_add (wsV RX1 134 RX1 yX1_refuseTooLargeScratch wsX1_refuseTooLargeScratch) := goodIn_app (goodIn_of _ (by decide +kernel)) ggX1_add_X1_refuseTooLargeScratch
set_option maxRecDepth 20000 in
theorem ggX1_add_X0_become : GoodIn wsX1_add wsX0_become := goodIn_r _ [46, 12, 47, 48, 49, 50, 11, 63, 64, 65] (by decide +kernel) (by decide +kernel)
set_option maxRecDepth 20000 in
theorem gX1_add_X0_become : GoodIn wsX1_add (wsV RX1 122 RX0 yX0_become wsX0_become) := goodIn_app (goodIn_of _ (by decide +kernel)) ggX1_add_X0_become
theorem dX1_add_0 : decode cX1_add 0 = .ok (.aload_n 0, 1) := by decide +kernel
theorem dX1_add_1 : decode cX1_add 1 = .ok (.getfield 29, 3) := by decide +kernel
theorem dX1_add_4 : decode cX1_add 4 = .ok (.iconst 2, 1) := by decide +kernel
theorem dX1_add_5 : decode cX1_add 5 = .ok (.if_icmp .ge 11, 3) := by decide +kernel
theorem dX1_add_8 : decode cX1_add 8 = .ok (.new 74, 3) := by decide +kernel
theorem dX1_add_11 : decode cX1_add 11 = .ok (.dup, 1) := by decide +kernel
theorem dX1_add_12 : decode cX1_add 12 = .ok (.invokespecial 76, 3) := by decide +kernel
theorem dX1_add_15 : decode cX1_add 15 = .ok (.athrow, 1) := by decide +kernel
theorem dX1_add_16 : decode cX1_add 16 = .ok (.aload_n 0, 1) := by decide +kernel
theorem dX1_add_17 : decode cX1_add 17 = .ok (.getfield 33, 3) := by decide +kernel
theorem dX1_add_20 : decode cX1_add 20 = .ok (.aload_n 0, 1) := by decide +kernel
theorem dX1_add_21 : decode cX1_add 21 = .ok (.getfield 26, 3) := by decide +kernel
theorem dX1_add_24 : decode cX1_add 24 = .ok (.aload_n 0, 1) := by decide +kernel
theorem dX1_add_25 : decode cX1_add 25 = .ok (.getfield 29, 3) := by decide +kernel
theorem dX1_add_28 : decode cX1_add 28 = .ok (.iconst 2, 1) := by decide +kernel
theorem dX1_add_29 : decode cX1_add 29 = .ok (.isub, 1) := by decide +kernel
theorem dX1_add_30 : decode cX1_add 30 = .ok (.aaload, 1) := by decide +kernel
theorem dX1_add_31 : decode cX1_add 31 = .ok (.aload_n 0, 1) := by decide +kernel
theorem dX1_add_32 : decode cX1_add 32 = .ok (.getfield 26, 3) := by decide +kernel
theorem dX1_add_35 : decode cX1_add 35 = .ok (.aload_n 0, 1) := by decide +kernel
theorem dX1_add_36 : decode cX1_add 36 = .ok (.getfield 29, 3) := by decide +kernel
theorem dX1_add_39 : decode cX1_add 39 = .ok (.iconst 1, 1) := by decide +kernel
theorem dX1_add_40 : decode cX1_add 40 = .ok (.isub, 1) := by decide +kernel
theorem dX1_add_41 : decode cX1_add 41 = .ok (.aaload, 1) := by decide +kernel
theorem dX1_add_42 : decode cX1_add 42 = .ok (.invokevirtual 130, 3) := by decide +kernel
theorem dX1_add_45 : decode cX1_add 45 = .ok (.aload_n 0, 1) := by decide +kernel
theorem dX1_add_46 : decode cX1_add 46 = .ok (.invokevirtual 134, 3) := by decide +kernel
theorem dX1_add_49 : decode cX1_add 49 = .ok (.aload_n 0, 1) := by decide +kernel
theorem dX1_add_50 : decode cX1_add 50 = .ok (.getfield 26, 3) := by decide +kernel
theorem dX1_add_53 : decode cX1_add 53 = .ok (.aload_n 0, 1) := by decide +kernel
theorem dX1_add_54 : decode cX1_add 54 = .ok (.getfield 29, 3) := by decide +kernel
theorem dX1_add_57 : decode cX1_add 57 = .ok (.iconst 2, 1) := by decide +kernel
theorem dX1_add_58 : decode cX1_add 58 = .ok (.isub, 1) := by decide +kernel
theorem dX1_add_59 : decode cX1_add 59 = .ok (.aaload, 1) := by decide +kernel
theorem dX1_add_60 : decode cX1_add 60 = .ok (.aload_n 0, 1) := by decide +kernel
theorem dX1_add_61 : decode cX1_add 61 = .ok (.getfield 33, 3) := by decide +kernel
theorem dX1_add_64 : decode cX1_add 64 = .ok (.invokevirtual 122, 3) := by decide +kernel
theorem dX1_add_67 : decode cX1_add 67 = .ok (.aload_n 0, 1) := by decide +kernel
theorem dX1_add_68 : decode cX1_add 68 = .ok (.dup, 1) := by decide +kernel
theorem dX1_add_69 : decode cX1_add 69 = .ok (.getfield 29, 3) := by decide +kernel
theorem dX1_add_72 : decode cX1_add 72 = .ok (.iconst 1, 1) := by decide +kernel
theorem dX1_add_73 : decode cX1_add 73 = .ok (.isub, 1) := by decide +kernel
theorem dX1_add_74 : decode cX1_add 74 = .ok (.putfield 29, 3) := by decide +kernel
theorem dX1_add_77 : decode cX1_add 77 = .ok (.return_, 1) := by decide +kernel
set_option maxRecDepth 20000 in
theorem ggX1_times_X1_refuseEmptyStack : GoodIn wsX1_times wsX1_refuseEmptyStack := goodIn_ca (goodIn_r _ [10, 11, 12, 5, 50, 51, 52, 53, 54, 55, 56, 57, 58, 59, 60, 61] (by decide +kernel) (by decide +kernel)) (goodIn_sub (fun _ h => List.mem_cons_of_mem _ (List.mem_append_left _ (List.mem_append_right _ h))) (by decide +kernel))
set_option maxRecDepth 20000 in
theorem gX1_times_X1_refuseEmptyStack : GoodIn wsX1_times (wsV RX1 137 RX1 yX1_refuseEmptyStack wsX1_refuseEmptyStack) := goodIn_app (goodIn_of _ (by decide +kernel)) ggX1_times_X1_refuseEmptyStack
set_option maxRecDepth 20000 in
theorem ggX1_times_X1_isWithin : GoodIn wsX1_times wsX1_isWithin := goodIn_r _ [15] (by decide +kernel) (by decide +kernel)
set_option maxRecDepth 20000 in
theorem gX1_times_X1_isWithin : GoodIn wsX1_times (va_wsS RX1 57 yX1_isWithin wsX1_isWithin) := goodIn_app (goodIn_of _ (by decide +kernel)) ggX1_times_X1_isWithin
set_option maxRecDepth 20000 in
theorem ggX1_times_X0_becomeMultiple : GoodIn wsX1_times wsX0_becomeMultiple := goodIn_r _ [20, 21, 22, 62, 63, 64] (by decide +kernel) (by decide +kernel)
set_option maxRecDepth 20000 in
theorem gX1_times_X0_becomeMultiple : GoodIn wsX1_times (wsV RX1 140 RX0 yX0_becomeMultiple wsX0_becomeMultiple) := goodIn_app (goodIn_of _ (by decide +kernel)) ggX1_times_X0_becomeMultiple
set_option maxRecDepth 20000 in
theorem ggX1_times_X1_refuseTooLargeScratch : GoodIn wsX1_times wsX1_refuseTooLargeScratch := goodIn_ca (goodIn_r _ [26, 27, 28, 3, 29, 30, 31, 19, 32, 33, 22, 34, 35, 36, 37, 21, 38, 39, 40, 41, 50, 51, 52, 53, 54, 55, 56, 57, 58, 59, 60, 61, 62, 63, 64] (by decide +kernel) (by decide +kernel)) (goodIn_sub (fun _ h => List.mem_cons_of_mem _ (List.mem_append_right _ h)) (by decide +kernel))
set_option maxRecDepth 20000 in
theorem gX1_times_X1_refuseTooLargeScratch : GoodIn wsX1_times (wsV RX1 134 RX1 yX1_refuseTooLargeScratch wsX1_refuseTooLargeScratch) := goodIn_app (goodIn_of _ (by decide +kernel)) ggX1_times_X1_refuseTooLargeScratch
set_option maxRecDepth 20000 in
theorem ggX1_times_X0_become : GoodIn wsX1_times wsX0_become := goodIn_r _ [45, 21, 46, 47, 48, 49, 22, 62, 63, 64] (by decide +kernel) (by decide +kernel)
set_option maxRecDepth 20000 in
theorem gX1_times_X0_become : GoodIn wsX1_times (wsV RX1 122 RX0 yX0_become wsX0_become) := goodIn_app (goodIn_of _ (by decide +kernel)) ggX1_times_X0_become
theorem dX1_times_0 : decode cX1_times 0 = .ok (.aload_n 0, 1) := by decide +kernel
theorem dX1_times_1 : decode cX1_times 1 = .ok (.invokevirtual 137, 3) := by decide +kernel
theorem dX1_times_4 : decode cX1_times 4 = .ok (.iload_n 1, 1) := by decide +kernel
theorem dX1_times_5 : decode cX1_times 5 = .ok (.iconst 1, 1) := by decide +kernel
theorem dX1_times_6 : decode cX1_times 6 = .ok (.sipush 1000, 3) := by decide +kernel
theorem dX1_times_9 : decode cX1_times 9 = .ok (.invokestatic 57, 3) := by decide +kernel
theorem dX1_times_12 : decode cX1_times 12 = .ok (.ifCond .ne 11, 3) := by decide +kernel
theorem dX1_times_15 : decode cX1_times 15 = .ok (.new 61, 3) := by decide +kernel
theorem dX1_times_18 : decode cX1_times 18 = .ok (.dup, 1) := by decide +kernel
theorem dX1_times_19 : decode cX1_times 19 = .ok (.invokespecial 63, 3) := by decide +kernel
theorem dX1_times_22 : decode cX1_times 22 = .ok (.athrow, 1) := by decide +kernel
theorem dX1_times_23 : decode cX1_times 23 = .ok (.aload_n 0, 1) := by decide +kernel
theorem dX1_times_24 : decode cX1_times 24 = .ok (.getfield 33, 3) := by decide +kernel
theorem dX1_times_27 : decode cX1_times 27 = .ok (.aload_n 0, 1) := by decide +kernel
theorem dX1_times_28 : decode cX1_times 28 = .ok (.getfield 26, 3) := by decide +kernel
theorem dX1_times_31 : decode cX1_times 31 = .ok (.aload_n 0, 1) := by decide +kernel
theorem dX1_times_32 : decode cX1_times 32 = .ok (.getfield 29, 3) := by decide +kernel
theorem dX1_times_35 : decode cX1_times 35 = .ok (.iconst 1, 1) := by decide +kernel
theorem dX1_times_36 : decode cX1_times 36 = .ok (.isub, 1) := by decide +kernel
theorem dX1_times_37 : decode cX1_times 37 = .ok (.aaload, 1) := by decide +kernel
theorem dX1_times_38 : decode cX1_times 38 = .ok (.iload_n 1, 1) := by decide +kernel
theorem dX1_times_39 : decode cX1_times 39 = .ok (.invokevirtual 140, 3) := by decide +kernel
theorem dX1_times_42 : decode cX1_times 42 = .ok (.aload_n 0, 1) := by decide +kernel
theorem dX1_times_43 : decode cX1_times 43 = .ok (.invokevirtual 134, 3) := by decide +kernel
theorem dX1_times_46 : decode cX1_times 46 = .ok (.aload_n 0, 1) := by decide +kernel
theorem dX1_times_47 : decode cX1_times 47 = .ok (.getfield 26, 3) := by decide +kernel
theorem dX1_times_50 : decode cX1_times 50 = .ok (.aload_n 0, 1) := by decide +kernel
theorem dX1_times_51 : decode cX1_times 51 = .ok (.getfield 29, 3) := by decide +kernel
theorem dX1_times_54 : decode cX1_times 54 = .ok (.iconst 1, 1) := by decide +kernel
theorem dX1_times_55 : decode cX1_times 55 = .ok (.isub, 1) := by decide +kernel
theorem dX1_times_56 : decode cX1_times 56 = .ok (.aaload, 1) := by decide +kernel
theorem dX1_times_57 : decode cX1_times 57 = .ok (.aload_n 0, 1) := by decide +kernel
theorem dX1_times_58 : decode cX1_times 58 = .ok (.getfield 33, 3) := by decide +kernel
theorem dX1_times_61 : decode cX1_times 61 = .ok (.invokevirtual 122, 3) := by decide +kernel
theorem dX1_times_64 : decode cX1_times 64 = .ok (.return_, 1) := by decide +kernel
set_option maxRecDepth 20000 in
theorem ggX1_divide_X1_refuseEmptyStack : GoodIn wsX1_divide wsX1_refuseEmptyStack := goodIn_ca (goodIn_r _ [10, 11, 12, 5, 38, 39, 40, 41, 42, 43, 44, 45, 46, 47, 48, 49] (by decide +kernel) (by decide +kernel)) (goodIn_sub (fun _ h => List.mem_cons_of_mem _ (List.mem_append_right _ h)) (by decide +kernel))
set_option maxRecDepth 20000 in
theorem gX1_divide_X1_refuseEmptyStack : GoodIn wsX1_divide (wsV RX1 137 RX1 yX1_refuseEmptyStack wsX1_refuseEmptyStack) := goodIn_app (goodIn_of _ (by decide +kernel)) ggX1_divide_X1_refuseEmptyStack
set_option maxRecDepth 20000 in
theorem ggX1_divide_X1_isWithin : GoodIn wsX1_divide wsX1_isWithin := goodIn_r _ [15] (by decide +kernel) (by decide +kernel)
set_option maxRecDepth 20000 in
theorem gX1_divide_X1_isWithin : GoodIn wsX1_divide (va_wsS RX1 57 yX1_isWithin wsX1_isWithin) := goodIn_app (goodIn_of _ (by decide +kernel)) ggX1_divide_X1_isWithin
set_option maxRecDepth 20000 in
theorem ggX1_divide_X0_divideRoundingUp : GoodIn wsX1_divide wsX0_divideRoundingUp := goodIn_r _ [20, 21, 22, 23, 24, 19, 25, 26, 27, 28, 29, 30, 31, 32, 33, 34, 35, 36, 37, 50, 51, 52] (by decide +kernel) (by decide +kernel)
set_option maxRecDepth 20000 in
theorem gX1_divide_X0_divideRoundingUp : GoodIn wsX1_divide (wsV RX1 145 RX0 yX0_divideRoundingUp wsX0_divideRoundingUp) := goodIn_app (goodIn_of _ (by decide +kernel)) ggX1_divide_X0_divideRoundingUp
theorem dX1_divide_0 : decode cX1_divide 0 = .ok (.aload_n 0, 1) := by decide +kernel
theorem dX1_divide_1 : decode cX1_divide 1 = .ok (.invokevirtual 137, 3) := by decide +kernel
theorem dX1_divide_4 : decode cX1_divide 4 = .ok (.iload_n 1, 1) := by decide +kernel
theorem dX1_divide_5 : decode cX1_divide 5 = .ok (.iconst 1, 1) := by decide +kernel
theorem dX1_divide_6 : decode cX1_divide 6 = .ok (.ldc 144, 2) := by decide +kernel
theorem dX1_divide_8 : decode cX1_divide 8 = .ok (.invokestatic 57, 3) := by decide +kernel
theorem dX1_divide_11 : decode cX1_divide 11 = .ok (.ifCond .ne 11, 3) := by decide +kernel
theorem dX1_divide_14 : decode cX1_divide 14 = .ok (.new 61, 3) := by decide +kernel
theorem dX1_divide_17 : decode cX1_divide 17 = .ok (.dup, 1) := by decide +kernel
theorem dX1_divide_18 : decode cX1_divide 18 = .ok (.invokespecial 63, 3) := by decide +kernel
theorem dX1_divide_21 : decode cX1_divide 21 = .ok (.athrow, 1) := by decide +kernel
theorem dX1_divide_22 : decode cX1_divide 22 = .ok (.aload_n 0, 1) := by decide +kernel
theorem dX1_divide_23 : decode cX1_divide 23 = .ok (.getfield 26, 3) := by decide +kernel
theorem dX1_divide_26 : decode cX1_divide 26 = .ok (.aload_n 0, 1) := by decide +kernel
theorem dX1_divide_27 : decode cX1_divide 27 = .ok (.getfield 29, 3) := by decide +kernel
theorem dX1_divide_30 : decode cX1_divide 30 = .ok (.iconst 1, 1) := by decide +kernel
theorem dX1_divide_31 : decode cX1_divide 31 = .ok (.isub, 1) := by decide +kernel
theorem dX1_divide_32 : decode cX1_divide 32 = .ok (.aaload, 1) := by decide +kernel
theorem dX1_divide_33 : decode cX1_divide 33 = .ok (.iload_n 1, 1) := by decide +kernel
theorem dX1_divide_34 : decode cX1_divide 34 = .ok (.invokevirtual 145, 3) := by decide +kernel
theorem dX1_divide_37 : decode cX1_divide 37 = .ok (.return_, 1) := by decide +kernel
set_option maxRecDepth 20000 in
theorem ggX1_saturate_X1_refuseEmptyStack : GoodIn wsX1_saturate wsX1_refuseEmptyStack := goodIn_ca (goodIn_r _ [7, 8, 9, 2, 32, 33, 34, 35, 36, 37, 38, 39, 40, 41, 42, 43] (by decide +kernel) (by decide +kernel)) (goodIn_sub (fun _ h => List.mem_cons_of_mem _ (List.mem_append_right _ h)) (by decide +kernel))
set_option maxRecDepth 20000 in
theorem gX1_saturate_X1_refuseEmptyStack : GoodIn wsX1_saturate (wsV RX1 137 RX1 yX1_refuseEmptyStack wsX1_refuseEmptyStack) := goodIn_app (goodIn_of _ (by decide +kernel)) ggX1_saturate_X1_refuseEmptyStack
set_option maxRecDepth 20000 in
theorem ggX1_saturate_X0_limitSizesToDegree : GoodIn wsX1_saturate wsX0_limitSizesToDegree := goodIn_r _ [14, 15, 16, 17, 18, 19, 20, 21, 22, 13, 23, 24, 25, 26, 27, 28, 29, 30, 31, 44, 45, 46] (by decide +kernel) (by decide +kernel)
set_option maxRecDepth 20000 in
theorem gX1_saturate_X0_limitSizesToDegree : GoodIn wsX1_saturate (wsV RX1 149 RX0 yX0_limitSizesToDegree wsX0_limitSizesToDegree) := goodIn_app (goodIn_of _ (by decide +kernel)) ggX1_saturate_X0_limitSizesToDegree
theorem dX1_saturate_0 : decode cX1_saturate 0 = .ok (.aload_n 0, 1) := by decide +kernel
theorem dX1_saturate_1 : decode cX1_saturate 1 = .ok (.invokevirtual 137, 3) := by decide +kernel
theorem dX1_saturate_4 : decode cX1_saturate 4 = .ok (.aload_n 0, 1) := by decide +kernel
theorem dX1_saturate_5 : decode cX1_saturate 5 = .ok (.getfield 26, 3) := by decide +kernel
theorem dX1_saturate_8 : decode cX1_saturate 8 = .ok (.aload_n 0, 1) := by decide +kernel
theorem dX1_saturate_9 : decode cX1_saturate 9 = .ok (.getfield 29, 3) := by decide +kernel
theorem dX1_saturate_12 : decode cX1_saturate 12 = .ok (.iconst 1, 1) := by decide +kernel
theorem dX1_saturate_13 : decode cX1_saturate 13 = .ok (.isub, 1) := by decide +kernel
theorem dX1_saturate_14 : decode cX1_saturate 14 = .ok (.aaload, 1) := by decide +kernel
theorem dX1_saturate_15 : decode cX1_saturate 15 = .ok (.invokevirtual 149, 3) := by decide +kernel
theorem dX1_saturate_18 : decode cX1_saturate 18 = .ok (.return_, 1) := by decide +kernel
set_option maxRecDepth 20000 in
theorem ggX1_weaken_X1_refuseEmptyStack : GoodIn wsX1_weaken wsX1_refuseEmptyStack := goodIn_ca (goodIn_r _ [9, 10, 11, 4, 36, 37, 38, 39, 40, 41, 42, 43, 44, 45, 46, 47] (by decide +kernel) (by decide +kernel)) (goodIn_sub (fun _ h => List.mem_cons_of_mem _ (List.mem_append_right _ h)) (by decide +kernel))
set_option maxRecDepth 20000 in
theorem gX1_weaken_X1_refuseEmptyStack : GoodIn wsX1_weaken (wsV RX1 137 RX1 yX1_refuseEmptyStack wsX1_refuseEmptyStack) := goodIn_app (goodIn_of _ (by decide +kernel)) ggX1_weaken_X1_refuseEmptyStack
set_option maxRecDepth 20000 in
theorem ggX1_weaken_X1_isVariable : GoodIn wsX1_weaken wsX1_isVariable := goodIn_r _ [14, 15, 16, 8, 17] (by decide +kernel) (by decide +kernel)
set_option maxRecDepth 20000 in
theorem gX1_weaken_X1_isVariable : GoodIn wsX1_weaken (va_wsS RX1 53 yX1_isVariable wsX1_isVariable) := goodIn_app (goodIn_of _ (by decide +kernel)) ggX1_weaken_X1_isVariable
set_option maxRecDepth 20000 in
theorem ggX1_weaken_X0_giveUp : GoodIn wsX1_weaken wsX0_giveUp := goodIn_r _ [22, 23, 24, 25, 26, 27, 28, 29, 30, 31, 21, 32, 33, 34, 35, 48, 49, 50] (by decide +kernel) (by decide +kernel)
set_option maxRecDepth 20000 in
theorem gX1_weaken_X0_giveUp : GoodIn wsX1_weaken (wsV RX1 152 RX0 yX0_giveUp wsX0_giveUp) := goodIn_app (goodIn_of _ (by decide +kernel)) ggX1_weaken_X0_giveUp
theorem dX1_weaken_0 : decode cX1_weaken 0 = .ok (.aload_n 0, 1) := by decide +kernel
theorem dX1_weaken_1 : decode cX1_weaken 1 = .ok (.invokevirtual 137, 3) := by decide +kernel
theorem dX1_weaken_4 : decode cX1_weaken 4 = .ok (.iload_n 1, 1) := by decide +kernel
theorem dX1_weaken_5 : decode cX1_weaken 5 = .ok (.invokestatic 53, 3) := by decide +kernel
theorem dX1_weaken_8 : decode cX1_weaken 8 = .ok (.ifCond .ne 11, 3) := by decide +kernel
theorem dX1_weaken_11 : decode cX1_weaken 11 = .ok (.new 99, 3) := by decide +kernel
theorem dX1_weaken_14 : decode cX1_weaken 14 = .ok (.dup, 1) := by decide +kernel
theorem dX1_weaken_15 : decode cX1_weaken 15 = .ok (.invokespecial 101, 3) := by decide +kernel
theorem dX1_weaken_18 : decode cX1_weaken 18 = .ok (.athrow, 1) := by decide +kernel
theorem dX1_weaken_19 : decode cX1_weaken 19 = .ok (.aload_n 0, 1) := by decide +kernel
theorem dX1_weaken_20 : decode cX1_weaken 20 = .ok (.getfield 26, 3) := by decide +kernel
theorem dX1_weaken_23 : decode cX1_weaken 23 = .ok (.aload_n 0, 1) := by decide +kernel
theorem dX1_weaken_24 : decode cX1_weaken 24 = .ok (.getfield 29, 3) := by decide +kernel
theorem dX1_weaken_27 : decode cX1_weaken 27 = .ok (.iconst 1, 1) := by decide +kernel
theorem dX1_weaken_28 : decode cX1_weaken 28 = .ok (.isub, 1) := by decide +kernel
theorem dX1_weaken_29 : decode cX1_weaken 29 = .ok (.aaload, 1) := by decide +kernel
theorem dX1_weaken_30 : decode cX1_weaken 30 = .ok (.iload_n 1, 1) := by decide +kernel
theorem dX1_weaken_31 : decode cX1_weaken 31 = .ok (.invokevirtual 152, 3) := by decide +kernel
theorem dX1_weaken_34 : decode cX1_weaken 34 = .ok (.return_, 1) := by decide +kernel
set_option maxRecDepth 20000 in
theorem ggX1_drop_X1_refuseEmptyStack : GoodIn wsX1_drop wsX1_refuseEmptyStack := goodIn_ca (goodIn_r _ [6, 7, 8, 1, 9, 10, 11, 12, 13, 14, 15, 16, 17, 18, 19, 20] (by decide +kernel) (by decide +kernel)) (goodIn_sub (fun _ h => List.mem_cons_of_mem _ (List.mem_append_right _ h)) (by decide +kernel))
set_option maxRecDepth 20000 in
theorem gX1_drop_X1_refuseEmptyStack : GoodIn wsX1_drop (wsV RX1 137 RX1 yX1_refuseEmptyStack wsX1_refuseEmptyStack) := goodIn_app (goodIn_of _ (by decide +kernel)) ggX1_drop_X1_refuseEmptyStack
theorem dX1_drop_0 : decode cX1_drop 0 = .ok (.aload_n 0, 1) := by decide +kernel
theorem dX1_drop_1 : decode cX1_drop 1 = .ok (.invokevirtual 137, 3) := by decide +kernel
theorem dX1_drop_4 : decode cX1_drop 4 = .ok (.aload_n 0, 1) := by decide +kernel
theorem dX1_drop_5 : decode cX1_drop 5 = .ok (.dup, 1) := by decide +kernel
theorem dX1_drop_6 : decode cX1_drop 6 = .ok (.getfield 29, 3) := by decide +kernel
theorem dX1_drop_9 : decode cX1_drop 9 = .ok (.iconst 1, 1) := by decide +kernel
theorem dX1_drop_10 : decode cX1_drop 10 = .ok (.isub, 1) := by decide +kernel
theorem dX1_drop_11 : decode cX1_drop 11 = .ok (.putfield 29, 3) := by decide +kernel
theorem dX1_drop_14 : decode cX1_drop 14 = .ok (.return_, 1) := by decide +kernel
set_option maxRecDepth 20000 in
theorem ggX1_top_X1_isQuestion : GoodIn wsX1_top wsX1_isQuestion := goodIn_r _ [8, 9, 10, 7, 11] (by decide +kernel) (by decide +kernel)
set_option maxRecDepth 20000 in
theorem gX1_top_X1_isQuestion : GoodIn wsX1_top (va_wsS RX1 102 yX1_isQuestion wsX1_isQuestion) := goodIn_app (goodIn_of _ (by decide +kernel)) ggX1_top_X1_isQuestion
set_option maxRecDepth 20000 in
theorem ggX1_top_X1_refuseEmptyStack : GoodIn wsX1_top wsX1_refuseEmptyStack := goodIn_ca (goodIn_r _ [15, 16, 17, 3, 25, 26, 27, 28, 29, 30, 31, 32, 33, 34, 35, 36] (by decide +kernel) (by decide +kernel)) (goodIn_sub (fun _ h => List.mem_cons_of_mem _ (List.mem_append_right _ h)) (by decide +kernel))
set_option maxRecDepth 20000 in
theorem gX1_top_X1_refuseEmptyStack : GoodIn wsX1_top (wsV RX1 137 RX1 yX1_refuseEmptyStack wsX1_refuseEmptyStack) := goodIn_app (goodIn_of _ (by decide +kernel)) ggX1_top_X1_refuseEmptyStack
set_option maxRecDepth 20000 in
theorem ggX1_top_X0_weightOrDegree : GoodIn wsX1_top wsX0_weightOrDegree := goodIn_r _ [22, 23, 24, 37, 38, 39] (by decide +kernel) (by decide +kernel)
set_option maxRecDepth 20000 in
theorem gX1_top_X0_weightOrDegree : GoodIn wsX1_top (wsV RX1 108 RX0 yX0_weightOrDegree wsX0_weightOrDegree) := goodIn_app (goodIn_of _ (by decide +kernel)) ggX1_top_X0_weightOrDegree
theorem dX1_top_0 : decode cX1_top 0 = .ok (.iload_n 1, 1) := by decide +kernel
theorem dX1_top_1 : decode cX1_top 1 = .ok (.invokestatic 102, 3) := by decide +kernel
theorem dX1_top_4 : decode cX1_top 4 = .ok (.ifCond .ne 11, 3) := by decide +kernel
theorem dX1_top_7 : decode cX1_top 7 = .ok (.new 61, 3) := by decide +kernel
theorem dX1_top_10 : decode cX1_top 10 = .ok (.dup, 1) := by decide +kernel
theorem dX1_top_11 : decode cX1_top 11 = .ok (.invokespecial 63, 3) := by decide +kernel
theorem dX1_top_14 : decode cX1_top 14 = .ok (.athrow, 1) := by decide +kernel
theorem dX1_top_15 : decode cX1_top 15 = .ok (.iload_n 1, 1) := by decide +kernel
theorem dX1_top_16 : decode cX1_top 16 = .ok (.bipush (-2), 2) := by decide +kernel
theorem dX1_top_18 : decode cX1_top 18 = .ok (.if_icmp .ne 8, 3) := by decide +kernel
theorem dX1_top_21 : decode cX1_top 21 = .ok (.aload_n 0, 1) := by decide +kernel
theorem dX1_top_22 : decode cX1_top 22 = .ok (.getfield 29, 3) := by decide +kernel
theorem dX1_top_25 : decode cX1_top 25 = .ok (.ireturn, 1) := by decide +kernel
theorem dX1_top_26 : decode cX1_top 26 = .ok (.aload_n 0, 1) := by decide +kernel
theorem dX1_top_27 : decode cX1_top 27 = .ok (.invokevirtual 137, 3) := by decide +kernel
theorem dX1_top_30 : decode cX1_top 30 = .ok (.aload_n 0, 1) := by decide +kernel
theorem dX1_top_31 : decode cX1_top 31 = .ok (.getfield 26, 3) := by decide +kernel
theorem dX1_top_34 : decode cX1_top 34 = .ok (.aload_n 0, 1) := by decide +kernel
theorem dX1_top_35 : decode cX1_top 35 = .ok (.getfield 29, 3) := by decide +kernel
theorem dX1_top_38 : decode cX1_top 38 = .ok (.iconst 1, 1) := by decide +kernel
theorem dX1_top_39 : decode cX1_top 39 = .ok (.isub, 1) := by decide +kernel
theorem dX1_top_40 : decode cX1_top 40 = .ok (.aaload, 1) := by decide +kernel
theorem dX1_top_41 : decode cX1_top 41 = .ok (.iload_n 1, 1) := by decide +kernel
theorem dX1_top_42 : decode cX1_top 42 = .ok (.invokevirtual 108, 3) := by decide +kernel
theorem dX1_top_45 : decode cX1_top 45 = .ok (.ireturn, 1) := by decide +kernel
set_option maxRecDepth 20000 in
theorem ggX1_learn_X1_refuseEmptyStack : GoodIn wsX1_learn wsX1_refuseEmptyStack := goodIn_ca (goodIn_r _ [9, 10, 11, 1, 35, 36, 37, 38, 39, 40, 41, 42, 43, 44, 45, 46] (by decide +kernel) (by decide +kernel)) (goodIn_sub (fun _ h => List.mem_cons_of_mem _ (List.mem_append_right _ h)) (by decide +kernel))
set_option maxRecDepth 20000 in
theorem gX1_learn_X1_refuseEmptyStack : GoodIn wsX1_learn (wsV RX1 137 RX1 yX1_refuseEmptyStack wsX1_refuseEmptyStack) := goodIn_app (goodIn_of _ (by decide +kernel)) ggX1_learn_X1_refuseEmptyStack
set_option maxRecDepth 20000 in
theorem ggX1_learn_X1_refuseFullStore : GoodIn wsX1_learn wsX1_refuseFullStore := goodIn_ca (goodIn_r _ [15, 10, 11, 16, 17, 18, 8, 19, 3, 35, 36, 37, 38, 39, 40, 41, 42, 43, 44, 45, 46] (by decide +kernel) (by decide +kernel)) (goodIn_sub (fun _ h => List.mem_cons_of_mem _ (List.mem_append_right _ h)) (by decide +kernel))
set_option maxRecDepth 20000 in
theorem gX1_learn_X1_refuseFullStore : GoodIn wsX1_learn (wsV RX1 155 RX1 yX1_refuseFullStore wsX1_refuseFullStore) := goodIn_app (goodIn_of _ (by decide +kernel)) ggX1_learn_X1_refuseFullStore
set_option maxRecDepth 20000 in
theorem ggX1_learn_X0_become : GoodIn wsX1_learn wsX0_become := goodIn_r _ [24, 25, 26, 27, 28, 29, 30, 47, 48, 49] (by decide +kernel) (by decide +kernel)
set_option maxRecDepth 20000 in
theorem gX1_learn_X0_become : GoodIn wsX1_learn (wsV RX1 122 RX0 yX0_become wsX0_become) := goodIn_app (goodIn_of _ (by decide +kernel)) ggX1_learn_X0_become
set_option maxRecDepth 20000 in
theorem ggX1_learn_X1_keepNext : GoodIn wsX1_learn wsX1_keepNext := goodIn_r _ [34, 2, 3, 35, 36, 37, 38, 39, 40, 41, 42, 43, 44, 45, 46, 47, 48, 49] (by decide +kernel) (by decide +kernel)
set_option maxRecDepth 20000 in
theorem gX1_learn_X1_keepNext : GoodIn wsX1_learn (wsV RX1 86 RX1 yX1_keepNext wsX1_keepNext) := goodIn_app (goodIn_of _ (by decide +kernel)) ggX1_learn_X1_keepNext
theorem dX1_learn_0 : decode cX1_learn 0 = .ok (.aload_n 0, 1) := by decide +kernel
theorem dX1_learn_1 : decode cX1_learn 1 = .ok (.invokevirtual 137, 3) := by decide +kernel
theorem dX1_learn_4 : decode cX1_learn 4 = .ok (.aload_n 0, 1) := by decide +kernel
theorem dX1_learn_5 : decode cX1_learn 5 = .ok (.invokevirtual 155, 3) := by decide +kernel
theorem dX1_learn_8 : decode cX1_learn 8 = .ok (.aload_n 0, 1) := by decide +kernel
theorem dX1_learn_9 : decode cX1_learn 9 = .ok (.dup, 1) := by decide +kernel
theorem dX1_learn_10 : decode cX1_learn 10 = .ok (.getfield 29, 3) := by decide +kernel
theorem dX1_learn_13 : decode cX1_learn 13 = .ok (.iconst 1, 1) := by decide +kernel
theorem dX1_learn_14 : decode cX1_learn 14 = .ok (.isub, 1) := by decide +kernel
theorem dX1_learn_15 : decode cX1_learn 15 = .ok (.putfield 29, 3) := by decide +kernel
theorem dX1_learn_18 : decode cX1_learn 18 = .ok (.aload_n 0, 1) := by decide +kernel
theorem dX1_learn_19 : decode cX1_learn 19 = .ok (.getfield 18, 3) := by decide +kernel
theorem dX1_learn_22 : decode cX1_learn 22 = .ok (.aload_n 0, 1) := by decide +kernel
theorem dX1_learn_23 : decode cX1_learn 23 = .ok (.getfield 22, 3) := by decide +kernel
theorem dX1_learn_26 : decode cX1_learn 26 = .ok (.aaload, 1) := by decide +kernel
theorem dX1_learn_27 : decode cX1_learn 27 = .ok (.aload_n 0, 1) := by decide +kernel
theorem dX1_learn_28 : decode cX1_learn 28 = .ok (.getfield 26, 3) := by decide +kernel
theorem dX1_learn_31 : decode cX1_learn 31 = .ok (.aload_n 0, 1) := by decide +kernel
theorem dX1_learn_32 : decode cX1_learn 32 = .ok (.getfield 29, 3) := by decide +kernel
theorem dX1_learn_35 : decode cX1_learn 35 = .ok (.aaload, 1) := by decide +kernel
theorem dX1_learn_36 : decode cX1_learn 36 = .ok (.invokevirtual 122, 3) := by decide +kernel
theorem dX1_learn_39 : decode cX1_learn 39 = .ok (.aload_n 0, 1) := by decide +kernel
theorem dX1_learn_40 : decode cX1_learn 40 = .ok (.iconst 0, 1) := by decide +kernel
theorem dX1_learn_41 : decode cX1_learn 41 = .ok (.invokevirtual 86, 3) := by decide +kernel
theorem dX1_learn_44 : decode cX1_learn 44 = .ok (.ireturn, 1) := by decide +kernel
set_option maxRecDepth 20000 in
theorem ggX1_contradict_X1_isWithin : GoodIn wsX1_contradict wsX1_isWithin := goodIn_r _ [9] (by decide +kernel) (by decide +kernel)
set_option maxRecDepth 20000 in
theorem gX1_contradict_X1_isWithin : GoodIn wsX1_contradict (va_wsS RX1 57 yX1_isWithin wsX1_isWithin) := goodIn_app (goodIn_of _ (by decide +kernel)) ggX1_contradict_X1_isWithin
set_option maxRecDepth 20000 in
theorem ggX1_contradict_X1_refuseFullStore : GoodIn wsX1_contradict wsX1_refuseFullStore := goodIn_ca (goodIn_r _ [13, 14, 15, 16, 17, 18, 8, 19, 4, 80, 81, 82, 83, 84, 85, 86, 87, 88, 89, 90, 91] (by decide +kernel) (by decide +kernel)) (goodIn_sub (fun _ h => List.mem_cons_of_mem _ (List.mem_append_right _ h)) (by decide +kernel))
set_option maxRecDepth 20000 in
theorem gX1_contradict_X1_refuseFullStore : GoodIn wsX1_contradict (wsV RX1 155 RX1 yX1_refuseFullStore wsX1_refuseFullStore) := goodIn_app (goodIn_of _ (by decide +kernel)) ggX1_contradict_X1_refuseFullStore
set_option maxRecDepth 20000 in
theorem ggX1_contradict_X0_becomeAtLeast : GoodIn wsX1_contradict wsX0_becomeAtLeast := goodIn_r _ [24, 25, 26, 27, 23, 28, 29, 30, 31, 32, 33, 34, 35, 36, 37, 38, 39, 40, 41, 92, 93, 94] (by decide +kernel) (by decide +kernel)
set_option maxRecDepth 20000 in
theorem gX1_contradict_X0_becomeAtLeast : GoodIn wsX1_contradict (wsV RX1 77 RX0 yX0_becomeAtLeast wsX0_becomeAtLeast) := goodIn_app (goodIn_of _ (by decide +kernel)) ggX1_contradict_X0_becomeAtLeast
set_option maxRecDepth 20000 in
theorem ggX1_contradict_X0_turnToContrary : GoodIn wsX1_contradict wsX0_turnToContrary := goodIn_r _ [45, 34, 30, 31, 32, 33, 29, 46, 47, 48, 23, 49, 35, 36, 37, 38, 39, 40, 41, 92, 93, 94] (by decide +kernel) (by decide +kernel)
set_option maxRecDepth 20000 in
theorem gX1_contradict_X0_turnToContrary : GoodIn wsX1_contradict (wsV RX1 158 RX0 yX0_turnToContrary wsX0_turnToContrary) := goodIn_app (goodIn_of _ (by decide +kernel)) ggX1_contradict_X0_turnToContrary
set_option maxRecDepth 20000 in
theorem ggX1_contradict_X1_closed : GoodIn wsX1_contradict wsX1_closed := goodIn_r _ [53, 3, 54, 55, 56, 23, 57, 58, 59, 60, 61, 34, 62, 8, 63, 64, 65, 66, 67, 29, 35, 36, 37, 38, 39, 40, 32, 41, 80, 81, 82, 83, 84, 85, 86, 87, 88, 89, 90, 91, 92, 93, 94] (by decide +kernel) (by decide +kernel)
set_option maxRecDepth 20000 in
theorem gX1_contradict_X1_closed : GoodIn wsX1_contradict (wsV RX1 115 RX1 yX1_closed wsX1_closed) := goodIn_app (goodIn_of _ (by decide +kernel)) ggX1_contradict_X1_closed
set_option maxRecDepth 20000 in
theorem ggX1_contradict_X1_clear : GoodIn wsX1_contradict wsX1_clear := goodIn_r _ [71, 5, 72, 73, 74, 75, 80, 81, 82, 83, 84, 85, 86, 87, 88, 89, 90, 91] (by decide +kernel) (by decide +kernel)
set_option maxRecDepth 20000 in
theorem gX1_contradict_X1_clear : GoodIn wsX1_contradict (wsV RX1 83 RX1 yX1_clear wsX1_clear) := goodIn_app (goodIn_of _ (by decide +kernel)) ggX1_contradict_X1_clear
set_option maxRecDepth 20000 in
theorem ggX1_contradict_X1_keepNext : GoodIn wsX1_contradict wsX1_keepNext := goodIn_r _ [79, 3, 4, 80, 81, 82, 83, 84, 85, 86, 87, 88, 89, 90, 91, 92, 93, 94] (by decide +kernel) (by decide +kernel)
set_option maxRecDepth 20000 in
theorem gX1_contradict_X1_keepNext : GoodIn wsX1_contradict (wsV RX1 86 RX1 yX1_keepNext wsX1_keepNext) := goodIn_app (goodIn_of _ (by decide +kernel)) ggX1_contradict_X1_keepNext
theorem dX1_contradict_0 : decode cX1_contradict 0 = .ok (.iload_n 1, 1) := by decide +kernel
theorem dX1_contradict_1 : decode cX1_contradict 1 = .ok (.sipush (-9999), 3) := by decide +kernel
theorem dX1_contradict_4 : decode cX1_contradict 4 = .ok (.sipush 9999, 3) := by decide +kernel
theorem dX1_contradict_7 : decode cX1_contradict 7 = .ok (.invokestatic 57, 3) := by decide +kernel
theorem dX1_contradict_10 : decode cX1_contradict 10 = .ok (.ifCond .ne 11, 3) := by decide +kernel
theorem dX1_contradict_13 : decode cX1_contradict 13 = .ok (.new 61, 3) := by decide +kernel
theorem dX1_contradict_16 : decode cX1_contradict 16 = .ok (.dup, 1) := by decide +kernel
theorem dX1_contradict_17 : decode cX1_contradict 17 = .ok (.invokespecial 63, 3) := by decide +kernel
theorem dX1_contradict_20 : decode cX1_contradict 20 = .ok (.athrow, 1) := by decide +kernel
theorem dX1_contradict_21 : decode cX1_contradict 21 = .ok (.aload_n 0, 1) := by decide +kernel
theorem dX1_contradict_22 : decode cX1_contradict 22 = .ok (.invokevirtual 155, 3) := by decide +kernel
theorem dX1_contradict_25 : decode cX1_contradict 25 = .ok (.aload_n 0, 1) := by decide +kernel
theorem dX1_contradict_26 : decode cX1_contradict 26 = .ok (.getfield 18, 3) := by decide +kernel
theorem dX1_contradict_29 : decode cX1_contradict 29 = .ok (.aload_n 0, 1) := by decide +kernel
theorem dX1_contradict_30 : decode cX1_contradict 30 = .ok (.getfield 22, 3) := by decide +kernel
theorem dX1_contradict_33 : decode cX1_contradict 33 = .ok (.aaload, 1) := by decide +kernel
theorem dX1_contradict_34 : decode cX1_contradict 34 = .ok (.aload_n 0, 1) := by decide +kernel
theorem dX1_contradict_35 : decode cX1_contradict 35 = .ok (.getfield 9, 3) := by decide +kernel
theorem dX1_contradict_38 : decode cX1_contradict 38 = .ok (.iload_n 1, 1) := by decide +kernel
theorem dX1_contradict_39 : decode cX1_contradict 39 = .ok (.invokevirtual 77, 3) := by decide +kernel
theorem dX1_contradict_42 : decode cX1_contradict 42 = .ok (.aload_n 0, 1) := by decide +kernel
theorem dX1_contradict_43 : decode cX1_contradict 43 = .ok (.getfield 18, 3) := by decide +kernel
theorem dX1_contradict_46 : decode cX1_contradict 46 = .ok (.aload_n 0, 1) := by decide +kernel
theorem dX1_contradict_47 : decode cX1_contradict 47 = .ok (.getfield 22, 3) := by decide +kernel
theorem dX1_contradict_50 : decode cX1_contradict 50 = .ok (.aaload, 1) := by decide +kernel
theorem dX1_contradict_51 : decode cX1_contradict 51 = .ok (.invokevirtual 158, 3) := by decide +kernel
theorem dX1_contradict_54 : decode cX1_contradict 54 = .ok (.aload_n 0, 1) := by decide +kernel
theorem dX1_contradict_55 : decode cX1_contradict 55 = .ok (.iconst 0, 1) := by decide +kernel
theorem dX1_contradict_56 : decode cX1_contradict 56 = .ok (.aload_n 0, 1) := by decide +kernel
theorem dX1_contradict_57 : decode cX1_contradict 57 = .ok (.getfield 22, 3) := by decide +kernel
theorem dX1_contradict_60 : decode cX1_contradict 60 = .ok (.iconst 1, 1) := by decide +kernel
theorem dX1_contradict_61 : decode cX1_contradict 61 = .ok (.iadd, 1) := by decide +kernel
theorem dX1_contradict_62 : decode cX1_contradict 62 = .ok (.invokevirtual 115, 3) := by decide +kernel
theorem dX1_contradict_65 : decode cX1_contradict 65 = .ok (.iconst (-1), 1) := by decide +kernel
theorem dX1_contradict_66 : decode cX1_contradict 66 = .ok (.if_icmp .eq 5, 3) := by decide +kernel
theorem dX1_contradict_69 : decode cX1_contradict 69 = .ok (.iconst (-1), 1) := by decide +kernel
theorem dX1_contradict_70 : decode cX1_contradict 70 = .ok (.ireturn, 1) := by decide +kernel
theorem dX1_contradict_71 : decode cX1_contradict 71 = .ok (.aload_n 0, 1) := by decide +kernel
theorem dX1_contradict_72 : decode cX1_contradict 72 = .ok (.getfield 18, 3) := by decide +kernel
theorem dX1_contradict_75 : decode cX1_contradict 75 = .ok (.aload_n 0, 1) := by decide +kernel
theorem dX1_contradict_76 : decode cX1_contradict 76 = .ok (.getfield 22, 3) := by decide +kernel
theorem dX1_contradict_79 : decode cX1_contradict 79 = .ok (.aaload, 1) := by decide +kernel
theorem dX1_contradict_80 : decode cX1_contradict 80 = .ok (.aload_n 0, 1) := by decide +kernel
theorem dX1_contradict_81 : decode cX1_contradict 81 = .ok (.getfield 9, 3) := by decide +kernel
theorem dX1_contradict_84 : decode cX1_contradict 84 = .ok (.iload_n 1, 1) := by decide +kernel
theorem dX1_contradict_85 : decode cX1_contradict 85 = .ok (.invokevirtual 77, 3) := by decide +kernel
theorem dX1_contradict_88 : decode cX1_contradict 88 = .ok (.aload_n 0, 1) := by decide +kernel
theorem dX1_contradict_89 : decode cX1_contradict 89 = .ok (.invokevirtual 83, 3) := by decide +kernel
theorem dX1_contradict_92 : decode cX1_contradict 92 = .ok (.aload_n 0, 1) := by decide +kernel
theorem dX1_contradict_93 : decode cX1_contradict 93 = .ok (.iconst 0, 1) := by decide +kernel
theorem dX1_contradict_94 : decode cX1_contradict 94 = .ok (.invokevirtual 86, 3) := by decide +kernel
theorem dX1_contradict_97 : decode cX1_contradict 97 = .ok (.ireturn, 1) := by decide +kernel
set_option maxRecDepth 20000 in
theorem ggX1_found_X1_isChoice : GoodIn wsX1_found wsX1_isChoice := goodIn_r _ [11, 12, 13, 10, 14] (by decide +kernel) (by decide +kernel)
set_option maxRecDepth 20000 in
theorem gX1_found_X1_isChoice : GoodIn wsX1_found (va_wsS RX1 112 yX1_isChoice wsX1_isChoice) := goodIn_app (goodIn_of _ (by decide +kernel)) ggX1_found_X1_isChoice
set_option maxRecDepth 20000 in
theorem ggX1_found_X1_refuseFullStore : GoodIn wsX1_found wsX1_refuseFullStore := goodIn_ca (goodIn_r _ [18, 19, 20, 21, 22, 23, 10, 24, 6, 78, 79, 80, 81, 82, 83, 84, 85, 86, 87, 88, 89] (by decide +kernel) (by decide +kernel)) (goodIn_sub (fun _ h => List.mem_cons_of_mem _ (List.mem_append_right _ h)) (by decide +kernel))
set_option maxRecDepth 20000 in
theorem gX1_found_X1_refuseFullStore : GoodIn wsX1_found (wsV RX1 155 RX1 yX1_refuseFullStore wsX1_refuseFullStore) := goodIn_app (goodIn_of _ (by decide +kernel)) ggX1_found_X1_refuseFullStore
set_option maxRecDepth 20000 in
theorem ggX1_found_X1_meetsStore : GoodIn wsX1_found wsX1_meetsStore := goodIn_r _ [28, 6, 5, 29, 30, 31, 32, 33, 34, 35, 36, 37, 38, 39, 10, 40, 41, 42, 43, 44, 45, 46, 47, 48, 49, 50, 51, 52, 53, 78, 79, 80, 81, 82, 83, 84, 85, 86, 87, 88, 89, 90, 91, 92] (by decide +kernel) (by decide +kernel)
set_option maxRecDepth 20000 in
theorem gX1_found_X1_meetsStore : GoodIn wsX1_found (wsV RX1 161 RX1 yX1_meetsStore wsX1_meetsStore) := goodIn_app (goodIn_of _ (by decide +kernel)) ggX1_found_X1_meetsStore
set_option maxRecDepth 20000 in
theorem ggX1_found_X1_objectiveValue : GoodIn wsX1_found wsX1_objectiveValue := goodIn_r _ [57, 7, 58, 39, 10, 40, 78, 79, 80, 81, 82, 83, 84, 85, 86, 87, 88, 89] (by decide +kernel) (by decide +kernel)
set_option maxRecDepth 20000 in
theorem gX1_found_X1_objectiveValue : GoodIn wsX1_found (wsV RX1 165 RX1 yX1_objectiveValue wsX1_objectiveValue) := goodIn_app (goodIn_of _ (by decide +kernel)) ggX1_found_X1_objectiveValue
set_option maxRecDepth 20000 in
theorem ggX1_found_X1_hasObjective : GoodIn wsX1_found wsX1_hasObjective := goodIn_r _ [62, 7, 78, 79, 80, 81, 82, 83, 84, 85, 86, 87, 88, 89] (by decide +kernel) (by decide +kernel)
set_option maxRecDepth 20000 in
theorem gX1_found_X1_hasObjective : GoodIn wsX1_found (wsV RX1 168 RX1 yX1_hasObjective wsX1_hasObjective) := goodIn_app (goodIn_of _ (by decide +kernel)) ggX1_found_X1_hasObjective
set_option maxRecDepth 20000 in
theorem ggX1_found_X0_becomeAtMost : GoodIn wsX1_found wsX0_becomeAtMost := goodIn_r _ [66, 67, 68, 69, 32, 70, 45, 71, 72, 52, 73, 38, 46, 47, 48, 49, 50, 51, 53, 90, 91, 92] (by decide +kernel) (by decide +kernel)
set_option maxRecDepth 20000 in
theorem gX1_found_X0_becomeAtMost : GoodIn wsX1_found (wsV RX1 80 RX0 yX0_becomeAtMost wsX0_becomeAtMost) := goodIn_app (goodIn_of _ (by decide +kernel)) ggX1_found_X0_becomeAtMost
set_option maxRecDepth 20000 in
theorem ggX1_found_X1_keepNext : GoodIn wsX1_found wsX1_keepNext := goodIn_r _ [77, 5, 6, 78, 79, 80, 81, 82, 83, 84, 85, 86, 87, 88, 89, 90, 91, 92] (by decide +kernel) (by decide +kernel)
set_option maxRecDepth 20000 in
theorem gX1_found_X1_keepNext : GoodIn wsX1_found (wsV RX1 86 RX1 yX1_keepNext wsX1_keepNext) := goodIn_app (goodIn_of _ (by decide +kernel)) ggX1_found_X1_keepNext
theorem dX1_found_0 : decode cX1_found 0 = .ok (.iload_n 1, 1) := by decide +kernel
theorem dX1_found_1 : decode cX1_found 1 = .ok (.invokestatic 112, 3) := by decide +kernel
theorem dX1_found_4 : decode cX1_found 4 = .ok (.ifCond .ne 11, 3) := by decide +kernel
theorem dX1_found_7 : decode cX1_found 7 = .ok (.new 61, 3) := by decide +kernel
theorem dX1_found_10 : decode cX1_found 10 = .ok (.dup, 1) := by decide +kernel
theorem dX1_found_11 : decode cX1_found 11 = .ok (.invokespecial 63, 3) := by decide +kernel
theorem dX1_found_14 : decode cX1_found 14 = .ok (.athrow, 1) := by decide +kernel
theorem dX1_found_15 : decode cX1_found 15 = .ok (.aload_n 0, 1) := by decide +kernel
theorem dX1_found_16 : decode cX1_found 16 = .ok (.invokevirtual 155, 3) := by decide +kernel
theorem dX1_found_19 : decode cX1_found 19 = .ok (.aload_n 0, 1) := by decide +kernel
theorem dX1_found_20 : decode cX1_found 20 = .ok (.iload_n 1, 1) := by decide +kernel
theorem dX1_found_21 : decode cX1_found 21 = .ok (.iconst 0, 1) := by decide +kernel
theorem dX1_found_22 : decode cX1_found 22 = .ok (.invokevirtual 161, 3) := by decide +kernel
theorem dX1_found_25 : decode cX1_found 25 = .ok (.ifCond .ne 5, 3) := by decide +kernel
theorem dX1_found_28 : decode cX1_found 28 = .ok (.iconst 0, 1) := by decide +kernel
theorem dX1_found_29 : decode cX1_found 29 = .ok (.ireturn, 1) := by decide +kernel
theorem dX1_found_30 : decode cX1_found 30 = .ok (.aload_n 0, 1) := by decide +kernel
theorem dX1_found_31 : decode cX1_found 31 = .ok (.iconst 1, 1) := by decide +kernel
theorem dX1_found_32 : decode cX1_found 32 = .ok (.putfield 37, 3) := by decide +kernel
theorem dX1_found_35 : decode cX1_found 35 = .ok (.aload_n 0, 1) := by decide +kernel
theorem dX1_found_36 : decode cX1_found 36 = .ok (.aload_n 0, 1) := by decide +kernel
theorem dX1_found_37 : decode cX1_found 37 = .ok (.iload_n 1, 1) := by decide +kernel
theorem dX1_found_38 : decode cX1_found 38 = .ok (.invokevirtual 165, 3) := by decide +kernel
theorem dX1_found_41 : decode cX1_found 41 = .ok (.putfield 41, 3) := by decide +kernel
theorem dX1_found_44 : decode cX1_found 44 = .ok (.aload_n 0, 1) := by decide +kernel
theorem dX1_found_45 : decode cX1_found 45 = .ok (.invokevirtual 168, 3) := by decide +kernel
theorem dX1_found_48 : decode cX1_found 48 = .ok (.ifCond .eq 31, 3) := by decide +kernel
theorem dX1_found_51 : decode cX1_found 51 = .ok (.aload_n 0, 1) := by decide +kernel
theorem dX1_found_52 : decode cX1_found 52 = .ok (.getfield 18, 3) := by decide +kernel
theorem dX1_found_55 : decode cX1_found 55 = .ok (.aload_n 0, 1) := by decide +kernel
theorem dX1_found_56 : decode cX1_found 56 = .ok (.getfield 22, 3) := by decide +kernel
theorem dX1_found_59 : decode cX1_found 59 = .ok (.aaload, 1) := by decide +kernel
theorem dX1_found_60 : decode cX1_found 60 = .ok (.aload_n 0, 1) := by decide +kernel
theorem dX1_found_61 : decode cX1_found 61 = .ok (.getfield 13, 3) := by decide +kernel
theorem dX1_found_64 : decode cX1_found 64 = .ok (.aload_n 0, 1) := by decide +kernel
theorem dX1_found_65 : decode cX1_found 65 = .ok (.getfield 41, 3) := by decide +kernel
theorem dX1_found_68 : decode cX1_found 68 = .ok (.iconst 1, 1) := by decide +kernel
theorem dX1_found_69 : decode cX1_found 69 = .ok (.isub, 1) := by decide +kernel
theorem dX1_found_70 : decode cX1_found 70 = .ok (.invokevirtual 80, 3) := by decide +kernel
theorem dX1_found_73 : decode cX1_found 73 = .ok (.aload_n 0, 1) := by decide +kernel
theorem dX1_found_74 : decode cX1_found 74 = .ok (.iconst 0, 1) := by decide +kernel
theorem dX1_found_75 : decode cX1_found 75 = .ok (.invokevirtual 86, 3) := by decide +kernel
theorem dX1_found_78 : decode cX1_found 78 = .ok (.pop, 1) := by decide +kernel
theorem dX1_found_79 : decode cX1_found 79 = .ok (.iconst 1, 1) := by decide +kernel
theorem dX1_found_80 : decode cX1_found 80 = .ok (.ireturn, 1) := by decide +kernel
set_option maxRecDepth 20000 in
theorem ggX1_verdict_X1_hasVoid : GoodIn wsX1_verdict wsX1_hasVoid := goodIn_r _ [6, 7, 8, 9, 10, 11, 12, 13, 14, 15, 16, 17, 18, 19, 20, 21, 22, 23, 24, 25, 26, 27, 33, 34, 35, 36, 37, 38, 39, 40, 41, 42, 43, 44, 45, 46, 47] (by decide +kernel) (by decide +kernel)
set_option maxRecDepth 20000 in
theorem gX1_verdict_X1_hasVoid : GoodIn wsX1_verdict (wsV RX1 171 RX1 yX1_hasVoid wsX1_hasVoid) := goodIn_app (goodIn_of _ (by decide +kernel)) ggX1_verdict_X1_hasVoid
set_option maxRecDepth 20000 in
theorem ggX1_verdict_X1_hasObjective : GoodIn wsX1_verdict wsX1_hasObjective := goodIn_r _ [31, 32, 33, 34, 35, 36, 37, 38, 39, 40, 41, 42, 43, 44] (by decide +kernel) (by decide +kernel)
set_option maxRecDepth 20000 in
theorem gX1_verdict_X1_hasObjective : GoodIn wsX1_verdict (wsV RX1 168 RX1 yX1_hasObjective wsX1_hasObjective) := goodIn_app (goodIn_of _ (by decide +kernel)) ggX1_verdict_X1_hasObjective
theorem dX1_verdict_0 : decode cX1_verdict 0 = .ok (.aload_n 0, 1) := by decide +kernel
theorem dX1_verdict_1 : decode cX1_verdict 1 = .ok (.invokevirtual 171, 3) := by decide +kernel
theorem dX1_verdict_4 : decode cX1_verdict 4 = .ok (.ifCond .eq 16, 3) := by decide +kernel
theorem dX1_verdict_7 : decode cX1_verdict 7 = .ok (.aload_n 0, 1) := by decide +kernel
theorem dX1_verdict_8 : decode cX1_verdict 8 = .ok (.getfield 37, 3) := by decide +kernel
theorem dX1_verdict_11 : decode cX1_verdict 11 = .ok (.ifCond .eq 7, 3) := by decide +kernel
theorem dX1_verdict_14 : decode cX1_verdict 14 = .ok (.iconst 2, 1) := by decide +kernel
theorem dX1_verdict_15 : decode cX1_verdict 15 = .ok (.goto 4, 3) := by decide +kernel
theorem dX1_verdict_18 : decode cX1_verdict 18 = .ok (.iconst 1, 1) := by decide +kernel
theorem dX1_verdict_19 : decode cX1_verdict 19 = .ok (.ireturn, 1) := by decide +kernel
theorem dX1_verdict_20 : decode cX1_verdict 20 = .ok (.aload_n 0, 1) := by decide +kernel
theorem dX1_verdict_21 : decode cX1_verdict 21 = .ok (.getfield 37, 3) := by decide +kernel
theorem dX1_verdict_24 : decode cX1_verdict 24 = .ok (.ifCond .eq 14, 3) := by decide +kernel
theorem dX1_verdict_27 : decode cX1_verdict 27 = .ok (.aload_n 0, 1) := by decide +kernel
theorem dX1_verdict_28 : decode cX1_verdict 28 = .ok (.invokevirtual 168, 3) := by decide +kernel
theorem dX1_verdict_31 : decode cX1_verdict 31 = .ok (.ifCond .ne 7, 3) := by decide +kernel
theorem dX1_verdict_34 : decode cX1_verdict 34 = .ok (.iconst 3, 1) := by decide +kernel
theorem dX1_verdict_35 : decode cX1_verdict 35 = .ok (.goto 4, 3) := by decide +kernel
theorem dX1_verdict_38 : decode cX1_verdict 38 = .ok (.iconst 0, 1) := by decide +kernel
theorem dX1_verdict_39 : decode cX1_verdict 39 = .ok (.ireturn, 1) := by decide +kernel
theorem dX1_best_0 : decode cX1_best 0 = .ok (.aload_n 0, 1) := by decide +kernel
theorem dX1_best_1 : decode cX1_best 1 = .ok (.getfield 37, 3) := by decide +kernel
theorem dX1_best_4 : decode cX1_best 4 = .ok (.ifCond .ne 11, 3) := by decide +kernel
theorem dX1_best_7 : decode cX1_best 7 = .ok (.new 99, 3) := by decide +kernel
theorem dX1_best_10 : decode cX1_best 10 = .ok (.dup, 1) := by decide +kernel
theorem dX1_best_11 : decode cX1_best 11 = .ok (.invokespecial 101, 3) := by decide +kernel
theorem dX1_best_14 : decode cX1_best 14 = .ok (.athrow, 1) := by decide +kernel
theorem dX1_best_15 : decode cX1_best 15 = .ok (.aload_n 0, 1) := by decide +kernel
theorem dX1_best_16 : decode cX1_best 16 = .ok (.getfield 41, 3) := by decide +kernel
theorem dX1_best_19 : decode cX1_best 19 = .ok (.ireturn, 1) := by decide +kernel
set_option maxRecDepth 20000 in
theorem ggX1_solve_X1_objectiveValue : GoodIn wsX1_solve wsX1_objectiveValue := goodIn_r _ [8, 9, 10, 11, 7, 12, 49, 50, 51, 52, 53, 54, 55, 56, 57, 58, 59, 60] (by decide +kernel) (by decide +kernel)
set_option maxRecDepth 20000 in
theorem gX1_solve_X1_objectiveValue : GoodIn wsX1_solve (wsV RX1 165 RX1 yX1_objectiveValue wsX1_objectiveValue) := goodIn_app (goodIn_of _ (by decide +kernel)) ggX1_solve_X1_objectiveValue
set_option maxRecDepth 20000 in
theorem ggX1_solve_X1_isPreferred : GoodIn wsX1_solve wsX1_isPreferred := goodIn_r _ [16, 1, 2, 3, 17, 18, 7, 19, 49, 50, 51, 52, 53, 54, 55, 56, 57, 58, 59, 60] (by decide +kernel) (by decide +kernel)
set_option maxRecDepth 20000 in
theorem gX1_solve_X1_isPreferred : GoodIn wsX1_solve (wsV RX1 174 RX1 yX1_isPreferred wsX1_isPreferred) := goodIn_app (goodIn_of _ (by decide +kernel)) ggX1_solve_X1_isPreferred
set_option maxRecDepth 20000 in
theorem ggX1_solve_X1_meetsStore : GoodIn wsX1_solve wsX1_meetsStore := goodIn_r _ [23, 24, 25, 26, 27, 28, 29, 30, 31, 32, 33, 34, 35, 11, 7, 12, 36, 37, 38, 39, 40, 41, 42, 43, 44, 45, 46, 47, 48, 49, 50, 51, 52, 53, 54, 55, 56, 57, 58, 59, 60, 61, 62, 63] (by decide +kernel) (by decide +kernel)
set_option maxRecDepth 20000 in
theorem gX1_solve_X1_meetsStore : GoodIn wsX1_solve (wsV RX1 161 RX1 yX1_meetsStore wsX1_meetsStore) := goodIn_app (goodIn_of _ (by decide +kernel)) ggX1_solve_X1_meetsStore
theorem dX1_solve_0 : decode cX1_solve 0 = .ok (.aload_n 0, 1) := by decide +kernel
theorem dX1_solve_1 : decode cX1_solve 1 = .ok (.iconst 0, 1) := by decide +kernel
theorem dX1_solve_2 : decode cX1_solve 2 = .ok (.putfield 44, 3) := by decide +kernel
theorem dX1_solve_5 : decode cX1_solve 5 = .ok (.iconst 0, 1) := by decide +kernel
theorem dX1_solve_6 : decode cX1_solve 6 = .ok (.istore_n 1, 1) := by decide +kernel
theorem dX1_solve_7 : decode cX1_solve 7 = .ok (.iload_n 1, 1) := by decide +kernel
theorem dX1_solve_8 : decode cX1_solve 8 = .ok (.sipush 1024, 3) := by decide +kernel
theorem dX1_solve_11 : decode cX1_solve 11 = .ok (.if_icmp .ge 48, 3) := by decide +kernel
theorem dX1_solve_14 : decode cX1_solve 14 = .ok (.aload_n 0, 1) := by decide +kernel
theorem dX1_solve_15 : decode cX1_solve 15 = .ok (.iload_n 1, 1) := by decide +kernel
theorem dX1_solve_16 : decode cX1_solve 16 = .ok (.invokevirtual 165, 3) := by decide +kernel
theorem dX1_solve_19 : decode cX1_solve 19 = .ok (.istore_n 2, 1) := by decide +kernel
theorem dX1_solve_20 : decode cX1_solve 20 = .ok (.aload_n 0, 1) := by decide +kernel
theorem dX1_solve_21 : decode cX1_solve 21 = .ok (.iload_n 1, 1) := by decide +kernel
theorem dX1_solve_22 : decode cX1_solve 22 = .ok (.iload_n 2, 1) := by decide +kernel
theorem dX1_solve_23 : decode cX1_solve 23 = .ok (.invokevirtual 174, 3) := by decide +kernel
theorem dX1_solve_26 : decode cX1_solve 26 = .ok (.ifCond .eq 27, 3) := by decide +kernel
theorem dX1_solve_29 : decode cX1_solve 29 = .ok (.aload_n 0, 1) := by decide +kernel
theorem dX1_solve_30 : decode cX1_solve 30 = .ok (.iload_n 1, 1) := by decide +kernel
theorem dX1_solve_31 : decode cX1_solve 31 = .ok (.iconst 1, 1) := by decide +kernel
theorem dX1_solve_32 : decode cX1_solve 32 = .ok (.invokevirtual 161, 3) := by decide +kernel
theorem dX1_solve_35 : decode cX1_solve 35 = .ok (.ifCond .eq 18, 3) := by decide +kernel
theorem dX1_solve_38 : decode cX1_solve 38 = .ok (.aload_n 0, 1) := by decide +kernel
theorem dX1_solve_39 : decode cX1_solve 39 = .ok (.iconst 1, 1) := by decide +kernel
theorem dX1_solve_40 : decode cX1_solve 40 = .ok (.putfield 44, 3) := by decide +kernel
theorem dX1_solve_43 : decode cX1_solve 43 = .ok (.aload_n 0, 1) := by decide +kernel
theorem dX1_solve_44 : decode cX1_solve 44 = .ok (.iload_n 2, 1) := by decide +kernel
theorem dX1_solve_45 : decode cX1_solve 45 = .ok (.putfield 47, 3) := by decide +kernel
theorem dX1_solve_48 : decode cX1_solve 48 = .ok (.aload_n 0, 1) := by decide +kernel
theorem dX1_solve_49 : decode cX1_solve 49 = .ok (.iload_n 1, 1) := by decide +kernel
theorem dX1_solve_50 : decode cX1_solve 50 = .ok (.putfield 50, 3) := by decide +kernel
theorem dX1_solve_53 : decode cX1_solve 53 = .ok (.iinc 1 1, 3) := by decide +kernel
theorem dX1_solve_56 : decode cX1_solve 56 = .ok (.goto (-49), 3) := by decide +kernel
theorem dX1_solve_59 : decode cX1_solve 59 = .ok (.aload_n 0, 1) := by decide +kernel
theorem dX1_solve_60 : decode cX1_solve 60 = .ok (.getfield 44, 3) := by decide +kernel
theorem dX1_solve_63 : decode cX1_solve 63 = .ok (.ifCond .eq 7, 3) := by decide +kernel
theorem dX1_solve_66 : decode cX1_solve 66 = .ok (.iconst 1, 1) := by decide +kernel
theorem dX1_solve_67 : decode cX1_solve 67 = .ok (.goto 4, 3) := by decide +kernel
theorem dX1_solve_70 : decode cX1_solve 70 = .ok (.iconst 0, 1) := by decide +kernel
theorem dX1_solve_71 : decode cX1_solve 71 = .ok (.ireturn, 1) := by decide +kernel
set_option maxRecDepth 20000 in
theorem ggX1_least_X1_refuseUnsolved : GoodIn wsX1_least wsX1_refuseUnsolved := goodIn_ca (goodIn_r _ [6, 7, 8, 9, 10, 11, 12, 13, 14, 15, 16, 17, 18, 19, 20, 21] (by decide +kernel) (by decide +kernel)) (goodIn_sub (fun _ h => List.mem_cons_of_mem _ (List.mem_append_right _ h)) (by decide +kernel))
set_option maxRecDepth 20000 in
theorem gX1_least_X1_refuseUnsolved : GoodIn wsX1_least (wsV RX1 178 RX1 yX1_refuseUnsolved wsX1_refuseUnsolved) := goodIn_app (goodIn_of _ (by decide +kernel)) ggX1_least_X1_refuseUnsolved
theorem dX1_least_0 : decode cX1_least 0 = .ok (.aload_n 0, 1) := by decide +kernel
theorem dX1_least_1 : decode cX1_least 1 = .ok (.invokevirtual 178, 3) := by decide +kernel
theorem dX1_least_4 : decode cX1_least 4 = .ok (.aload_n 0, 1) := by decide +kernel
theorem dX1_least_5 : decode cX1_least 5 = .ok (.getfield 47, 3) := by decide +kernel
theorem dX1_least_8 : decode cX1_least 8 = .ok (.ireturn, 1) := by decide +kernel
set_option maxRecDepth 20000 in
theorem ggX1_value_X1_refuseUnsolved : GoodIn wsX1_value wsX1_refuseUnsolved := goodIn_ca (goodIn_r _ [8, 9, 10, 11, 21, 22, 23, 24, 25, 26, 27, 28, 29, 30, 31, 32] (by decide +kernel) (by decide +kernel)) (goodIn_sub (fun _ h => List.mem_cons_of_mem _ (List.mem_append_right _ h)) (by decide +kernel))
set_option maxRecDepth 20000 in
theorem gX1_value_X1_refuseUnsolved : GoodIn wsX1_value (wsV RX1 178 RX1 yX1_refuseUnsolved wsX1_refuseUnsolved) := goodIn_app (goodIn_of _ (by decide +kernel)) ggX1_value_X1_refuseUnsolved
set_option maxRecDepth 20000 in
theorem ggX1_value_X1_isVariable : GoodIn wsX1_value wsX1_isVariable := goodIn_r _ [14, 15, 16, 7, 17] (by decide +kernel) (by decide +kernel)
set_option maxRecDepth 20000 in
theorem gX1_value_X1_isVariable : GoodIn wsX1_value (va_wsS RX1 53 yX1_isVariable wsX1_isVariable) := goodIn_app (goodIn_of _ (by decide +kernel)) ggX1_value_X1_isVariable
set_option maxRecDepth 20000 in
theorem ggX1_value_X1_bit : GoodIn wsX1_value wsX1_bit := goodIn_r _ [20] (by decide +kernel) (by decide +kernel)
set_option maxRecDepth 20000 in
theorem gX1_value_X1_bit : GoodIn wsX1_value (va_wsS RX1 181 yX1_bit wsX1_bit) := goodIn_app (goodIn_of _ (by decide +kernel)) ggX1_value_X1_bit
theorem dX1_value_0 : decode cX1_value 0 = .ok (.aload_n 0, 1) := by decide +kernel
theorem dX1_value_1 : decode cX1_value 1 = .ok (.invokevirtual 178, 3) := by decide +kernel
theorem dX1_value_4 : decode cX1_value 4 = .ok (.iload_n 1, 1) := by decide +kernel
theorem dX1_value_5 : decode cX1_value 5 = .ok (.invokestatic 53, 3) := by decide +kernel
theorem dX1_value_8 : decode cX1_value 8 = .ok (.ifCond .ne 11, 3) := by decide +kernel
theorem dX1_value_11 : decode cX1_value 11 = .ok (.new 61, 3) := by decide +kernel
theorem dX1_value_14 : decode cX1_value 14 = .ok (.dup, 1) := by decide +kernel
theorem dX1_value_15 : decode cX1_value 15 = .ok (.invokespecial 63, 3) := by decide +kernel
theorem dX1_value_18 : decode cX1_value 18 = .ok (.athrow, 1) := by decide +kernel
theorem dX1_value_19 : decode cX1_value 19 = .ok (.aload_n 0, 1) := by decide +kernel
theorem dX1_value_20 : decode cX1_value 20 = .ok (.getfield 50, 3) := by decide +kernel
theorem dX1_value_23 : decode cX1_value 23 = .ok (.iload_n 1, 1) := by decide +kernel
theorem dX1_value_24 : decode cX1_value 24 = .ok (.invokestatic 181, 3) := by decide +kernel
theorem dX1_value_27 : decode cX1_value 27 = .ok (.ireturn, 1) := by decide +kernel
set_option maxRecDepth 20000 in
theorem ggX1_refuseFullStore_X1_isStoreFull : GoodIn wsX1_refuseFullStore wsX1_isStoreFull := goodIn_r _ [7, 8, 9, 10, 11, 12, 13, 14, 15, 16, 17, 18, 19, 20] (by decide +kernel) (by decide +kernel)
set_option maxRecDepth 20000 in
theorem gX1_refuseFullStore_X1_isStoreFull : GoodIn wsX1_refuseFullStore (wsV RX1 70 RX1 yX1_isStoreFull wsX1_isStoreFull) := goodIn_app (goodIn_of _ (by decide +kernel)) ggX1_refuseFullStore_X1_isStoreFull
theorem dX1_refuseFullStore_0 : decode cX1_refuseFullStore 0 = .ok (.aload_n 0, 1) := by decide +kernel
theorem dX1_refuseFullStore_1 : decode cX1_refuseFullStore 1 = .ok (.invokevirtual 70, 3) := by decide +kernel
theorem dX1_refuseFullStore_4 : decode cX1_refuseFullStore 4 = .ok (.ifCond .eq 11, 3) := by decide +kernel
theorem dX1_refuseFullStore_7 : decode cX1_refuseFullStore 7 = .ok (.new 74, 3) := by decide +kernel
theorem dX1_refuseFullStore_10 : decode cX1_refuseFullStore 10 = .ok (.dup, 1) := by decide +kernel
theorem dX1_refuseFullStore_11 : decode cX1_refuseFullStore 11 = .ok (.invokespecial 76, 3) := by decide +kernel
theorem dX1_refuseFullStore_14 : decode cX1_refuseFullStore 14 = .ok (.athrow, 1) := by decide +kernel
theorem dX1_refuseFullStore_15 : decode cX1_refuseFullStore 15 = .ok (.return_, 1) := by decide +kernel
theorem dX1_refuseFullStack_0 : decode cX1_refuseFullStack 0 = .ok (.aload_n 0, 1) := by decide +kernel
theorem dX1_refuseFullStack_1 : decode cX1_refuseFullStack 1 = .ok (.getfield 29, 3) := by decide +kernel
theorem dX1_refuseFullStack_4 : decode cX1_refuseFullStack 4 = .ok (.bipush 6, 2) := by decide +kernel
theorem dX1_refuseFullStack_6 : decode cX1_refuseFullStack 6 = .ok (.if_icmp .lt 11, 3) := by decide +kernel
theorem dX1_refuseFullStack_9 : decode cX1_refuseFullStack 9 = .ok (.new 74, 3) := by decide +kernel
theorem dX1_refuseFullStack_12 : decode cX1_refuseFullStack 12 = .ok (.dup, 1) := by decide +kernel
theorem dX1_refuseFullStack_13 : decode cX1_refuseFullStack 13 = .ok (.invokespecial 76, 3) := by decide +kernel
theorem dX1_refuseFullStack_16 : decode cX1_refuseFullStack 16 = .ok (.athrow, 1) := by decide +kernel
theorem dX1_refuseFullStack_17 : decode cX1_refuseFullStack 17 = .ok (.return_, 1) := by decide +kernel
theorem dX1_refuseEmptyStack_0 : decode cX1_refuseEmptyStack 0 = .ok (.aload_n 0, 1) := by decide +kernel
theorem dX1_refuseEmptyStack_1 : decode cX1_refuseEmptyStack 1 = .ok (.getfield 29, 3) := by decide +kernel
theorem dX1_refuseEmptyStack_4 : decode cX1_refuseEmptyStack 4 = .ok (.iconst 1, 1) := by decide +kernel
theorem dX1_refuseEmptyStack_5 : decode cX1_refuseEmptyStack 5 = .ok (.if_icmp .ge 11, 3) := by decide +kernel
theorem dX1_refuseEmptyStack_8 : decode cX1_refuseEmptyStack 8 = .ok (.new 74, 3) := by decide +kernel
theorem dX1_refuseEmptyStack_11 : decode cX1_refuseEmptyStack 11 = .ok (.dup, 1) := by decide +kernel
theorem dX1_refuseEmptyStack_12 : decode cX1_refuseEmptyStack 12 = .ok (.invokespecial 76, 3) := by decide +kernel
theorem dX1_refuseEmptyStack_15 : decode cX1_refuseEmptyStack 15 = .ok (.athrow, 1) := by decide +kernel
theorem dX1_refuseEmptyStack_16 : decode cX1_refuseEmptyStack 16 = .ok (.return_, 1) := by decide +kernel
set_option maxRecDepth 20000 in
theorem ggX1_refuseTooLargeScratch_X0_isTooLarge : GoodIn wsX1_refuseTooLargeScratch wsX0_isTooLarge := goodIn_r _ [8, 9, 10, 11, 12, 13, 7, 14, 15, 16, 17, 18, 19, 32, 33, 34] (by decide +kernel) (by decide +kernel)
set_option maxRecDepth 20000 in
theorem gX1_refuseTooLargeScratch_X0_isTooLarge : GoodIn wsX1_refuseTooLargeScratch (wsV RX1 184 RX0 yX0_isTooLarge wsX0_isTooLarge) := goodIn_app (goodIn_of _ (by decide +kernel)) ggX1_refuseTooLargeScratch_X0_isTooLarge
theorem dX1_refuseTooLargeScratch_0 : decode cX1_refuseTooLargeScratch 0 = .ok (.aload_n 0, 1) := by decide +kernel
theorem dX1_refuseTooLargeScratch_1 : decode cX1_refuseTooLargeScratch 1 = .ok (.getfield 33, 3) := by decide +kernel
theorem dX1_refuseTooLargeScratch_4 : decode cX1_refuseTooLargeScratch 4 = .ok (.invokevirtual 184, 3) := by decide +kernel
theorem dX1_refuseTooLargeScratch_7 : decode cX1_refuseTooLargeScratch 7 = .ok (.ifCond .eq 11, 3) := by decide +kernel
theorem dX1_refuseTooLargeScratch_10 : decode cX1_refuseTooLargeScratch 10 = .ok (.new 187, 3) := by decide +kernel
theorem dX1_refuseTooLargeScratch_13 : decode cX1_refuseTooLargeScratch 13 = .ok (.dup, 1) := by decide +kernel
theorem dX1_refuseTooLargeScratch_14 : decode cX1_refuseTooLargeScratch 14 = .ok (.invokespecial 189, 3) := by decide +kernel
theorem dX1_refuseTooLargeScratch_17 : decode cX1_refuseTooLargeScratch 17 = .ok (.athrow, 1) := by decide +kernel
theorem dX1_refuseTooLargeScratch_18 : decode cX1_refuseTooLargeScratch 18 = .ok (.return_, 1) := by decide +kernel
theorem dX1_refuseUnsolved_0 : decode cX1_refuseUnsolved 0 = .ok (.aload_n 0, 1) := by decide +kernel
theorem dX1_refuseUnsolved_1 : decode cX1_refuseUnsolved 1 = .ok (.getfield 44, 3) := by decide +kernel
theorem dX1_refuseUnsolved_4 : decode cX1_refuseUnsolved 4 = .ok (.ifCond .ne 11, 3) := by decide +kernel
theorem dX1_refuseUnsolved_7 : decode cX1_refuseUnsolved 7 = .ok (.new 99, 3) := by decide +kernel
theorem dX1_refuseUnsolved_10 : decode cX1_refuseUnsolved 10 = .ok (.dup, 1) := by decide +kernel
theorem dX1_refuseUnsolved_11 : decode cX1_refuseUnsolved 11 = .ok (.invokespecial 101, 3) := by decide +kernel
theorem dX1_refuseUnsolved_14 : decode cX1_refuseUnsolved 14 = .ok (.athrow, 1) := by decide +kernel
theorem dX1_refuseUnsolved_15 : decode cX1_refuseUnsolved 15 = .ok (.return_, 1) := by decide +kernel
theorem dX1_isWithin_0 : decode cX1_isWithin 0 = .ok (.iload_n 0, 1) := by decide +kernel
theorem dX1_isWithin_1 : decode cX1_isWithin 1 = .ok (.iload_n 1, 1) := by decide +kernel
theorem dX1_isWithin_2 : decode cX1_isWithin 2 = .ok (.if_icmp .lt 12, 3) := by decide +kernel
theorem dX1_isWithin_5 : decode cX1_isWithin 5 = .ok (.iload_n 0, 1) := by decide +kernel
theorem dX1_isWithin_6 : decode cX1_isWithin 6 = .ok (.iload_n 2, 1) := by decide +kernel
theorem dX1_isWithin_7 : decode cX1_isWithin 7 = .ok (.if_icmp .gt 7, 3) := by decide +kernel
theorem dX1_isWithin_10 : decode cX1_isWithin 10 = .ok (.iconst 1, 1) := by decide +kernel
theorem dX1_isWithin_11 : decode cX1_isWithin 11 = .ok (.goto 4, 3) := by decide +kernel
theorem dX1_isWithin_14 : decode cX1_isWithin 14 = .ok (.iconst 0, 1) := by decide +kernel
theorem dX1_isWithin_15 : decode cX1_isWithin 15 = .ok (.ireturn, 1) := by decide +kernel
set_option maxRecDepth 20000 in
theorem ggX1_isVariable_X1_isWithin : GoodIn wsX1_isVariable wsX1_isWithin := goodIn_r _ [4] (by decide +kernel) (by decide +kernel)
set_option maxRecDepth 20000 in
theorem gX1_isVariable_X1_isWithin : GoodIn wsX1_isVariable (va_wsS RX1 57 yX1_isWithin wsX1_isWithin) := goodIn_app (goodIn_of _ (by decide +kernel)) ggX1_isVariable_X1_isWithin
theorem dX1_isVariable_0 : decode cX1_isVariable 0 = .ok (.iload_n 0, 1) := by decide +kernel
theorem dX1_isVariable_1 : decode cX1_isVariable 1 = .ok (.iconst 0, 1) := by decide +kernel
theorem dX1_isVariable_2 : decode cX1_isVariable 2 = .ok (.bipush 9, 2) := by decide +kernel
theorem dX1_isVariable_4 : decode cX1_isVariable 4 = .ok (.invokestatic 57, 3) := by decide +kernel
theorem dX1_isVariable_7 : decode cX1_isVariable 7 = .ok (.ireturn, 1) := by decide +kernel
set_option maxRecDepth 20000 in
theorem ggX1_isQuestion_X1_isWithin : GoodIn wsX1_isQuestion wsX1_isWithin := goodIn_r _ [4] (by decide +kernel) (by decide +kernel)
set_option maxRecDepth 20000 in
theorem gX1_isQuestion_X1_isWithin : GoodIn wsX1_isQuestion (va_wsS RX1 57 yX1_isWithin wsX1_isWithin) := goodIn_app (goodIn_of _ (by decide +kernel)) ggX1_isQuestion_X1_isWithin
theorem dX1_isQuestion_0 : decode cX1_isQuestion 0 = .ok (.iload_n 0, 1) := by decide +kernel
theorem dX1_isQuestion_1 : decode cX1_isQuestion 1 = .ok (.bipush (-2), 2) := by decide +kernel
theorem dX1_isQuestion_3 : decode cX1_isQuestion 3 = .ok (.bipush 9, 2) := by decide +kernel
theorem dX1_isQuestion_5 : decode cX1_isQuestion 5 = .ok (.invokestatic 57, 3) := by decide +kernel
theorem dX1_isQuestion_8 : decode cX1_isQuestion 8 = .ok (.ireturn, 1) := by decide +kernel
set_option maxRecDepth 20000 in
theorem ggX1_isChoice_X1_isWithin : GoodIn wsX1_isChoice wsX1_isWithin := goodIn_r _ [4] (by decide +kernel) (by decide +kernel)
set_option maxRecDepth 20000 in
theorem gX1_isChoice_X1_isWithin : GoodIn wsX1_isChoice (va_wsS RX1 57 yX1_isWithin wsX1_isWithin) := goodIn_app (goodIn_of _ (by decide +kernel)) ggX1_isChoice_X1_isWithin
theorem dX1_isChoice_0 : decode cX1_isChoice 0 = .ok (.iload_n 0, 1) := by decide +kernel
theorem dX1_isChoice_1 : decode cX1_isChoice 1 = .ok (.iconst 0, 1) := by decide +kernel
theorem dX1_isChoice_2 : decode cX1_isChoice 2 = .ok (.sipush 1023, 3) := by decide +kernel
theorem dX1_isChoice_5 : decode cX1_isChoice 5 = .ok (.invokestatic 57, 3) := by decide +kernel
theorem dX1_isChoice_8 : decode cX1_isChoice 8 = .ok (.ireturn, 1) := by decide +kernel
set_option maxRecDepth 20000 in
theorem ggX1_isStored_X1_isWithin : GoodIn wsX1_isStored wsX1_isWithin := goodIn_r _ [5] (by decide +kernel) (by decide +kernel)
set_option maxRecDepth 20000 in
theorem gX1_isStored_X1_isWithin : GoodIn wsX1_isStored (va_wsS RX1 57 yX1_isWithin wsX1_isWithin) := goodIn_app (goodIn_of _ (by decide +kernel)) ggX1_isStored_X1_isWithin
theorem dX1_isStored_0 : decode cX1_isStored 0 = .ok (.iload_n 1, 1) := by decide +kernel
theorem dX1_isStored_1 : decode cX1_isStored 1 = .ok (.iconst 0, 1) := by decide +kernel
theorem dX1_isStored_2 : decode cX1_isStored 2 = .ok (.aload_n 0, 1) := by decide +kernel
theorem dX1_isStored_3 : decode cX1_isStored 3 = .ok (.getfield 22, 3) := by decide +kernel
theorem dX1_isStored_6 : decode cX1_isStored 6 = .ok (.iconst 1, 1) := by decide +kernel
theorem dX1_isStored_7 : decode cX1_isStored 7 = .ok (.isub, 1) := by decide +kernel
theorem dX1_isStored_8 : decode cX1_isStored 8 = .ok (.invokestatic 57, 3) := by decide +kernel
theorem dX1_isStored_11 : decode cX1_isStored 11 = .ok (.ireturn, 1) := by decide +kernel
theorem dX1_isStoreFull_0 : decode cX1_isStoreFull 0 = .ok (.aload_n 0, 1) := by decide +kernel
theorem dX1_isStoreFull_1 : decode cX1_isStoreFull 1 = .ok (.getfield 22, 3) := by decide +kernel
theorem dX1_isStoreFull_4 : decode cX1_isStoreFull 4 = .ok (.bipush 30, 2) := by decide +kernel
theorem dX1_isStoreFull_6 : decode cX1_isStoreFull 6 = .ok (.if_icmp .lt 7, 3) := by decide +kernel
theorem dX1_isStoreFull_9 : decode cX1_isStoreFull 9 = .ok (.iconst 1, 1) := by decide +kernel
theorem dX1_isStoreFull_10 : decode cX1_isStoreFull 10 = .ok (.goto 4, 3) := by decide +kernel
theorem dX1_isStoreFull_13 : decode cX1_isStoreFull 13 = .ok (.iconst 0, 1) := by decide +kernel
theorem dX1_isStoreFull_14 : decode cX1_isStoreFull 14 = .ok (.ireturn, 1) := by decide +kernel
theorem dX1_keepNext_0 : decode cX1_keepNext 0 = .ok (.aload_n 0, 1) := by decide +kernel
theorem dX1_keepNext_1 : decode cX1_keepNext 1 = .ok (.getfield 18, 3) := by decide +kernel
theorem dX1_keepNext_4 : decode cX1_keepNext 4 = .ok (.aload_n 0, 1) := by decide +kernel
theorem dX1_keepNext_5 : decode cX1_keepNext 5 = .ok (.getfield 22, 3) := by decide +kernel
theorem dX1_keepNext_8 : decode cX1_keepNext 8 = .ok (.aaload, 1) := by decide +kernel
theorem dX1_keepNext_9 : decode cX1_keepNext 9 = .ok (.iload_n 1, 1) := by decide +kernel
theorem dX1_keepNext_10 : decode cX1_keepNext 10 = .ok (.putfield 105, 3) := by decide +kernel
theorem dX1_keepNext_13 : decode cX1_keepNext 13 = .ok (.aload_n 0, 1) := by decide +kernel
theorem dX1_keepNext_14 : decode cX1_keepNext 14 = .ok (.dup, 1) := by decide +kernel
theorem dX1_keepNext_15 : decode cX1_keepNext 15 = .ok (.getfield 22, 3) := by decide +kernel
theorem dX1_keepNext_18 : decode cX1_keepNext 18 = .ok (.iconst 1, 1) := by decide +kernel
theorem dX1_keepNext_19 : decode cX1_keepNext 19 = .ok (.iadd, 1) := by decide +kernel
theorem dX1_keepNext_20 : decode cX1_keepNext 20 = .ok (.putfield 22, 3) := by decide +kernel
theorem dX1_keepNext_23 : decode cX1_keepNext 23 = .ok (.aload_n 0, 1) := by decide +kernel
theorem dX1_keepNext_24 : decode cX1_keepNext 24 = .ok (.getfield 22, 3) := by decide +kernel
theorem dX1_keepNext_27 : decode cX1_keepNext 27 = .ok (.iconst 1, 1) := by decide +kernel
theorem dX1_keepNext_28 : decode cX1_keepNext 28 = .ok (.isub, 1) := by decide +kernel
theorem dX1_keepNext_29 : decode cX1_keepNext 29 = .ok (.ireturn, 1) := by decide +kernel
set_option maxRecDepth 20000 in
theorem ggX1_meetsStore_X0_isMetBy : GoodIn wsX1_meetsStore wsX0_isMetBy := goodIn_r _ [7, 8, 9, 10, 6, 11, 12, 13, 14, 15, 16, 17, 18, 19, 20, 21, 22, 23, 24, 25, 26, 27, 28, 41, 42, 43] (by decide +kernel) (by decide +kernel)
set_option maxRecDepth 20000 in
theorem gX1_meetsStore_X0_isMetBy : GoodIn wsX1_meetsStore (wsV RX1 190 RX0 yX0_isMetBy wsX0_isMetBy) := goodIn_app (goodIn_of _ (by decide +kernel)) ggX1_meetsStore_X0_isMetBy
theorem dX1_meetsStore_0 : decode cX1_meetsStore 0 = .ok (.iconst 0, 1) := by decide +kernel
theorem dX1_meetsStore_1 : decode cX1_meetsStore 1 = .ok (.istore_n 3, 1) := by decide +kernel
theorem dX1_meetsStore_2 : decode cX1_meetsStore 2 = .ok (.iload_n 3, 1) := by decide +kernel
theorem dX1_meetsStore_3 : decode cX1_meetsStore 3 = .ok (.aload_n 0, 1) := by decide +kernel
theorem dX1_meetsStore_4 : decode cX1_meetsStore 4 = .ok (.getfield 22, 3) := by decide +kernel
theorem dX1_meetsStore_7 : decode cX1_meetsStore 7 = .ok (.if_icmp .ge 52, 3) := by decide +kernel
theorem dX1_meetsStore_10 : decode cX1_meetsStore 10 = .ok (.aload_n 0, 1) := by decide +kernel
theorem dX1_meetsStore_11 : decode cX1_meetsStore 11 = .ok (.getfield 18, 3) := by decide +kernel
theorem dX1_meetsStore_14 : decode cX1_meetsStore 14 = .ok (.iload_n 3, 1) := by decide +kernel
theorem dX1_meetsStore_15 : decode cX1_meetsStore 15 = .ok (.aaload, 1) := by decide +kernel
theorem dX1_meetsStore_16 : decode cX1_meetsStore 16 = .ok (.getfield 105, 3) := by decide +kernel
theorem dX1_meetsStore_19 : decode cX1_meetsStore 19 = .ok (.ifCond .ne 7, 3) := by decide +kernel
theorem dX1_meetsStore_22 : decode cX1_meetsStore 22 = .ok (.iload_n 2, 1) := by decide +kernel
theorem dX1_meetsStore_23 : decode cX1_meetsStore 23 = .ok (.ifCond .ne 7, 3) := by decide +kernel
theorem dX1_meetsStore_26 : decode cX1_meetsStore 26 = .ok (.iconst 1, 1) := by decide +kernel
theorem dX1_meetsStore_27 : decode cX1_meetsStore 27 = .ok (.goto 4, 3) := by decide +kernel
theorem dX1_meetsStore_30 : decode cX1_meetsStore 30 = .ok (.iconst 0, 1) := by decide +kernel
theorem dX1_meetsStore_31 : decode cX1_meetsStore 31 = .ok (.istore 4, 2) := by decide +kernel
theorem dX1_meetsStore_33 : decode cX1_meetsStore 33 = .ok (.iload 4, 2) := by decide +kernel
theorem dX1_meetsStore_35 : decode cX1_meetsStore 35 = .ok (.ifCond .eq 18, 3) := by decide +kernel
theorem dX1_meetsStore_38 : decode cX1_meetsStore 38 = .ok (.aload_n 0, 1) := by decide +kernel
theorem dX1_meetsStore_39 : decode cX1_meetsStore 39 = .ok (.getfield 18, 3) := by decide +kernel
theorem dX1_meetsStore_42 : decode cX1_meetsStore 42 = .ok (.iload_n 3, 1) := by decide +kernel
theorem dX1_meetsStore_43 : decode cX1_meetsStore 43 = .ok (.aaload, 1) := by decide +kernel
theorem dX1_meetsStore_44 : decode cX1_meetsStore 44 = .ok (.iload_n 1, 1) := by decide +kernel
theorem dX1_meetsStore_45 : decode cX1_meetsStore 45 = .ok (.invokevirtual 190, 3) := by decide +kernel
theorem dX1_meetsStore_48 : decode cX1_meetsStore 48 = .ok (.ifCond .ne 5, 3) := by decide +kernel
theorem dX1_meetsStore_51 : decode cX1_meetsStore 51 = .ok (.iconst 0, 1) := by decide +kernel
theorem dX1_meetsStore_52 : decode cX1_meetsStore 52 = .ok (.ireturn, 1) := by decide +kernel
theorem dX1_meetsStore_53 : decode cX1_meetsStore 53 = .ok (.iinc 3 1, 3) := by decide +kernel
theorem dX1_meetsStore_56 : decode cX1_meetsStore 56 = .ok (.goto (-54), 3) := by decide +kernel
theorem dX1_meetsStore_59 : decode cX1_meetsStore 59 = .ok (.iconst 1, 1) := by decide +kernel
theorem dX1_meetsStore_60 : decode cX1_meetsStore 60 = .ok (.ireturn, 1) := by decide +kernel
set_option maxRecDepth 20000 in
theorem ggX1_hasVoid_X0_isVoid : GoodIn wsX1_hasVoid wsX0_isVoid := goodIn_r _ [7, 8, 9, 10, 11, 6, 12, 13, 14, 15, 16, 17, 18, 19, 20, 21, 34, 35, 36] (by decide +kernel) (by decide +kernel)
set_option maxRecDepth 20000 in
theorem gX1_hasVoid_X0_isVoid : GoodIn wsX1_hasVoid (wsV RX1 193 RX0 yX0_isVoid wsX0_isVoid) := goodIn_app (goodIn_of _ (by decide +kernel)) ggX1_hasVoid_X0_isVoid
theorem dX1_hasVoid_0 : decode cX1_hasVoid 0 = .ok (.iconst 0, 1) := by decide +kernel
theorem dX1_hasVoid_1 : decode cX1_hasVoid 1 = .ok (.istore_n 1, 1) := by decide +kernel
theorem dX1_hasVoid_2 : decode cX1_hasVoid 2 = .ok (.iload_n 1, 1) := by decide +kernel
theorem dX1_hasVoid_3 : decode cX1_hasVoid 3 = .ok (.aload_n 0, 1) := by decide +kernel
theorem dX1_hasVoid_4 : decode cX1_hasVoid 4 = .ok (.getfield 22, 3) := by decide +kernel
theorem dX1_hasVoid_7 : decode cX1_hasVoid 7 = .ok (.if_icmp .ge 23, 3) := by decide +kernel
theorem dX1_hasVoid_10 : decode cX1_hasVoid 10 = .ok (.aload_n 0, 1) := by decide +kernel
theorem dX1_hasVoid_11 : decode cX1_hasVoid 11 = .ok (.getfield 18, 3) := by decide +kernel
theorem dX1_hasVoid_14 : decode cX1_hasVoid 14 = .ok (.iload_n 1, 1) := by decide +kernel
theorem dX1_hasVoid_15 : decode cX1_hasVoid 15 = .ok (.aaload, 1) := by decide +kernel
theorem dX1_hasVoid_16 : decode cX1_hasVoid 16 = .ok (.invokevirtual 193, 3) := by decide +kernel
theorem dX1_hasVoid_19 : decode cX1_hasVoid 19 = .ok (.ifCond .eq 5, 3) := by decide +kernel
theorem dX1_hasVoid_22 : decode cX1_hasVoid 22 = .ok (.iconst 1, 1) := by decide +kernel
theorem dX1_hasVoid_23 : decode cX1_hasVoid 23 = .ok (.ireturn, 1) := by decide +kernel
theorem dX1_hasVoid_24 : decode cX1_hasVoid 24 = .ok (.iinc 1 1, 3) := by decide +kernel
theorem dX1_hasVoid_27 : decode cX1_hasVoid 27 = .ok (.goto (-25), 3) := by decide +kernel
theorem dX1_hasVoid_30 : decode cX1_hasVoid 30 = .ok (.iconst 0, 1) := by decide +kernel
theorem dX1_hasVoid_31 : decode cX1_hasVoid 31 = .ok (.ireturn, 1) := by decide +kernel
set_option maxRecDepth 20000 in
theorem ggX1_closed_X0_forcedFrom : GoodIn wsX1_closed wsX0_forcedFrom := goodIn_r _ [6, 7, 8, 9, 5, 10, 11, 12, 13, 14, 15, 16, 17, 18, 19, 20, 21, 22, 23, 24, 25, 26, 27, 40, 41, 42] (by decide +kernel) (by decide +kernel)
set_option maxRecDepth 20000 in
theorem gX1_closed_X0_forcedFrom : GoodIn wsX1_closed (wsV RX1 196 RX0 yX0_forcedFrom wsX0_forcedFrom) := goodIn_app (goodIn_of _ (by decide +kernel)) ggX1_closed_X0_forcedFrom
theorem dX1_closed_0 : decode cX1_closed 0 = .ok (.iload_n 1, 1) := by decide +kernel
theorem dX1_closed_1 : decode cX1_closed 1 = .ok (.istore_n 3, 1) := by decide +kernel
theorem dX1_closed_2 : decode cX1_closed 2 = .ok (.iconst 0, 1) := by decide +kernel
theorem dX1_closed_3 : decode cX1_closed 3 = .ok (.istore 4, 2) := by decide +kernel
theorem dX1_closed_5 : decode cX1_closed 5 = .ok (.iload 4, 2) := by decide +kernel
theorem dX1_closed_7 : decode cX1_closed 7 = .ok (.bipush 10, 2) := by decide +kernel
theorem dX1_closed_9 : decode cX1_closed 9 = .ok (.if_icmp .gt 55, 3) := by decide +kernel
theorem dX1_closed_12 : decode cX1_closed 12 = .ok (.iload_n 3, 1) := by decide +kernel
theorem dX1_closed_13 : decode cX1_closed 13 = .ok (.istore 5, 2) := by decide +kernel
theorem dX1_closed_15 : decode cX1_closed 15 = .ok (.iconst 0, 1) := by decide +kernel
theorem dX1_closed_16 : decode cX1_closed 16 = .ok (.istore 6, 2) := by decide +kernel
theorem dX1_closed_18 : decode cX1_closed 18 = .ok (.iload 6, 2) := by decide +kernel
theorem dX1_closed_20 : decode cX1_closed 20 = .ok (.iload_n 2, 1) := by decide +kernel
theorem dX1_closed_21 : decode cX1_closed 21 = .ok (.if_icmp .ge 28, 3) := by decide +kernel
theorem dX1_closed_24 : decode cX1_closed 24 = .ok (.aload_n 0, 1) := by decide +kernel
theorem dX1_closed_25 : decode cX1_closed 25 = .ok (.getfield 18, 3) := by decide +kernel
theorem dX1_closed_28 : decode cX1_closed 28 = .ok (.iload 6, 2) := by decide +kernel
theorem dX1_closed_30 : decode cX1_closed 30 = .ok (.aaload, 1) := by decide +kernel
theorem dX1_closed_31 : decode cX1_closed 31 = .ok (.iload_n 3, 1) := by decide +kernel
theorem dX1_closed_32 : decode cX1_closed 32 = .ok (.invokevirtual 196, 3) := by decide +kernel
theorem dX1_closed_35 : decode cX1_closed 35 = .ok (.istore_n 3, 1) := by decide +kernel
theorem dX1_closed_36 : decode cX1_closed 36 = .ok (.iload_n 3, 1) := by decide +kernel
theorem dX1_closed_37 : decode cX1_closed 37 = .ok (.iconst (-1), 1) := by decide +kernel
theorem dX1_closed_38 : decode cX1_closed 38 = .ok (.if_icmp .ne 5, 3) := by decide +kernel
theorem dX1_closed_41 : decode cX1_closed 41 = .ok (.iconst (-1), 1) := by decide +kernel
theorem dX1_closed_42 : decode cX1_closed 42 = .ok (.ireturn, 1) := by decide +kernel
theorem dX1_closed_43 : decode cX1_closed 43 = .ok (.iinc 6 1, 3) := by decide +kernel
theorem dX1_closed_46 : decode cX1_closed 46 = .ok (.goto (-28), 3) := by decide +kernel
theorem dX1_closed_49 : decode cX1_closed 49 = .ok (.iload_n 3, 1) := by decide +kernel
theorem dX1_closed_50 : decode cX1_closed 50 = .ok (.iload 5, 2) := by decide +kernel
theorem dX1_closed_52 : decode cX1_closed 52 = .ok (.if_icmp .ne 6, 3) := by decide +kernel
theorem dX1_closed_55 : decode cX1_closed 55 = .ok (.goto 9, 3) := by decide +kernel
theorem dX1_closed_58 : decode cX1_closed 58 = .ok (.iinc 4 1, 3) := by decide +kernel
theorem dX1_closed_61 : decode cX1_closed 61 = .ok (.goto (-56), 3) := by decide +kernel
theorem dX1_closed_64 : decode cX1_closed 64 = .ok (.iload_n 3, 1) := by decide +kernel
theorem dX1_closed_65 : decode cX1_closed 65 = .ok (.ireturn, 1) := by decide +kernel
theorem dX1_hasObjective_0 : decode cX1_hasObjective 0 = .ok (.iconst 0, 1) := by decide +kernel
theorem dX1_hasObjective_1 : decode cX1_hasObjective 1 = .ok (.istore_n 1, 1) := by decide +kernel
theorem dX1_hasObjective_2 : decode cX1_hasObjective 2 = .ok (.iload_n 1, 1) := by decide +kernel
theorem dX1_hasObjective_3 : decode cX1_hasObjective 3 = .ok (.bipush 10, 2) := by decide +kernel
theorem dX1_hasObjective_5 : decode cX1_hasObjective 5 = .ok (.if_icmp .ge 20, 3) := by decide +kernel
theorem dX1_hasObjective_8 : decode cX1_hasObjective 8 = .ok (.aload_n 0, 1) := by decide +kernel
theorem dX1_hasObjective_9 : decode cX1_hasObjective 9 = .ok (.getfield 13, 3) := by decide +kernel
theorem dX1_hasObjective_12 : decode cX1_hasObjective 12 = .ok (.iload_n 1, 1) := by decide +kernel
theorem dX1_hasObjective_13 : decode cX1_hasObjective 13 = .ok (.iaload, 1) := by decide +kernel
theorem dX1_hasObjective_14 : decode cX1_hasObjective 14 = .ok (.ifCond .eq 5, 3) := by decide +kernel
theorem dX1_hasObjective_17 : decode cX1_hasObjective 17 = .ok (.iconst 1, 1) := by decide +kernel
theorem dX1_hasObjective_18 : decode cX1_hasObjective 18 = .ok (.ireturn, 1) := by decide +kernel
theorem dX1_hasObjective_19 : decode cX1_hasObjective 19 = .ok (.iinc 1 1, 3) := by decide +kernel
theorem dX1_hasObjective_22 : decode cX1_hasObjective 22 = .ok (.goto (-20), 3) := by decide +kernel
theorem dX1_hasObjective_25 : decode cX1_hasObjective 25 = .ok (.iconst 0, 1) := by decide +kernel
theorem dX1_hasObjective_26 : decode cX1_hasObjective 26 = .ok (.ireturn, 1) := by decide +kernel
set_option maxRecDepth 20000 in
theorem ggX1_objectiveValue_X1_bit : GoodIn wsX1_objectiveValue wsX1_bit := goodIn_r _ [5] (by decide +kernel) (by decide +kernel)
set_option maxRecDepth 20000 in
theorem gX1_objectiveValue_X1_bit : GoodIn wsX1_objectiveValue (va_wsS RX1 181 yX1_bit wsX1_bit) := goodIn_app (goodIn_of _ (by decide +kernel)) ggX1_objectiveValue_X1_bit
theorem dX1_objectiveValue_0 : decode cX1_objectiveValue 0 = .ok (.iconst 0, 1) := by decide +kernel
theorem dX1_objectiveValue_1 : decode cX1_objectiveValue 1 = .ok (.istore_n 2, 1) := by decide +kernel
theorem dX1_objectiveValue_2 : decode cX1_objectiveValue 2 = .ok (.iconst 0, 1) := by decide +kernel
theorem dX1_objectiveValue_3 : decode cX1_objectiveValue 3 = .ok (.istore_n 3, 1) := by decide +kernel
theorem dX1_objectiveValue_4 : decode cX1_objectiveValue 4 = .ok (.iload_n 3, 1) := by decide +kernel
theorem dX1_objectiveValue_5 : decode cX1_objectiveValue 5 = .ok (.bipush 10, 2) := by decide +kernel
theorem dX1_objectiveValue_7 : decode cX1_objectiveValue 7 = .ok (.if_icmp .ge 24, 3) := by decide +kernel
theorem dX1_objectiveValue_10 : decode cX1_objectiveValue 10 = .ok (.iload_n 2, 1) := by decide +kernel
theorem dX1_objectiveValue_11 : decode cX1_objectiveValue 11 = .ok (.aload_n 0, 1) := by decide +kernel
theorem dX1_objectiveValue_12 : decode cX1_objectiveValue 12 = .ok (.getfield 13, 3) := by decide +kernel
theorem dX1_objectiveValue_15 : decode cX1_objectiveValue 15 = .ok (.iload_n 3, 1) := by decide +kernel
theorem dX1_objectiveValue_16 : decode cX1_objectiveValue 16 = .ok (.iaload, 1) := by decide +kernel
theorem dX1_objectiveValue_17 : decode cX1_objectiveValue 17 = .ok (.iload_n 1, 1) := by decide +kernel
theorem dX1_objectiveValue_18 : decode cX1_objectiveValue 18 = .ok (.iload_n 3, 1) := by decide +kernel
theorem dX1_objectiveValue_19 : decode cX1_objectiveValue 19 = .ok (.invokestatic 181, 3) := by decide +kernel
theorem dX1_objectiveValue_22 : decode cX1_objectiveValue 22 = .ok (.imul, 1) := by decide +kernel
theorem dX1_objectiveValue_23 : decode cX1_objectiveValue 23 = .ok (.iadd, 1) := by decide +kernel
theorem dX1_objectiveValue_24 : decode cX1_objectiveValue 24 = .ok (.istore_n 2, 1) := by decide +kernel
theorem dX1_objectiveValue_25 : decode cX1_objectiveValue 25 = .ok (.iinc 3 1, 3) := by decide +kernel
theorem dX1_objectiveValue_28 : decode cX1_objectiveValue 28 = .ok (.goto (-24), 3) := by decide +kernel
theorem dX1_objectiveValue_31 : decode cX1_objectiveValue 31 = .ok (.iload_n 2, 1) := by decide +kernel
theorem dX1_objectiveValue_32 : decode cX1_objectiveValue 32 = .ok (.ireturn, 1) := by decide +kernel
set_option maxRecDepth 20000 in
theorem ggX1_isPreferred_X1_comesBefore : GoodIn wsX1_isPreferred wsX1_comesBefore := goodIn_r _ [7] (by decide +kernel) (by decide +kernel)
set_option maxRecDepth 20000 in
theorem gX1_isPreferred_X1_comesBefore : GoodIn wsX1_isPreferred (va_wsS RX1 199 yX1_comesBefore wsX1_comesBefore) := goodIn_app (goodIn_of _ (by decide +kernel)) ggX1_isPreferred_X1_comesBefore
theorem dX1_isPreferred_0 : decode cX1_isPreferred 0 = .ok (.aload_n 0, 1) := by decide +kernel
theorem dX1_isPreferred_1 : decode cX1_isPreferred 1 = .ok (.getfield 44, 3) := by decide +kernel
theorem dX1_isPreferred_4 : decode cX1_isPreferred 4 = .ok (.ifCond .eq 11, 3) := by decide +kernel
theorem dX1_isPreferred_7 : decode cX1_isPreferred 7 = .ok (.iload_n 2, 1) := by decide +kernel
theorem dX1_isPreferred_8 : decode cX1_isPreferred 8 = .ok (.aload_n 0, 1) := by decide +kernel
theorem dX1_isPreferred_9 : decode cX1_isPreferred 9 = .ok (.getfield 47, 3) := by decide +kernel
theorem dX1_isPreferred_12 : decode cX1_isPreferred 12 = .ok (.if_icmp .ge 5, 3) := by decide +kernel
theorem dX1_isPreferred_15 : decode cX1_isPreferred 15 = .ok (.iconst 1, 1) := by decide +kernel
theorem dX1_isPreferred_16 : decode cX1_isPreferred 16 = .ok (.ireturn, 1) := by decide +kernel
theorem dX1_isPreferred_17 : decode cX1_isPreferred 17 = .ok (.iload_n 2, 1) := by decide +kernel
theorem dX1_isPreferred_18 : decode cX1_isPreferred 18 = .ok (.aload_n 0, 1) := by decide +kernel
theorem dX1_isPreferred_19 : decode cX1_isPreferred 19 = .ok (.getfield 47, 3) := by decide +kernel
theorem dX1_isPreferred_22 : decode cX1_isPreferred 22 = .ok (.if_icmp .ne 18, 3) := by decide +kernel
theorem dX1_isPreferred_25 : decode cX1_isPreferred 25 = .ok (.iload_n 1, 1) := by decide +kernel
theorem dX1_isPreferred_26 : decode cX1_isPreferred 26 = .ok (.aload_n 0, 1) := by decide +kernel
theorem dX1_isPreferred_27 : decode cX1_isPreferred 27 = .ok (.getfield 50, 3) := by decide +kernel
theorem dX1_isPreferred_30 : decode cX1_isPreferred 30 = .ok (.invokestatic 199, 3) := by decide +kernel
theorem dX1_isPreferred_33 : decode cX1_isPreferred 33 = .ok (.ifCond .eq 7, 3) := by decide +kernel
theorem dX1_isPreferred_36 : decode cX1_isPreferred 36 = .ok (.iconst 1, 1) := by decide +kernel
theorem dX1_isPreferred_37 : decode cX1_isPreferred 37 = .ok (.goto 4, 3) := by decide +kernel
theorem dX1_isPreferred_40 : decode cX1_isPreferred 40 = .ok (.iconst 0, 1) := by decide +kernel
theorem dX1_isPreferred_41 : decode cX1_isPreferred 41 = .ok (.ireturn, 1) := by decide +kernel
theorem dX1_comesBefore_0 : decode cX1_comesBefore 0 = .ok (.iload_n 0, 1) := by decide +kernel
theorem dX1_comesBefore_1 : decode cX1_comesBefore 1 = .ok (.iload_n 1, 1) := by decide +kernel
theorem dX1_comesBefore_2 : decode cX1_comesBefore 2 = .ok (.ixor, 1) := by decide +kernel
theorem dX1_comesBefore_3 : decode cX1_comesBefore 3 = .ok (.istore_n 2, 1) := by decide +kernel
theorem dX1_comesBefore_4 : decode cX1_comesBefore 4 = .ok (.iload_n 2, 1) := by decide +kernel
theorem dX1_comesBefore_5 : decode cX1_comesBefore 5 = .ok (.iload_n 2, 1) := by decide +kernel
theorem dX1_comesBefore_6 : decode cX1_comesBefore 6 = .ok (.ineg, 1) := by decide +kernel
theorem dX1_comesBefore_7 : decode cX1_comesBefore 7 = .ok (.iand, 1) := by decide +kernel
theorem dX1_comesBefore_8 : decode cX1_comesBefore 8 = .ok (.istore_n 3, 1) := by decide +kernel
theorem dX1_comesBefore_9 : decode cX1_comesBefore 9 = .ok (.iload_n 1, 1) := by decide +kernel
theorem dX1_comesBefore_10 : decode cX1_comesBefore 10 = .ok (.iload_n 3, 1) := by decide +kernel
theorem dX1_comesBefore_11 : decode cX1_comesBefore 11 = .ok (.iand, 1) := by decide +kernel
theorem dX1_comesBefore_12 : decode cX1_comesBefore 12 = .ok (.ifCond .eq 7, 3) := by decide +kernel
theorem dX1_comesBefore_15 : decode cX1_comesBefore 15 = .ok (.iconst 1, 1) := by decide +kernel
theorem dX1_comesBefore_16 : decode cX1_comesBefore 16 = .ok (.goto 4, 3) := by decide +kernel
theorem dX1_comesBefore_19 : decode cX1_comesBefore 19 = .ok (.iconst 0, 1) := by decide +kernel
theorem dX1_comesBefore_20 : decode cX1_comesBefore 20 = .ok (.ireturn, 1) := by decide +kernel
theorem dX1_bit_0 : decode cX1_bit 0 = .ok (.iload_n 0, 1) := by decide +kernel
theorem dX1_bit_1 : decode cX1_bit 1 = .ok (.iload_n 1, 1) := by decide +kernel
theorem dX1_bit_2 : decode cX1_bit 2 = .ok (.ishr, 1) := by decide +kernel
theorem dX1_bit_3 : decode cX1_bit 3 = .ok (.iconst 1, 1) := by decide +kernel
theorem dX1_bit_4 : decode cX1_bit 4 = .ok (.iand, 1) := by decide +kernel
theorem dX1_bit_5 : decode cX1_bit 5 = .ok (.ireturn, 1) := by decide +kernel
theorem dX2_init_0 : decode cX2_init 0 = .ok (.aload_n 0, 1) := by decide +kernel
theorem dX2_init_1 : decode cX2_init 1 = .ok (.invokespecial 1, 3) := by decide +kernel
theorem dX2_init_4 : decode cX2_init 4 = .ok (.aload_n 0, 1) := by decide +kernel
theorem dX2_init_5 : decode cX2_init 5 = .ok (.sipush 418, 3) := by decide +kernel
theorem dX2_init_8 : decode cX2_init 8 = .ok (.newarray .int, 2) := by decide +kernel
theorem dX2_init_10 : decode cX2_init 10 = .ok (.putfield 7, 3) := by decide +kernel
theorem dX2_init_13 : decode cX2_init 13 = .ok (.aload_n 0, 1) := by decide +kernel
theorem dX2_init_14 : decode cX2_init 14 = .ok (.bipush 30, 2) := by decide +kernel
theorem dX2_init_16 : decode cX2_init 16 = .ok (.newarray .boolean, 2) := by decide +kernel
theorem dX2_init_18 : decode cX2_init 18 = .ok (.putfield 13, 3) := by decide +kernel
theorem dX2_init_21 : decode cX2_init 21 = .ok (.aload_n 0, 1) := by decide +kernel
theorem dX2_init_22 : decode cX2_init 22 = .ok (.bipush 10, 2) := by decide +kernel
theorem dX2_init_24 : decode cX2_init 24 = .ok (.newarray .int, 2) := by decide +kernel
theorem dX2_init_26 : decode cX2_init 26 = .ok (.putfield 17, 3) := by decide +kernel
theorem dX2_init_29 : decode cX2_init 29 = .ok (.aload_n 0, 1) := by decide +kernel
theorem dX2_init_30 : decode cX2_init 30 = .ok (.bipush 10, 2) := by decide +kernel
theorem dX2_init_32 : decode cX2_init 32 = .ok (.newarray .int, 2) := by decide +kernel
theorem dX2_init_34 : decode cX2_init 34 = .ok (.putfield 20, 3) := by decide +kernel
theorem dX2_init_37 : decode cX2_init 37 = .ok (.aload_n 0, 1) := by decide +kernel
theorem dX2_init_38 : decode cX2_init 38 = .ok (.bipush 10, 2) := by decide +kernel
theorem dX2_init_40 : decode cX2_init 40 = .ok (.newarray .int, 2) := by decide +kernel
theorem dX2_init_42 : decode cX2_init 42 = .ok (.putfield 23, 3) := by decide +kernel
theorem dX2_init_45 : decode cX2_init 45 = .ok (.return_, 1) := by decide +kernel
theorem dX2_thrown_0 : decode cX2_thrown 0 = .ok (.aload_n 0, 1) := by decide +kernel
theorem dX2_thrown_1 : decode cX2_thrown 1 = .ok (.getfield 26, 3) := by decide +kernel
theorem dX2_thrown_4 : decode cX2_thrown 4 = .ok (.ireturn, 1) := by decide +kernel
theorem dX2_outside_0 : decode cX2_outside 0 = .ok (.iload_n 0, 1) := by decide +kernel
theorem dX2_outside_1 : decode cX2_outside 1 = .ok (.iload_n 1, 1) := by decide +kernel
theorem dX2_outside_2 : decode cX2_outside 2 = .ok (.if_icmp .lt 8, 3) := by decide +kernel
theorem dX2_outside_5 : decode cX2_outside 5 = .ok (.iload_n 0, 1) := by decide +kernel
theorem dX2_outside_6 : decode cX2_outside 6 = .ok (.iload_n 2, 1) := by decide +kernel
theorem dX2_outside_7 : decode cX2_outside 7 = .ok (.if_icmp .le 7, 3) := by decide +kernel
theorem dX2_outside_10 : decode cX2_outside 10 = .ok (.iconst 1, 1) := by decide +kernel
theorem dX2_outside_11 : decode cX2_outside 11 = .ok (.goto 4, 3) := by decide +kernel
theorem dX2_outside_14 : decode cX2_outside 14 = .ok (.iconst 0, 1) := by decide +kernel
theorem dX2_outside_15 : decode cX2_outside 15 = .ok (.ireturn, 1) := by decide +kernel
theorem dX2_fails_0 : decode cX2_fails 0 = .ok (.aload_n 0, 1) := by decide +kernel
theorem dX2_fails_1 : decode cX2_fails 1 = .ok (.iload_n 1, 1) := by decide +kernel
theorem dX2_fails_2 : decode cX2_fails 2 = .ok (.ifCond .eq 7, 3) := by decide +kernel
theorem dX2_fails_5 : decode cX2_fails 5 = .ok (.iconst 1, 1) := by decide +kernel
theorem dX2_fails_6 : decode cX2_fails 6 = .ok (.goto 20, 3) := by decide +kernel
theorem dX2_fails_9 : decode cX2_fails 9 = .ok (.iload_n 2, 1) := by decide +kernel
theorem dX2_fails_10 : decode cX2_fails 10 = .ok (.ifCond .eq 7, 3) := by decide +kernel
theorem dX2_fails_13 : decode cX2_fails 13 = .ok (.iconst 2, 1) := by decide +kernel
theorem dX2_fails_14 : decode cX2_fails 14 = .ok (.goto 12, 3) := by decide +kernel
theorem dX2_fails_17 : decode cX2_fails 17 = .ok (.iload_n 3, 1) := by decide +kernel
theorem dX2_fails_18 : decode cX2_fails 18 = .ok (.ifCond .eq 7, 3) := by decide +kernel
theorem dX2_fails_21 : decode cX2_fails 21 = .ok (.iconst 3, 1) := by decide +kernel
theorem dX2_fails_22 : decode cX2_fails 22 = .ok (.goto 4, 3) := by decide +kernel
theorem dX2_fails_25 : decode cX2_fails 25 = .ok (.iconst 0, 1) := by decide +kernel
theorem dX2_fails_26 : decode cX2_fails 26 = .ok (.putfield 26, 3) := by decide +kernel
theorem dX2_fails_29 : decode cX2_fails 29 = .ok (.aload_n 0, 1) := by decide +kernel
theorem dX2_fails_30 : decode cX2_fails 30 = .ok (.getfield 26, 3) := by decide +kernel
theorem dX2_fails_33 : decode cX2_fails 33 = .ok (.ifCond .le 7, 3) := by decide +kernel
theorem dX2_fails_36 : decode cX2_fails 36 = .ok (.iconst 1, 1) := by decide +kernel
theorem dX2_fails_37 : decode cX2_fails 37 = .ok (.goto 4, 3) := by decide +kernel
theorem dX2_fails_40 : decode cX2_fails 40 = .ok (.iconst 0, 1) := by decide +kernel
theorem dX2_fails_41 : decode cX2_fails 41 = .ok (.ireturn, 1) := by decide +kernel
theorem dX2_size_0 : decode cX2_size 0 = .ok (.iload_n 0, 1) := by decide +kernel
theorem dX2_size_1 : decode cX2_size 1 = .ok (.ifCond .ge 8, 3) := by decide +kernel
theorem dX2_size_4 : decode cX2_size 4 = .ok (.iload_n 0, 1) := by decide +kernel
theorem dX2_size_5 : decode cX2_size 5 = .ok (.ineg, 1) := by decide +kernel
theorem dX2_size_6 : decode cX2_size 6 = .ok (.goto 4, 3) := by decide +kernel
theorem dX2_size_9 : decode cX2_size 9 = .ok (.iload_n 0, 1) := by decide +kernel
theorem dX2_size_10 : decode cX2_size 10 = .ok (.ireturn, 1) := by decide +kernel
set_option maxRecDepth 20000 in
theorem ggX2_sizes_X2_size : GoodIn wsX2_sizes wsX2_size := goodIn_r _ [5] (by decide +kernel) (by decide +kernel)
set_option maxRecDepth 20000 in
theorem gX2_sizes_X2_size : GoodIn wsX2_sizes (va_wsS RX2 30 yX2_size wsX2_size) := goodIn_app (goodIn_of _ (by decide +kernel)) ggX2_sizes_X2_size
theorem dX2_sizes_0 : decode cX2_sizes 0 = .ok (.iconst 0, 1) := by decide +kernel
theorem dX2_sizes_1 : decode cX2_sizes 1 = .ok (.istore_n 2, 1) := by decide +kernel
theorem dX2_sizes_2 : decode cX2_sizes 2 = .ok (.iconst 0, 1) := by decide +kernel
theorem dX2_sizes_3 : decode cX2_sizes 3 = .ok (.istore_n 3, 1) := by decide +kernel
theorem dX2_sizes_4 : decode cX2_sizes 4 = .ok (.iload_n 3, 1) := by decide +kernel
theorem dX2_sizes_5 : decode cX2_sizes 5 = .ok (.bipush 10, 2) := by decide +kernel
theorem dX2_sizes_7 : decode cX2_sizes 7 = .ok (.if_icmp .ge 26, 3) := by decide +kernel
theorem dX2_sizes_10 : decode cX2_sizes 10 = .ok (.iload_n 2, 1) := by decide +kernel
theorem dX2_sizes_11 : decode cX2_sizes 11 = .ok (.aload_n 0, 1) := by decide +kernel
theorem dX2_sizes_12 : decode cX2_sizes 12 = .ok (.getfield 7, 3) := by decide +kernel
theorem dX2_sizes_15 : decode cX2_sizes 15 = .ok (.bipush 11, 2) := by decide +kernel
theorem dX2_sizes_17 : decode cX2_sizes 17 = .ok (.iload_n 1, 1) := by decide +kernel
theorem dX2_sizes_18 : decode cX2_sizes 18 = .ok (.imul, 1) := by decide +kernel
theorem dX2_sizes_19 : decode cX2_sizes 19 = .ok (.iload_n 3, 1) := by decide +kernel
theorem dX2_sizes_20 : decode cX2_sizes 20 = .ok (.iadd, 1) := by decide +kernel
theorem dX2_sizes_21 : decode cX2_sizes 21 = .ok (.iaload, 1) := by decide +kernel
theorem dX2_sizes_22 : decode cX2_sizes 22 = .ok (.invokestatic 30, 3) := by decide +kernel
theorem dX2_sizes_25 : decode cX2_sizes 25 = .ok (.iadd, 1) := by decide +kernel
theorem dX2_sizes_26 : decode cX2_sizes 26 = .ok (.istore_n 2, 1) := by decide +kernel
theorem dX2_sizes_27 : decode cX2_sizes 27 = .ok (.iinc 3 1, 3) := by decide +kernel
theorem dX2_sizes_30 : decode cX2_sizes 30 = .ok (.goto (-26), 3) := by decide +kernel
theorem dX2_sizes_33 : decode cX2_sizes 33 = .ok (.iload_n 2, 1) := by decide +kernel
theorem dX2_sizes_34 : decode cX2_sizes 34 = .ok (.ireturn, 1) := by decide +kernel
theorem dX2_copy_0 : decode cX2_copy 0 = .ok (.iconst 0, 1) := by decide +kernel
theorem dX2_copy_1 : decode cX2_copy 1 = .ok (.istore_n 3, 1) := by decide +kernel
theorem dX2_copy_2 : decode cX2_copy 2 = .ok (.iload_n 3, 1) := by decide +kernel
theorem dX2_copy_3 : decode cX2_copy 3 = .ok (.bipush 11, 2) := by decide +kernel
theorem dX2_copy_5 : decode cX2_copy 5 = .ok (.if_icmp .ge 31, 3) := by decide +kernel
theorem dX2_copy_8 : decode cX2_copy 8 = .ok (.aload_n 0, 1) := by decide +kernel
theorem dX2_copy_9 : decode cX2_copy 9 = .ok (.getfield 7, 3) := by decide +kernel
theorem dX2_copy_12 : decode cX2_copy 12 = .ok (.bipush 11, 2) := by decide +kernel
theorem dX2_copy_14 : decode cX2_copy 14 = .ok (.iload_n 2, 1) := by decide +kernel
theorem dX2_copy_15 : decode cX2_copy 15 = .ok (.imul, 1) := by decide +kernel
theorem dX2_copy_16 : decode cX2_copy 16 = .ok (.iload_n 3, 1) := by decide +kernel
theorem dX2_copy_17 : decode cX2_copy 17 = .ok (.iadd, 1) := by decide +kernel
theorem dX2_copy_18 : decode cX2_copy 18 = .ok (.aload_n 0, 1) := by decide +kernel
theorem dX2_copy_19 : decode cX2_copy 19 = .ok (.getfield 7, 3) := by decide +kernel
theorem dX2_copy_22 : decode cX2_copy 22 = .ok (.bipush 11, 2) := by decide +kernel
theorem dX2_copy_24 : decode cX2_copy 24 = .ok (.iload_n 1, 1) := by decide +kernel
theorem dX2_copy_25 : decode cX2_copy 25 = .ok (.imul, 1) := by decide +kernel
theorem dX2_copy_26 : decode cX2_copy 26 = .ok (.iload_n 3, 1) := by decide +kernel
theorem dX2_copy_27 : decode cX2_copy 27 = .ok (.iadd, 1) := by decide +kernel
theorem dX2_copy_28 : decode cX2_copy 28 = .ok (.iaload, 1) := by decide +kernel
theorem dX2_copy_29 : decode cX2_copy 29 = .ok (.iastore, 1) := by decide +kernel
theorem dX2_copy_30 : decode cX2_copy 30 = .ok (.iinc 3 1, 3) := by decide +kernel
theorem dX2_copy_33 : decode cX2_copy 33 = .ok (.goto (-31), 3) := by decide +kernel
theorem dX2_copy_36 : decode cX2_copy 36 = .ok (.return_, 1) := by decide +kernel
set_option maxRecDepth 20000 in
theorem ggX2_term_X2_outside : GoodIn wsX2_term wsX2_outside := goodIn_r _ [5] (by decide +kernel) (by decide +kernel)
set_option maxRecDepth 20000 in
theorem gX2_term_X2_outside : GoodIn wsX2_term (va_wsS RX2 34 yX2_outside wsX2_outside) := goodIn_app (goodIn_of _ (by decide +kernel)) ggX2_term_X2_outside
set_option maxRecDepth 20000 in
theorem ggX2_term_X2_fails : GoodIn wsX2_term wsX2_fails := goodIn_r _ [9, 10, 11, 12, 13, 14, 15, 16, 17, 18, 19, 20, 21, 22, 23] (by decide +kernel) (by decide +kernel)
set_option maxRecDepth 20000 in
theorem gX2_term_X2_fails : GoodIn wsX2_term (wsV RX2 38 RX2 yX2_fails wsX2_fails) := goodIn_app (goodIn_of _ (by decide +kernel)) ggX2_term_X2_fails
theorem dX2_term_0 : decode cX2_term 0 = .ok (.aload_n 0, 1) := by decide +kernel
theorem dX2_term_1 : decode cX2_term 1 = .ok (.iload_n 1, 1) := by decide +kernel
theorem dX2_term_2 : decode cX2_term 2 = .ok (.iconst 0, 1) := by decide +kernel
theorem dX2_term_3 : decode cX2_term 3 = .ok (.bipush 9, 2) := by decide +kernel
theorem dX2_term_5 : decode cX2_term 5 = .ok (.invokestatic 34, 3) := by decide +kernel
theorem dX2_term_8 : decode cX2_term 8 = .ok (.ifCond .ne 14, 3) := by decide +kernel
theorem dX2_term_11 : decode cX2_term 11 = .ok (.iload_n 2, 1) := by decide +kernel
theorem dX2_term_12 : decode cX2_term 12 = .ok (.bipush (-99), 2) := by decide +kernel
theorem dX2_term_14 : decode cX2_term 14 = .ok (.bipush 99, 2) := by decide +kernel
theorem dX2_term_16 : decode cX2_term 16 = .ok (.invokestatic 34, 3) := by decide +kernel
theorem dX2_term_19 : decode cX2_term 19 = .ok (.ifCond .eq 7, 3) := by decide +kernel
theorem dX2_term_22 : decode cX2_term 22 = .ok (.iconst 1, 1) := by decide +kernel
theorem dX2_term_23 : decode cX2_term 23 = .ok (.goto 4, 3) := by decide +kernel
theorem dX2_term_26 : decode cX2_term 26 = .ok (.iconst 0, 1) := by decide +kernel
theorem dX2_term_27 : decode cX2_term 27 = .ok (.iconst 0, 1) := by decide +kernel
theorem dX2_term_28 : decode cX2_term 28 = .ok (.iconst 0, 1) := by decide +kernel
theorem dX2_term_29 : decode cX2_term 29 = .ok (.invokevirtual 38, 3) := by decide +kernel
theorem dX2_term_32 : decode cX2_term 32 = .ok (.ifCond .eq 4, 3) := by decide +kernel
theorem dX2_term_35 : decode cX2_term 35 = .ok (.return_, 1) := by decide +kernel
theorem dX2_term_36 : decode cX2_term 36 = .ok (.aload_n 0, 1) := by decide +kernel
theorem dX2_term_37 : decode cX2_term 37 = .ok (.getfield 17, 3) := by decide +kernel
theorem dX2_term_40 : decode cX2_term 40 = .ok (.iload_n 1, 1) := by decide +kernel
theorem dX2_term_41 : decode cX2_term 41 = .ok (.iload_n 2, 1) := by decide +kernel
theorem dX2_term_42 : decode cX2_term 42 = .ok (.iastore, 1) := by decide +kernel
theorem dX2_term_43 : decode cX2_term 43 = .ok (.return_, 1) := by decide +kernel
theorem dX2_empty_0 : decode cX2_empty 0 = .ok (.iconst 0, 1) := by decide +kernel
theorem dX2_empty_1 : decode cX2_empty 1 = .ok (.istore_n 1, 1) := by decide +kernel
theorem dX2_empty_2 : decode cX2_empty 2 = .ok (.iload_n 1, 1) := by decide +kernel
theorem dX2_empty_3 : decode cX2_empty 3 = .ok (.bipush 10, 2) := by decide +kernel
theorem dX2_empty_5 : decode cX2_empty 5 = .ok (.if_icmp .ge 16, 3) := by decide +kernel
theorem dX2_empty_8 : decode cX2_empty 8 = .ok (.aload_n 0, 1) := by decide +kernel
theorem dX2_empty_9 : decode cX2_empty 9 = .ok (.getfield 17, 3) := by decide +kernel
theorem dX2_empty_12 : decode cX2_empty 12 = .ok (.iload_n 1, 1) := by decide +kernel
theorem dX2_empty_13 : decode cX2_empty 13 = .ok (.iconst 0, 1) := by decide +kernel
theorem dX2_empty_14 : decode cX2_empty 14 = .ok (.iastore, 1) := by decide +kernel
theorem dX2_empty_15 : decode cX2_empty 15 = .ok (.iinc 1 1, 3) := by decide +kernel
theorem dX2_empty_18 : decode cX2_empty 18 = .ok (.goto (-16), 3) := by decide +kernel
theorem dX2_empty_21 : decode cX2_empty 21 = .ok (.return_, 1) := by decide +kernel
set_option maxRecDepth 20000 in
theorem ggX2_clear_X2_empty : GoodIn wsX2_clear wsX2_empty := goodIn_r _ [6, 7, 8, 9, 10, 11, 12, 13, 14, 15, 16, 17, 18, 19, 20] (by decide +kernel) (by decide +kernel)
set_option maxRecDepth 20000 in
theorem gX2_clear_X2_empty : GoodIn wsX2_clear (wsV RX2 42 RX2 yX2_empty wsX2_empty) := goodIn_app (goodIn_of _ (by decide +kernel)) ggX2_clear_X2_empty
theorem dX2_clear_0 : decode cX2_clear 0 = .ok (.aload_n 0, 1) := by decide +kernel
theorem dX2_clear_1 : decode cX2_clear 1 = .ok (.iconst 0, 1) := by decide +kernel
theorem dX2_clear_2 : decode cX2_clear 2 = .ok (.putfield 26, 3) := by decide +kernel
theorem dX2_clear_5 : decode cX2_clear 5 = .ok (.aload_n 0, 1) := by decide +kernel
theorem dX2_clear_6 : decode cX2_clear 6 = .ok (.invokevirtual 42, 3) := by decide +kernel
theorem dX2_clear_9 : decode cX2_clear 9 = .ok (.return_, 1) := by decide +kernel
theorem dX2_normalize_0 : decode cX2_normalize 0 = .ok (.iload_n 3, 1) := by decide +kernel
theorem dX2_normalize_1 : decode cX2_normalize 1 = .ok (.istore 4, 2) := by decide +kernel
theorem dX2_normalize_3 : decode cX2_normalize 3 = .ok (.iconst 0, 1) := by decide +kernel
theorem dX2_normalize_4 : decode cX2_normalize 4 = .ok (.istore 5, 2) := by decide +kernel
theorem dX2_normalize_6 : decode cX2_normalize 6 = .ok (.iload 5, 2) := by decide +kernel
theorem dX2_normalize_8 : decode cX2_normalize 8 = .ok (.bipush 10, 2) := by decide +kernel
theorem dX2_normalize_10 : decode cX2_normalize 10 = .ok (.if_icmp .ge 64, 3) := by decide +kernel
theorem dX2_normalize_13 : decode cX2_normalize 13 = .ok (.iload_n 2, 1) := by decide +kernel
theorem dX2_normalize_14 : decode cX2_normalize 14 = .ok (.iload_n 1, 1) := by decide +kernel
theorem dX2_normalize_15 : decode cX2_normalize 15 = .ok (.ifCond .eq 13, 3) := by decide +kernel
theorem dX2_normalize_18 : decode cX2_normalize 18 = .ok (.aload_n 0, 1) := by decide +kernel
theorem dX2_normalize_19 : decode cX2_normalize 19 = .ok (.getfield 20, 3) := by decide +kernel
theorem dX2_normalize_22 : decode cX2_normalize 22 = .ok (.iload 5, 2) := by decide +kernel
theorem dX2_normalize_24 : decode cX2_normalize 24 = .ok (.iaload, 1) := by decide +kernel
theorem dX2_normalize_25 : decode cX2_normalize 25 = .ok (.goto 10, 3) := by decide +kernel
theorem dX2_normalize_28 : decode cX2_normalize 28 = .ok (.aload_n 0, 1) := by decide +kernel
theorem dX2_normalize_29 : decode cX2_normalize 29 = .ok (.getfield 17, 3) := by decide +kernel
theorem dX2_normalize_32 : decode cX2_normalize 32 = .ok (.iload 5, 2) := by decide +kernel
theorem dX2_normalize_34 : decode cX2_normalize 34 = .ok (.iaload, 1) := by decide +kernel
theorem dX2_normalize_35 : decode cX2_normalize 35 = .ok (.imul, 1) := by decide +kernel
theorem dX2_normalize_36 : decode cX2_normalize 36 = .ok (.istore 6, 2) := by decide +kernel
theorem dX2_normalize_38 : decode cX2_normalize 38 = .ok (.aload_n 0, 1) := by decide +kernel
theorem dX2_normalize_39 : decode cX2_normalize 39 = .ok (.getfield 7, 3) := by decide +kernel
theorem dX2_normalize_42 : decode cX2_normalize 42 = .ok (.sipush 396, 3) := by decide +kernel
theorem dX2_normalize_45 : decode cX2_normalize 45 = .ok (.iload 5, 2) := by decide +kernel
theorem dX2_normalize_47 : decode cX2_normalize 47 = .ok (.iadd, 1) := by decide +kernel
theorem dX2_normalize_48 : decode cX2_normalize 48 = .ok (.iload 6, 2) := by decide +kernel
theorem dX2_normalize_50 : decode cX2_normalize 50 = .ok (.iastore, 1) := by decide +kernel
theorem dX2_normalize_51 : decode cX2_normalize 51 = .ok (.iload 4, 2) := by decide +kernel
theorem dX2_normalize_53 : decode cX2_normalize 53 = .ok (.iload 6, 2) := by decide +kernel
theorem dX2_normalize_55 : decode cX2_normalize 55 = .ok (.ifCond .ge 9, 3) := by decide +kernel
theorem dX2_normalize_58 : decode cX2_normalize 58 = .ok (.iload 6, 2) := by decide +kernel
theorem dX2_normalize_60 : decode cX2_normalize 60 = .ok (.ineg, 1) := by decide +kernel
theorem dX2_normalize_61 : decode cX2_normalize 61 = .ok (.goto 4, 3) := by decide +kernel
theorem dX2_normalize_64 : decode cX2_normalize 64 = .ok (.iconst 0, 1) := by decide +kernel
theorem dX2_normalize_65 : decode cX2_normalize 65 = .ok (.iadd, 1) := by decide +kernel
theorem dX2_normalize_66 : decode cX2_normalize 66 = .ok (.istore 4, 2) := by decide +kernel
theorem dX2_normalize_68 : decode cX2_normalize 68 = .ok (.iinc 5 1, 3) := by decide +kernel
theorem dX2_normalize_71 : decode cX2_normalize 71 = .ok (.goto (-65), 3) := by decide +kernel
theorem dX2_normalize_74 : decode cX2_normalize 74 = .ok (.aload_n 0, 1) := by decide +kernel
theorem dX2_normalize_75 : decode cX2_normalize 75 = .ok (.getfield 7, 3) := by decide +kernel
theorem dX2_normalize_78 : decode cX2_normalize 78 = .ok (.sipush 406, 3) := by decide +kernel
theorem dX2_normalize_81 : decode cX2_normalize 81 = .ok (.iload 4, 2) := by decide +kernel
theorem dX2_normalize_83 : decode cX2_normalize 83 = .ok (.ifCond .ge 7, 3) := by decide +kernel
theorem dX2_normalize_86 : decode cX2_normalize 86 = .ok (.iconst 0, 1) := by decide +kernel
theorem dX2_normalize_87 : decode cX2_normalize 87 = .ok (.goto 5, 3) := by decide +kernel
theorem dX2_normalize_90 : decode cX2_normalize 90 = .ok (.iload 4, 2) := by decide +kernel
theorem dX2_normalize_92 : decode cX2_normalize 92 = .ok (.iastore, 1) := by decide +kernel
theorem dX2_normalize_93 : decode cX2_normalize 93 = .ok (.return_, 1) := by decide +kernel
set_option maxRecDepth 20000 in
theorem ggX2_keep_X2_copy : GoodIn wsX2_keep wsX2_copy := goodIn_r _ [7, 8, 9, 10, 11, 12, 13, 14, 15, 16, 17, 18, 19, 20, 21] (by decide +kernel) (by decide +kernel)
set_option maxRecDepth 20000 in
theorem gX2_keep_X2_copy : GoodIn wsX2_keep (wsV RX2 48 RX2 yX2_copy wsX2_copy) := goodIn_app (goodIn_of _ (by decide +kernel)) ggX2_keep_X2_copy
theorem dX2_keep_0 : decode cX2_keep 0 = .ok (.aload_n 0, 1) := by decide +kernel
theorem dX2_keep_1 : decode cX2_keep 1 = .ok (.iload_n 1, 1) := by decide +kernel
theorem dX2_keep_2 : decode cX2_keep 2 = .ok (.aload_n 0, 1) := by decide +kernel
theorem dX2_keep_3 : decode cX2_keep 3 = .ok (.getfield 45, 3) := by decide +kernel
theorem dX2_keep_6 : decode cX2_keep 6 = .ok (.invokevirtual 48, 3) := by decide +kernel
theorem dX2_keep_9 : decode cX2_keep 9 = .ok (.aload_n 0, 1) := by decide +kernel
theorem dX2_keep_10 : decode cX2_keep 10 = .ok (.getfield 13, 3) := by decide +kernel
theorem dX2_keep_13 : decode cX2_keep 13 = .ok (.aload_n 0, 1) := by decide +kernel
theorem dX2_keep_14 : decode cX2_keep 14 = .ok (.getfield 45, 3) := by decide +kernel
theorem dX2_keep_17 : decode cX2_keep 17 = .ok (.iload_n 2, 1) := by decide +kernel
theorem dX2_keep_18 : decode cX2_keep 18 = .ok (.bastore, 1) := by decide +kernel
theorem dX2_keep_19 : decode cX2_keep 19 = .ok (.aload_n 0, 1) := by decide +kernel
theorem dX2_keep_20 : decode cX2_keep 20 = .ok (.dup, 1) := by decide +kernel
theorem dX2_keep_21 : decode cX2_keep 21 = .ok (.getfield 45, 3) := by decide +kernel
theorem dX2_keep_24 : decode cX2_keep 24 = .ok (.iconst 1, 1) := by decide +kernel
theorem dX2_keep_25 : decode cX2_keep 25 = .ok (.iadd, 1) := by decide +kernel
theorem dX2_keep_26 : decode cX2_keep 26 = .ok (.putfield 45, 3) := by decide +kernel
theorem dX2_keep_29 : decode cX2_keep 29 = .ok (.aload_n 0, 1) := by decide +kernel
theorem dX2_keep_30 : decode cX2_keep 30 = .ok (.getfield 45, 3) := by decide +kernel
theorem dX2_keep_33 : decode cX2_keep 33 = .ok (.iconst 1, 1) := by decide +kernel
theorem dX2_keep_34 : decode cX2_keep 34 = .ok (.isub, 1) := by decide +kernel
theorem dX2_keep_35 : decode cX2_keep 35 = .ok (.ireturn, 1) := by decide +kernel
set_option maxRecDepth 20000 in
theorem ggX2_require_X2_outside : GoodIn wsX2_require wsX2_outside := goodIn_r _ [6] (by decide +kernel) (by decide +kernel)
set_option maxRecDepth 20000 in
theorem gX2_require_X2_outside : GoodIn wsX2_require (va_wsS RX2 34 yX2_outside wsX2_outside) := goodIn_app (goodIn_of _ (by decide +kernel)) ggX2_require_X2_outside
set_option maxRecDepth 20000 in
theorem ggX2_require_X2_fails : GoodIn wsX2_require wsX2_fails := goodIn_r _ [10, 11, 32, 33, 34, 35, 36, 37, 38, 39, 40, 41, 42, 43, 44] (by decide +kernel) (by decide +kernel)
set_option maxRecDepth 20000 in
theorem gX2_require_X2_fails : GoodIn wsX2_require (wsV RX2 38 RX2 yX2_fails wsX2_fails) := goodIn_app (goodIn_of _ (by decide +kernel)) ggX2_require_X2_fails
set_option maxRecDepth 20000 in
theorem ggX2_require_X2_normalize : GoodIn wsX2_require wsX2_normalize := goodIn_r _ [15, 16, 17, 18, 32, 33, 34, 35, 36, 37, 38, 39, 40, 41, 42, 43, 44] (by decide +kernel) (by decide +kernel)
set_option maxRecDepth 20000 in
theorem gX2_require_X2_normalize : GoodIn wsX2_require (wsV RX2 56 RX2 yX2_normalize wsX2_normalize) := goodIn_app (goodIn_of _ (by decide +kernel)) ggX2_require_X2_normalize
set_option maxRecDepth 20000 in
theorem ggX2_require_X2_empty : GoodIn wsX2_require wsX2_empty := goodIn_r _ [22, 17, 32, 33, 34, 35, 36, 37, 38, 39, 40, 41, 42, 43, 44] (by decide +kernel) (by decide +kernel)
set_option maxRecDepth 20000 in
theorem gX2_require_X2_empty : GoodIn wsX2_require (wsV RX2 42 RX2 yX2_empty wsX2_empty) := goodIn_app (goodIn_of _ (by decide +kernel)) ggX2_require_X2_empty
set_option maxRecDepth 20000 in
theorem ggX2_require_X2_keep : GoodIn wsX2_require wsX2_keep := goodIn_r _ [26, 1, 27, 28, 29, 30, 5, 31, 18, 32, 33, 34, 35, 36, 37, 38, 39, 40, 41, 42, 43, 44] (by decide +kernel) (by decide +kernel)
set_option maxRecDepth 20000 in
theorem gX2_require_X2_keep : GoodIn wsX2_require (wsV RX2 60 RX2 yX2_keep wsX2_keep) := goodIn_app (goodIn_of _ (by decide +kernel)) ggX2_require_X2_keep
theorem dX2_require_0 : decode cX2_require 0 = .ok (.aload_n 0, 1) := by decide +kernel
theorem dX2_require_1 : decode cX2_require 1 = .ok (.iload_n 1, 1) := by decide +kernel
theorem dX2_require_2 : decode cX2_require 2 = .ok (.iconst 0, 1) := by decide +kernel
theorem dX2_require_3 : decode cX2_require 3 = .ok (.iconst 1, 1) := by decide +kernel
theorem dX2_require_4 : decode cX2_require 4 = .ok (.invokestatic 34, 3) := by decide +kernel
theorem dX2_require_7 : decode cX2_require 7 = .ok (.ifCond .ne 16, 3) := by decide +kernel
theorem dX2_require_10 : decode cX2_require 10 = .ok (.iload_n 2, 1) := by decide +kernel
theorem dX2_require_11 : decode cX2_require 11 = .ok (.sipush (-9999), 3) := by decide +kernel
theorem dX2_require_14 : decode cX2_require 14 = .ok (.sipush 9999, 3) := by decide +kernel
theorem dX2_require_17 : decode cX2_require 17 = .ok (.invokestatic 34, 3) := by decide +kernel
theorem dX2_require_20 : decode cX2_require 20 = .ok (.ifCond .eq 7, 3) := by decide +kernel
theorem dX2_require_23 : decode cX2_require 23 = .ok (.iconst 1, 1) := by decide +kernel
theorem dX2_require_24 : decode cX2_require 24 = .ok (.goto 4, 3) := by decide +kernel
theorem dX2_require_27 : decode cX2_require 27 = .ok (.iconst 0, 1) := by decide +kernel
theorem dX2_require_28 : decode cX2_require 28 = .ok (.aload_n 0, 1) := by decide +kernel
theorem dX2_require_29 : decode cX2_require 29 = .ok (.getfield 45, 3) := by decide +kernel
theorem dX2_require_32 : decode cX2_require 32 = .ok (.bipush 30, 2) := by decide +kernel
theorem dX2_require_34 : decode cX2_require 34 = .ok (.if_icmp .eq 10, 3) := by decide +kernel
theorem dX2_require_37 : decode cX2_require 37 = .ok (.aload_n 0, 1) := by decide +kernel
theorem dX2_require_38 : decode cX2_require 38 = .ok (.getfield 52, 3) := by decide +kernel
theorem dX2_require_41 : decode cX2_require 41 = .ok (.ifCond .eq 7, 3) := by decide +kernel
theorem dX2_require_44 : decode cX2_require 44 = .ok (.iconst 1, 1) := by decide +kernel
theorem dX2_require_45 : decode cX2_require 45 = .ok (.goto 4, 3) := by decide +kernel
theorem dX2_require_48 : decode cX2_require 48 = .ok (.iconst 0, 1) := by decide +kernel
theorem dX2_require_49 : decode cX2_require 49 = .ok (.iconst 0, 1) := by decide +kernel
theorem dX2_require_50 : decode cX2_require 50 = .ok (.invokevirtual 38, 3) := by decide +kernel
theorem dX2_require_53 : decode cX2_require 53 = .ok (.ifCond .eq 5, 3) := by decide +kernel
theorem dX2_require_56 : decode cX2_require 56 = .ok (.iconst 0, 1) := by decide +kernel
theorem dX2_require_57 : decode cX2_require 57 = .ok (.ireturn, 1) := by decide +kernel
theorem dX2_require_58 : decode cX2_require 58 = .ok (.aload_n 0, 1) := by decide +kernel
theorem dX2_require_59 : decode cX2_require 59 = .ok (.iconst 0, 1) := by decide +kernel
theorem dX2_require_60 : decode cX2_require 60 = .ok (.iload_n 1, 1) := by decide +kernel
theorem dX2_require_61 : decode cX2_require 61 = .ok (.ifCond .ne 7, 3) := by decide +kernel
theorem dX2_require_64 : decode cX2_require 64 = .ok (.iconst 1, 1) := by decide +kernel
theorem dX2_require_65 : decode cX2_require 65 = .ok (.goto 4, 3) := by decide +kernel
theorem dX2_require_68 : decode cX2_require 68 = .ok (.iconst (-1), 1) := by decide +kernel
theorem dX2_require_69 : decode cX2_require 69 = .ok (.iload_n 1, 1) := by decide +kernel
theorem dX2_require_70 : decode cX2_require 70 = .ok (.ifCond .ne 7, 3) := by decide +kernel
theorem dX2_require_73 : decode cX2_require 73 = .ok (.iload_n 2, 1) := by decide +kernel
theorem dX2_require_74 : decode cX2_require 74 = .ok (.goto 5, 3) := by decide +kernel
theorem dX2_require_77 : decode cX2_require 77 = .ok (.iload_n 2, 1) := by decide +kernel
theorem dX2_require_78 : decode cX2_require 78 = .ok (.ineg, 1) := by decide +kernel
theorem dX2_require_79 : decode cX2_require 79 = .ok (.invokevirtual 56, 3) := by decide +kernel
theorem dX2_require_82 : decode cX2_require 82 = .ok (.aload_n 0, 1) := by decide +kernel
theorem dX2_require_83 : decode cX2_require 83 = .ok (.invokevirtual 42, 3) := by decide +kernel
theorem dX2_require_86 : decode cX2_require 86 = .ok (.aload_n 0, 1) := by decide +kernel
theorem dX2_require_87 : decode cX2_require 87 = .ok (.bipush 36, 2) := by decide +kernel
theorem dX2_require_89 : decode cX2_require 89 = .ok (.iconst 1, 1) := by decide +kernel
theorem dX2_require_90 : decode cX2_require 90 = .ok (.invokevirtual 60, 3) := by decide +kernel
theorem dX2_require_93 : decode cX2_require 93 = .ok (.ireturn, 1) := by decide +kernel
set_option maxRecDepth 20000 in
theorem ggX2_objective_X2_fails : GoodIn wsX2_objective wsX2_fails := goodIn_r _ [8, 9, 14, 15, 16, 17, 18, 19, 20, 21, 22, 23, 24, 25, 26] (by decide +kernel) (by decide +kernel)
set_option maxRecDepth 20000 in
theorem gX2_objective_X2_fails : GoodIn wsX2_objective (wsV RX2 38 RX2 yX2_fails wsX2_fails) := goodIn_app (goodIn_of _ (by decide +kernel)) ggX2_objective_X2_fails
set_option maxRecDepth 20000 in
theorem ggX2_objective_X2_empty : GoodIn wsX2_objective wsX2_empty := goodIn_r _ [13, 3, 14, 15, 16, 17, 18, 19, 20, 21, 22, 23, 24, 25, 26] (by decide +kernel) (by decide +kernel)
set_option maxRecDepth 20000 in
theorem gX2_objective_X2_empty : GoodIn wsX2_objective (wsV RX2 42 RX2 yX2_empty wsX2_empty) := goodIn_app (goodIn_of _ (by decide +kernel)) ggX2_objective_X2_empty
theorem dX2_objective_0 : decode cX2_objective 0 = .ok (.aload_n 0, 1) := by decide +kernel
theorem dX2_objective_1 : decode cX2_objective 1 = .ok (.aload_n 0, 1) := by decide +kernel
theorem dX2_objective_2 : decode cX2_objective 2 = .ok (.getfield 52, 3) := by decide +kernel
theorem dX2_objective_5 : decode cX2_objective 5 = .ok (.iconst 0, 1) := by decide +kernel
theorem dX2_objective_6 : decode cX2_objective 6 = .ok (.iconst 0, 1) := by decide +kernel
theorem dX2_objective_7 : decode cX2_objective 7 = .ok (.invokevirtual 38, 3) := by decide +kernel
theorem dX2_objective_10 : decode cX2_objective 10 = .ok (.ifCond .eq 4, 3) := by decide +kernel
theorem dX2_objective_13 : decode cX2_objective 13 = .ok (.return_, 1) := by decide +kernel
theorem dX2_objective_14 : decode cX2_objective 14 = .ok (.iconst 0, 1) := by decide +kernel
theorem dX2_objective_15 : decode cX2_objective 15 = .ok (.istore_n 1, 1) := by decide +kernel
theorem dX2_objective_16 : decode cX2_objective 16 = .ok (.iload_n 1, 1) := by decide +kernel
theorem dX2_objective_17 : decode cX2_objective 17 = .ok (.bipush 10, 2) := by decide +kernel
theorem dX2_objective_19 : decode cX2_objective 19 = .ok (.if_icmp .ge 21, 3) := by decide +kernel
theorem dX2_objective_22 : decode cX2_objective 22 = .ok (.aload_n 0, 1) := by decide +kernel
theorem dX2_objective_23 : decode cX2_objective 23 = .ok (.getfield 20, 3) := by decide +kernel
theorem dX2_objective_26 : decode cX2_objective 26 = .ok (.iload_n 1, 1) := by decide +kernel
theorem dX2_objective_27 : decode cX2_objective 27 = .ok (.aload_n 0, 1) := by decide +kernel
theorem dX2_objective_28 : decode cX2_objective 28 = .ok (.getfield 17, 3) := by decide +kernel
theorem dX2_objective_31 : decode cX2_objective 31 = .ok (.iload_n 1, 1) := by decide +kernel
theorem dX2_objective_32 : decode cX2_objective 32 = .ok (.iaload, 1) := by decide +kernel
theorem dX2_objective_33 : decode cX2_objective 33 = .ok (.iastore, 1) := by decide +kernel
theorem dX2_objective_34 : decode cX2_objective 34 = .ok (.iinc 1 1, 3) := by decide +kernel
theorem dX2_objective_37 : decode cX2_objective 37 = .ok (.goto (-21), 3) := by decide +kernel
theorem dX2_objective_40 : decode cX2_objective 40 = .ok (.aload_n 0, 1) := by decide +kernel
theorem dX2_objective_41 : decode cX2_objective 41 = .ok (.invokevirtual 42, 3) := by decide +kernel
theorem dX2_objective_44 : decode cX2_objective 44 = .ok (.return_, 1) := by decide +kernel
theorem dX2_constraints_0 : decode cX2_constraints 0 = .ok (.aload_n 0, 1) := by decide +kernel
theorem dX2_constraints_1 : decode cX2_constraints 1 = .ok (.iconst 0, 1) := by decide +kernel
theorem dX2_constraints_2 : decode cX2_constraints 2 = .ok (.putfield 26, 3) := by decide +kernel
theorem dX2_constraints_5 : decode cX2_constraints 5 = .ok (.aload_n 0, 1) := by decide +kernel
theorem dX2_constraints_6 : decode cX2_constraints 6 = .ok (.getfield 45, 3) := by decide +kernel
theorem dX2_constraints_9 : decode cX2_constraints 9 = .ok (.ireturn, 1) := by decide +kernel
set_option maxRecDepth 20000 in
theorem ggX2_constraint_X2_outside : GoodIn wsX2_constraint wsX2_outside := goodIn_r _ [7] (by decide +kernel) (by decide +kernel)
set_option maxRecDepth 20000 in
theorem gX2_constraint_X2_outside : GoodIn wsX2_constraint (va_wsS RX2 34 yX2_outside wsX2_outside) := goodIn_app (goodIn_of _ (by decide +kernel)) ggX2_constraint_X2_outside
set_option maxRecDepth 20000 in
theorem ggX2_constraint_X2_fails : GoodIn wsX2_constraint wsX2_fails := goodIn_r _ [11, 12, 13, 14, 15, 16, 17, 18, 19, 20, 21, 22, 23, 24, 25] (by decide +kernel) (by decide +kernel)
set_option maxRecDepth 20000 in
theorem gX2_constraint_X2_fails : GoodIn wsX2_constraint (wsV RX2 38 RX2 yX2_fails wsX2_fails) := goodIn_app (goodIn_of _ (by decide +kernel)) ggX2_constraint_X2_fails
theorem dX2_constraint_0 : decode cX2_constraint 0 = .ok (.aload_n 0, 1) := by decide +kernel
theorem dX2_constraint_1 : decode cX2_constraint 1 = .ok (.iload_n 1, 1) := by decide +kernel
theorem dX2_constraint_2 : decode cX2_constraint 2 = .ok (.iconst 0, 1) := by decide +kernel
theorem dX2_constraint_3 : decode cX2_constraint 3 = .ok (.aload_n 0, 1) := by decide +kernel
theorem dX2_constraint_4 : decode cX2_constraint 4 = .ok (.getfield 45, 3) := by decide +kernel
theorem dX2_constraint_7 : decode cX2_constraint 7 = .ok (.iconst 1, 1) := by decide +kernel
theorem dX2_constraint_8 : decode cX2_constraint 8 = .ok (.isub, 1) := by decide +kernel
theorem dX2_constraint_9 : decode cX2_constraint 9 = .ok (.invokestatic 34, 3) := by decide +kernel
theorem dX2_constraint_12 : decode cX2_constraint 12 = .ok (.iload_n 2, 1) := by decide +kernel
theorem dX2_constraint_13 : decode cX2_constraint 13 = .ok (.bipush (-2), 2) := by decide +kernel
theorem dX2_constraint_15 : decode cX2_constraint 15 = .ok (.bipush 9, 2) := by decide +kernel
theorem dX2_constraint_17 : decode cX2_constraint 17 = .ok (.invokestatic 34, 3) := by decide +kernel
theorem dX2_constraint_20 : decode cX2_constraint 20 = .ok (.iconst 0, 1) := by decide +kernel
theorem dX2_constraint_21 : decode cX2_constraint 21 = .ok (.invokevirtual 38, 3) := by decide +kernel
theorem dX2_constraint_24 : decode cX2_constraint 24 = .ok (.ifCond .eq 5, 3) := by decide +kernel
theorem dX2_constraint_27 : decode cX2_constraint 27 = .ok (.iconst 0, 1) := by decide +kernel
theorem dX2_constraint_28 : decode cX2_constraint 28 = .ok (.ireturn, 1) := by decide +kernel
theorem dX2_constraint_29 : decode cX2_constraint 29 = .ok (.iload_n 2, 1) := by decide +kernel
theorem dX2_constraint_30 : decode cX2_constraint 30 = .ok (.bipush (-2), 2) := by decide +kernel
theorem dX2_constraint_32 : decode cX2_constraint 32 = .ok (.if_icmp .ne 20, 3) := by decide +kernel
theorem dX2_constraint_35 : decode cX2_constraint 35 = .ok (.aload_n 0, 1) := by decide +kernel
theorem dX2_constraint_36 : decode cX2_constraint 36 = .ok (.getfield 13, 3) := by decide +kernel
theorem dX2_constraint_39 : decode cX2_constraint 39 = .ok (.iload_n 1, 1) := by decide +kernel
theorem dX2_constraint_40 : decode cX2_constraint 40 = .ok (.baload, 1) := by decide +kernel
theorem dX2_constraint_41 : decode cX2_constraint 41 = .ok (.ifCond .eq 7, 3) := by decide +kernel
theorem dX2_constraint_44 : decode cX2_constraint 44 = .ok (.iconst 1, 1) := by decide +kernel
theorem dX2_constraint_45 : decode cX2_constraint 45 = .ok (.goto 28, 3) := by decide +kernel
theorem dX2_constraint_48 : decode cX2_constraint 48 = .ok (.iconst 0, 1) := by decide +kernel
theorem dX2_constraint_49 : decode cX2_constraint 49 = .ok (.goto 24, 3) := by decide +kernel
theorem dX2_constraint_52 : decode cX2_constraint 52 = .ok (.aload_n 0, 1) := by decide +kernel
theorem dX2_constraint_53 : decode cX2_constraint 53 = .ok (.getfield 7, 3) := by decide +kernel
theorem dX2_constraint_56 : decode cX2_constraint 56 = .ok (.bipush 11, 2) := by decide +kernel
theorem dX2_constraint_58 : decode cX2_constraint 58 = .ok (.iload_n 1, 1) := by decide +kernel
theorem dX2_constraint_59 : decode cX2_constraint 59 = .ok (.imul, 1) := by decide +kernel
theorem dX2_constraint_60 : decode cX2_constraint 60 = .ok (.iload_n 2, 1) := by decide +kernel
theorem dX2_constraint_61 : decode cX2_constraint 61 = .ok (.iconst (-1), 1) := by decide +kernel
theorem dX2_constraint_62 : decode cX2_constraint 62 = .ok (.if_icmp .ne 8, 3) := by decide +kernel
theorem dX2_constraint_65 : decode cX2_constraint 65 = .ok (.bipush 10, 2) := by decide +kernel
theorem dX2_constraint_67 : decode cX2_constraint 67 = .ok (.goto 4, 3) := by decide +kernel
theorem dX2_constraint_70 : decode cX2_constraint 70 = .ok (.iload_n 2, 1) := by decide +kernel
theorem dX2_constraint_71 : decode cX2_constraint 71 = .ok (.iadd, 1) := by decide +kernel
theorem dX2_constraint_72 : decode cX2_constraint 72 = .ok (.iaload, 1) := by decide +kernel
theorem dX2_constraint_73 : decode cX2_constraint 73 = .ok (.ireturn, 1) := by decide +kernel
set_option maxRecDepth 20000 in
theorem ggX2_slack_X2_size : GoodIn wsX2_slack wsX2_size := goodIn_r _ [6] (by decide +kernel) (by decide +kernel)
set_option maxRecDepth 20000 in
theorem gX2_slack_X2_size : GoodIn wsX2_slack (va_wsS RX2 30 yX2_size wsX2_size) := goodIn_app (goodIn_of _ (by decide +kernel)) ggX2_slack_X2_size
theorem dX2_slack_0 : decode cX2_slack 0 = .ok (.aload_n 0, 1) := by decide +kernel
theorem dX2_slack_1 : decode cX2_slack 1 = .ok (.getfield 7, 3) := by decide +kernel
theorem dX2_slack_4 : decode cX2_slack 4 = .ok (.bipush 11, 2) := by decide +kernel
theorem dX2_slack_6 : decode cX2_slack 6 = .ok (.iload_n 1, 1) := by decide +kernel
theorem dX2_slack_7 : decode cX2_slack 7 = .ok (.imul, 1) := by decide +kernel
theorem dX2_slack_8 : decode cX2_slack 8 = .ok (.bipush 10, 2) := by decide +kernel
theorem dX2_slack_10 : decode cX2_slack 10 = .ok (.iadd, 1) := by decide +kernel
theorem dX2_slack_11 : decode cX2_slack 11 = .ok (.iaload, 1) := by decide +kernel
theorem dX2_slack_12 : decode cX2_slack 12 = .ok (.ineg, 1) := by decide +kernel
theorem dX2_slack_13 : decode cX2_slack 13 = .ok (.istore_n 2, 1) := by decide +kernel
theorem dX2_slack_14 : decode cX2_slack 14 = .ok (.iconst 0, 1) := by decide +kernel
theorem dX2_slack_15 : decode cX2_slack 15 = .ok (.istore_n 3, 1) := by decide +kernel
theorem dX2_slack_16 : decode cX2_slack 16 = .ok (.iload_n 3, 1) := by decide +kernel
theorem dX2_slack_17 : decode cX2_slack 17 = .ok (.bipush 10, 2) := by decide +kernel
theorem dX2_slack_19 : decode cX2_slack 19 = .ok (.if_icmp .ge 82, 3) := by decide +kernel
theorem dX2_slack_22 : decode cX2_slack 22 = .ok (.aload_n 0, 1) := by decide +kernel
theorem dX2_slack_23 : decode cX2_slack 23 = .ok (.getfield 7, 3) := by decide +kernel
theorem dX2_slack_26 : decode cX2_slack 26 = .ok (.bipush 11, 2) := by decide +kernel
theorem dX2_slack_28 : decode cX2_slack 28 = .ok (.iload_n 1, 1) := by decide +kernel
theorem dX2_slack_29 : decode cX2_slack 29 = .ok (.imul, 1) := by decide +kernel
theorem dX2_slack_30 : decode cX2_slack 30 = .ok (.iload_n 3, 1) := by decide +kernel
theorem dX2_slack_31 : decode cX2_slack 31 = .ok (.iadd, 1) := by decide +kernel
theorem dX2_slack_32 : decode cX2_slack 32 = .ok (.iaload, 1) := by decide +kernel
theorem dX2_slack_33 : decode cX2_slack 33 = .ok (.istore 4, 2) := by decide +kernel
theorem dX2_slack_35 : decode cX2_slack 35 = .ok (.aload_n 0, 1) := by decide +kernel
theorem dX2_slack_36 : decode cX2_slack 36 = .ok (.getfield 23, 3) := by decide +kernel
theorem dX2_slack_39 : decode cX2_slack 39 = .ok (.iload_n 3, 1) := by decide +kernel
theorem dX2_slack_40 : decode cX2_slack 40 = .ok (.iaload, 1) := by decide +kernel
theorem dX2_slack_41 : decode cX2_slack 41 = .ok (.ifCond .lt 30, 3) := by decide +kernel
theorem dX2_slack_44 : decode cX2_slack 44 = .ok (.iload 4, 2) := by decide +kernel
theorem dX2_slack_46 : decode cX2_slack 46 = .ok (.ifCond .le 16, 3) := by decide +kernel
theorem dX2_slack_49 : decode cX2_slack 49 = .ok (.aload_n 0, 1) := by decide +kernel
theorem dX2_slack_50 : decode cX2_slack 50 = .ok (.getfield 23, 3) := by decide +kernel
theorem dX2_slack_53 : decode cX2_slack 53 = .ok (.iload_n 3, 1) := by decide +kernel
theorem dX2_slack_54 : decode cX2_slack 54 = .ok (.iaload, 1) := by decide +kernel
theorem dX2_slack_55 : decode cX2_slack 55 = .ok (.iconst 1, 1) := by decide +kernel
theorem dX2_slack_56 : decode cX2_slack 56 = .ok (.if_icmp .ne 19, 3) := by decide +kernel
theorem dX2_slack_59 : decode cX2_slack 59 = .ok (.goto 12, 3) := by decide +kernel
theorem dX2_slack_62 : decode cX2_slack 62 = .ok (.aload_n 0, 1) := by decide +kernel
theorem dX2_slack_63 : decode cX2_slack 63 = .ok (.getfield 23, 3) := by decide +kernel
theorem dX2_slack_66 : decode cX2_slack 66 = .ok (.iload_n 3, 1) := by decide +kernel
theorem dX2_slack_67 : decode cX2_slack 67 = .ok (.iaload, 1) := by decide +kernel
theorem dX2_slack_68 : decode cX2_slack 68 = .ok (.ifCond .ne 7, 3) := by decide +kernel
theorem dX2_slack_71 : decode cX2_slack 71 = .ok (.iconst 1, 1) := by decide +kernel
theorem dX2_slack_72 : decode cX2_slack 72 = .ok (.goto 4, 3) := by decide +kernel
theorem dX2_slack_75 : decode cX2_slack 75 = .ok (.iconst 0, 1) := by decide +kernel
theorem dX2_slack_76 : decode cX2_slack 76 = .ok (.istore 5, 2) := by decide +kernel
theorem dX2_slack_78 : decode cX2_slack 78 = .ok (.iload_n 2, 1) := by decide +kernel
theorem dX2_slack_79 : decode cX2_slack 79 = .ok (.iload 5, 2) := by decide +kernel
theorem dX2_slack_81 : decode cX2_slack 81 = .ok (.ifCond .eq 11, 3) := by decide +kernel
theorem dX2_slack_84 : decode cX2_slack 84 = .ok (.iload 4, 2) := by decide +kernel
theorem dX2_slack_86 : decode cX2_slack 86 = .ok (.invokestatic 30, 3) := by decide +kernel
theorem dX2_slack_89 : decode cX2_slack 89 = .ok (.goto 4, 3) := by decide +kernel
theorem dX2_slack_92 : decode cX2_slack 92 = .ok (.iconst 0, 1) := by decide +kernel
theorem dX2_slack_93 : decode cX2_slack 93 = .ok (.iadd, 1) := by decide +kernel
theorem dX2_slack_94 : decode cX2_slack 94 = .ok (.istore_n 2, 1) := by decide +kernel
theorem dX2_slack_95 : decode cX2_slack 95 = .ok (.iinc 3 1, 3) := by decide +kernel
theorem dX2_slack_98 : decode cX2_slack 98 = .ok (.goto (-82), 3) := by decide +kernel
theorem dX2_slack_101 : decode cX2_slack 101 = .ok (.iload_n 2, 1) := by decide +kernel
theorem dX2_slack_102 : decode cX2_slack 102 = .ok (.ireturn, 1) := by decide +kernel
set_option maxRecDepth 20000 in
theorem ggX2_tighten_X2_slack : GoodIn wsX2_tighten wsX2_slack := goodIn_r _ [7, 1, 2, 8, 9, 6, 10, 11, 12, 13, 14, 15, 16, 17, 18, 19, 20, 21, 22, 23] (by decide +kernel) (by decide +kernel)
set_option maxRecDepth 20000 in
theorem gX2_tighten_X2_slack : GoodIn wsX2_tighten (wsV RX2 64 RX2 yX2_slack wsX2_slack) := goodIn_app (goodIn_of _ (by decide +kernel)) ggX2_tighten_X2_slack
set_option maxRecDepth 20000 in
theorem ggX2_tighten_X2_size : GoodIn wsX2_tighten wsX2_size := goodIn_r _ [10] (by decide +kernel) (by decide +kernel)
set_option maxRecDepth 20000 in
theorem gX2_tighten_X2_size : GoodIn wsX2_tighten (va_wsS RX2 30 yX2_size wsX2_size) := goodIn_app (goodIn_of _ (by decide +kernel)) ggX2_tighten_X2_size
theorem dX2_tighten_0 : decode cX2_tighten 0 = .ok (.aload_n 0, 1) := by decide +kernel
theorem dX2_tighten_1 : decode cX2_tighten 1 = .ok (.iload_n 1, 1) := by decide +kernel
theorem dX2_tighten_2 : decode cX2_tighten 2 = .ok (.invokevirtual 64, 3) := by decide +kernel
theorem dX2_tighten_5 : decode cX2_tighten 5 = .ok (.istore_n 2, 1) := by decide +kernel
theorem dX2_tighten_6 : decode cX2_tighten 6 = .ok (.iload_n 2, 1) := by decide +kernel
theorem dX2_tighten_7 : decode cX2_tighten 7 = .ok (.ifCond .ge 5, 3) := by decide +kernel
theorem dX2_tighten_10 : decode cX2_tighten 10 = .ok (.iconst (-1), 1) := by decide +kernel
theorem dX2_tighten_11 : decode cX2_tighten 11 = .ok (.ireturn, 1) := by decide +kernel
theorem dX2_tighten_12 : decode cX2_tighten 12 = .ok (.iconst 0, 1) := by decide +kernel
theorem dX2_tighten_13 : decode cX2_tighten 13 = .ok (.istore_n 3, 1) := by decide +kernel
theorem dX2_tighten_14 : decode cX2_tighten 14 = .ok (.iconst 0, 1) := by decide +kernel
theorem dX2_tighten_15 : decode cX2_tighten 15 = .ok (.istore 4, 2) := by decide +kernel
theorem dX2_tighten_17 : decode cX2_tighten 17 = .ok (.iload 4, 2) := by decide +kernel
theorem dX2_tighten_19 : decode cX2_tighten 19 = .ok (.bipush 10, 2) := by decide +kernel
theorem dX2_tighten_21 : decode cX2_tighten 21 = .ok (.if_icmp .ge 61, 3) := by decide +kernel
theorem dX2_tighten_24 : decode cX2_tighten 24 = .ok (.aload_n 0, 1) := by decide +kernel
theorem dX2_tighten_25 : decode cX2_tighten 25 = .ok (.getfield 7, 3) := by decide +kernel
theorem dX2_tighten_28 : decode cX2_tighten 28 = .ok (.bipush 11, 2) := by decide +kernel
theorem dX2_tighten_30 : decode cX2_tighten 30 = .ok (.iload_n 1, 1) := by decide +kernel
theorem dX2_tighten_31 : decode cX2_tighten 31 = .ok (.imul, 1) := by decide +kernel
theorem dX2_tighten_32 : decode cX2_tighten 32 = .ok (.iload 4, 2) := by decide +kernel
theorem dX2_tighten_34 : decode cX2_tighten 34 = .ok (.iadd, 1) := by decide +kernel
theorem dX2_tighten_35 : decode cX2_tighten 35 = .ok (.iaload, 1) := by decide +kernel
theorem dX2_tighten_36 : decode cX2_tighten 36 = .ok (.istore 5, 2) := by decide +kernel
theorem dX2_tighten_38 : decode cX2_tighten 38 = .ok (.aload_n 0, 1) := by decide +kernel
theorem dX2_tighten_39 : decode cX2_tighten 39 = .ok (.getfield 23, 3) := by decide +kernel
theorem dX2_tighten_42 : decode cX2_tighten 42 = .ok (.iload 4, 2) := by decide +kernel
theorem dX2_tighten_44 : decode cX2_tighten 44 = .ok (.iaload, 1) := by decide +kernel
theorem dX2_tighten_45 : decode cX2_tighten 45 = .ok (.ifCond .ge 31, 3) := by decide +kernel
theorem dX2_tighten_48 : decode cX2_tighten 48 = .ok (.iload 5, 2) := by decide +kernel
theorem dX2_tighten_50 : decode cX2_tighten 50 = .ok (.invokestatic 30, 3) := by decide +kernel
theorem dX2_tighten_53 : decode cX2_tighten 53 = .ok (.iload_n 2, 1) := by decide +kernel
theorem dX2_tighten_54 : decode cX2_tighten 54 = .ok (.if_icmp .le 22, 3) := by decide +kernel
theorem dX2_tighten_57 : decode cX2_tighten 57 = .ok (.aload_n 0, 1) := by decide +kernel
theorem dX2_tighten_58 : decode cX2_tighten 58 = .ok (.getfield 23, 3) := by decide +kernel
theorem dX2_tighten_61 : decode cX2_tighten 61 = .ok (.iload 4, 2) := by decide +kernel
theorem dX2_tighten_63 : decode cX2_tighten 63 = .ok (.iload 5, 2) := by decide +kernel
theorem dX2_tighten_65 : decode cX2_tighten 65 = .ok (.ifCond .le 7, 3) := by decide +kernel
theorem dX2_tighten_68 : decode cX2_tighten 68 = .ok (.iconst 1, 1) := by decide +kernel
theorem dX2_tighten_69 : decode cX2_tighten 69 = .ok (.goto 4, 3) := by decide +kernel
theorem dX2_tighten_72 : decode cX2_tighten 72 = .ok (.iconst 0, 1) := by decide +kernel
theorem dX2_tighten_73 : decode cX2_tighten 73 = .ok (.iastore, 1) := by decide +kernel
theorem dX2_tighten_74 : decode cX2_tighten 74 = .ok (.iconst 1, 1) := by decide +kernel
theorem dX2_tighten_75 : decode cX2_tighten 75 = .ok (.istore_n 3, 1) := by decide +kernel
theorem dX2_tighten_76 : decode cX2_tighten 76 = .ok (.iinc 4 1, 3) := by decide +kernel
theorem dX2_tighten_79 : decode cX2_tighten 79 = .ok (.goto (-62), 3) := by decide +kernel
theorem dX2_tighten_82 : decode cX2_tighten 82 = .ok (.iload_n 3, 1) := by decide +kernel
theorem dX2_tighten_83 : decode cX2_tighten 83 = .ok (.ireturn, 1) := by decide +kernel
set_option maxRecDepth 20000 in
theorem ggX2_closes_X2_tighten : GoodIn wsX2_closes wsX2_tighten := goodIn_r _ [6, 7, 8, 9, 10, 11, 5, 12, 13, 14, 15, 16, 17, 18, 19, 20, 21, 22, 23, 24, 25, 26, 27, 28] (by decide +kernel) (by decide +kernel)
set_option maxRecDepth 20000 in
theorem gX2_closes_X2_tighten : GoodIn wsX2_closes (wsV RX2 67 RX2 yX2_tighten wsX2_tighten) := goodIn_app (goodIn_of _ (by decide +kernel)) ggX2_closes_X2_tighten
theorem dX2_closes_0 : decode cX2_closes 0 = .ok (.iconst 1, 1) := by decide +kernel
theorem dX2_closes_1 : decode cX2_closes 1 = .ok (.istore_n 2, 1) := by decide +kernel
theorem dX2_closes_2 : decode cX2_closes 2 = .ok (.iconst 0, 1) := by decide +kernel
theorem dX2_closes_3 : decode cX2_closes 3 = .ok (.istore_n 3, 1) := by decide +kernel
theorem dX2_closes_4 : decode cX2_closes 4 = .ok (.iload_n 3, 1) := by decide +kernel
theorem dX2_closes_5 : decode cX2_closes 5 = .ok (.bipush 12, 2) := by decide +kernel
theorem dX2_closes_7 : decode cX2_closes 7 = .ok (.if_icmp .ge 85, 3) := by decide +kernel
theorem dX2_closes_10 : decode cX2_closes 10 = .ok (.iload_n 2, 1) := by decide +kernel
theorem dX2_closes_11 : decode cX2_closes 11 = .ok (.ifCond .eq 81, 3) := by decide +kernel
theorem dX2_closes_14 : decode cX2_closes 14 = .ok (.iconst 0, 1) := by decide +kernel
theorem dX2_closes_15 : decode cX2_closes 15 = .ok (.istore_n 2, 1) := by decide +kernel
theorem dX2_closes_16 : decode cX2_closes 16 = .ok (.iconst 0, 1) := by decide +kernel
theorem dX2_closes_17 : decode cX2_closes 17 = .ok (.istore 4, 2) := by decide +kernel
theorem dX2_closes_19 : decode cX2_closes 19 = .ok (.iload 4, 2) := by decide +kernel
theorem dX2_closes_21 : decode cX2_closes 21 = .ok (.bipush 38, 2) := by decide +kernel
theorem dX2_closes_23 : decode cX2_closes 23 = .ok (.if_icmp .ge 63, 3) := by decide +kernel
theorem dX2_closes_26 : decode cX2_closes 26 = .ok (.iload 4, 2) := by decide +kernel
theorem dX2_closes_28 : decode cX2_closes 28 = .ok (.aload_n 0, 1) := by decide +kernel
theorem dX2_closes_29 : decode cX2_closes 29 = .ok (.getfield 45, 3) := by decide +kernel
theorem dX2_closes_32 : decode cX2_closes 32 = .ok (.if_icmp .lt 14, 3) := by decide +kernel
theorem dX2_closes_35 : decode cX2_closes 35 = .ok (.iload_n 1, 1) := by decide +kernel
theorem dX2_closes_36 : decode cX2_closes 36 = .ok (.ifCond .eq 19, 3) := by decide +kernel
theorem dX2_closes_39 : decode cX2_closes 39 = .ok (.iload 4, 2) := by decide +kernel
theorem dX2_closes_41 : decode cX2_closes 41 = .ok (.bipush 37, 2) := by decide +kernel
theorem dX2_closes_43 : decode cX2_closes 43 = .ok (.if_icmp .ne 12, 3) := by decide +kernel
theorem dX2_closes_46 : decode cX2_closes 46 = .ok (.aload_n 0, 1) := by decide +kernel
theorem dX2_closes_47 : decode cX2_closes 47 = .ok (.iload 4, 2) := by decide +kernel
theorem dX2_closes_49 : decode cX2_closes 49 = .ok (.invokevirtual 67, 3) := by decide +kernel
theorem dX2_closes_52 : decode cX2_closes 52 = .ok (.goto 4, 3) := by decide +kernel
theorem dX2_closes_55 : decode cX2_closes 55 = .ok (.iconst 0, 1) := by decide +kernel
theorem dX2_closes_56 : decode cX2_closes 56 = .ok (.istore 5, 2) := by decide +kernel
theorem dX2_closes_58 : decode cX2_closes 58 = .ok (.iload 5, 2) := by decide +kernel
theorem dX2_closes_60 : decode cX2_closes 60 = .ok (.ifCond .ge 5, 3) := by decide +kernel
theorem dX2_closes_63 : decode cX2_closes 63 = .ok (.iconst 0, 1) := by decide +kernel
theorem dX2_closes_64 : decode cX2_closes 64 = .ok (.ireturn, 1) := by decide +kernel
theorem dX2_closes_65 : decode cX2_closes 65 = .ok (.iload_n 2, 1) := by decide +kernel
theorem dX2_closes_66 : decode cX2_closes 66 = .ok (.ifCond .ne 8, 3) := by decide +kernel
theorem dX2_closes_69 : decode cX2_closes 69 = .ok (.iload 5, 2) := by decide +kernel
theorem dX2_closes_71 : decode cX2_closes 71 = .ok (.ifCond .le 7, 3) := by decide +kernel
theorem dX2_closes_74 : decode cX2_closes 74 = .ok (.iconst 1, 1) := by decide +kernel
theorem dX2_closes_75 : decode cX2_closes 75 = .ok (.goto 4, 3) := by decide +kernel
theorem dX2_closes_78 : decode cX2_closes 78 = .ok (.iconst 0, 1) := by decide +kernel
theorem dX2_closes_79 : decode cX2_closes 79 = .ok (.istore_n 2, 1) := by decide +kernel
theorem dX2_closes_80 : decode cX2_closes 80 = .ok (.iinc 4 1, 3) := by decide +kernel
theorem dX2_closes_83 : decode cX2_closes 83 = .ok (.goto (-64), 3) := by decide +kernel
theorem dX2_closes_86 : decode cX2_closes 86 = .ok (.iinc 3 1, 3) := by decide +kernel
theorem dX2_closes_89 : decode cX2_closes 89 = .ok (.goto (-85), 3) := by decide +kernel
theorem dX2_closes_92 : decode cX2_closes 92 = .ok (.iconst 1, 1) := by decide +kernel
theorem dX2_closes_93 : decode cX2_closes 93 = .ok (.ireturn, 1) := by decide +kernel
set_option maxRecDepth 20000 in
theorem ggX2_close_X2_outside : GoodIn wsX2_close wsX2_outside := goodIn_r _ [5] (by decide +kernel) (by decide +kernel)
set_option maxRecDepth 20000 in
theorem gX2_close_X2_outside : GoodIn wsX2_close (va_wsS RX2 34 yX2_outside wsX2_outside) := goodIn_app (goodIn_of _ (by decide +kernel)) ggX2_close_X2_outside
set_option maxRecDepth 20000 in
theorem ggX2_close_X2_fails : GoodIn wsX2_close wsX2_fails := goodIn_r _ [9, 10, 28, 29, 30, 31, 32, 33, 34, 35, 36, 37, 38, 39, 40] (by decide +kernel) (by decide +kernel)
set_option maxRecDepth 20000 in
theorem gX2_close_X2_fails : GoodIn wsX2_close (wsV RX2 38 RX2 yX2_fails wsX2_fails) := goodIn_app (goodIn_of _ (by decide +kernel)) ggX2_close_X2_fails
set_option maxRecDepth 20000 in
theorem ggX2_close_X2_closes : GoodIn wsX2_close wsX2_closes := goodIn_r _ [14, 15, 16, 17, 18, 4, 19, 20, 1, 21, 22, 23, 24, 25, 26, 27, 28, 29, 30, 31, 32, 33, 34, 35, 36, 37, 38, 39, 40] (by decide +kernel) (by decide +kernel)
set_option maxRecDepth 20000 in
theorem gX2_close_X2_closes : GoodIn wsX2_close (wsV RX2 70 RX2 yX2_closes wsX2_closes) := goodIn_app (goodIn_of _ (by decide +kernel)) ggX2_close_X2_closes
theorem dX2_close_0 : decode cX2_close 0 = .ok (.aload_n 0, 1) := by decide +kernel
theorem dX2_close_1 : decode cX2_close 1 = .ok (.iload_n 1, 1) := by decide +kernel
theorem dX2_close_2 : decode cX2_close 2 = .ok (.iconst 0, 1) := by decide +kernel
theorem dX2_close_3 : decode cX2_close 3 = .ok (.sipush 1023, 3) := by decide +kernel
theorem dX2_close_6 : decode cX2_close 6 = .ok (.invokestatic 34, 3) := by decide +kernel
theorem dX2_close_9 : decode cX2_close 9 = .ok (.ifCond .ne 14, 3) := by decide +kernel
theorem dX2_close_12 : decode cX2_close 12 = .ok (.iload_n 2, 1) := by decide +kernel
theorem dX2_close_13 : decode cX2_close 13 = .ok (.iconst 0, 1) := by decide +kernel
theorem dX2_close_14 : decode cX2_close 14 = .ok (.sipush 1023, 3) := by decide +kernel
theorem dX2_close_17 : decode cX2_close 17 = .ok (.invokestatic 34, 3) := by decide +kernel
theorem dX2_close_20 : decode cX2_close 20 = .ok (.ifCond .eq 7, 3) := by decide +kernel
theorem dX2_close_23 : decode cX2_close 23 = .ok (.iconst 1, 1) := by decide +kernel
theorem dX2_close_24 : decode cX2_close 24 = .ok (.goto 4, 3) := by decide +kernel
theorem dX2_close_27 : decode cX2_close 27 = .ok (.iconst 0, 1) := by decide +kernel
theorem dX2_close_28 : decode cX2_close 28 = .ok (.iconst 0, 1) := by decide +kernel
theorem dX2_close_29 : decode cX2_close 29 = .ok (.iconst 0, 1) := by decide +kernel
theorem dX2_close_30 : decode cX2_close 30 = .ok (.invokevirtual 38, 3) := by decide +kernel
theorem dX2_close_33 : decode cX2_close 33 = .ok (.ifCond .eq 5, 3) := by decide +kernel
theorem dX2_close_36 : decode cX2_close 36 = .ok (.iconst 0, 1) := by decide +kernel
theorem dX2_close_37 : decode cX2_close 37 = .ok (.ireturn, 1) := by decide +kernel
theorem dX2_close_38 : decode cX2_close 38 = .ok (.iconst 0, 1) := by decide +kernel
theorem dX2_close_39 : decode cX2_close 39 = .ok (.istore_n 3, 1) := by decide +kernel
theorem dX2_close_40 : decode cX2_close 40 = .ok (.iload_n 3, 1) := by decide +kernel
theorem dX2_close_41 : decode cX2_close 41 = .ok (.bipush 10, 2) := by decide +kernel
theorem dX2_close_43 : decode cX2_close 43 = .ok (.if_icmp .ge 33, 3) := by decide +kernel
theorem dX2_close_46 : decode cX2_close 46 = .ok (.aload_n 0, 1) := by decide +kernel
theorem dX2_close_47 : decode cX2_close 47 = .ok (.getfield 23, 3) := by decide +kernel
theorem dX2_close_50 : decode cX2_close 50 = .ok (.iload_n 3, 1) := by decide +kernel
theorem dX2_close_51 : decode cX2_close 51 = .ok (.iload_n 1, 1) := by decide +kernel
theorem dX2_close_52 : decode cX2_close 52 = .ok (.iload_n 3, 1) := by decide +kernel
theorem dX2_close_53 : decode cX2_close 53 = .ok (.ishr, 1) := by decide +kernel
theorem dX2_close_54 : decode cX2_close 54 = .ok (.iconst 1, 1) := by decide +kernel
theorem dX2_close_55 : decode cX2_close 55 = .ok (.iand, 1) := by decide +kernel
theorem dX2_close_56 : decode cX2_close 56 = .ok (.iconst 1, 1) := by decide +kernel
theorem dX2_close_57 : decode cX2_close 57 = .ok (.if_icmp .ne 11, 3) := by decide +kernel
theorem dX2_close_60 : decode cX2_close 60 = .ok (.iload_n 2, 1) := by decide +kernel
theorem dX2_close_61 : decode cX2_close 61 = .ok (.iload_n 3, 1) := by decide +kernel
theorem dX2_close_62 : decode cX2_close 62 = .ok (.ishr, 1) := by decide +kernel
theorem dX2_close_63 : decode cX2_close 63 = .ok (.iconst 1, 1) := by decide +kernel
theorem dX2_close_64 : decode cX2_close 64 = .ok (.iand, 1) := by decide +kernel
theorem dX2_close_65 : decode cX2_close 65 = .ok (.goto 4, 3) := by decide +kernel
theorem dX2_close_68 : decode cX2_close 68 = .ok (.iconst (-1), 1) := by decide +kernel
theorem dX2_close_69 : decode cX2_close 69 = .ok (.iastore, 1) := by decide +kernel
theorem dX2_close_70 : decode cX2_close 70 = .ok (.iinc 3 1, 3) := by decide +kernel
theorem dX2_close_73 : decode cX2_close 73 = .ok (.goto (-33), 3) := by decide +kernel
theorem dX2_close_76 : decode cX2_close 76 = .ok (.aload_n 0, 1) := by decide +kernel
theorem dX2_close_77 : decode cX2_close 77 = .ok (.iconst 0, 1) := by decide +kernel
theorem dX2_close_78 : decode cX2_close 78 = .ok (.invokevirtual 70, 3) := by decide +kernel
theorem dX2_close_81 : decode cX2_close 81 = .ok (.ifCond .ne 5, 3) := by decide +kernel
theorem dX2_close_84 : decode cX2_close 84 = .ok (.iconst (-1), 1) := by decide +kernel
theorem dX2_close_85 : decode cX2_close 85 = .ok (.ireturn, 1) := by decide +kernel
theorem dX2_close_86 : decode cX2_close 86 = .ok (.iconst 0, 1) := by decide +kernel
theorem dX2_close_87 : decode cX2_close 87 = .ok (.istore_n 3, 1) := by decide +kernel
theorem dX2_close_88 : decode cX2_close 88 = .ok (.iconst 0, 1) := by decide +kernel
theorem dX2_close_89 : decode cX2_close 89 = .ok (.istore 4, 2) := by decide +kernel
theorem dX2_close_91 : decode cX2_close 91 = .ok (.iload 4, 2) := by decide +kernel
theorem dX2_close_93 : decode cX2_close 93 = .ok (.bipush 10, 2) := by decide +kernel
theorem dX2_close_95 : decode cX2_close 95 = .ok (.if_icmp .ge 54, 3) := by decide +kernel
theorem dX2_close_98 : decode cX2_close 98 = .ok (.iload_n 3, 1) := by decide +kernel
theorem dX2_close_99 : decode cX2_close 99 = .ok (.aload_n 0, 1) := by decide +kernel
theorem dX2_close_100 : decode cX2_close 100 = .ok (.getfield 23, 3) := by decide +kernel
theorem dX2_close_103 : decode cX2_close 103 = .ok (.iload 4, 2) := by decide +kernel
theorem dX2_close_105 : decode cX2_close 105 = .ok (.iaload, 1) := by decide +kernel
theorem dX2_close_106 : decode cX2_close 106 = .ok (.ifCond .lt 12, 3) := by decide +kernel
theorem dX2_close_109 : decode cX2_close 109 = .ok (.sipush 1024, 3) := by decide +kernel
theorem dX2_close_112 : decode cX2_close 112 = .ok (.iload 4, 2) := by decide +kernel
theorem dX2_close_114 : decode cX2_close 114 = .ok (.ishl, 1) := by decide +kernel
theorem dX2_close_115 : decode cX2_close 115 = .ok (.goto 4, 3) := by decide +kernel
theorem dX2_close_118 : decode cX2_close 118 = .ok (.iconst 0, 1) := by decide +kernel
theorem dX2_close_119 : decode cX2_close 119 = .ok (.iadd, 1) := by decide +kernel
theorem dX2_close_120 : decode cX2_close 120 = .ok (.istore_n 3, 1) := by decide +kernel
theorem dX2_close_121 : decode cX2_close 121 = .ok (.iload_n 3, 1) := by decide +kernel
theorem dX2_close_122 : decode cX2_close 122 = .ok (.aload_n 0, 1) := by decide +kernel
theorem dX2_close_123 : decode cX2_close 123 = .ok (.getfield 23, 3) := by decide +kernel
theorem dX2_close_126 : decode cX2_close 126 = .ok (.iload 4, 2) := by decide +kernel
theorem dX2_close_128 : decode cX2_close 128 = .ok (.iaload, 1) := by decide +kernel
theorem dX2_close_129 : decode cX2_close 129 = .ok (.iconst 1, 1) := by decide +kernel
theorem dX2_close_130 : decode cX2_close 130 = .ok (.if_icmp .ne 10, 3) := by decide +kernel
theorem dX2_close_133 : decode cX2_close 133 = .ok (.iconst 1, 1) := by decide +kernel
theorem dX2_close_134 : decode cX2_close 134 = .ok (.iload 4, 2) := by decide +kernel
theorem dX2_close_136 : decode cX2_close 136 = .ok (.ishl, 1) := by decide +kernel
theorem dX2_close_137 : decode cX2_close 137 = .ok (.goto 4, 3) := by decide +kernel
theorem dX2_close_140 : decode cX2_close 140 = .ok (.iconst 0, 1) := by decide +kernel
theorem dX2_close_141 : decode cX2_close 141 = .ok (.iadd, 1) := by decide +kernel
theorem dX2_close_142 : decode cX2_close 142 = .ok (.istore_n 3, 1) := by decide +kernel
theorem dX2_close_143 : decode cX2_close 143 = .ok (.iinc 4 1, 3) := by decide +kernel
theorem dX2_close_146 : decode cX2_close 146 = .ok (.goto (-55), 3) := by decide +kernel
theorem dX2_close_149 : decode cX2_close 149 = .ok (.iload_n 3, 1) := by decide +kernel
theorem dX2_close_150 : decode cX2_close 150 = .ok (.ireturn, 1) := by decide +kernel
theorem dX2_upper_0 : decode cX2_upper 0 = .ok (.bipush 30, 2) := by decide +kernel
theorem dX2_upper_2 : decode cX2_upper 2 = .ok (.aload_n 0, 1) := by decide +kernel
theorem dX2_upper_3 : decode cX2_upper 3 = .ok (.getfield 74, 3) := by decide +kernel
theorem dX2_upper_6 : decode cX2_upper 6 = .ok (.iadd, 1) := by decide +kernel
theorem dX2_upper_7 : decode cX2_upper 7 = .ok (.iconst 1, 1) := by decide +kernel
theorem dX2_upper_8 : decode cX2_upper 8 = .ok (.isub, 1) := by decide +kernel
theorem dX2_upper_9 : decode cX2_upper 9 = .ok (.ireturn, 1) := by decide +kernel
set_option maxRecDepth 20000 in
theorem ggX2_load_X2_outside : GoodIn wsX2_load wsX2_outside := goodIn_r _ [6] (by decide +kernel) (by decide +kernel)
