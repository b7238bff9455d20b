theorem dX2_fold_83 : decode cX2_fold 83 = .ok (.aload_n 0, 1) := by decide +kernel
theorem dX2_fold_84 : decode cX2_fold 84 = .ok (.invokevirtual 104, 3) := by decide +kernel
theorem dX2_fold_87 : decode cX2_fold 87 = .ok (.ireturn, 1) := by decide +kernel
theorem dX2_fold_88 : decode cX2_fold 88 = .ok (.iinc 7 1, 3) := by decide +kernel
theorem dX2_fold_91 : decode cX2_fold 91 = .ok (.goto (-37), 3) := by decide +kernel
theorem dX2_fold_94 : decode cX2_fold 94 = .ok (.aload_n 0, 1) := by decide +kernel
theorem dX2_fold_95 : decode cX2_fold 95 = .ok (.iload 6, 2) := by decide +kernel
theorem dX2_fold_97 : decode cX2_fold 97 = .ok (.putfield 46, 3) := by decide +kernel
theorem dX2_fold_100 : decode cX2_fold 100 = .ok (.iconst 1, 1) := by decide +kernel
theorem dX2_fold_101 : decode cX2_fold 101 = .ok (.ireturn, 1) := by decide +kernel
set_option maxRecDepth 20000 in
theorem ggX2_until_X2_isRule : GoodIn wsX2_until wsX2_isRule := goodIn_r _ [6, 7, 75, 76, 77, 78, 79, 80, 81, 82, 83, 84, 85, 86, 87, 88, 89, 90] (by decide +kernel) (by decide +kernel)
set_option maxRecDepth 20000 in
theorem gX2_until_X2_isRule : GoodIn wsX2_until (wsV RX2 111 RX2 yX2_isRule wsX2_isRule) := goodIn_app (goodIn_of _ (by decide +kernel)) ggX2_until_X2_isRule
set_option maxRecDepth 20000 in
theorem ggX2_until_X2_begin : GoodIn wsX2_until wsX2_begin := goodIn_r _ [11, 12, 13, 75, 76, 77, 78, 79, 80, 81, 82, 83, 84, 85, 86, 87, 88, 89, 90] (by decide +kernel) (by decide +kernel)
set_option maxRecDepth 20000 in
theorem gX2_until_X2_begin : GoodIn wsX2_until (wsV RX2 93 RX2 yX2_begin wsX2_begin) := goodIn_app (goodIn_of _ (by decide +kernel)) ggX2_until_X2_begin
set_option maxRecDepth 20000 in
theorem ggX2_until_X2_give : GoodIn wsX2_until wsX2_give := goodIn_r _ [17, 12, 18, 19, 20, 21, 22, 23, 24, 25, 26, 27, 28, 29, 5, 30, 13, 31, 32, 33, 34, 35, 36, 37, 38, 39, 40, 41, 42, 43, 44, 45, 46, 47, 48, 49, 50, 51, 52, 53, 54, 55, 14, 15, 16, 56, 57, 58, 59, 60, 61, 62, 63, 64, 75, 76, 77, 78, 79, 80, 81, 82, 83, 84, 85, 86, 87, 88, 89, 90, 91, 92, 93, 94, 95, 96, 97] (by decide +kernel) (by decide +kernel)
set_option maxRecDepth 20000 in
theorem gX2_until_X2_give : GoodIn wsX2_until (wsV RX2 96 RX2 yX2_give wsX2_give) := goodIn_app (goodIn_of _ (by decide +kernel)) ggX2_until_X2_give
set_option maxRecDepth 20000 in
theorem ggX2_until_X2_isRefused : GoodIn wsX2_until wsX2_isRefused := goodIn_r _ [59, 13, 75, 76, 77, 78, 79, 80, 81, 82, 83, 84, 85, 86, 87, 88, 89, 90] (by decide +kernel) (by decide +kernel)
set_option maxRecDepth 20000 in
theorem gX2_until_X2_isRefused : GoodIn wsX2_until (wsV RX2 100 RX2 yX2_isRefused wsX2_isRefused) := goodIn_app (goodIn_of _ (by decide +kernel)) ggX2_until_X2_isRefused
set_option maxRecDepth 20000 in
theorem ggX2_until_X2_fail : GoodIn wsX2_until wsX2_fail := goodIn_r _ [68, 13, 69, 31, 70, 71, 72, 73, 5, 74, 75, 76, 77, 78, 79, 80, 81, 82, 83, 84, 85, 86, 87, 88, 89, 90] (by decide +kernel) (by decide +kernel)
set_option maxRecDepth 20000 in
theorem gX2_until_X2_fail : GoodIn wsX2_until (wsV RX2 104 RX2 yX2_fail wsX2_fail) := goodIn_app (goodIn_of _ (by decide +kernel)) ggX2_until_X2_fail
theorem dX2_until_0 : decode cX2_until 0 = .ok (.aload_n 0, 1) := by decide +kernel
theorem dX2_until_1 : decode cX2_until 1 = .ok (.iload_n 1, 1) := by decide +kernel
theorem dX2_until_2 : decode cX2_until 2 = .ok (.invokevirtual 111, 3) := by decide +kernel
theorem dX2_until_5 : decode cX2_until 5 = .ok (.ifCond .eq 24, 3) := by decide +kernel
theorem dX2_until_8 : decode cX2_until 8 = .ok (.aload_n 0, 1) := by decide +kernel
theorem dX2_until_9 : decode cX2_until 9 = .ok (.iload_n 2, 1) := by decide +kernel
theorem dX2_until_10 : decode cX2_until 10 = .ok (.invokevirtual 111, 3) := by decide +kernel
theorem dX2_until_13 : decode cX2_until 13 = .ok (.ifCond .eq 16, 3) := by decide +kernel
theorem dX2_until_16 : decode cX2_until 16 = .ok (.iload 4, 2) := by decide +kernel
theorem dX2_until_18 : decode cX2_until 18 = .ok (.iconst 1, 1) := by decide +kernel
theorem dX2_until_19 : decode cX2_until 19 = .ok (.if_icmp .lt 10, 3) := by decide +kernel
theorem dX2_until_22 : decode cX2_until 22 = .ok (.iload 4, 2) := by decide +kernel
theorem dX2_until_24 : decode cX2_until 24 = .ok (.bipush 30, 2) := by decide +kernel
theorem dX2_until_26 : decode cX2_until 26 = .ok (.if_icmp .le 5, 3) := by decide +kernel
theorem dX2_until_29 : decode cX2_until 29 = .ok (.iconst (-1), 1) := by decide +kernel
theorem dX2_until_30 : decode cX2_until 30 = .ok (.ireturn, 1) := by decide +kernel
theorem dX2_until_31 : decode cX2_until 31 = .ok (.aload_n 0, 1) := by decide +kernel
theorem dX2_until_32 : decode cX2_until 32 = .ok (.invokevirtual 93, 3) := by decide +kernel
theorem dX2_until_35 : decode cX2_until 35 = .ok (.iload_n 3, 1) := by decide +kernel
theorem dX2_until_36 : decode cX2_until 36 = .ok (.istore 5, 2) := by decide +kernel
theorem dX2_until_38 : decode cX2_until 38 = .ok (.iconst 0, 1) := by decide +kernel
theorem dX2_until_39 : decode cX2_until 39 = .ok (.istore 6, 2) := by decide +kernel
theorem dX2_until_41 : decode cX2_until 41 = .ok (.iconst 1, 1) := by decide +kernel
theorem dX2_until_42 : decode cX2_until 42 = .ok (.istore 7, 2) := by decide +kernel
theorem dX2_until_44 : decode cX2_until 44 = .ok (.iload 7, 2) := by decide +kernel
theorem dX2_until_46 : decode cX2_until 46 = .ok (.ifCond .eq 63, 3) := by decide +kernel
theorem dX2_until_49 : decode cX2_until 49 = .ok (.iload 6, 2) := by decide +kernel
theorem dX2_until_51 : decode cX2_until 51 = .ok (.iload 4, 2) := by decide +kernel
theorem dX2_until_53 : decode cX2_until 53 = .ok (.if_icmp .ge 56, 3) := by decide +kernel
theorem dX2_until_56 : decode cX2_until 56 = .ok (.aload_n 0, 1) := by decide +kernel
theorem dX2_until_57 : decode cX2_until 57 = .ok (.iload_n 1, 1) := by decide +kernel
theorem dX2_until_58 : decode cX2_until 58 = .ok (.iload 5, 2) := by decide +kernel
theorem dX2_until_60 : decode cX2_until 60 = .ok (.invokevirtual 96, 3) := by decide +kernel
theorem dX2_until_63 : decode cX2_until 63 = .ok (.istore 5, 2) := by decide +kernel
theorem dX2_until_65 : decode cX2_until 65 = .ok (.aload_n 0, 1) := by decide +kernel
theorem dX2_until_66 : decode cX2_until 66 = .ok (.invokevirtual 100, 3) := by decide +kernel
theorem dX2_until_69 : decode cX2_until 69 = .ok (.ifCond .eq 8, 3) := by decide +kernel
theorem dX2_until_72 : decode cX2_until 72 = .ok (.aload_n 0, 1) := by decide +kernel
theorem dX2_until_73 : decode cX2_until 73 = .ok (.invokevirtual 104, 3) := by decide +kernel
theorem dX2_until_76 : decode cX2_until 76 = .ok (.ireturn, 1) := by decide +kernel
theorem dX2_until_77 : decode cX2_until 77 = .ok (.iinc 6 1, 3) := by decide +kernel
theorem dX2_until_80 : decode cX2_until 80 = .ok (.aload_n 0, 1) := by decide +kernel
theorem dX2_until_81 : decode cX2_until 81 = .ok (.iload_n 2, 1) := by decide +kernel
theorem dX2_until_82 : decode cX2_until 82 = .ok (.iload 5, 2) := by decide +kernel
theorem dX2_until_84 : decode cX2_until 84 = .ok (.invokevirtual 96, 3) := by decide +kernel
theorem dX2_until_87 : decode cX2_until 87 = .ok (.ifCond .eq 7, 3) := by decide +kernel
theorem dX2_until_90 : decode cX2_until 90 = .ok (.iconst 1, 1) := by decide +kernel
theorem dX2_until_91 : decode cX2_until 91 = .ok (.goto 4, 3) := by decide +kernel
theorem dX2_until_94 : decode cX2_until 94 = .ok (.iconst 0, 1) := by decide +kernel
theorem dX2_until_95 : decode cX2_until 95 = .ok (.istore 7, 2) := by decide +kernel
theorem dX2_until_97 : decode cX2_until 97 = .ok (.aload_n 0, 1) := by decide +kernel
theorem dX2_until_98 : decode cX2_until 98 = .ok (.invokevirtual 100, 3) := by decide +kernel
theorem dX2_until_101 : decode cX2_until 101 = .ok (.ifCond .eq (-57), 3) := by decide +kernel
theorem dX2_until_104 : decode cX2_until 104 = .ok (.aload_n 0, 1) := by decide +kernel
theorem dX2_until_105 : decode cX2_until 105 = .ok (.invokevirtual 104, 3) := by decide +kernel
theorem dX2_until_108 : decode cX2_until 108 = .ok (.ireturn, 1) := by decide +kernel
theorem dX2_until_109 : decode cX2_until 109 = .ok (.aload_n 0, 1) := by decide +kernel
theorem dX2_until_110 : decode cX2_until 110 = .ok (.iload 5, 2) := by decide +kernel
theorem dX2_until_112 : decode cX2_until 112 = .ok (.putfield 46, 3) := by decide +kernel
theorem dX2_until_115 : decode cX2_until 115 = .ok (.iload 6, 2) := by decide +kernel
theorem dX2_until_117 : decode cX2_until 117 = .ok (.ireturn, 1) := by decide +kernel
theorem dX2_result_0 : decode cX2_result 0 = .ok (.aload_n 0, 1) := by decide +kernel
theorem dX2_result_1 : decode cX2_result 1 = .ok (.getfield 46, 3) := by decide +kernel
theorem dX2_result_4 : decode cX2_result 4 = .ok (.ireturn, 1) := by decide +kernel
theorem dX2_steps_0 : decode cX2_steps 0 = .ok (.aload_n 0, 1) := by decide +kernel
theorem dX2_steps_1 : decode cX2_steps 1 = .ok (.getfield 49, 3) := by decide +kernel
theorem dX2_steps_4 : decode cX2_steps 4 = .ok (.ireturn, 1) := by decide +kernel
theorem dX2_failed_0 : decode cX2_failed 0 = .ok (.iload_n 1, 1) := by decide +kernel
theorem dX2_failed_1 : decode cX2_failed 1 = .ok (.lookupswitch 37 #[(0, 27), (1, 32)], 27) := by decide +kernel
theorem dX2_failed_28 : decode cX2_failed 28 = .ok (.aload_n 0, 1) := by decide +kernel
theorem dX2_failed_29 : decode cX2_failed 29 = .ok (.getfield 55, 3) := by decide +kernel
theorem dX2_failed_32 : decode cX2_failed 32 = .ok (.ireturn, 1) := by decide +kernel
theorem dX2_failed_33 : decode cX2_failed 33 = .ok (.aload_n 0, 1) := by decide +kernel
theorem dX2_failed_34 : decode cX2_failed 34 = .ok (.getfield 58, 3) := by decide +kernel
theorem dX2_failed_37 : decode cX2_failed 37 = .ok (.ireturn, 1) := by decide +kernel
theorem dX2_failed_38 : decode cX2_failed 38 = .ok (.iconst (-1), 1) := by decide +kernel
theorem dX2_failed_39 : decode cX2_failed 39 = .ok (.ireturn, 1) := by decide +kernel
set_option maxRecDepth 20000 in
theorem ggX2_count_X2_rowsOfNothing : GoodIn wsX2_count wsX2_rowsOfNothing := goodIn_r _ [9, 10, 11, 12, 13, 14, 15, 16, 17, 18, 19, 20, 21, 22, 23, 24, 25, 26] (by decide +kernel) (by decide +kernel)
set_option maxRecDepth 20000 in
theorem gX2_count_X2_rowsOfNothing : GoodIn wsX2_count (wsV RX2 132 RX2 yX2_rowsOfNothing wsX2_rowsOfNothing) := goodIn_app (goodIn_of _ (by decide +kernel)) ggX2_count_X2_rowsOfNothing
theorem dX2_count_0 : decode cX2_count 0 = .ok (.iload_n 1, 1) := by decide +kernel
theorem dX2_count_1 : decode cX2_count 1 = .ok (.tableswitch 60 0 4 #[35, 40, 45, 50, 55], 35) := by decide +kernel
theorem dX2_count_36 : decode cX2_count 36 = .ok (.aload_n 0, 1) := by decide +kernel
theorem dX2_count_37 : decode cX2_count 37 = .ok (.getfield 27, 3) := by decide +kernel
theorem dX2_count_40 : decode cX2_count 40 = .ok (.ireturn, 1) := by decide +kernel
theorem dX2_count_41 : decode cX2_count 41 = .ok (.aload_n 0, 1) := by decide +kernel
theorem dX2_count_42 : decode cX2_count 42 = .ok (.getfield 52, 3) := by decide +kernel
theorem dX2_count_45 : decode cX2_count 45 = .ok (.ireturn, 1) := by decide +kernel
theorem dX2_count_46 : decode cX2_count 46 = .ok (.aload_n 0, 1) := by decide +kernel
theorem dX2_count_47 : decode cX2_count 47 = .ok (.getfield 61, 3) := by decide +kernel
theorem dX2_count_50 : decode cX2_count 50 = .ok (.ireturn, 1) := by decide +kernel
theorem dX2_count_51 : decode cX2_count 51 = .ok (.aload_n 0, 1) := by decide +kernel
theorem dX2_count_52 : decode cX2_count 52 = .ok (.getfield 64, 3) := by decide +kernel
theorem dX2_count_55 : decode cX2_count 55 = .ok (.ireturn, 1) := by decide +kernel
theorem dX2_count_56 : decode cX2_count 56 = .ok (.aload_n 0, 1) := by decide +kernel
theorem dX2_count_57 : decode cX2_count 57 = .ok (.invokevirtual 132, 3) := by decide +kernel
theorem dX2_count_60 : decode cX2_count 60 = .ok (.ireturn, 1) := by decide +kernel
theorem dX2_count_61 : decode cX2_count 61 = .ok (.iconst (-1), 1) := by decide +kernel
theorem dX2_count_62 : decode cX2_count 62 = .ok (.ireturn, 1) := by decide +kernel
theorem dX2_isPlace_0 : decode cX2_isPlace 0 = .ok (.iload_n 0, 1) := by decide +kernel
theorem dX2_isPlace_1 : decode cX2_isPlace 1 = .ok (.ifCond .lt 13, 3) := by decide +kernel
theorem dX2_isPlace_4 : decode cX2_isPlace 4 = .ok (.iload_n 0, 1) := by decide +kernel
theorem dX2_isPlace_5 : decode cX2_isPlace 5 = .ok (.bipush 8, 2) := by decide +kernel
theorem dX2_isPlace_7 : decode cX2_isPlace 7 = .ok (.if_icmp .ge 7, 3) := by decide +kernel
theorem dX2_isPlace_10 : decode cX2_isPlace 10 = .ok (.iconst 1, 1) := by decide +kernel
theorem dX2_isPlace_11 : decode cX2_isPlace 11 = .ok (.goto 4, 3) := by decide +kernel
theorem dX2_isPlace_14 : decode cX2_isPlace 14 = .ok (.iconst 0, 1) := by decide +kernel
theorem dX2_isPlace_15 : decode cX2_isPlace 15 = .ok (.ireturn, 1) := by decide +kernel
theorem dX2_isRow_0 : decode cX2_isRow 0 = .ok (.iload_n 0, 1) := by decide +kernel
theorem dX2_isRow_1 : decode cX2_isRow 1 = .ok (.ifCond .lt 12, 3) := by decide +kernel
theorem dX2_isRow_4 : decode cX2_isRow 4 = .ok (.iload_n 0, 1) := by decide +kernel
theorem dX2_isRow_5 : decode cX2_isRow 5 = .ok (.iconst 4, 1) := by decide +kernel
theorem dX2_isRow_6 : decode cX2_isRow 6 = .ok (.if_icmp .ge 7, 3) := by decide +kernel
theorem dX2_isRow_9 : decode cX2_isRow 9 = .ok (.iconst 1, 1) := by decide +kernel
theorem dX2_isRow_10 : decode cX2_isRow 10 = .ok (.goto 4, 3) := by decide +kernel
theorem dX2_isRow_13 : decode cX2_isRow 13 = .ok (.iconst 0, 1) := by decide +kernel
theorem dX2_isRow_14 : decode cX2_isRow 14 = .ok (.ireturn, 1) := by decide +kernel
theorem dX2_isRule_0 : decode cX2_isRule 0 = .ok (.iload_n 1, 1) := by decide +kernel
theorem dX2_isRule_1 : decode cX2_isRule 1 = .ok (.ifCond .lt 15, 3) := by decide +kernel
theorem dX2_isRule_4 : decode cX2_isRule 4 = .ok (.iload_n 1, 1) := by decide +kernel
theorem dX2_isRule_5 : decode cX2_isRule 5 = .ok (.aload_n 0, 1) := by decide +kernel
theorem dX2_isRule_6 : decode cX2_isRule 6 = .ok (.getfield 27, 3) := by decide +kernel
theorem dX2_isRule_9 : decode cX2_isRule 9 = .ok (.if_icmp .ge 7, 3) := by decide +kernel
theorem dX2_isRule_12 : decode cX2_isRule 12 = .ok (.iconst 1, 1) := by decide +kernel
theorem dX2_isRule_13 : decode cX2_isRule 13 = .ok (.goto 4, 3) := by decide +kernel
theorem dX2_isRule_16 : decode cX2_isRule 16 = .ok (.iconst 0, 1) := by decide +kernel
theorem dX2_isRule_17 : decode cX2_isRule 17 = .ok (.ireturn, 1) := by decide +kernel
set_option maxRecDepth 20000 in
theorem ggX2_isAsTold_X2_isPlace : GoodIn wsX2_isAsTold wsX2_isPlace := goodIn_r _ [4] (by decide +kernel) (by decide +kernel)
set_option maxRecDepth 20000 in
theorem gX2_isAsTold_X2_isPlace : GoodIn wsX2_isAsTold (va_wsS RX2 67 yX2_isPlace wsX2_isPlace) := goodIn_app (goodIn_of _ (by decide +kernel)) ggX2_isAsTold_X2_isPlace
set_option maxRecDepth 20000 in
theorem ggX2_isAsTold_X2_isRow : GoodIn wsX2_isAsTold wsX2_isRow := goodIn_r _ [7] (by decide +kernel) (by decide +kernel)
set_option maxRecDepth 20000 in
theorem gX2_isAsTold_X2_isRow : GoodIn wsX2_isAsTold (va_wsS RX2 73 yX2_isRow wsX2_isRow) := goodIn_app (goodIn_of _ (by decide +kernel)) ggX2_isAsTold_X2_isRow
set_option maxRecDepth 20000 in
theorem ggX2_isAsTold_X2_isRule : GoodIn wsX2_isAsTold wsX2_isRule := goodIn_r _ [11, 12, 13, 14, 15, 16, 17, 18, 19, 20, 21, 22, 23, 24, 25, 26, 27, 28] (by decide +kernel) (by decide +kernel)
set_option maxRecDepth 20000 in
theorem gX2_isAsTold_X2_isRule : GoodIn wsX2_isAsTold (wsV RX2 111 RX2 yX2_isRule wsX2_isRule) := goodIn_app (goodIn_of _ (by decide +kernel)) ggX2_isAsTold_X2_isRule
theorem dX2_isAsTold_0 : decode cX2_isAsTold 0 = .ok (.iload_n 1, 1) := by decide +kernel
theorem dX2_isAsTold_1 : decode cX2_isAsTold 1 = .ok (.tableswitch 105 4 16 #[67, 67, 72, 72, 83, 77, 83, 83, 67, 105, 77, 105, 83], 67) := by decide +kernel
theorem dX2_isAsTold_68 : decode cX2_isAsTold 68 = .ok (.iload_n 2, 1) := by decide +kernel
theorem dX2_isAsTold_69 : decode cX2_isAsTold 69 = .ok (.invokestatic 67, 3) := by decide +kernel
theorem dX2_isAsTold_72 : decode cX2_isAsTold 72 = .ok (.ireturn, 1) := by decide +kernel
theorem dX2_isAsTold_73 : decode cX2_isAsTold 73 = .ok (.iload_n 2, 1) := by decide +kernel
theorem dX2_isAsTold_74 : decode cX2_isAsTold 74 = .ok (.invokestatic 73, 3) := by decide +kernel
theorem dX2_isAsTold_77 : decode cX2_isAsTold 77 = .ok (.ireturn, 1) := by decide +kernel
theorem dX2_isAsTold_78 : decode cX2_isAsTold 78 = .ok (.aload_n 0, 1) := by decide +kernel
theorem dX2_isAsTold_79 : decode cX2_isAsTold 79 = .ok (.iload_n 2, 1) := by decide +kernel
theorem dX2_isAsTold_80 : decode cX2_isAsTold 80 = .ok (.invokevirtual 111, 3) := by decide +kernel
theorem dX2_isAsTold_83 : decode cX2_isAsTold 83 = .ok (.ireturn, 1) := by decide +kernel
theorem dX2_isAsTold_84 : decode cX2_isAsTold 84 = .ok (.aload_n 0, 1) := by decide +kernel
theorem dX2_isAsTold_85 : decode cX2_isAsTold 85 = .ok (.iload_n 2, 1) := by decide +kernel
theorem dX2_isAsTold_86 : decode cX2_isAsTold 86 = .ok (.invokevirtual 111, 3) := by decide +kernel
theorem dX2_isAsTold_89 : decode cX2_isAsTold 89 = .ok (.ifCond .eq 15, 3) := by decide +kernel
theorem dX2_isAsTold_92 : decode cX2_isAsTold 92 = .ok (.aload_n 0, 1) := by decide +kernel
theorem dX2_isAsTold_93 : decode cX2_isAsTold 93 = .ok (.iload_n 3, 1) := by decide +kernel
theorem dX2_isAsTold_94 : decode cX2_isAsTold 94 = .ok (.invokevirtual 111, 3) := by decide +kernel
theorem dX2_isAsTold_97 : decode cX2_isAsTold 97 = .ok (.ifCond .eq 7, 3) := by decide +kernel
theorem dX2_isAsTold_100 : decode cX2_isAsTold 100 = .ok (.iconst 1, 1) := by decide +kernel
theorem dX2_isAsTold_101 : decode cX2_isAsTold 101 = .ok (.goto 4, 3) := by decide +kernel
theorem dX2_isAsTold_104 : decode cX2_isAsTold 104 = .ok (.iconst 0, 1) := by decide +kernel
theorem dX2_isAsTold_105 : decode cX2_isAsTold 105 = .ok (.ireturn, 1) := by decide +kernel
theorem dX2_isAsTold_106 : decode cX2_isAsTold 106 = .ok (.iload_n 1, 1) := by decide +kernel
theorem dX2_isAsTold_107 : decode cX2_isAsTold 107 = .ok (.ifCond .lt 13, 3) := by decide +kernel
theorem dX2_isAsTold_110 : decode cX2_isAsTold 110 = .ok (.iload_n 1, 1) := by decide +kernel
theorem dX2_isAsTold_111 : decode cX2_isAsTold 111 = .ok (.bipush 17, 2) := by decide +kernel
theorem dX2_isAsTold_113 : decode cX2_isAsTold 113 = .ok (.if_icmp .gt 7, 3) := by decide +kernel
theorem dX2_isAsTold_116 : decode cX2_isAsTold 116 = .ok (.iconst 1, 1) := by decide +kernel
theorem dX2_isAsTold_117 : decode cX2_isAsTold 117 = .ok (.goto 4, 3) := by decide +kernel
theorem dX2_isAsTold_120 : decode cX2_isAsTold 120 = .ok (.iconst 0, 1) := by decide +kernel
theorem dX2_isAsTold_121 : decode cX2_isAsTold 121 = .ok (.ireturn, 1) := by decide +kernel
theorem dX2_rowsOfNothing_0 : decode cX2_rowsOfNothing 0 = .ok (.iconst 0, 1) := by decide +kernel
theorem dX2_rowsOfNothing_1 : decode cX2_rowsOfNothing 1 = .ok (.istore_n 1, 1) := by decide +kernel
theorem dX2_rowsOfNothing_2 : decode cX2_rowsOfNothing 2 = .ok (.iconst 0, 1) := by decide +kernel
theorem dX2_rowsOfNothing_3 : decode cX2_rowsOfNothing 3 = .ok (.istore_n 2, 1) := by decide +kernel
theorem dX2_rowsOfNothing_4 : decode cX2_rowsOfNothing 4 = .ok (.iload_n 2, 1) := by decide +kernel
theorem dX2_rowsOfNothing_5 : decode cX2_rowsOfNothing 5 = .ok (.iconst 4, 1) := by decide +kernel
theorem dX2_rowsOfNothing_6 : decode cX2_rowsOfNothing 6 = .ok (.if_icmp .ge 21, 3) := by decide +kernel
theorem dX2_rowsOfNothing_9 : decode cX2_rowsOfNothing 9 = .ok (.aload_n 0, 1) := by decide +kernel
theorem dX2_rowsOfNothing_10 : decode cX2_rowsOfNothing 10 = .ok (.getfield 17, 3) := by decide +kernel
theorem dX2_rowsOfNothing_13 : decode cX2_rowsOfNothing 13 = .ok (.iload_n 2, 1) := by decide +kernel
theorem dX2_rowsOfNothing_14 : decode cX2_rowsOfNothing 14 = .ok (.aaload, 1) := by decide +kernel
theorem dX2_rowsOfNothing_15 : decode cX2_rowsOfNothing 15 = .ok (.ifnonnull 6, 3) := by decide +kernel
theorem dX2_rowsOfNothing_18 : decode cX2_rowsOfNothing 18 = .ok (.iinc 1 1, 3) := by decide +kernel
theorem dX2_rowsOfNothing_21 : decode cX2_rowsOfNothing 21 = .ok (.iinc 2 1, 3) := by decide +kernel
theorem dX2_rowsOfNothing_24 : decode cX2_rowsOfNothing 24 = .ok (.goto (-20), 3) := by decide +kernel
theorem dX2_rowsOfNothing_27 : decode cX2_rowsOfNothing 27 = .ok (.iload_n 1, 1) := by decide +kernel
theorem dX2_rowsOfNothing_28 : decode cX2_rowsOfNothing 28 = .ok (.ireturn, 1) := by decide +kernel
theorem dX2_begin_0 : decode cX2_begin 0 = .ok (.aload_n 0, 1) := by decide +kernel
theorem dX2_begin_1 : decode cX2_begin 1 = .ok (.iconst 0, 1) := by decide +kernel
theorem dX2_begin_2 : decode cX2_begin 2 = .ok (.putfield 49, 3) := by decide +kernel
theorem dX2_begin_5 : decode cX2_begin 5 = .ok (.aload_n 0, 1) := by decide +kernel
theorem dX2_begin_6 : decode cX2_begin 6 = .ok (.iconst 0, 1) := by decide +kernel
theorem dX2_begin_7 : decode cX2_begin 7 = .ok (.putfield 40, 3) := by decide +kernel
theorem dX2_begin_10 : decode cX2_begin 10 = .ok (.return_, 1) := by decide +kernel
theorem dX2_isRefused_0 : decode cX2_isRefused 0 = .ok (.aload_n 0, 1) := by decide +kernel
theorem dX2_isRefused_1 : decode cX2_isRefused 1 = .ok (.getfield 40, 3) := by decide +kernel
theorem dX2_isRefused_4 : decode cX2_isRefused 4 = .ok (.ifCond .eq 7, 3) := by decide +kernel
theorem dX2_isRefused_7 : decode cX2_isRefused 7 = .ok (.iconst 1, 1) := by decide +kernel
theorem dX2_isRefused_8 : decode cX2_isRefused 8 = .ok (.goto 4, 3) := by decide +kernel
theorem dX2_isRefused_11 : decode cX2_isRefused 11 = .ok (.iconst 0, 1) := by decide +kernel
theorem dX2_isRefused_12 : decode cX2_isRefused 12 = .ok (.ireturn, 1) := by decide +kernel
theorem dX2_refuse_0 : decode cX2_refuse 0 = .ok (.aload_n 0, 1) := by decide +kernel
theorem dX2_refuse_1 : decode cX2_refuse 1 = .ok (.iload_n 1, 1) := by decide +kernel
theorem dX2_refuse_2 : decode cX2_refuse 2 = .ok (.putfield 40, 3) := by decide +kernel
theorem dX2_refuse_5 : decode cX2_refuse 5 = .ok (.aload_n 0, 1) := by decide +kernel
theorem dX2_refuse_6 : decode cX2_refuse 6 = .ok (.iload_n 2, 1) := by decide +kernel
theorem dX2_refuse_7 : decode cX2_refuse 7 = .ok (.putfield 43, 3) := by decide +kernel
theorem dX2_refuse_10 : decode cX2_refuse 10 = .ok (.iconst 0, 1) := by decide +kernel
theorem dX2_refuse_11 : decode cX2_refuse 11 = .ok (.ireturn, 1) := by decide +kernel
set_option maxRecDepth 20000 in
theorem ggX2_fail_X2_failureAnswer : GoodIn wsX2_fail wsX2_failureAnswer := goodIn_r _ [9] (by decide +kernel) (by decide +kernel)
set_option maxRecDepth 20000 in
theorem gX2_fail_X2_failureAnswer : GoodIn wsX2_fail (va_wsS RX2 79 yX2_failureAnswer wsX2_failureAnswer) := goodIn_app (goodIn_of _ (by decide +kernel)) ggX2_fail_X2_failureAnswer
theorem dX2_fail_0 : decode cX2_fail 0 = .ok (.aload_n 0, 1) := by decide +kernel
theorem dX2_fail_1 : decode cX2_fail 1 = .ok (.aload_n 0, 1) := by decide +kernel
theorem dX2_fail_2 : decode cX2_fail 2 = .ok (.getfield 40, 3) := by decide +kernel
theorem dX2_fail_5 : decode cX2_fail 5 = .ok (.putfield 55, 3) := by decide +kernel
theorem dX2_fail_8 : decode cX2_fail 8 = .ok (.aload_n 0, 1) := by decide +kernel
theorem dX2_fail_9 : decode cX2_fail 9 = .ok (.aload_n 0, 1) := by decide +kernel
theorem dX2_fail_10 : decode cX2_fail 10 = .ok (.getfield 43, 3) := by decide +kernel
theorem dX2_fail_13 : decode cX2_fail 13 = .ok (.putfield 58, 3) := by decide +kernel
theorem dX2_fail_16 : decode cX2_fail 16 = .ok (.aload_n 0, 1) := by decide +kernel
theorem dX2_fail_17 : decode cX2_fail 17 = .ok (.dup, 1) := by decide +kernel
theorem dX2_fail_18 : decode cX2_fail 18 = .ok (.getfield 61, 3) := by decide +kernel
theorem dX2_fail_21 : decode cX2_fail 21 = .ok (.iconst 1, 1) := by decide +kernel
theorem dX2_fail_22 : decode cX2_fail 22 = .ok (.iadd, 1) := by decide +kernel
theorem dX2_fail_23 : decode cX2_fail 23 = .ok (.putfield 61, 3) := by decide +kernel
theorem dX2_fail_26 : decode cX2_fail 26 = .ok (.aload_n 0, 1) := by decide +kernel
theorem dX2_fail_27 : decode cX2_fail 27 = .ok (.getfield 40, 3) := by decide +kernel
theorem dX2_fail_30 : decode cX2_fail 30 = .ok (.invokestatic 79, 3) := by decide +kernel
theorem dX2_fail_33 : decode cX2_fail 33 = .ok (.ireturn, 1) := by decide +kernel
theorem dX2_failureAnswer_0 : decode cX2_failureAnswer 0 = .ok (.bipush (-10), 2) := by decide +kernel
theorem dX2_failureAnswer_2 : decode cX2_failureAnswer 2 = .ok (.iload_n 0, 1) := by decide +kernel
theorem dX2_failureAnswer_3 : decode cX2_failureAnswer 3 = .ok (.isub, 1) := by decide +kernel
theorem dX2_failureAnswer_4 : decode cX2_failureAnswer 4 = .ok (.ireturn, 1) := by decide +kernel
set_option maxRecDepth 20000 in
theorem ggX2_give_X2_refuse : GoodIn wsX2_give wsX2_refuse := goodIn_r _ [15, 16, 17, 54, 55, 56, 57, 58, 59, 60, 61, 62, 63, 64, 65, 66, 67, 68, 69] (by decide +kernel) (by decide +kernel)
set_option maxRecDepth 20000 in
theorem gX2_give_X2_refuse : GoodIn wsX2_give (wsV RX2 135 RX2 yX2_refuse wsX2_refuse) := goodIn_app (goodIn_of _ (by decide +kernel)) ggX2_give_X2_refuse
set_option maxRecDepth 20000 in
theorem ggX2_give_X2_giveItem : GoodIn wsX2_give wsX2_giveItem := goodIn_r _ [21, 22, 11, 12, 13, 14, 15, 16, 17, 23, 24, 25, 26, 27, 28, 76, 54, 55, 56, 57, 58, 59, 60, 61, 62, 63, 64, 65, 66, 67, 68, 69] (by decide +kernel) (by decide +kernel)
set_option maxRecDepth 20000 in
theorem gX2_give_X2_giveItem : GoodIn wsX2_give (wsV RX2 151 RX2 yX2_giveItem wsX2_giveItem) := goodIn_app (goodIn_of _ (by decide +kernel)) ggX2_give_X2_giveItem
set_option maxRecDepth 20000 in
theorem ggX2_give_X2_giveRoom : GoodIn wsX2_give wsX2_giveRoom := goodIn_r _ [32, 11, 12, 13, 14, 15, 16, 17, 54, 55, 56, 57, 58, 59, 60, 61, 62, 63, 64, 65, 66, 67, 68, 69] (by decide +kernel) (by decide +kernel)
set_option maxRecDepth 20000 in
theorem gX2_give_X2_giveRoom : GoodIn wsX2_give (wsV RX2 158 RX2 yX2_giveRoom wsX2_giveRoom) := goodIn_app (goodIn_of _ (by decide +kernel)) ggX2_give_X2_giveRoom
set_option maxRecDepth 20000 in
theorem ggX2_give_X2_giveByOthers : GoodIn wsX2_give wsX2_giveByOthers := goodIn_r _ [36, 5, 4, 16, 37, 38, 39, 40, 41, 42, 43, 44, 14, 45, 46, 47, 48, 49, 50, 51, 0, 1, 2, 3, 6, 7, 8, 9, 10, 11, 12, 13, 15, 17, 18, 19, 20, 21, 22, 23, 24, 25, 26, 27, 28, 29, 30, 31, 32, 33, 34, 35, 52, 53, 54, 55, 56, 57, 58, 59, 60, 61, 62, 63, 64, 65, 66, 67, 68, 69, 70, 71, 72, 73, 74, 75, 76] (by decide +kernel) (by decide +kernel)
set_option maxRecDepth 20000 in
theorem gX2_give_X2_giveByOthers : GoodIn wsX2_give (wsV RX2 161 RX2 yX2_giveByOthers wsX2_giveByOthers) := goodIn_app (goodIn_of _ (by decide +kernel)) ggX2_give_X2_giveByOthers
theorem dX2_give_0 : decode cX2_give 0 = .ok (.aload_n 0, 1) := by decide +kernel
theorem dX2_give_1 : decode cX2_give 1 = .ok (.getfield 49, 3) := by decide +kernel
theorem dX2_give_4 : decode cX2_give 4 = .ok (.bipush 64, 2) := by decide +kernel
theorem dX2_give_6 : decode cX2_give 6 = .ok (.if_icmp .lt 10, 3) := by decide +kernel
theorem dX2_give_9 : decode cX2_give 9 = .ok (.aload_n 0, 1) := by decide +kernel
theorem dX2_give_10 : decode cX2_give 10 = .ok (.iconst 5, 1) := by decide +kernel
theorem dX2_give_11 : decode cX2_give 11 = .ok (.iload_n 1, 1) := by decide +kernel
theorem dX2_give_12 : decode cX2_give 12 = .ok (.invokevirtual 135, 3) := by decide +kernel
theorem dX2_give_15 : decode cX2_give 15 = .ok (.ireturn, 1) := by decide +kernel
theorem dX2_give_16 : decode cX2_give 16 = .ok (.aload_n 0, 1) := by decide +kernel
theorem dX2_give_17 : decode cX2_give 17 = .ok (.dup, 1) := by decide +kernel
theorem dX2_give_18 : decode cX2_give 18 = .ok (.getfield 49, 3) := by decide +kernel
theorem dX2_give_21 : decode cX2_give 21 = .ok (.iconst 1, 1) := by decide +kernel
theorem dX2_give_22 : decode cX2_give 22 = .ok (.iadd, 1) := by decide +kernel
theorem dX2_give_23 : decode cX2_give 23 = .ok (.putfield 49, 3) := by decide +kernel
theorem dX2_give_26 : decode cX2_give 26 = .ok (.aload_n 0, 1) := by decide +kernel
theorem dX2_give_27 : decode cX2_give 27 = .ok (.dup, 1) := by decide +kernel
theorem dX2_give_28 : decode cX2_give 28 = .ok (.getfield 52, 3) := by decide +kernel
theorem dX2_give_31 : decode cX2_give 31 = .ok (.iconst 1, 1) := by decide +kernel
theorem dX2_give_32 : decode cX2_give 32 = .ok (.iadd, 1) := by decide +kernel
theorem dX2_give_33 : decode cX2_give 33 = .ok (.putfield 52, 3) := by decide +kernel
theorem dX2_give_36 : decode cX2_give 36 = .ok (.aload_n 0, 1) := by decide +kernel
theorem dX2_give_37 : decode cX2_give 37 = .ok (.getfield 23, 3) := by decide +kernel
theorem dX2_give_40 : decode cX2_give 40 = .ok (.iload_n 1, 1) := by decide +kernel
theorem dX2_give_41 : decode cX2_give 41 = .ok (.aaload, 1) := by decide +kernel
theorem dX2_give_42 : decode cX2_give 42 = .ok (.astore_n 3, 1) := by decide +kernel
theorem dX2_give_43 : decode cX2_give 43 = .ok (.aload_n 3, 1) := by decide +kernel
theorem dX2_give_44 : decode cX2_give 44 = .ok (.getfield 138, 3) := by decide +kernel
theorem dX2_give_47 : decode cX2_give 47 = .ok (.tableswitch 257 0 17 #[85, 92, 99, 122, 145, 152, 164, 175, 257, 257, 257, 257, 191, 216, 238, 243, 257, 250], 85) := by decide +kernel
theorem dX2_give_132 : decode cX2_give 132 = .ok (.iload_n 2, 1) := by decide +kernel
theorem dX2_give_133 : decode cX2_give 133 = .ok (.aload_n 3, 1) := by decide +kernel
theorem dX2_give_134 : decode cX2_give 134 = .ok (.getfield 141, 3) := by decide +kernel
theorem dX2_give_137 : decode cX2_give 137 = .ok (.iadd, 1) := by decide +kernel
theorem dX2_give_138 : decode cX2_give 138 = .ok (.ireturn, 1) := by decide +kernel
theorem dX2_give_139 : decode cX2_give 139 = .ok (.iload_n 2, 1) := by decide +kernel
theorem dX2_give_140 : decode cX2_give 140 = .ok (.aload_n 3, 1) := by decide +kernel
theorem dX2_give_141 : decode cX2_give 141 = .ok (.getfield 141, 3) := by decide +kernel
theorem dX2_give_144 : decode cX2_give 144 = .ok (.imul, 1) := by decide +kernel
theorem dX2_give_145 : decode cX2_give 145 = .ok (.ireturn, 1) := by decide +kernel
theorem dX2_give_146 : decode cX2_give 146 = .ok (.aload_n 3, 1) := by decide +kernel
theorem dX2_give_147 : decode cX2_give 147 = .ok (.getfield 141, 3) := by decide +kernel
theorem dX2_give_150 : decode cX2_give 150 = .ok (.ifCond .ne 12, 3) := by decide +kernel
theorem dX2_give_153 : decode cX2_give 153 = .ok (.aload_n 0, 1) := by decide +kernel
theorem dX2_give_154 : decode cX2_give 154 = .ok (.iconst 1, 1) := by decide +kernel
theorem dX2_give_155 : decode cX2_give 155 = .ok (.iload_n 1, 1) := by decide +kernel
theorem dX2_give_156 : decode cX2_give 156 = .ok (.invokevirtual 135, 3) := by decide +kernel
theorem dX2_give_159 : decode cX2_give 159 = .ok (.goto 9, 3) := by decide +kernel
theorem dX2_give_162 : decode cX2_give 162 = .ok (.iload_n 2, 1) := by decide +kernel
theorem dX2_give_163 : decode cX2_give 163 = .ok (.aload_n 3, 1) := by decide +kernel
theorem dX2_give_164 : decode cX2_give 164 = .ok (.getfield 141, 3) := by decide +kernel
theorem dX2_give_167 : decode cX2_give 167 = .ok (.idiv, 1) := by decide +kernel
theorem dX2_give_168 : decode cX2_give 168 = .ok (.ireturn, 1) := by decide +kernel
theorem dX2_give_169 : decode cX2_give 169 = .ok (.aload_n 3, 1) := by decide +kernel
theorem dX2_give_170 : decode cX2_give 170 = .ok (.getfield 141, 3) := by decide +kernel
theorem dX2_give_173 : decode cX2_give 173 = .ok (.ifCond .ne 12, 3) := by decide +kernel
theorem dX2_give_176 : decode cX2_give 176 = .ok (.aload_n 0, 1) := by decide +kernel
theorem dX2_give_177 : decode cX2_give 177 = .ok (.iconst 1, 1) := by decide +kernel
theorem dX2_give_178 : decode cX2_give 178 = .ok (.iload_n 1, 1) := by decide +kernel
theorem dX2_give_179 : decode cX2_give 179 = .ok (.invokevirtual 135, 3) := by decide +kernel
theorem dX2_give_182 : decode cX2_give 182 = .ok (.goto 9, 3) := by decide +kernel
theorem dX2_give_185 : decode cX2_give 185 = .ok (.iload_n 2, 1) := by decide +kernel
theorem dX2_give_186 : decode cX2_give 186 = .ok (.aload_n 3, 1) := by decide +kernel
theorem dX2_give_187 : decode cX2_give 187 = .ok (.getfield 141, 3) := by decide +kernel
theorem dX2_give_190 : decode cX2_give 190 = .ok (.irem, 1) := by decide +kernel
theorem dX2_give_191 : decode cX2_give 191 = .ok (.ireturn, 1) := by decide +kernel
theorem dX2_give_192 : decode cX2_give 192 = .ok (.iload_n 2, 1) := by decide +kernel
theorem dX2_give_193 : decode cX2_give 193 = .ok (.aload_n 3, 1) := by decide +kernel
theorem dX2_give_194 : decode cX2_give 194 = .ok (.getfield 144, 3) := by decide +kernel
theorem dX2_give_197 : decode cX2_give 197 = .ok (.iadd, 1) := by decide +kernel
theorem dX2_give_198 : decode cX2_give 198 = .ok (.ireturn, 1) := by decide +kernel
theorem dX2_give_199 : decode cX2_give 199 = .ok (.iload_n 2, 1) := by decide +kernel
theorem dX2_give_200 : decode cX2_give 200 = .ok (.aload_n 0, 1) := by decide +kernel
theorem dX2_give_201 : decode cX2_give 201 = .ok (.getfield 11, 3) := by decide +kernel
theorem dX2_give_204 : decode cX2_give 204 = .ok (.aload_n 3, 1) := by decide +kernel
theorem dX2_give_205 : decode cX2_give 205 = .ok (.getfield 141, 3) := by decide +kernel
theorem dX2_give_208 : decode cX2_give 208 = .ok (.iaload, 1) := by decide +kernel
theorem dX2_give_209 : decode cX2_give 209 = .ok (.iadd, 1) := by decide +kernel
theorem dX2_give_210 : decode cX2_give 210 = .ok (.ireturn, 1) := by decide +kernel
theorem dX2_give_211 : decode cX2_give 211 = .ok (.aload_n 0, 1) := by decide +kernel
theorem dX2_give_212 : decode cX2_give 212 = .ok (.aload_n 3, 1) := by decide +kernel
theorem dX2_give_213 : decode cX2_give 213 = .ok (.getfield 147, 3) := by decide +kernel
theorem dX2_give_216 : decode cX2_give 216 = .ok (.iload_n 2, 1) := by decide +kernel
theorem dX2_give_217 : decode cX2_give 217 = .ok (.iload_n 1, 1) := by decide +kernel
theorem dX2_give_218 : decode cX2_give 218 = .ok (.invokevirtual 151, 3) := by decide +kernel
theorem dX2_give_221 : decode cX2_give 221 = .ok (.ireturn, 1) := by decide +kernel
theorem dX2_give_222 : decode cX2_give 222 = .ok (.aload_n 0, 1) := by decide +kernel
theorem dX2_give_223 : decode cX2_give 223 = .ok (.aload_n 0, 1) := by decide +kernel
theorem dX2_give_224 : decode cX2_give 224 = .ok (.getfield 17, 3) := by decide +kernel
theorem dX2_give_227 : decode cX2_give 227 = .ok (.aload_n 3, 1) := by decide +kernel
theorem dX2_give_228 : decode cX2_give 228 = .ok (.getfield 141, 3) := by decide +kernel
theorem dX2_give_231 : decode cX2_give 231 = .ok (.aaload, 1) := by decide +kernel
theorem dX2_give_232 : decode cX2_give 232 = .ok (.iload_n 2, 1) := by decide +kernel
theorem dX2_give_233 : decode cX2_give 233 = .ok (.iload_n 1, 1) := by decide +kernel
theorem dX2_give_234 : decode cX2_give 234 = .ok (.invokevirtual 151, 3) := by decide +kernel
theorem dX2_give_237 : decode cX2_give 237 = .ok (.ireturn, 1) := by decide +kernel
theorem dX2_give_238 : decode cX2_give 238 = .ok (.aload_n 0, 1) := by decide +kernel
theorem dX2_give_239 : decode cX2_give 239 = .ok (.getfield 11, 3) := by decide +kernel
theorem dX2_give_242 : decode cX2_give 242 = .ok (.aload_n 3, 1) := by decide +kernel
theorem dX2_give_243 : decode cX2_give 243 = .ok (.getfield 141, 3) := by decide +kernel
theorem dX2_give_246 : decode cX2_give 246 = .ok (.dup2, 1) := by decide +kernel
theorem dX2_give_247 : decode cX2_give 247 = .ok (.iaload, 1) := by decide +kernel
theorem dX2_give_248 : decode cX2_give 248 = .ok (.iconst 1, 1) := by decide +kernel
theorem dX2_give_249 : decode cX2_give 249 = .ok (.iadd, 1) := by decide +kernel
theorem dX2_give_250 : decode cX2_give 250 = .ok (.iastore, 1) := by decide +kernel
theorem dX2_give_251 : decode cX2_give 251 = .ok (.iload_n 2, 1) := by decide +kernel
theorem dX2_give_252 : decode cX2_give 252 = .ok (.aload_n 0, 1) := by decide +kernel
theorem dX2_give_253 : decode cX2_give 253 = .ok (.getfield 11, 3) := by decide +kernel
theorem dX2_give_256 : decode cX2_give 256 = .ok (.aload_n 3, 1) := by decide +kernel
theorem dX2_give_257 : decode cX2_give 257 = .ok (.getfield 141, 3) := by decide +kernel
theorem dX2_give_260 : decode cX2_give 260 = .ok (.iaload, 1) := by decide +kernel
theorem dX2_give_261 : decode cX2_give 261 = .ok (.iadd, 1) := by decide +kernel
theorem dX2_give_262 : decode cX2_give 262 = .ok (.ireturn, 1) := by decide +kernel
theorem dX2_give_263 : decode cX2_give 263 = .ok (.aload_n 3, 1) := by decide +kernel
theorem dX2_give_264 : decode cX2_give 264 = .ok (.dup, 1) := by decide +kernel
theorem dX2_give_265 : decode cX2_give 265 = .ok (.getfield 155, 3) := by decide +kernel
theorem dX2_give_268 : decode cX2_give 268 = .ok (.iconst 1, 1) := by decide +kernel
theorem dX2_give_269 : decode cX2_give 269 = .ok (.iadd, 1) := by decide +kernel
theorem dX2_give_270 : decode cX2_give 270 = .ok (.putfield 155, 3) := by decide +kernel
theorem dX2_give_273 : decode cX2_give 273 = .ok (.iload_n 2, 1) := by decide +kernel
theorem dX2_give_274 : decode cX2_give 274 = .ok (.aload_n 3, 1) := by decide +kernel
theorem dX2_give_275 : decode cX2_give 275 = .ok (.getfield 141, 3) := by decide +kernel
theorem dX2_give_278 : decode cX2_give 278 = .ok (.aload_n 3, 1) := by decide +kernel
theorem dX2_give_279 : decode cX2_give 279 = .ok (.getfield 155, 3) := by decide +kernel
theorem dX2_give_282 : decode cX2_give 282 = .ok (.imul, 1) := by decide +kernel
theorem dX2_give_283 : decode cX2_give 283 = .ok (.iadd, 1) := by decide +kernel
theorem dX2_give_284 : decode cX2_give 284 = .ok (.ireturn, 1) := by decide +kernel
theorem dX2_give_285 : decode cX2_give 285 = .ok (.aload_n 3, 1) := by decide +kernel
theorem dX2_give_286 : decode cX2_give 286 = .ok (.getfield 144, 3) := by decide +kernel
theorem dX2_give_289 : decode cX2_give 289 = .ok (.ireturn, 1) := by decide +kernel
theorem dX2_give_290 : decode cX2_give 290 = .ok (.aload_n 0, 1) := by decide +kernel
theorem dX2_give_291 : decode cX2_give 291 = .ok (.iload_n 2, 1) := by decide +kernel
theorem dX2_give_292 : decode cX2_give 292 = .ok (.iload_n 1, 1) := by decide +kernel
theorem dX2_give_293 : decode cX2_give 293 = .ok (.invokevirtual 158, 3) := by decide +kernel
theorem dX2_give_296 : decode cX2_give 296 = .ok (.ireturn, 1) := by decide +kernel
theorem dX2_give_297 : decode cX2_give 297 = .ok (.aload_n 0, 1) := by decide +kernel
theorem dX2_give_298 : decode cX2_give 298 = .ok (.iconst 3, 1) := by decide +kernel
theorem dX2_give_299 : decode cX2_give 299 = .ok (.iload_n 1, 1) := by decide +kernel
theorem dX2_give_300 : decode cX2_give 300 = .ok (.invokevirtual 135, 3) := by decide +kernel
theorem dX2_give_303 : decode cX2_give 303 = .ok (.ireturn, 1) := by decide +kernel
theorem dX2_give_304 : decode cX2_give 304 = .ok (.aload_n 0, 1) := by decide +kernel
theorem dX2_give_305 : decode cX2_give 305 = .ok (.aload_n 3, 1) := by decide +kernel
theorem dX2_give_306 : decode cX2_give 306 = .ok (.iload_n 2, 1) := by decide +kernel
theorem dX2_give_307 : decode cX2_give 307 = .ok (.invokevirtual 161, 3) := by decide +kernel
theorem dX2_give_310 : decode cX2_give 310 = .ok (.ireturn, 1) := by decide +kernel
set_option maxRecDepth 20000 in
theorem ggX2_giveItem_X2_refuse : GoodIn wsX2_giveItem wsX2_refuse := goodIn_r _ [6, 7, 8, 16, 17, 18, 19, 20, 21, 22, 23, 24, 25, 26, 27, 28, 29, 30, 31] (by decide +kernel) (by decide +kernel)
set_option maxRecDepth 20000 in
theorem gX2_giveItem_X2_refuse : GoodIn wsX2_giveItem (wsV RX2 135 RX2 yX2_refuse wsX2_refuse) := goodIn_app (goodIn_of _ (by decide +kernel)) ggX2_giveItem_X2_refuse
set_option maxRecDepth 20000 in
theorem ggX2_giveItem_X0_reaches : GoodIn wsX2_giveItem wsX0_reaches := goodIn_r _ [13, 14, 15] (by decide +kernel) (by decide +kernel)
set_option maxRecDepth 20000 in
theorem gX2_giveItem_X0_reaches : GoodIn wsX2_giveItem (wsV RX2 83 RX0 yX0_reaches wsX0_reaches) := goodIn_app (goodIn_of _ (by decide +kernel)) ggX2_giveItem_X0_reaches
theorem dX2_giveItem_0 : decode cX2_giveItem 0 = .ok (.aload_n 1, 1) := by decide +kernel
theorem dX2_giveItem_1 : decode cX2_giveItem 1 = .ok (.ifnonnull 10, 3) := by decide +kernel
theorem dX2_giveItem_4 : decode cX2_giveItem 4 = .ok (.aload_n 0, 1) := by decide +kernel
theorem dX2_giveItem_5 : decode cX2_giveItem 5 = .ok (.iconst 3, 1) := by decide +kernel
theorem dX2_giveItem_6 : decode cX2_giveItem 6 = .ok (.iload_n 3, 1) := by decide +kernel
theorem dX2_giveItem_7 : decode cX2_giveItem 7 = .ok (.invokevirtual 135, 3) := by decide +kernel
theorem dX2_giveItem_10 : decode cX2_giveItem 10 = .ok (.ireturn, 1) := by decide +kernel
theorem dX2_giveItem_11 : decode cX2_giveItem 11 = .ok (.aload_n 1, 1) := by decide +kernel
theorem dX2_giveItem_12 : decode cX2_giveItem 12 = .ok (.iload_n 2, 1) := by decide +kernel
theorem dX2_giveItem_13 : decode cX2_giveItem 13 = .ok (.invokevirtual 83, 3) := by decide +kernel
theorem dX2_giveItem_16 : decode cX2_giveItem 16 = .ok (.ifCond .eq 12, 3) := by decide +kernel
theorem dX2_giveItem_19 : decode cX2_giveItem 19 = .ok (.aload_n 1, 1) := by decide +kernel
theorem dX2_giveItem_20 : decode cX2_giveItem 20 = .ok (.getfield 86, 3) := by decide +kernel
theorem dX2_giveItem_23 : decode cX2_giveItem 23 = .ok (.iload_n 2, 1) := by decide +kernel
theorem dX2_giveItem_24 : decode cX2_giveItem 24 = .ok (.iaload, 1) := by decide +kernel
theorem dX2_giveItem_25 : decode cX2_giveItem 25 = .ok (.goto 9, 3) := by decide +kernel
theorem dX2_giveItem_28 : decode cX2_giveItem 28 = .ok (.aload_n 0, 1) := by decide +kernel
theorem dX2_giveItem_29 : decode cX2_giveItem 29 = .ok (.iconst 2, 1) := by decide +kernel
theorem dX2_giveItem_30 : decode cX2_giveItem 30 = .ok (.iload_n 3, 1) := by decide +kernel
theorem dX2_giveItem_31 : decode cX2_giveItem 31 = .ok (.invokevirtual 135, 3) := by decide +kernel
theorem dX2_giveItem_34 : decode cX2_giveItem 34 = .ok (.ireturn, 1) := by decide +kernel
set_option maxRecDepth 20000 in
theorem ggX2_giveRoom_X2_refuse : GoodIn wsX2_giveRoom wsX2_refuse := goodIn_r _ [5, 6, 7, 8, 9, 10, 11, 12, 13, 14, 15, 16, 17, 18, 19, 20, 21, 22, 23] (by decide +kernel) (by decide +kernel)
set_option maxRecDepth 20000 in
theorem gX2_giveRoom_X2_refuse : GoodIn wsX2_giveRoom (wsV RX2 135 RX2 yX2_refuse wsX2_refuse) := goodIn_app (goodIn_of _ (by decide +kernel)) ggX2_giveRoom_X2_refuse
theorem dX2_giveRoom_0 : decode cX2_giveRoom 0 = .ok (.iload_n 1, 1) := by decide +kernel
theorem dX2_giveRoom_1 : decode cX2_giveRoom 1 = .ok (.bipush 50, 2) := by decide +kernel
theorem dX2_giveRoom_3 : decode cX2_giveRoom 3 = .ok (.irem, 1) := by decide +kernel
theorem dX2_giveRoom_4 : decode cX2_giveRoom 4 = .ok (.istore_n 3, 1) := by decide +kernel
theorem dX2_giveRoom_5 : decode cX2_giveRoom 5 = .ok (.iload_n 3, 1) := by decide +kernel
theorem dX2_giveRoom_6 : decode cX2_giveRoom 6 = .ok (.ifCond .ge 12, 3) := by decide +kernel
theorem dX2_giveRoom_9 : decode cX2_giveRoom 9 = .ok (.aload_n 0, 1) := by decide +kernel
theorem dX2_giveRoom_10 : decode cX2_giveRoom 10 = .ok (.iconst 4, 1) := by decide +kernel
theorem dX2_giveRoom_11 : decode cX2_giveRoom 11 = .ok (.iload_n 2, 1) := by decide +kernel
theorem dX2_giveRoom_12 : decode cX2_giveRoom 12 = .ok (.invokevirtual 135, 3) := by decide +kernel
theorem dX2_giveRoom_15 : decode cX2_giveRoom 15 = .ok (.goto 4, 3) := by decide +kernel
theorem dX2_giveRoom_18 : decode cX2_giveRoom 18 = .ok (.iload_n 3, 1) := by decide +kernel
theorem dX2_giveRoom_19 : decode cX2_giveRoom 19 = .ok (.ireturn, 1) := by decide +kernel
set_option maxRecDepth 20000 in
theorem ggX2_giveByOthers_X2_give : GoodIn wsX2_giveByOthers wsX2_give := goodIn_r _ [20, 21, 22, 23, 2, 1, 24, 25, 26, 27, 28, 29, 30, 31, 12, 32, 3, 33, 34, 35, 36, 37, 38, 39, 40, 41, 42, 43, 44, 45, 46, 47, 48, 49, 50, 51, 0, 4, 5, 6, 7, 8, 9, 10, 11, 13, 14, 15, 16, 17, 18, 19, 52, 53, 54, 55, 56, 57, 58, 59, 60, 61, 62, 63, 64, 65, 66, 67, 68, 69, 70, 71, 72, 73, 74, 75, 76] (by decide +kernel) (by decide +kernel)
set_option maxRecDepth 20000 in
theorem gX2_giveByOthers_X2_give : GoodIn wsX2_giveByOthers (wsV RX2 96 RX2 yX2_give wsX2_give) := goodIn_app (goodIn_of _ (by decide +kernel)) ggX2_giveByOthers_X2_give
set_option maxRecDepth 20000 in
theorem ggX2_giveByOthers_X2_isRefused : GoodIn wsX2_giveByOthers wsX2_isRefused := goodIn_r _ [16, 3, 54, 55, 56, 57, 58, 59, 60, 61, 62, 63, 64, 65, 66, 67, 68, 69] (by decide +kernel) (by decide +kernel)
set_option maxRecDepth 20000 in
theorem gX2_giveByOthers_X2_isRefused : GoodIn wsX2_giveByOthers (wsV RX2 100 RX2 yX2_isRefused wsX2_isRefused) := goodIn_app (goodIn_of _ (by decide +kernel)) ggX2_giveByOthers_X2_isRefused
set_option maxRecDepth 20000 in
theorem ggX2_giveByOthers_X2_giveOtherWay : GoodIn wsX2_giveByOthers wsX2_giveOtherWay := goodIn_r _ [52, 3, 53, 9, 10, 11, 12, 20, 21, 22, 23, 2, 1, 24, 25, 26, 27, 28, 29, 30, 31, 32, 33, 34, 35, 36, 37, 38, 39, 40, 41, 42, 43, 44, 45, 46, 47, 48, 49, 50, 51, 0, 4, 5, 6, 7, 8, 13, 14, 15, 16, 17, 18, 19, 54, 55, 56, 57, 58, 59, 60, 61, 62, 63, 64, 65, 66, 67, 68, 69, 70, 71, 72, 73, 74, 75, 76] (by decide +kernel) (by decide +kernel)
set_option maxRecDepth 20000 in
theorem gX2_giveByOthers_X2_giveOtherWay : GoodIn wsX2_giveByOthers (wsV RX2 168 RX2 yX2_giveOtherWay wsX2_giveOtherWay) := goodIn_app (goodIn_of _ (by decide +kernel)) ggX2_giveByOthers_X2_giveOtherWay
theorem dX2_giveByOthers_0 : decode cX2_giveByOthers 0 = .ok (.aload_n 0, 1) := by decide +kernel
theorem dX2_giveByOthers_1 : decode cX2_giveByOthers 1 = .ok (.aload_n 1, 1) := by decide +kernel
theorem dX2_giveByOthers_2 : decode cX2_giveByOthers 2 = .ok (.getfield 141, 3) := by decide +kernel
theorem dX2_giveByOthers_5 : decode cX2_giveByOthers 5 = .ok (.iload_n 2, 1) := by decide +kernel
theorem dX2_giveByOthers_6 : decode cX2_giveByOthers 6 = .ok (.invokevirtual 96, 3) := by decide +kernel
theorem dX2_giveByOthers_9 : decode cX2_giveByOthers 9 = .ok (.istore_n 3, 1) := by decide +kernel
theorem dX2_giveByOthers_10 : decode cX2_giveByOthers 10 = .ok (.aload_n 0, 1) := by decide +kernel
theorem dX2_giveByOthers_11 : decode cX2_giveByOthers 11 = .ok (.invokevirtual 100, 3) := by decide +kernel
theorem dX2_giveByOthers_14 : decode cX2_giveByOthers 14 = .ok (.ifCond .eq 34, 3) := by decide +kernel
theorem dX2_giveByOthers_17 : decode cX2_giveByOthers 17 = .ok (.aload_n 1, 1) := by decide +kernel
theorem dX2_giveByOthers_18 : decode cX2_giveByOthers 18 = .ok (.getfield 138, 3) := by decide +kernel
theorem dX2_giveByOthers_21 : decode cX2_giveByOthers 21 = .ok (.bipush 11, 2) := by decide +kernel
theorem dX2_giveByOthers_23 : decode cX2_giveByOthers 23 = .ok (.if_icmp .ne 23, 3) := by decide +kernel
theorem dX2_giveByOthers_26 : decode cX2_giveByOthers 26 = .ok (.aload_n 0, 1) := by decide +kernel
theorem dX2_giveByOthers_27 : decode cX2_giveByOthers 27 = .ok (.getfield 40, 3) := by decide +kernel
theorem dX2_giveByOthers_30 : decode cX2_giveByOthers 30 = .ok (.iconst 5, 1) := by decide +kernel
theorem dX2_giveByOthers_31 : decode cX2_giveByOthers 31 = .ok (.if_icmp .eq 15, 3) := by decide +kernel
theorem dX2_giveByOthers_34 : decode cX2_giveByOthers 34 = .ok (.aload_n 0, 1) := by decide +kernel
theorem dX2_giveByOthers_35 : decode cX2_giveByOthers 35 = .ok (.aload_n 1, 1) := by decide +kernel
theorem dX2_giveByOthers_36 : decode cX2_giveByOthers 36 = .ok (.getfield 165, 3) := by decide +kernel
theorem dX2_giveByOthers_39 : decode cX2_giveByOthers 39 = .ok (.iload_n 2, 1) := by decide +kernel
theorem dX2_giveByOthers_40 : decode cX2_giveByOthers 40 = .ok (.invokevirtual 168, 3) := by decide +kernel
theorem dX2_giveByOthers_43 : decode cX2_giveByOthers 43 = .ok (.goto 4, 3) := by decide +kernel
theorem dX2_giveByOthers_46 : decode cX2_giveByOthers 46 = .ok (.iconst 0, 1) := by decide +kernel
theorem dX2_giveByOthers_47 : decode cX2_giveByOthers 47 = .ok (.ireturn, 1) := by decide +kernel
theorem dX2_giveByOthers_48 : decode cX2_giveByOthers 48 = .ok (.aload_n 1, 1) := by decide +kernel
theorem dX2_giveByOthers_49 : decode cX2_giveByOthers 49 = .ok (.getfield 138, 3) := by decide +kernel
theorem dX2_giveByOthers_52 : decode cX2_giveByOthers 52 = .ok (.tableswitch 104 8 16 #[52, 62, 72, 104, 104, 104, 104, 104, 90], 52) := by decide +kernel
theorem dX2_giveByOthers_104 : decode cX2_giveByOthers 104 = .ok (.aload_n 0, 1) := by decide +kernel
theorem dX2_giveByOthers_105 : decode cX2_giveByOthers 105 = .ok (.aload_n 1, 1) := by decide +kernel
theorem dX2_giveByOthers_106 : decode cX2_giveByOthers 106 = .ok (.getfield 165, 3) := by decide +kernel
theorem dX2_giveByOthers_109 : decode cX2_giveByOthers 109 = .ok (.iload_n 3, 1) := by decide +kernel
theorem dX2_giveByOthers_110 : decode cX2_giveByOthers 110 = .ok (.invokevirtual 96, 3) := by decide +kernel
theorem dX2_giveByOthers_113 : decode cX2_giveByOthers 113 = .ok (.ireturn, 1) := by decide +kernel
theorem dX2_giveByOthers_114 : decode cX2_giveByOthers 114 = .ok (.aload_n 0, 1) := by decide +kernel
theorem dX2_giveByOthers_115 : decode cX2_giveByOthers 115 = .ok (.aload_n 1, 1) := by decide +kernel
theorem dX2_giveByOthers_116 : decode cX2_giveByOthers 116 = .ok (.getfield 141, 3) := by decide +kernel
theorem dX2_giveByOthers_119 : decode cX2_giveByOthers 119 = .ok (.iload_n 3, 1) := by decide +kernel
theorem dX2_giveByOthers_120 : decode cX2_giveByOthers 120 = .ok (.invokevirtual 96, 3) := by decide +kernel
theorem dX2_giveByOthers_123 : decode cX2_giveByOthers 123 = .ok (.ireturn, 1) := by decide +kernel
theorem dX2_giveByOthers_124 : decode cX2_giveByOthers 124 = .ok (.iload_n 3, 1) := by decide +kernel
theorem dX2_giveByOthers_125 : decode cX2_giveByOthers 125 = .ok (.ifCond .eq 15, 3) := by decide +kernel
theorem dX2_giveByOthers_128 : decode cX2_giveByOthers 128 = .ok (.aload_n 0, 1) := by decide +kernel
theorem dX2_giveByOthers_129 : decode cX2_giveByOthers 129 = .ok (.aload_n 1, 1) := by decide +kernel
theorem dX2_giveByOthers_130 : decode cX2_giveByOthers 130 = .ok (.getfield 165, 3) := by decide +kernel
theorem dX2_giveByOthers_133 : decode cX2_giveByOthers 133 = .ok (.iload_n 2, 1) := by decide +kernel
theorem dX2_giveByOthers_134 : decode cX2_giveByOthers 134 = .ok (.invokevirtual 96, 3) := by decide +kernel
theorem dX2_giveByOthers_137 : decode cX2_giveByOthers 137 = .ok (.goto 4, 3) := by decide +kernel
theorem dX2_giveByOthers_140 : decode cX2_giveByOthers 140 = .ok (.iload_n 2, 1) := by decide +kernel
theorem dX2_giveByOthers_141 : decode cX2_giveByOthers 141 = .ok (.ireturn, 1) := by decide +kernel
theorem dX2_giveByOthers_142 : decode cX2_giveByOthers 142 = .ok (.iload_n 3, 1) := by decide +kernel
theorem dX2_giveByOthers_143 : decode cX2_giveByOthers 143 = .ok (.aload_n 0, 1) := by decide +kernel
theorem dX2_giveByOthers_144 : decode cX2_giveByOthers 144 = .ok (.aload_n 1, 1) := by decide +kernel
theorem dX2_giveByOthers_145 : decode cX2_giveByOthers 145 = .ok (.getfield 165, 3) := by decide +kernel
theorem dX2_giveByOthers_148 : decode cX2_giveByOthers 148 = .ok (.iload_n 2, 1) := by decide +kernel
theorem dX2_giveByOthers_149 : decode cX2_giveByOthers 149 = .ok (.invokevirtual 96, 3) := by decide +kernel
theorem dX2_giveByOthers_152 : decode cX2_giveByOthers 152 = .ok (.invokestatic 171, 3) := by decide +kernel
theorem dX2_giveByOthers_155 : decode cX2_giveByOthers 155 = .ok (.ireturn, 1) := by decide +kernel
theorem dX2_giveByOthers_156 : decode cX2_giveByOthers 156 = .ok (.iload_n 3, 1) := by decide +kernel
theorem dX2_giveByOthers_157 : decode cX2_giveByOthers 157 = .ok (.ireturn, 1) := by decide +kernel
set_option maxRecDepth 20000 in
theorem ggX2_giveOtherWay_X2_give : GoodIn wsX2_giveOtherWay wsX2_give := goodIn_r _ [7, 8, 9, 10, 11, 12, 13, 14, 15, 16, 17, 18, 19, 20, 6, 21, 1, 22, 23, 24, 25, 26, 27, 28, 29, 30, 31, 32, 33, 34, 35, 36, 37, 38, 39, 40, 41, 42, 43, 44, 45, 46, 3, 4, 5, 47, 48, 49, 50, 51, 52, 53, 0, 2, 54, 55, 56, 57, 58, 59, 60, 61, 62, 63, 64, 65, 66, 67, 68, 69, 70, 71, 72, 73, 74, 75, 76] (by decide +kernel) (by decide +kernel)
set_option maxRecDepth 20000 in
theorem gX2_giveOtherWay_X2_give : GoodIn wsX2_giveOtherWay (wsV RX2 96 RX2 yX2_give wsX2_give) := goodIn_app (goodIn_of _ (by decide +kernel)) ggX2_giveOtherWay_X2_give
theorem dX2_giveOtherWay_0 : decode cX2_giveOtherWay 0 = .ok (.aload_n 0, 1) := by decide +kernel
theorem dX2_giveOtherWay_1 : decode cX2_giveOtherWay 1 = .ok (.iconst 0, 1) := by decide +kernel
theorem dX2_giveOtherWay_2 : decode cX2_giveOtherWay 2 = .ok (.putfield 40, 3) := by decide +kernel
theorem dX2_giveOtherWay_5 : decode cX2_giveOtherWay 5 = .ok (.aload_n 0, 1) := by decide +kernel
theorem dX2_giveOtherWay_6 : decode cX2_giveOtherWay 6 = .ok (.dup, 1) := by decide +kernel
theorem dX2_giveOtherWay_7 : decode cX2_giveOtherWay 7 = .ok (.getfield 64, 3) := by decide +kernel
theorem dX2_giveOtherWay_10 : decode cX2_giveOtherWay 10 = .ok (.iconst 1, 1) := by decide +kernel
theorem dX2_giveOtherWay_11 : decode cX2_giveOtherWay 11 = .ok (.iadd, 1) := by decide +kernel
theorem dX2_giveOtherWay_12 : decode cX2_giveOtherWay 12 = .ok (.putfield 64, 3) := by decide +kernel
theorem dX2_giveOtherWay_15 : decode cX2_giveOtherWay 15 = .ok (.aload_n 0, 1) := by decide +kernel
theorem dX2_giveOtherWay_16 : decode cX2_giveOtherWay 16 = .ok (.iload_n 1, 1) := by decide +kernel
theorem dX2_giveOtherWay_17 : decode cX2_giveOtherWay 17 = .ok (.iload_n 2, 1) := by decide +kernel
theorem dX2_giveOtherWay_18 : decode cX2_giveOtherWay 18 = .ok (.invokevirtual 96, 3) := by decide +kernel
theorem dX2_giveOtherWay_21 : decode cX2_giveOtherWay 21 = .ok (.ireturn, 1) := by decide +kernel
set_option maxRecDepth 20000 in
theorem ggX2_foldOne_X2_refuse : GoodIn wsX2_foldOne wsX2_refuse := goodIn_r _ [9, 10, 11, 12, 13, 14, 15, 16, 17, 18, 19, 20, 21, 22, 23, 24, 25, 26, 27] (by decide +kernel) (by decide +kernel)
set_option maxRecDepth 20000 in
theorem gX2_foldOne_X2_refuse : GoodIn wsX2_foldOne (wsV RX2 135 RX2 yX2_refuse wsX2_refuse) := goodIn_app (goodIn_of _ (by decide +kernel)) ggX2_foldOne_X2_refuse
theorem dX2_foldOne_0 : decode cX2_foldOne 0 = .ok (.iload_n 1, 1) := by decide +kernel
theorem dX2_foldOne_1 : decode cX2_foldOne 1 = .ok (.tableswitch 52 0 3 #[31, 35, 41, 48], 31) := by decide +kernel
theorem dX2_foldOne_32 : decode cX2_foldOne 32 = .ok (.iload_n 2, 1) := by decide +kernel
theorem dX2_foldOne_33 : decode cX2_foldOne 33 = .ok (.iload_n 3, 1) := by decide +kernel
theorem dX2_foldOne_34 : decode cX2_foldOne 34 = .ok (.iadd, 1) := by decide +kernel
theorem dX2_foldOne_35 : decode cX2_foldOne 35 = .ok (.ireturn, 1) := by decide +kernel
theorem dX2_foldOne_36 : decode cX2_foldOne 36 = .ok (.iload_n 2, 1) := by decide +kernel
theorem dX2_foldOne_37 : decode cX2_foldOne 37 = .ok (.iload_n 3, 1) := by decide +kernel
theorem dX2_foldOne_38 : decode cX2_foldOne 38 = .ok (.invokestatic 176, 3) := by decide +kernel
theorem dX2_foldOne_41 : decode cX2_foldOne 41 = .ok (.ireturn, 1) := by decide +kernel
theorem dX2_foldOne_42 : decode cX2_foldOne 42 = .ok (.bipush 31, 2) := by decide +kernel
theorem dX2_foldOne_44 : decode cX2_foldOne 44 = .ok (.iload_n 2, 1) := by decide +kernel
theorem dX2_foldOne_45 : decode cX2_foldOne 45 = .ok (.imul, 1) := by decide +kernel
theorem dX2_foldOne_46 : decode cX2_foldOne 46 = .ok (.iload_n 3, 1) := by decide +kernel
theorem dX2_foldOne_47 : decode cX2_foldOne 47 = .ok (.iadd, 1) := by decide +kernel
theorem dX2_foldOne_48 : decode cX2_foldOne 48 = .ok (.ireturn, 1) := by decide +kernel
theorem dX2_foldOne_49 : decode cX2_foldOne 49 = .ok (.iload_n 3, 1) := by decide +kernel
theorem dX2_foldOne_50 : decode cX2_foldOne 50 = .ok (.iload_n 2, 1) := by decide +kernel
theorem dX2_foldOne_51 : decode cX2_foldOne 51 = .ok (.isub, 1) := by decide +kernel
theorem dX2_foldOne_52 : decode cX2_foldOne 52 = .ok (.ireturn, 1) := by decide +kernel
theorem dX2_foldOne_53 : decode cX2_foldOne 53 = .ok (.iload_n 3, 1) := by decide +kernel
theorem dX2_foldOne_54 : decode cX2_foldOne 54 = .ok (.ifCond .ne 12, 3) := by decide +kernel
theorem dX2_foldOne_57 : decode cX2_foldOne 57 = .ok (.aload_n 0, 1) := by decide +kernel
theorem dX2_foldOne_58 : decode cX2_foldOne 58 = .ok (.iconst 1, 1) := by decide +kernel
theorem dX2_foldOne_59 : decode cX2_foldOne 59 = .ok (.iconst (-1), 1) := by decide +kernel
theorem dX2_foldOne_60 : decode cX2_foldOne 60 = .ok (.invokevirtual 135, 3) := by decide +kernel
theorem dX2_foldOne_63 : decode cX2_foldOne 63 = .ok (.goto 6, 3) := by decide +kernel
theorem dX2_foldOne_66 : decode cX2_foldOne 66 = .ok (.iload_n 2, 1) := by decide +kernel
theorem dX2_foldOne_67 : decode cX2_foldOne 67 = .ok (.iload_n 3, 1) := by decide +kernel
theorem dX2_foldOne_68 : decode cX2_foldOne 68 = .ok (.idiv, 1) := by decide +kernel
theorem dX2_foldOne_69 : decode cX2_foldOne 69 = .ok (.ireturn, 1) := by decide +kernel
theorem dX2_sortOrigins_0 : decode cX2_sortOrigins 0 = .ok (.iconst 0, 1) := by decide +kernel
theorem dX2_sortOrigins_1 : decode cX2_sortOrigins 1 = .ok (.istore_n 2, 1) := by decide +kernel
theorem dX2_sortOrigins_2 : decode cX2_sortOrigins 2 = .ok (.iload_n 2, 1) := by decide +kernel
theorem dX2_sortOrigins_3 : decode cX2_sortOrigins 3 = .ok (.iload_n 1, 1) := by decide +kernel
theorem dX2_sortOrigins_4 : decode cX2_sortOrigins 4 = .ok (.if_icmp .ge 64, 3) := by decide +kernel
theorem dX2_sortOrigins_7 : decode cX2_sortOrigins 7 = .ok (.iload_n 2, 1) := by decide +kernel
theorem dX2_sortOrigins_8 : decode cX2_sortOrigins 8 = .ok (.istore_n 3, 1) := by decide +kernel
theorem dX2_sortOrigins_9 : decode cX2_sortOrigins 9 = .ok (.iload_n 3, 1) := by decide +kernel
theorem dX2_sortOrigins_10 : decode cX2_sortOrigins 10 = .ok (.ifCond .le 45, 3) := by decide +kernel
theorem dX2_sortOrigins_13 : decode cX2_sortOrigins 13 = .ok (.aload_n 0, 1) := by decide +kernel
theorem dX2_sortOrigins_14 : decode cX2_sortOrigins 14 = .ok (.getfield 34, 3) := by decide +kernel
theorem dX2_sortOrigins_17 : decode cX2_sortOrigins 17 = .ok (.aload_n 0, 1) := by decide +kernel
theorem dX2_sortOrigins_18 : decode cX2_sortOrigins 18 = .ok (.getfield 37, 3) := by decide +kernel
theorem dX2_sortOrigins_21 : decode cX2_sortOrigins 21 = .ok (.iload_n 3, 1) := by decide +kernel
theorem dX2_sortOrigins_22 : decode cX2_sortOrigins 22 = .ok (.iconst 1, 1) := by decide +kernel
theorem dX2_sortOrigins_23 : decode cX2_sortOrigins 23 = .ok (.isub, 1) := by decide +kernel
theorem dX2_sortOrigins_24 : decode cX2_sortOrigins 24 = .ok (.iaload, 1) := by decide +kernel
theorem dX2_sortOrigins_25 : decode cX2_sortOrigins 25 = .ok (.iaload, 1) := by decide +kernel
theorem dX2_sortOrigins_26 : decode cX2_sortOrigins 26 = .ok (.aload_n 0, 1) := by decide +kernel
theorem dX2_sortOrigins_27 : decode cX2_sortOrigins 27 = .ok (.getfield 34, 3) := by decide +kernel
theorem dX2_sortOrigins_30 : decode cX2_sortOrigins 30 = .ok (.iload_n 2, 1) := by decide +kernel
theorem dX2_sortOrigins_31 : decode cX2_sortOrigins 31 = .ok (.iaload, 1) := by decide +kernel
theorem dX2_sortOrigins_32 : decode cX2_sortOrigins 32 = .ok (.if_icmp .le 23, 3) := by decide +kernel
theorem dX2_sortOrigins_35 : decode cX2_sortOrigins 35 = .ok (.aload_n 0, 1) := by decide +kernel
theorem dX2_sortOrigins_36 : decode cX2_sortOrigins 36 = .ok (.getfield 37, 3) := by decide +kernel
theorem dX2_sortOrigins_39 : decode cX2_sortOrigins 39 = .ok (.iload_n 3, 1) := by decide +kernel
theorem dX2_sortOrigins_40 : decode cX2_sortOrigins 40 = .ok (.aload_n 0, 1) := by decide +kernel
theorem dX2_sortOrigins_41 : decode cX2_sortOrigins 41 = .ok (.getfield 37, 3) := by decide +kernel
theorem dX2_sortOrigins_44 : decode cX2_sortOrigins 44 = .ok (.iload_n 3, 1) := by decide +kernel
theorem dX2_sortOrigins_45 : decode cX2_sortOrigins 45 = .ok (.iconst 1, 1) := by decide +kernel
theorem dX2_sortOrigins_46 : decode cX2_sortOrigins 46 = .ok (.isub, 1) := by decide +kernel
theorem dX2_sortOrigins_47 : decode cX2_sortOrigins 47 = .ok (.iaload, 1) := by decide +kernel
theorem dX2_sortOrigins_48 : decode cX2_sortOrigins 48 = .ok (.iastore, 1) := by decide +kernel
theorem dX2_sortOrigins_49 : decode cX2_sortOrigins 49 = .ok (.iinc 3 (-1), 3) := by decide +kernel
theorem dX2_sortOrigins_52 : decode cX2_sortOrigins 52 = .ok (.goto (-43), 3) := by decide +kernel
theorem dX2_sortOrigins_55 : decode cX2_sortOrigins 55 = .ok (.aload_n 0, 1) := by decide +kernel
theorem dX2_sortOrigins_56 : decode cX2_sortOrigins 56 = .ok (.getfield 37, 3) := by decide +kernel
theorem dX2_sortOrigins_59 : decode cX2_sortOrigins 59 = .ok (.iload_n 3, 1) := by decide +kernel
theorem dX2_sortOrigins_60 : decode cX2_sortOrigins 60 = .ok (.iload_n 2, 1) := by decide +kernel
theorem dX2_sortOrigins_61 : decode cX2_sortOrigins 61 = .ok (.iastore, 1) := by decide +kernel
theorem dX2_sortOrigins_62 : decode cX2_sortOrigins 62 = .ok (.iinc 2 1, 3) := by decide +kernel
theorem dX2_sortOrigins_65 : decode cX2_sortOrigins 65 = .ok (.goto (-63), 3) := by decide +kernel
theorem dX2_sortOrigins_68 : decode cX2_sortOrigins 68 = .ok (.return_, 1) := by decide +kernel
theorem dX2_moveByOrigins_0 : decode cX2_moveByOrigins 0 = .ok (.iconst 0, 1) := by decide +kernel
theorem dX2_moveByOrigins_1 : decode cX2_moveByOrigins 1 = .ok (.istore_n 2, 1) := by decide +kernel
theorem dX2_moveByOrigins_2 : decode cX2_moveByOrigins 2 = .ok (.iconst 0, 1) := by decide +kernel
theorem dX2_moveByOrigins_3 : decode cX2_moveByOrigins 3 = .ok (.istore_n 3, 1) := by decide +kernel
theorem dX2_moveByOrigins_4 : decode cX2_moveByOrigins 4 = .ok (.iload_n 3, 1) := by decide +kernel
theorem dX2_moveByOrigins_5 : decode cX2_moveByOrigins 5 = .ok (.aload_n 1, 1) := by decide +kernel
theorem dX2_moveByOrigins_6 : decode cX2_moveByOrigins 6 = .ok (.arraylength, 1) := by decide +kernel
theorem dX2_moveByOrigins_7 : decode cX2_moveByOrigins 7 = .ok (.if_icmp .ge 36, 3) := by decide +kernel
theorem dX2_moveByOrigins_10 : decode cX2_moveByOrigins 10 = .ok (.aload_n 0, 1) := by decide +kernel
theorem dX2_moveByOrigins_11 : decode cX2_moveByOrigins 11 = .ok (.getfield 31, 3) := by decide +kernel
theorem dX2_moveByOrigins_14 : decode cX2_moveByOrigins 14 = .ok (.iload_n 3, 1) := by decide +kernel
theorem dX2_moveByOrigins_15 : decode cX2_moveByOrigins 15 = .ok (.aload_n 1, 1) := by decide +kernel
theorem dX2_moveByOrigins_16 : decode cX2_moveByOrigins 16 = .ok (.aload_n 0, 1) := by decide +kernel
theorem dX2_moveByOrigins_17 : decode cX2_moveByOrigins 17 = .ok (.getfield 37, 3) := by decide +kernel
theorem dX2_moveByOrigins_20 : decode cX2_moveByOrigins 20 = .ok (.iload_n 3, 1) := by decide +kernel
theorem dX2_moveByOrigins_21 : decode cX2_moveByOrigins 21 = .ok (.iaload, 1) := by decide +kernel
theorem dX2_moveByOrigins_22 : decode cX2_moveByOrigins 22 = .ok (.iaload, 1) := by decide +kernel
theorem dX2_moveByOrigins_23 : decode cX2_moveByOrigins 23 = .ok (.iastore, 1) := by decide +kernel
theorem dX2_moveByOrigins_24 : decode cX2_moveByOrigins 24 = .ok (.aload_n 0, 1) := by decide +kernel
theorem dX2_moveByOrigins_25 : decode cX2_moveByOrigins 25 = .ok (.getfield 37, 3) := by decide +kernel
theorem dX2_moveByOrigins_28 : decode cX2_moveByOrigins 28 = .ok (.iload_n 3, 1) := by decide +kernel
theorem dX2_moveByOrigins_29 : decode cX2_moveByOrigins 29 = .ok (.iaload, 1) := by decide +kernel
theorem dX2_moveByOrigins_30 : decode cX2_moveByOrigins 30 = .ok (.iload_n 3, 1) := by decide +kernel
theorem dX2_moveByOrigins_31 : decode cX2_moveByOrigins 31 = .ok (.if_icmp .eq 6, 3) := by decide +kernel
theorem dX2_moveByOrigins_34 : decode cX2_moveByOrigins 34 = .ok (.iinc 2 1, 3) := by decide +kernel
theorem dX2_moveByOrigins_37 : decode cX2_moveByOrigins 37 = .ok (.iinc 3 1, 3) := by decide +kernel
theorem dX2_moveByOrigins_40 : decode cX2_moveByOrigins 40 = .ok (.goto (-36), 3) := by decide +kernel
theorem dX2_moveByOrigins_43 : decode cX2_moveByOrigins 43 = .ok (.aload_n 0, 1) := by decide +kernel
theorem dX2_moveByOrigins_44 : decode cX2_moveByOrigins 44 = .ok (.getfield 31, 3) := by decide +kernel
theorem dX2_moveByOrigins_47 : decode cX2_moveByOrigins 47 = .ok (.iconst 0, 1) := by decide +kernel
theorem dX2_moveByOrigins_48 : decode cX2_moveByOrigins 48 = .ok (.aload_n 1, 1) := by decide +kernel
theorem dX2_moveByOrigins_49 : decode cX2_moveByOrigins 49 = .ok (.iconst 0, 1) := by decide +kernel
theorem dX2_moveByOrigins_50 : decode cX2_moveByOrigins 50 = .ok (.aload_n 1, 1) := by decide +kernel
theorem dX2_moveByOrigins_51 : decode cX2_moveByOrigins 51 = .ok (.arraylength, 1) := by decide +kernel
theorem dX2_moveByOrigins_52 : decode cX2_moveByOrigins 52 = .ok (.invokestatic 179, 3) := by decide +kernel
theorem dX2_moveByOrigins_55 : decode cX2_moveByOrigins 55 = .ok (.iload_n 2, 1) := by decide +kernel
theorem dX2_moveByOrigins_56 : decode cX2_moveByOrigins 56 = .ok (.ireturn, 1) := by decide +kernel
theorem dX3_init_0 : decode cX3_init 0 = .ok (.aload_n 0, 1) := by decide +kernel
theorem dX3_init_1 : decode cX3_init 1 = .ok (.invokespecial 1, 3) := by decide +kernel
theorem dX3_init_4 : decode cX3_init 4 = .ok (.aload_n 0, 1) := by decide +kernel
theorem dX3_init_5 : decode cX3_init 5 = .ok (.bipush 8, 2) := by decide +kernel
theorem dX3_init_7 : decode cX3_init 7 = .ok (.newarray .int, 2) := by decide +kernel
theorem dX3_init_9 : decode cX3_init 9 = .ok (.putfield 7, 3) := by decide +kernel
theorem dX3_init_12 : decode cX3_init 12 = .ok (.aload_n 0, 1) := by decide +kernel
theorem dX3_init_13 : decode cX3_init 13 = .ok (.iconst 4, 1) := by decide +kernel
theorem dX3_init_14 : decode cX3_init 14 = .ok (.newarray .int, 2) := by decide +kernel
theorem dX3_init_16 : decode cX3_init 16 = .ok (.dup, 1) := by decide +kernel
theorem dX3_init_17 : decode cX3_init 17 = .ok (.iconst 0, 1) := by decide +kernel
theorem dX3_init_18 : decode cX3_init 18 = .ok (.iconst (-1), 1) := by decide +kernel
theorem dX3_init_19 : decode cX3_init 19 = .ok (.iastore, 1) := by decide +kernel
theorem dX3_init_20 : decode cX3_init 20 = .ok (.dup, 1) := by decide +kernel
theorem dX3_init_21 : decode cX3_init 21 = .ok (.iconst 1, 1) := by decide +kernel
theorem dX3_init_22 : decode cX3_init 22 = .ok (.iconst (-1), 1) := by decide +kernel
theorem dX3_init_23 : decode cX3_init 23 = .ok (.iastore, 1) := by decide +kernel
theorem dX3_init_24 : decode cX3_init 24 = .ok (.dup, 1) := by decide +kernel
theorem dX3_init_25 : decode cX3_init 25 = .ok (.iconst 2, 1) := by decide +kernel
theorem dX3_init_26 : decode cX3_init 26 = .ok (.iconst (-1), 1) := by decide +kernel
theorem dX3_init_27 : decode cX3_init 27 = .ok (.iastore, 1) := by decide +kernel
theorem dX3_init_28 : decode cX3_init 28 = .ok (.dup, 1) := by decide +kernel
theorem dX3_init_29 : decode cX3_init 29 = .ok (.iconst 3, 1) := by decide +kernel
theorem dX3_init_30 : decode cX3_init 30 = .ok (.iconst (-1), 1) := by decide +kernel
theorem dX3_init_31 : decode cX3_init 31 = .ok (.iastore, 1) := by decide +kernel
theorem dX3_init_32 : decode cX3_init 32 = .ok (.putfield 13, 3) := by decide +kernel
theorem dX3_init_35 : decode cX3_init 35 = .ok (.aload_n 0, 1) := by decide +kernel
theorem dX3_init_36 : decode cX3_init 36 = .ok (.bipush 48, 2) := by decide +kernel
theorem dX3_init_38 : decode cX3_init 38 = .ok (.newarray .int, 2) := by decide +kernel
theorem dX3_init_40 : decode cX3_init 40 = .ok (.putfield 16, 3) := by decide +kernel
theorem dX3_init_43 : decode cX3_init 43 = .ok (.aload_n 0, 1) := by decide +kernel
theorem dX3_init_44 : decode cX3_init 44 = .ok (.sipush 480, 3) := by decide +kernel
theorem dX3_init_47 : decode cX3_init 47 = .ok (.newarray .int, 2) := by decide +kernel
theorem dX3_init_49 : decode cX3_init 49 = .ok (.putfield 19, 3) := by decide +kernel
theorem dX3_init_52 : decode cX3_init 52 = .ok (.aload_n 0, 1) := by decide +kernel
theorem dX3_init_53 : decode cX3_init 53 = .ok (.bipush 40, 2) := by decide +kernel
theorem dX3_init_55 : decode cX3_init 55 = .ok (.newarray .int, 2) := by decide +kernel
theorem dX3_init_57 : decode cX3_init 57 = .ok (.putfield 22, 3) := by decide +kernel
theorem dX3_init_60 : decode cX3_init 60 = .ok (.aload_n 0, 1) := by decide +kernel
theorem dX3_init_61 : decode cX3_init 61 = .ok (.bipush 40, 2) := by decide +kernel
theorem dX3_init_63 : decode cX3_init 63 = .ok (.newarray .int, 2) := by decide +kernel
theorem dX3_init_65 : decode cX3_init 65 = .ok (.putfield 25, 3) := by decide +kernel
theorem dX3_init_68 : decode cX3_init 68 = .ok (.aload_n 0, 1) := by decide +kernel
theorem dX3_init_69 : decode cX3_init 69 = .ok (.bipush 40, 2) := by decide +kernel
theorem dX3_init_71 : decode cX3_init 71 = .ok (.newarray .int, 2) := by decide +kernel
theorem dX3_init_73 : decode cX3_init 73 = .ok (.putfield 28, 3) := by decide +kernel
theorem dX3_init_76 : decode cX3_init 76 = .ok (.aload_n 0, 1) := by decide +kernel
theorem dX3_init_77 : decode cX3_init 77 = .ok (.bipush 40, 2) := by decide +kernel
theorem dX3_init_79 : decode cX3_init 79 = .ok (.newarray .int, 2) := by decide +kernel
theorem dX3_init_81 : decode cX3_init 81 = .ok (.putfield 31, 3) := by decide +kernel
theorem dX3_init_84 : decode cX3_init 84 = .ok (.aload_n 0, 1) := by decide +kernel
theorem dX3_init_85 : decode cX3_init 85 = .ok (.bipush 40, 2) := by decide +kernel
theorem dX3_init_87 : decode cX3_init 87 = .ok (.newarray .int, 2) := by decide +kernel
theorem dX3_init_89 : decode cX3_init 89 = .ok (.putfield 34, 3) := by decide +kernel
theorem dX3_init_92 : decode cX3_init 92 = .ok (.aload_n 0, 1) := by decide +kernel
theorem dX3_init_93 : decode cX3_init 93 = .ok (.bipush 40, 2) := by decide +kernel
theorem dX3_init_95 : decode cX3_init 95 = .ok (.newarray .int, 2) := by decide +kernel
theorem dX3_init_97 : decode cX3_init 97 = .ok (.putfield 37, 3) := by decide +kernel
theorem dX3_init_100 : decode cX3_init 100 = .ok (.aload_n 0, 1) := by decide +kernel
theorem dX3_init_101 : decode cX3_init 101 = .ok (.bipush 65, 2) := by decide +kernel
theorem dX3_init_103 : decode cX3_init 103 = .ok (.newarray .int, 2) := by decide +kernel
theorem dX3_init_105 : decode cX3_init 105 = .ok (.putfield 40, 3) := by decide +kernel
theorem dX3_init_108 : decode cX3_init 108 = .ok (.aload_n 0, 1) := by decide +kernel
theorem dX3_init_109 : decode cX3_init 109 = .ok (.bipush 65, 2) := by decide +kernel
theorem dX3_init_111 : decode cX3_init 111 = .ok (.newarray .int, 2) := by decide +kernel
theorem dX3_init_113 : decode cX3_init 113 = .ok (.putfield 43, 3) := by decide +kernel
theorem dX3_init_116 : decode cX3_init 116 = .ok (.aload_n 0, 1) := by decide +kernel
theorem dX3_init_117 : decode cX3_init 117 = .ok (.bipush 65, 2) := by decide +kernel
theorem dX3_init_119 : decode cX3_init 119 = .ok (.newarray .int, 2) := by decide +kernel
theorem dX3_init_121 : decode cX3_init 121 = .ok (.putfield 46, 3) := by decide +kernel
theorem dX3_init_124 : decode cX3_init 124 = .ok (.aload_n 0, 1) := by decide +kernel
theorem dX3_init_125 : decode cX3_init 125 = .ok (.bipush 65, 2) := by decide +kernel
theorem dX3_init_127 : decode cX3_init 127 = .ok (.newarray .int, 2) := by decide +kernel
theorem dX3_init_129 : decode cX3_init 129 = .ok (.putfield 49, 3) := by decide +kernel
theorem dX3_init_132 : decode cX3_init 132 = .ok (.aload_n 0, 1) := by decide +kernel
theorem dX3_init_133 : decode cX3_init 133 = .ok (.iconst (-1), 1) := by decide +kernel
theorem dX3_init_134 : decode cX3_init 134 = .ok (.putfield 52, 3) := by decide +kernel
theorem dX3_init_137 : decode cX3_init 137 = .ok (.aload_n 0, 1) := by decide +kernel
theorem dX3_init_138 : decode cX3_init 138 = .ok (.bipush 10, 2) := by decide +kernel
theorem dX3_init_140 : decode cX3_init 140 = .ok (.newarray .int, 2) := by decide +kernel
theorem dX3_init_142 : decode cX3_init 142 = .ok (.putfield 56, 3) := by decide +kernel
theorem dX3_init_145 : decode cX3_init 145 = .ok (.aload_n 0, 1) := by decide +kernel
theorem dX3_init_146 : decode cX3_init 146 = .ok (.bipush 10, 2) := by decide +kernel
theorem dX3_init_148 : decode cX3_init 148 = .ok (.newarray .int, 2) := by decide +kernel
theorem dX3_init_150 : decode cX3_init 150 = .ok (.putfield 59, 3) := by decide +kernel
theorem dX3_init_153 : decode cX3_init 153 = .ok (.aload_n 0, 1) := by decide +kernel
theorem dX3_init_154 : decode cX3_init 154 = .ok (.bipush 10, 2) := by decide +kernel
theorem dX3_init_156 : decode cX3_init 156 = .ok (.newarray .int, 2) := by decide +kernel
theorem dX3_init_158 : decode cX3_init 158 = .ok (.putfield 62, 3) := by decide +kernel
theorem dX3_init_161 : decode cX3_init 161 = .ok (.aload_n 0, 1) := by decide +kernel
theorem dX3_init_162 : decode cX3_init 162 = .ok (.iconst 0, 1) := by decide +kernel
theorem dX3_init_163 : decode cX3_init 163 = .ok (.putfield 65, 3) := by decide +kernel
theorem dX3_init_166 : decode cX3_init 166 = .ok (.return_, 1) := by decide +kernel
theorem dX3_in_0 : decode cX3_in 0 = .ok (.iload_n 0, 1) := by decide +kernel
theorem dX3_in_1 : decode cX3_in 1 = .ok (.iload_n 1, 1) := by decide +kernel
theorem dX3_in_2 : decode cX3_in 2 = .ok (.if_icmp .lt 12, 3) := by decide +kernel
theorem dX3_in_5 : decode cX3_in 5 = .ok (.iload_n 0, 1) := by decide +kernel
theorem dX3_in_6 : decode cX3_in 6 = .ok (.iload_n 2, 1) := by decide +kernel
theorem dX3_in_7 : decode cX3_in 7 = .ok (.if_icmp .gt 7, 3) := by decide +kernel
theorem dX3_in_10 : decode cX3_in 10 = .ok (.iconst 1, 1) := by decide +kernel
theorem dX3_in_11 : decode cX3_in 11 = .ok (.goto 4, 3) := by decide +kernel
theorem dX3_in_14 : decode cX3_in 14 = .ok (.iconst 0, 1) := by decide +kernel
theorem dX3_in_15 : decode cX3_in 15 = .ok (.ireturn, 1) := by decide +kernel
set_option maxRecDepth 20000 in
theorem ggX3_isRule_X3_in : GoodIn wsX3_isRule wsX3_in := goodIn_r _ [5] (by decide +kernel) (by decide +kernel)
set_option maxRecDepth 20000 in
theorem gX3_isRule_X3_in : GoodIn wsX3_isRule (va_wsS RX3 68 yX3_in wsX3_in) := goodIn_app (goodIn_of _ (by decide +kernel)) ggX3_isRule_X3_in
theorem dX3_isRule_0 : decode cX3_isRule 0 = .ok (.iload_n 1, 1) := by decide +kernel
theorem dX3_isRule_1 : decode cX3_isRule 1 = .ok (.iconst 0, 1) := by decide +kernel
theorem dX3_isRule_2 : decode cX3_isRule 2 = .ok (.aload_n 0, 1) := by decide +kernel
theorem dX3_isRule_3 : decode cX3_isRule 3 = .ok (.getfield 65, 3) := by decide +kernel
theorem dX3_isRule_6 : decode cX3_isRule 6 = .ok (.iconst 1, 1) := by decide +kernel
theorem dX3_isRule_7 : decode cX3_isRule 7 = .ok (.isub, 1) := by decide +kernel
theorem dX3_isRule_8 : decode cX3_isRule 8 = .ok (.invokestatic 68, 3) := by decide +kernel
theorem dX3_isRule_11 : decode cX3_isRule 11 = .ok (.ireturn, 1) := by decide +kernel
set_option maxRecDepth 20000 in
theorem ggX3_place_X3_in : GoodIn wsX3_place wsX3_in := goodIn_r _ [6] (by decide +kernel) (by decide +kernel)
set_option maxRecDepth 20000 in
theorem gX3_place_X3_in : GoodIn wsX3_place (va_wsS RX3 68 yX3_in wsX3_in) := goodIn_app (goodIn_of _ (by decide +kernel)) ggX3_place_X3_in
theorem dX3_place_0 : decode cX3_place 0 = .ok (.iload_n 1, 1) := by decide +kernel
theorem dX3_place_1 : decode cX3_place 1 = .ok (.iconst 0, 1) := by decide +kernel
theorem dX3_place_2 : decode cX3_place 2 = .ok (.bipush 7, 2) := by decide +kernel
theorem dX3_place_4 : decode cX3_place 4 = .ok (.invokestatic 68, 3) := by decide +kernel
theorem dX3_place_7 : decode cX3_place 7 = .ok (.ifCond .ne 7, 3) := by decide +kernel
theorem dX3_place_10 : decode cX3_place 10 = .ok (.ldc2_w 72, 3) := by decide +kernel
theorem dX3_place_13 : decode cX3_place 13 = .ok (.lreturn, 1) := by decide +kernel
theorem dX3_place_14 : decode cX3_place 14 = .ok (.aload_n 0, 1) := by decide +kernel
theorem dX3_place_15 : decode cX3_place 15 = .ok (.getfield 7, 3) := by decide +kernel
theorem dX3_place_18 : decode cX3_place 18 = .ok (.iload_n 1, 1) := by decide +kernel
theorem dX3_place_19 : decode cX3_place 19 = .ok (.iaload, 1) := by decide +kernel
theorem dX3_place_20 : decode cX3_place 20 = .ok (.istore_n 3, 1) := by decide +kernel
theorem dX3_place_21 : decode cX3_place 21 = .ok (.aload_n 0, 1) := by decide +kernel
theorem dX3_place_22 : decode cX3_place 22 = .ok (.getfield 7, 3) := by decide +kernel
theorem dX3_place_25 : decode cX3_place 25 = .ok (.iload_n 1, 1) := by decide +kernel
theorem dX3_place_26 : decode cX3_place 26 = .ok (.iload_n 2, 1) := by decide +kernel
theorem dX3_place_27 : decode cX3_place 27 = .ok (.iastore, 1) := by decide +kernel
theorem dX3_place_28 : decode cX3_place 28 = .ok (.iload_n 3, 1) := by decide +kernel
theorem dX3_place_29 : decode cX3_place 29 = .ok (.i2l, 1) := by decide +kernel
theorem dX3_place_30 : decode cX3_place 30 = .ok (.lreturn, 1) := by decide +kernel
set_option maxRecDepth 20000 in
theorem ggX3_has_X3_in : GoodIn wsX3_has wsX3_in := goodIn_r _ [6] (by decide +kernel) (by decide +kernel)
set_option maxRecDepth 20000 in
theorem gX3_has_X3_in : GoodIn wsX3_has (va_wsS RX3 68 yX3_in wsX3_in) := goodIn_app (goodIn_of _ (by decide +kernel)) ggX3_has_X3_in
theorem dX3_has_0 : decode cX3_has 0 = .ok (.iload_n 1, 1) := by decide +kernel
theorem dX3_has_1 : decode cX3_has 1 = .ok (.iconst 0, 1) := by decide +kernel
theorem dX3_has_2 : decode cX3_has 2 = .ok (.bipush 7, 2) := by decide +kernel
theorem dX3_has_4 : decode cX3_has 4 = .ok (.invokestatic 68, 3) := by decide +kernel
theorem dX3_has_7 : decode cX3_has 7 = .ok (.ifCond .eq 13, 3) := by decide +kernel
theorem dX3_has_10 : decode cX3_has 10 = .ok (.aload_n 0, 1) := by decide +kernel
theorem dX3_has_11 : decode cX3_has 11 = .ok (.getfield 7, 3) := by decide +kernel
theorem dX3_has_14 : decode cX3_has 14 = .ok (.iload_n 1, 1) := by decide +kernel
theorem dX3_has_15 : decode cX3_has 15 = .ok (.iaload, 1) := by decide +kernel
theorem dX3_has_16 : decode cX3_has 16 = .ok (.i2l, 1) := by decide +kernel
theorem dX3_has_17 : decode cX3_has 17 = .ok (.goto 6, 3) := by decide +kernel
theorem dX3_has_20 : decode cX3_has 20 = .ok (.ldc2_w 72, 3) := by decide +kernel
theorem dX3_has_23 : decode cX3_has 23 = .ok (.lreturn, 1) := by decide +kernel
set_option maxRecDepth 20000 in
theorem ggX3_newRow_X3_isHeld : GoodIn wsX3_newRow wsX3_isHeld := goodIn_r _ [7, 8, 9, 10, 11, 12, 13, 14, 15, 16, 17, 18, 19, 20, 21, 22, 23, 24, 25, 26, 27, 28, 29, 30, 31, 32, 33, 34, 35, 36, 37, 38, 39, 40, 41] (by decide +kernel) (by decide +kernel)
set_option maxRecDepth 20000 in
theorem gX3_newRow_X3_isHeld : GoodIn wsX3_newRow (wsV RX3 74 RX3 yX3_isHeld wsX3_isHeld) := goodIn_app (goodIn_of _ (by decide +kernel)) ggX3_newRow_X3_isHeld
theorem dX3_newRow_0 : decode cX3_newRow 0 = .ok (.iconst 0, 1) := by decide +kernel
theorem dX3_newRow_1 : decode cX3_newRow 1 = .ok (.istore_n 2, 1) := by decide +kernel
theorem dX3_newRow_2 : decode cX3_newRow 2 = .ok (.aload_n 0, 1) := by decide +kernel
theorem dX3_newRow_3 : decode cX3_newRow 3 = .ok (.iload_n 2, 1) := by decide +kernel
theorem dX3_newRow_4 : decode cX3_newRow 4 = .ok (.invokevirtual 74, 3) := by decide +kernel
theorem dX3_newRow_7 : decode cX3_newRow 7 = .ok (.ifCond .eq 9, 3) := by decide +kernel
theorem dX3_newRow_10 : decode cX3_newRow 10 = .ok (.iinc 2 1, 3) := by decide +kernel
theorem dX3_newRow_13 : decode cX3_newRow 13 = .ok (.goto (-11), 3) := by decide +kernel
theorem dX3_newRow_16 : decode cX3_newRow 16 = .ok (.aload_n 0, 1) := by decide +kernel
theorem dX3_newRow_17 : decode cX3_newRow 17 = .ok (.getfield 16, 3) := by decide +kernel
theorem dX3_newRow_20 : decode cX3_newRow 20 = .ok (.iload_n 2, 1) := by decide +kernel
theorem dX3_newRow_21 : decode cX3_newRow 21 = .ok (.iload_n 1, 1) := by decide +kernel
theorem dX3_newRow_22 : decode cX3_newRow 22 = .ok (.iastore, 1) := by decide +kernel
theorem dX3_newRow_23 : decode cX3_newRow 23 = .ok (.iconst 0, 1) := by decide +kernel
theorem dX3_newRow_24 : decode cX3_newRow 24 = .ok (.istore_n 3, 1) := by decide +kernel
theorem dX3_newRow_25 : decode cX3_newRow 25 = .ok (.iload_n 3, 1) := by decide +kernel
theorem dX3_newRow_26 : decode cX3_newRow 26 = .ok (.bipush 10, 2) := by decide +kernel
theorem dX3_newRow_28 : decode cX3_newRow 28 = .ok (.if_icmp .ge 21, 3) := by decide +kernel
theorem dX3_newRow_31 : decode cX3_newRow 31 = .ok (.aload_n 0, 1) := by decide +kernel
theorem dX3_newRow_32 : decode cX3_newRow 32 = .ok (.getfield 19, 3) := by decide +kernel
theorem dX3_newRow_35 : decode cX3_newRow 35 = .ok (.bipush 10, 2) := by decide +kernel
theorem dX3_newRow_37 : decode cX3_newRow 37 = .ok (.iload_n 2, 1) := by decide +kernel
theorem dX3_newRow_38 : decode cX3_newRow 38 = .ok (.imul, 1) := by decide +kernel
theorem dX3_newRow_39 : decode cX3_newRow 39 = .ok (.iload_n 3, 1) := by decide +kernel
theorem dX3_newRow_40 : decode cX3_newRow 40 = .ok (.iadd, 1) := by decide +kernel
theorem dX3_newRow_41 : decode cX3_newRow 41 = .ok (.iconst 0, 1) := by decide +kernel
theorem dX3_newRow_42 : decode cX3_newRow 42 = .ok (.iastore, 1) := by decide +kernel
theorem dX3_newRow_43 : decode cX3_newRow 43 = .ok (.iinc 3 1, 3) := by decide +kernel
theorem dX3_newRow_46 : decode cX3_newRow 46 = .ok (.goto (-21), 3) := by decide +kernel
theorem dX3_newRow_49 : decode cX3_newRow 49 = .ok (.iload_n 2, 1) := by decide +kernel
theorem dX3_newRow_50 : decode cX3_newRow 50 = .ok (.ireturn, 1) := by decide +kernel
theorem dX3_isHeld_0 : decode cX3_isHeld 0 = .ok (.iconst 0, 1) := by decide +kernel
theorem dX3_isHeld_1 : decode cX3_isHeld 1 = .ok (.istore_n 2, 1) := by decide +kernel
theorem dX3_isHeld_2 : decode cX3_isHeld 2 = .ok (.iconst 0, 1) := by decide +kernel
theorem dX3_isHeld_3 : decode cX3_isHeld 3 = .ok (.istore_n 3, 1) := by decide +kernel
theorem dX3_isHeld_4 : decode cX3_isHeld 4 = .ok (.iload_n 3, 1) := by decide +kernel
theorem dX3_isHeld_5 : decode cX3_isHeld 5 = .ok (.iconst 4, 1) := by decide +kernel
theorem dX3_isHeld_6 : decode cX3_isHeld 6 = .ok (.if_icmp .ge 29, 3) := by decide +kernel
theorem dX3_isHeld_9 : decode cX3_isHeld 9 = .ok (.iload_n 2, 1) := by decide +kernel
theorem dX3_isHeld_10 : decode cX3_isHeld 10 = .ok (.ifCond .ne 13, 3) := by decide +kernel
theorem dX3_isHeld_13 : decode cX3_isHeld 13 = .ok (.aload_n 0, 1) := by decide +kernel
theorem dX3_isHeld_14 : decode cX3_isHeld 14 = .ok (.getfield 13, 3) := by decide +kernel
theorem dX3_isHeld_17 : decode cX3_isHeld 17 = .ok (.iload_n 3, 1) := by decide +kernel
theorem dX3_isHeld_18 : decode cX3_isHeld 18 = .ok (.iaload, 1) := by decide +kernel
theorem dX3_isHeld_19 : decode cX3_isHeld 19 = .ok (.iload_n 1, 1) := by decide +kernel
theorem dX3_isHeld_20 : decode cX3_isHeld 20 = .ok (.if_icmp .ne 7, 3) := by decide +kernel
theorem dX3_isHeld_23 : decode cX3_isHeld 23 = .ok (.iconst 1, 1) := by decide +kernel
theorem dX3_isHeld_24 : decode cX3_isHeld 24 = .ok (.goto 4, 3) := by decide +kernel
theorem dX3_isHeld_27 : decode cX3_isHeld 27 = .ok (.iconst 0, 1) := by decide +kernel
theorem dX3_isHeld_28 : decode cX3_isHeld 28 = .ok (.istore_n 2, 1) := by decide +kernel
theorem dX3_isHeld_29 : decode cX3_isHeld 29 = .ok (.iinc 3 1, 3) := by decide +kernel
theorem dX3_isHeld_32 : decode cX3_isHeld 32 = .ok (.goto (-28), 3) := by decide +kernel
theorem dX3_isHeld_35 : decode cX3_isHeld 35 = .ok (.iconst 0, 1) := by decide +kernel
theorem dX3_isHeld_36 : decode cX3_isHeld 36 = .ok (.istore_n 3, 1) := by decide +kernel
theorem dX3_isHeld_37 : decode cX3_isHeld 37 = .ok (.iload_n 3, 1) := by decide +kernel
theorem dX3_isHeld_38 : decode cX3_isHeld 38 = .ok (.aload_n 0, 1) := by decide +kernel
theorem dX3_isHeld_39 : decode cX3_isHeld 39 = .ok (.getfield 65, 3) := by decide +kernel
theorem dX3_isHeld_42 : decode cX3_isHeld 42 = .ok (.if_icmp .ge 40, 3) := by decide +kernel
theorem dX3_isHeld_45 : decode cX3_isHeld 45 = .ok (.iload_n 2, 1) := by decide +kernel
theorem dX3_isHeld_46 : decode cX3_isHeld 46 = .ok (.ifCond .ne 24, 3) := by decide +kernel
theorem dX3_isHeld_49 : decode cX3_isHeld 49 = .ok (.aload_n 0, 1) := by decide +kernel
theorem dX3_isHeld_50 : decode cX3_isHeld 50 = .ok (.getfield 22, 3) := by decide +kernel
theorem dX3_isHeld_53 : decode cX3_isHeld 53 = .ok (.iload_n 3, 1) := by decide +kernel
theorem dX3_isHeld_54 : decode cX3_isHeld 54 = .ok (.iaload, 1) := by decide +kernel
theorem dX3_isHeld_55 : decode cX3_isHeld 55 = .ok (.bipush 6, 2) := by decide +kernel
theorem dX3_isHeld_57 : decode cX3_isHeld 57 = .ok (.if_icmp .ne 17, 3) := by decide +kernel
theorem dX3_isHeld_60 : decode cX3_isHeld 60 = .ok (.aload_n 0, 1) := by decide +kernel
theorem dX3_isHeld_61 : decode cX3_isHeld 61 = .ok (.getfield 34, 3) := by decide +kernel
theorem dX3_isHeld_64 : decode cX3_isHeld 64 = .ok (.iload_n 3, 1) := by decide +kernel
theorem dX3_isHeld_65 : decode cX3_isHeld 65 = .ok (.iaload, 1) := by decide +kernel
theorem dX3_isHeld_66 : decode cX3_isHeld 66 = .ok (.iload_n 1, 1) := by decide +kernel
theorem dX3_isHeld_67 : decode cX3_isHeld 67 = .ok (.if_icmp .ne 7, 3) := by decide +kernel
theorem dX3_isHeld_70 : decode cX3_isHeld 70 = .ok (.iconst 1, 1) := by decide +kernel
theorem dX3_isHeld_71 : decode cX3_isHeld 71 = .ok (.goto 4, 3) := by decide +kernel
theorem dX3_isHeld_74 : decode cX3_isHeld 74 = .ok (.iconst 0, 1) := by decide +kernel
theorem dX3_isHeld_75 : decode cX3_isHeld 75 = .ok (.istore_n 2, 1) := by decide +kernel
theorem dX3_isHeld_76 : decode cX3_isHeld 76 = .ok (.iinc 3 1, 3) := by decide +kernel
theorem dX3_isHeld_79 : decode cX3_isHeld 79 = .ok (.goto (-42), 3) := by decide +kernel
theorem dX3_isHeld_82 : decode cX3_isHeld 82 = .ok (.iload_n 2, 1) := by decide +kernel
theorem dX3_isHeld_83 : decode cX3_isHeld 83 = .ok (.ireturn, 1) := by decide +kernel
set_option maxRecDepth 20000 in
theorem ggX3_row_X3_in : GoodIn wsX3_row wsX3_in := goodIn_r _ [5] (by decide +kernel) (by decide +kernel)
set_option maxRecDepth 20000 in
theorem gX3_row_X3_in : GoodIn wsX3_row (va_wsS RX3 68 yX3_in wsX3_in) := goodIn_app (goodIn_of _ (by decide +kernel)) ggX3_row_X3_in
set_option maxRecDepth 20000 in
theorem ggX3_row_X3_newRow : GoodIn wsX3_row wsX3_newRow := goodIn_r _ [9, 10, 11, 12, 13, 14, 4, 15, 1, 16, 17, 18, 19, 20, 21, 22, 23, 24, 25, 26, 27, 28, 29, 30, 31, 32, 33, 34, 35, 36, 37, 38, 39, 40, 41, 42, 43, 44, 45, 46, 47, 48] (by decide +kernel) (by decide +kernel)
set_option maxRecDepth 20000 in
theorem gX3_row_X3_newRow : GoodIn wsX3_row (wsV RX3 78 RX3 yX3_newRow wsX3_newRow) := goodIn_app (goodIn_of _ (by decide +kernel)) ggX3_row_X3_newRow
theorem dX3_row_0 : decode cX3_row 0 = .ok (.iload_n 1, 1) := by decide +kernel
theorem dX3_row_1 : decode cX3_row 1 = .ok (.iconst 0, 1) := by decide +kernel
theorem dX3_row_2 : decode cX3_row 2 = .ok (.iconst 3, 1) := by decide +kernel
theorem dX3_row_3 : decode cX3_row 3 = .ok (.invokestatic 68, 3) := by decide +kernel
theorem dX3_row_6 : decode cX3_row 6 = .ok (.ifCond .eq 13, 3) := by decide +kernel
theorem dX3_row_9 : decode cX3_row 9 = .ok (.iload_n 2, 1) := by decide +kernel
theorem dX3_row_10 : decode cX3_row 10 = .ok (.iconst (-1), 1) := by decide +kernel
theorem dX3_row_11 : decode cX3_row 11 = .ok (.bipush 10, 2) := by decide +kernel
theorem dX3_row_13 : decode cX3_row 13 = .ok (.invokestatic 68, 3) := by decide +kernel
theorem dX3_row_16 : decode cX3_row 16 = .ok (.ifCond .ne 5, 3) := by decide +kernel
theorem dX3_row_19 : decode cX3_row 19 = .ok (.iconst (-1), 1) := by decide +kernel
theorem dX3_row_20 : decode cX3_row 20 = .ok (.ireturn, 1) := by decide +kernel
theorem dX3_row_21 : decode cX3_row 21 = .ok (.iload_n 2, 1) := by decide +kernel
theorem dX3_row_22 : decode cX3_row 22 = .ok (.ifCond .ge 13, 3) := by decide +kernel
theorem dX3_row_25 : decode cX3_row 25 = .ok (.aload_n 0, 1) := by decide +kernel
theorem dX3_row_26 : decode cX3_row 26 = .ok (.getfield 13, 3) := by decide +kernel
theorem dX3_row_29 : decode cX3_row 29 = .ok (.iload_n 1, 1) := by decide +kernel
theorem dX3_row_30 : decode cX3_row 30 = .ok (.iconst (-1), 1) := by decide +kernel
theorem dX3_row_31 : decode cX3_row 31 = .ok (.iastore, 1) := by decide +kernel
theorem dX3_row_32 : decode cX3_row 32 = .ok (.goto 16, 3) := by decide +kernel
theorem dX3_row_35 : decode cX3_row 35 = .ok (.aload_n 0, 1) := by decide +kernel
theorem dX3_row_36 : decode cX3_row 36 = .ok (.iload_n 2, 1) := by decide +kernel
theorem dX3_row_37 : decode cX3_row 37 = .ok (.invokevirtual 78, 3) := by decide +kernel
theorem dX3_row_40 : decode cX3_row 40 = .ok (.istore_n 3, 1) := by decide +kernel
theorem dX3_row_41 : decode cX3_row 41 = .ok (.aload_n 0, 1) := by decide +kernel
theorem dX3_row_42 : decode cX3_row 42 = .ok (.getfield 13, 3) := by decide +kernel
theorem dX3_row_45 : decode cX3_row 45 = .ok (.iload_n 1, 1) := by decide +kernel
theorem dX3_row_46 : decode cX3_row 46 = .ok (.iload_n 3, 1) := by decide +kernel
theorem dX3_row_47 : decode cX3_row 47 = .ok (.iastore, 1) := by decide +kernel
theorem dX3_row_48 : decode cX3_row 48 = .ok (.iconst 1, 1) := by decide +kernel
theorem dX3_row_49 : decode cX3_row 49 = .ok (.ireturn, 1) := by decide +kernel
set_option maxRecDepth 20000 in
theorem ggX3_share_X3_in : GoodIn wsX3_share wsX3_in := goodIn_r _ [5] (by decide +kernel) (by decide +kernel)
set_option maxRecDepth 20000 in
theorem gX3_share_X3_in : GoodIn wsX3_share (va_wsS RX3 68 yX3_in wsX3_in) := goodIn_app (goodIn_of _ (by decide +kernel)) ggX3_share_X3_in
theorem dX3_share_0 : decode cX3_share 0 = .ok (.iload_n 1, 1) := by decide +kernel
theorem dX3_share_1 : decode cX3_share 1 = .ok (.iconst 0, 1) := by decide +kernel
theorem dX3_share_2 : decode cX3_share 2 = .ok (.iconst 3, 1) := by decide +kernel
theorem dX3_share_3 : decode cX3_share 3 = .ok (.invokestatic 68, 3) := by decide +kernel
theorem dX3_share_6 : decode cX3_share 6 = .ok (.ifCond .eq 12, 3) := by decide +kernel
theorem dX3_share_9 : decode cX3_share 9 = .ok (.iload_n 2, 1) := by decide +kernel
theorem dX3_share_10 : decode cX3_share 10 = .ok (.iconst 0, 1) := by decide +kernel
theorem dX3_share_11 : decode cX3_share 11 = .ok (.iconst 3, 1) := by decide +kernel
theorem dX3_share_12 : decode cX3_share 12 = .ok (.invokestatic 68, 3) := by decide +kernel
theorem dX3_share_15 : decode cX3_share 15 = .ok (.ifCond .ne 5, 3) := by decide +kernel
theorem dX3_share_18 : decode cX3_share 18 = .ok (.iconst (-1), 1) := by decide +kernel
theorem dX3_share_19 : decode cX3_share 19 = .ok (.ireturn, 1) := by decide +kernel
theorem dX3_share_20 : decode cX3_share 20 = .ok (.aload_n 0, 1) := by decide +kernel
theorem dX3_share_21 : decode cX3_share 21 = .ok (.getfield 13, 3) := by decide +kernel
theorem dX3_share_24 : decode cX3_share 24 = .ok (.iload_n 1, 1) := by decide +kernel
theorem dX3_share_25 : decode cX3_share 25 = .ok (.aload_n 0, 1) := by decide +kernel
theorem dX3_share_26 : decode cX3_share 26 = .ok (.getfield 13, 3) := by decide +kernel
theorem dX3_share_29 : decode cX3_share 29 = .ok (.iload_n 2, 1) := by decide +kernel
theorem dX3_share_30 : decode cX3_share 30 = .ok (.iaload, 1) := by decide +kernel
theorem dX3_share_31 : decode cX3_share 31 = .ok (.iastore, 1) := by decide +kernel
theorem dX3_share_32 : decode cX3_share 32 = .ok (.aload_n 0, 1) := by decide +kernel
theorem dX3_share_33 : decode cX3_share 33 = .ok (.getfield 13, 3) := by decide +kernel
theorem dX3_share_36 : decode cX3_share 36 = .ok (.iload_n 2, 1) := by decide +kernel
theorem dX3_share_37 : decode cX3_share 37 = .ok (.iaload, 1) := by decide +kernel
theorem dX3_share_38 : decode cX3_share 38 = .ok (.ifCond .ge 7, 3) := by decide +kernel
theorem dX3_share_41 : decode cX3_share 41 = .ok (.iconst 0, 1) := by decide +kernel
theorem dX3_share_42 : decode cX3_share 42 = .ok (.goto 4, 3) := by decide +kernel
theorem dX3_share_45 : decode cX3_share 45 = .ok (.iconst 1, 1) := by decide +kernel
theorem dX3_share_46 : decode cX3_share 46 = .ok (.ireturn, 1) := by decide +kernel
set_option maxRecDepth 20000 in
theorem ggX3_put_X3_in : GoodIn wsX3_put wsX3_in := goodIn_r _ [7] (by decide +kernel) (by decide +kernel)
set_option maxRecDepth 20000 in
theorem gX3_put_X3_in : GoodIn wsX3_put (va_wsS RX3 68 yX3_in wsX3_in) := goodIn_app (goodIn_of _ (by decide +kernel)) ggX3_put_X3_in
theorem dX3_put_0 : decode cX3_put 0 = .ok (.iload_n 1, 1) := by decide +kernel
theorem dX3_put_1 : decode cX3_put 1 = .ok (.iconst 0, 1) := by decide +kernel
theorem dX3_put_2 : decode cX3_put 2 = .ok (.iconst 3, 1) := by decide +kernel
theorem dX3_put_3 : decode cX3_put 3 = .ok (.invokestatic 68, 3) := by decide +kernel
theorem dX3_put_6 : decode cX3_put 6 = .ok (.ifCond .ne 5, 3) := by decide +kernel
theorem dX3_put_9 : decode cX3_put 9 = .ok (.iconst (-1), 1) := by decide +kernel
theorem dX3_put_10 : decode cX3_put 10 = .ok (.ireturn, 1) := by decide +kernel
theorem dX3_put_11 : decode cX3_put 11 = .ok (.aload_n 0, 1) := by decide +kernel
theorem dX3_put_12 : decode cX3_put 12 = .ok (.getfield 13, 3) := by decide +kernel
theorem dX3_put_15 : decode cX3_put 15 = .ok (.iload_n 1, 1) := by decide +kernel
theorem dX3_put_16 : decode cX3_put 16 = .ok (.iaload, 1) := by decide +kernel
theorem dX3_put_17 : decode cX3_put 17 = .ok (.ifCond .ge 6, 3) := by decide +kernel
theorem dX3_put_20 : decode cX3_put 20 = .ok (.bipush (-13), 2) := by decide +kernel
theorem dX3_put_22 : decode cX3_put 22 = .ok (.ireturn, 1) := by decide +kernel
theorem dX3_put_23 : decode cX3_put 23 = .ok (.iload_n 2, 1) := by decide +kernel
theorem dX3_put_24 : decode cX3_put 24 = .ok (.iconst 0, 1) := by decide +kernel
theorem dX3_put_25 : decode cX3_put 25 = .ok (.aload_n 0, 1) := by decide +kernel
theorem dX3_put_26 : decode cX3_put 26 = .ok (.getfield 16, 3) := by decide +kernel
theorem dX3_put_29 : decode cX3_put 29 = .ok (.aload_n 0, 1) := by decide +kernel
theorem dX3_put_30 : decode cX3_put 30 = .ok (.getfield 13, 3) := by decide +kernel
theorem dX3_put_33 : decode cX3_put 33 = .ok (.iload_n 1, 1) := by decide +kernel
theorem dX3_put_34 : decode cX3_put 34 = .ok (.iaload, 1) := by decide +kernel
theorem dX3_put_35 : decode cX3_put 35 = .ok (.iaload, 1) := by decide +kernel
theorem dX3_put_36 : decode cX3_put 36 = .ok (.iconst 1, 1) := by decide +kernel
theorem dX3_put_37 : decode cX3_put 37 = .ok (.isub, 1) := by decide +kernel
theorem dX3_put_38 : decode cX3_put 38 = .ok (.invokestatic 68, 3) := by decide +kernel
theorem dX3_put_41 : decode cX3_put 41 = .ok (.ifCond .ne 6, 3) := by decide +kernel
theorem dX3_put_44 : decode cX3_put 44 = .ok (.bipush (-12), 2) := by decide +kernel
theorem dX3_put_46 : decode cX3_put 46 = .ok (.ireturn, 1) := by decide +kernel
theorem dX3_put_47 : decode cX3_put 47 = .ok (.aload_n 0, 1) := by decide +kernel
theorem dX3_put_48 : decode cX3_put 48 = .ok (.getfield 19, 3) := by decide +kernel
theorem dX3_put_51 : decode cX3_put 51 = .ok (.bipush 10, 2) := by decide +kernel
theorem dX3_put_53 : decode cX3_put 53 = .ok (.aload_n 0, 1) := by decide +kernel
theorem dX3_put_54 : decode cX3_put 54 = .ok (.getfield 13, 3) := by decide +kernel
theorem dX3_put_57 : decode cX3_put 57 = .ok (.iload_n 1, 1) := by decide +kernel
theorem dX3_put_58 : decode cX3_put 58 = .ok (.iaload, 1) := by decide +kernel
theorem dX3_put_59 : decode cX3_put 59 = .ok (.imul, 1) := by decide +kernel
theorem dX3_put_60 : decode cX3_put 60 = .ok (.iload_n 2, 1) := by decide +kernel
theorem dX3_put_61 : decode cX3_put 61 = .ok (.iadd, 1) := by decide +kernel
theorem dX3_put_62 : decode cX3_put 62 = .ok (.iload_n 3, 1) := by decide +kernel
theorem dX3_put_63 : decode cX3_put 63 = .ok (.iastore, 1) := by decide +kernel
theorem dX3_put_64 : decode cX3_put 64 = .ok (.iconst 1, 1) := by decide +kernel
theorem dX3_put_65 : decode cX3_put 65 = .ok (.ireturn, 1) := by decide +kernel
set_option maxRecDepth 20000 in
theorem ggX3_item_X3_in : GoodIn wsX3_item wsX3_in := goodIn_r _ [8] (by decide +kernel) (by decide +kernel)
set_option maxRecDepth 20000 in
theorem gX3_item_X3_in : GoodIn wsX3_item (va_wsS RX3 68 yX3_in wsX3_in) := goodIn_app (goodIn_of _ (by decide +kernel)) ggX3_item_X3_in
theorem dX3_item_0 : decode cX3_item 0 = .ok (.iload_n 1, 1) := by decide +kernel
theorem dX3_item_1 : decode cX3_item 1 = .ok (.iconst 0, 1) := by decide +kernel
theorem dX3_item_2 : decode cX3_item 2 = .ok (.iconst 3, 1) := by decide +kernel
theorem dX3_item_3 : decode cX3_item 3 = .ok (.invokestatic 68, 3) := by decide +kernel
theorem dX3_item_6 : decode cX3_item 6 = .ok (.ifCond .eq 53, 3) := by decide +kernel
theorem dX3_item_9 : decode cX3_item 9 = .ok (.aload_n 0, 1) := by decide +kernel
theorem dX3_item_10 : decode cX3_item 10 = .ok (.getfield 13, 3) := by decide +kernel
theorem dX3_item_13 : decode cX3_item 13 = .ok (.iload_n 1, 1) := by decide +kernel
theorem dX3_item_14 : decode cX3_item 14 = .ok (.iaload, 1) := by decide +kernel
theorem dX3_item_15 : decode cX3_item 15 = .ok (.ifCond .lt 44, 3) := by decide +kernel
theorem dX3_item_18 : decode cX3_item 18 = .ok (.iload_n 2, 1) := by decide +kernel
theorem dX3_item_19 : decode cX3_item 19 = .ok (.iconst 0, 1) := by decide +kernel
theorem dX3_item_20 : decode cX3_item 20 = .ok (.aload_n 0, 1) := by decide +kernel
theorem dX3_item_21 : decode cX3_item 21 = .ok (.getfield 16, 3) := by decide +kernel
theorem dX3_item_24 : decode cX3_item 24 = .ok (.aload_n 0, 1) := by decide +kernel
theorem dX3_item_25 : decode cX3_item 25 = .ok (.getfield 13, 3) := by decide +kernel
theorem dX3_item_28 : decode cX3_item 28 = .ok (.iload_n 1, 1) := by decide +kernel
theorem dX3_item_29 : decode cX3_item 29 = .ok (.iaload, 1) := by decide +kernel
theorem dX3_item_30 : decode cX3_item 30 = .ok (.iaload, 1) := by decide +kernel
theorem dX3_item_31 : decode cX3_item 31 = .ok (.iconst 1, 1) := by decide +kernel
theorem dX3_item_32 : decode cX3_item 32 = .ok (.isub, 1) := by decide +kernel
theorem dX3_item_33 : decode cX3_item 33 = .ok (.invokestatic 68, 3) := by decide +kernel
theorem dX3_item_36 : decode cX3_item 36 = .ok (.ifCond .eq 23, 3) := by decide +kernel
theorem dX3_item_39 : decode cX3_item 39 = .ok (.aload_n 0, 1) := by decide +kernel
theorem dX3_item_40 : decode cX3_item 40 = .ok (.getfield 19, 3) := by decide +kernel
theorem dX3_item_43 : decode cX3_item 43 = .ok (.bipush 10, 2) := by decide +kernel
theorem dX3_item_45 : decode cX3_item 45 = .ok (.aload_n 0, 1) := by decide +kernel
theorem dX3_item_46 : decode cX3_item 46 = .ok (.getfield 13, 3) := by decide +kernel
theorem dX3_item_49 : decode cX3_item 49 = .ok (.iload_n 1, 1) := by decide +kernel
theorem dX3_item_50 : decode cX3_item 50 = .ok (.iaload, 1) := by decide +kernel
theorem dX3_item_51 : decode cX3_item 51 = .ok (.imul, 1) := by decide +kernel
theorem dX3_item_52 : decode cX3_item 52 = .ok (.iload_n 2, 1) := by decide +kernel
theorem dX3_item_53 : decode cX3_item 53 = .ok (.iadd, 1) := by decide +kernel
theorem dX3_item_54 : decode cX3_item 54 = .ok (.iaload, 1) := by decide +kernel
