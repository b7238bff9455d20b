set_option maxRecDepth 20000 in
theorem gX3_order_X3_in : GoodIn wsX3_order (va_wsS RX3 68 yX3_in wsX3_in) := goodIn_app (goodIn_of _ (by decide +kernel)) ggX3_order_X3_in
set_option maxRecDepth 20000 in
theorem ggX3_order_X3_asksEach : GoodIn wsX3_order wsX3_asksEach := goodIn_r _ [18, 2, 5, 3, 19, 20, 21, 22, 9, 23, 24, 25, 26, 27, 28, 29, 30, 31, 32, 33, 34, 35, 36, 37, 38, 39, 40, 41, 42, 43, 44, 45, 46, 47, 48, 49, 50, 51, 52, 53, 12, 13, 14, 54, 55, 56, 57, 58, 59, 60, 61, 62, 63, 64, 65, 66, 1, 67, 68, 69, 70, 71, 84, 85, 86, 87, 88, 89, 90, 91, 92, 93, 94, 95, 96, 97, 98, 99, 100, 101, 102, 103, 104, 105, 106, 107, 108, 109, 110, 111, 112, 113] (by decide +kernel) (by decide +kernel)
set_option maxRecDepth 20000 in
theorem gX3_order_X3_asksEach : GoodIn wsX3_order (wsV RX3 155 RX3 yX3_asksEach wsX3_asksEach) := goodIn_app (goodIn_of _ (by decide +kernel)) ggX3_order_X3_asksEach
set_option maxRecDepth 20000 in
theorem ggX3_order_X3_ends : GoodIn wsX3_order wsX3_ends := goodIn_r _ [75, 24, 76, 25, 44, 77, 78, 79, 9, 80, 81, 82, 83, 84, 85, 86, 87, 88, 89, 90, 91, 92, 93, 94, 95, 96, 97, 98, 99, 100, 101, 102, 103, 104, 105, 106, 107, 108, 109, 110, 111, 112, 113] (by decide +kernel) (by decide +kernel)
set_option maxRecDepth 20000 in
theorem gX3_order_X3_ends : GoodIn wsX3_order (wsV RX3 149 RX3 yX3_ends wsX3_ends) := goodIn_app (goodIn_of _ (by decide +kernel)) ggX3_order_X3_ends
theorem dX3_order_0 : decode cX3_order 0 = .ok (.aload_n 0, 1) := by decide +kernel
theorem dX3_order_1 : decode cX3_order 1 = .ok (.iload_n 1, 1) := by decide +kernel
theorem dX3_order_2 : decode cX3_order 2 = .ok (.invokevirtual 140, 3) := by decide +kernel
theorem dX3_order_5 : decode cX3_order 5 = .ok (.ifCond .eq 12, 3) := by decide +kernel
theorem dX3_order_8 : decode cX3_order 8 = .ok (.iload_n 2, 1) := by decide +kernel
theorem dX3_order_9 : decode cX3_order 9 = .ok (.iconst 0, 1) := by decide +kernel
theorem dX3_order_10 : decode cX3_order 10 = .ok (.iconst 3, 1) := by decide +kernel
theorem dX3_order_11 : decode cX3_order 11 = .ok (.invokestatic 68, 3) := by decide +kernel
theorem dX3_order_14 : decode cX3_order 14 = .ok (.ifCond .ne 5, 3) := by decide +kernel
theorem dX3_order_17 : decode cX3_order 17 = .ok (.iconst (-1), 1) := by decide +kernel
theorem dX3_order_18 : decode cX3_order 18 = .ok (.ireturn, 1) := by decide +kernel
theorem dX3_order_19 : decode cX3_order 19 = .ok (.aload_n 0, 1) := by decide +kernel
theorem dX3_order_20 : decode cX3_order 20 = .ok (.getfield 13, 3) := by decide +kernel
theorem dX3_order_23 : decode cX3_order 23 = .ok (.iload_n 2, 1) := by decide +kernel
theorem dX3_order_24 : decode cX3_order 24 = .ok (.iaload, 1) := by decide +kernel
theorem dX3_order_25 : decode cX3_order 25 = .ok (.ifCond .ge 6, 3) := by decide +kernel
theorem dX3_order_28 : decode cX3_order 28 = .ok (.bipush (-13), 2) := by decide +kernel
theorem dX3_order_30 : decode cX3_order 30 = .ok (.ireturn, 1) := by decide +kernel
theorem dX3_order_31 : decode cX3_order 31 = .ok (.aload_n 0, 1) := by decide +kernel
theorem dX3_order_32 : decode cX3_order 32 = .ok (.getfield 13, 3) := by decide +kernel
theorem dX3_order_35 : decode cX3_order 35 = .ok (.iload_n 2, 1) := by decide +kernel
theorem dX3_order_36 : decode cX3_order 36 = .ok (.iaload, 1) := by decide +kernel
theorem dX3_order_37 : decode cX3_order 37 = .ok (.istore_n 3, 1) := by decide +kernel
theorem dX3_order_38 : decode cX3_order 38 = .ok (.iconst 0, 1) := by decide +kernel
theorem dX3_order_39 : decode cX3_order 39 = .ok (.istore 4, 2) := by decide +kernel
theorem dX3_order_41 : decode cX3_order 41 = .ok (.aload_n 0, 1) := by decide +kernel
theorem dX3_order_42 : decode cX3_order 42 = .ok (.iload_n 1, 1) := by decide +kernel
theorem dX3_order_43 : decode cX3_order 43 = .ok (.iload_n 3, 1) := by decide +kernel
theorem dX3_order_44 : decode cX3_order 44 = .ok (.invokevirtual 155, 3) := by decide +kernel
theorem dX3_order_47 : decode cX3_order 47 = .ok (.ifCond .eq 172, 3) := by decide +kernel
theorem dX3_order_50 : decode cX3_order 50 = .ok (.iconst 0, 1) := by decide +kernel
theorem dX3_order_51 : decode cX3_order 51 = .ok (.istore 5, 2) := by decide +kernel
theorem dX3_order_53 : decode cX3_order 53 = .ok (.iload 5, 2) := by decide +kernel
theorem dX3_order_55 : decode cX3_order 55 = .ok (.aload_n 0, 1) := by decide +kernel
theorem dX3_order_56 : decode cX3_order 56 = .ok (.getfield 16, 3) := by decide +kernel
theorem dX3_order_59 : decode cX3_order 59 = .ok (.iload_n 3, 1) := by decide +kernel
theorem dX3_order_60 : decode cX3_order 60 = .ok (.iaload, 1) := by decide +kernel
theorem dX3_order_61 : decode cX3_order 61 = .ok (.if_icmp .ge 119, 3) := by decide +kernel
theorem dX3_order_64 : decode cX3_order 64 = .ok (.iconst 0, 1) := by decide +kernel
theorem dX3_order_65 : decode cX3_order 65 = .ok (.istore 6, 2) := by decide +kernel
theorem dX3_order_67 : decode cX3_order 67 = .ok (.iconst 0, 1) := by decide +kernel
theorem dX3_order_68 : decode cX3_order 68 = .ok (.istore 7, 2) := by decide +kernel
theorem dX3_order_70 : decode cX3_order 70 = .ok (.iload 7, 2) := by decide +kernel
theorem dX3_order_72 : decode cX3_order 72 = .ok (.aload_n 0, 1) := by decide +kernel
theorem dX3_order_73 : decode cX3_order 73 = .ok (.getfield 16, 3) := by decide +kernel
theorem dX3_order_76 : decode cX3_order 76 = .ok (.iload_n 3, 1) := by decide +kernel
theorem dX3_order_77 : decode cX3_order 77 = .ok (.iaload, 1) := by decide +kernel
theorem dX3_order_78 : decode cX3_order 78 = .ok (.if_icmp .ge 60, 3) := by decide +kernel
theorem dX3_order_81 : decode cX3_order 81 = .ok (.iload 6, 2) := by decide +kernel
theorem dX3_order_83 : decode cX3_order 83 = .ok (.aload_n 0, 1) := by decide +kernel
theorem dX3_order_84 : decode cX3_order 84 = .ok (.getfield 56, 3) := by decide +kernel
theorem dX3_order_87 : decode cX3_order 87 = .ok (.iload 7, 2) := by decide +kernel
theorem dX3_order_89 : decode cX3_order 89 = .ok (.iaload, 1) := by decide +kernel
theorem dX3_order_90 : decode cX3_order 90 = .ok (.aload_n 0, 1) := by decide +kernel
theorem dX3_order_91 : decode cX3_order 91 = .ok (.getfield 56, 3) := by decide +kernel
theorem dX3_order_94 : decode cX3_order 94 = .ok (.iload 5, 2) := by decide +kernel
theorem dX3_order_96 : decode cX3_order 96 = .ok (.iaload, 1) := by decide +kernel
theorem dX3_order_97 : decode cX3_order 97 = .ok (.if_icmp .lt 27, 3) := by decide +kernel
theorem dX3_order_100 : decode cX3_order 100 = .ok (.aload_n 0, 1) := by decide +kernel
theorem dX3_order_101 : decode cX3_order 101 = .ok (.getfield 56, 3) := by decide +kernel
theorem dX3_order_104 : decode cX3_order 104 = .ok (.iload 7, 2) := by decide +kernel
theorem dX3_order_106 : decode cX3_order 106 = .ok (.iaload, 1) := by decide +kernel
theorem dX3_order_107 : decode cX3_order 107 = .ok (.aload_n 0, 1) := by decide +kernel
theorem dX3_order_108 : decode cX3_order 108 = .ok (.getfield 56, 3) := by decide +kernel
theorem dX3_order_111 : decode cX3_order 111 = .ok (.iload 5, 2) := by decide +kernel
theorem dX3_order_113 : decode cX3_order 113 = .ok (.iaload, 1) := by decide +kernel
theorem dX3_order_114 : decode cX3_order 114 = .ok (.if_icmp .ne 14, 3) := by decide +kernel
theorem dX3_order_117 : decode cX3_order 117 = .ok (.iload 7, 2) := by decide +kernel
theorem dX3_order_119 : decode cX3_order 119 = .ok (.iload 5, 2) := by decide +kernel
theorem dX3_order_121 : decode cX3_order 121 = .ok (.if_icmp .ge 7, 3) := by decide +kernel
theorem dX3_order_124 : decode cX3_order 124 = .ok (.iconst 1, 1) := by decide +kernel
theorem dX3_order_125 : decode cX3_order 125 = .ok (.goto 4, 3) := by decide +kernel
theorem dX3_order_128 : decode cX3_order 128 = .ok (.iconst 0, 1) := by decide +kernel
theorem dX3_order_129 : decode cX3_order 129 = .ok (.iadd, 1) := by decide +kernel
theorem dX3_order_130 : decode cX3_order 130 = .ok (.istore 6, 2) := by decide +kernel
theorem dX3_order_132 : decode cX3_order 132 = .ok (.iinc 7 1, 3) := by decide +kernel
theorem dX3_order_135 : decode cX3_order 135 = .ok (.goto (-65), 3) := by decide +kernel
theorem dX3_order_138 : decode cX3_order 138 = .ok (.aload_n 0, 1) := by decide +kernel
theorem dX3_order_139 : decode cX3_order 139 = .ok (.getfield 62, 3) := by decide +kernel
theorem dX3_order_142 : decode cX3_order 142 = .ok (.iload 6, 2) := by decide +kernel
theorem dX3_order_144 : decode cX3_order 144 = .ok (.aload_n 0, 1) := by decide +kernel
theorem dX3_order_145 : decode cX3_order 145 = .ok (.getfield 19, 3) := by decide +kernel
theorem dX3_order_148 : decode cX3_order 148 = .ok (.bipush 10, 2) := by decide +kernel
theorem dX3_order_150 : decode cX3_order 150 = .ok (.iload_n 3, 1) := by decide +kernel
theorem dX3_order_151 : decode cX3_order 151 = .ok (.imul, 1) := by decide +kernel
theorem dX3_order_152 : decode cX3_order 152 = .ok (.iload 5, 2) := by decide +kernel
theorem dX3_order_154 : decode cX3_order 154 = .ok (.iadd, 1) := by decide +kernel
theorem dX3_order_155 : decode cX3_order 155 = .ok (.iaload, 1) := by decide +kernel
theorem dX3_order_156 : decode cX3_order 156 = .ok (.iastore, 1) := by decide +kernel
theorem dX3_order_157 : decode cX3_order 157 = .ok (.iload 4, 2) := by decide +kernel
theorem dX3_order_159 : decode cX3_order 159 = .ok (.iload 6, 2) := by decide +kernel
theorem dX3_order_161 : decode cX3_order 161 = .ok (.iload 5, 2) := by decide +kernel
theorem dX3_order_163 : decode cX3_order 163 = .ok (.if_icmp .ne 7, 3) := by decide +kernel
theorem dX3_order_166 : decode cX3_order 166 = .ok (.iconst 0, 1) := by decide +kernel
theorem dX3_order_167 : decode cX3_order 167 = .ok (.goto 4, 3) := by decide +kernel
theorem dX3_order_170 : decode cX3_order 170 = .ok (.iconst 1, 1) := by decide +kernel
theorem dX3_order_171 : decode cX3_order 171 = .ok (.iadd, 1) := by decide +kernel
theorem dX3_order_172 : decode cX3_order 172 = .ok (.istore 4, 2) := by decide +kernel
theorem dX3_order_174 : decode cX3_order 174 = .ok (.iinc 5 1, 3) := by decide +kernel
theorem dX3_order_177 : decode cX3_order 177 = .ok (.goto (-124), 3) := by decide +kernel
theorem dX3_order_180 : decode cX3_order 180 = .ok (.iconst 0, 1) := by decide +kernel
theorem dX3_order_181 : decode cX3_order 181 = .ok (.istore 5, 2) := by decide +kernel
theorem dX3_order_183 : decode cX3_order 183 = .ok (.iload 5, 2) := by decide +kernel
theorem dX3_order_185 : decode cX3_order 185 = .ok (.aload_n 0, 1) := by decide +kernel
theorem dX3_order_186 : decode cX3_order 186 = .ok (.getfield 16, 3) := by decide +kernel
theorem dX3_order_189 : decode cX3_order 189 = .ok (.iload_n 3, 1) := by decide +kernel
theorem dX3_order_190 : decode cX3_order 190 = .ok (.iaload, 1) := by decide +kernel
theorem dX3_order_191 : decode cX3_order 191 = .ok (.if_icmp .ge 28, 3) := by decide +kernel
theorem dX3_order_194 : decode cX3_order 194 = .ok (.aload_n 0, 1) := by decide +kernel
theorem dX3_order_195 : decode cX3_order 195 = .ok (.getfield 19, 3) := by decide +kernel
theorem dX3_order_198 : decode cX3_order 198 = .ok (.bipush 10, 2) := by decide +kernel
theorem dX3_order_200 : decode cX3_order 200 = .ok (.iload_n 3, 1) := by decide +kernel
theorem dX3_order_201 : decode cX3_order 201 = .ok (.imul, 1) := by decide +kernel
theorem dX3_order_202 : decode cX3_order 202 = .ok (.iload 5, 2) := by decide +kernel
theorem dX3_order_204 : decode cX3_order 204 = .ok (.iadd, 1) := by decide +kernel
theorem dX3_order_205 : decode cX3_order 205 = .ok (.aload_n 0, 1) := by decide +kernel
theorem dX3_order_206 : decode cX3_order 206 = .ok (.getfield 62, 3) := by decide +kernel
theorem dX3_order_209 : decode cX3_order 209 = .ok (.iload 5, 2) := by decide +kernel
theorem dX3_order_211 : decode cX3_order 211 = .ok (.iaload, 1) := by decide +kernel
theorem dX3_order_212 : decode cX3_order 212 = .ok (.iastore, 1) := by decide +kernel
theorem dX3_order_213 : decode cX3_order 213 = .ok (.iinc 5 1, 3) := by decide +kernel
theorem dX3_order_216 : decode cX3_order 216 = .ok (.goto (-33), 3) := by decide +kernel
theorem dX3_order_219 : decode cX3_order 219 = .ok (.aload_n 0, 1) := by decide +kernel
theorem dX3_order_220 : decode cX3_order 220 = .ok (.iload 4, 2) := by decide +kernel
theorem dX3_order_222 : decode cX3_order 222 = .ok (.invokevirtual 149, 3) := by decide +kernel
theorem dX3_order_225 : decode cX3_order 225 = .ok (.ireturn, 1) := by decide +kernel
set_option maxRecDepth 20000 in
theorem ggX3_fold_X3_in : GoodIn wsX3_fold wsX3_in := goodIn_r _ [8] (by decide +kernel) (by decide +kernel)
set_option maxRecDepth 20000 in
theorem gX3_fold_X3_in : GoodIn wsX3_fold (va_wsS RX3 68 yX3_in wsX3_in) := goodIn_app (goodIn_of _ (by decide +kernel)) ggX3_fold_X3_in
set_option maxRecDepth 20000 in
theorem ggX3_fold_X3_failed : GoodIn wsX3_fold wsX3_failed := goodIn_r _ [12, 13, 14, 15, 16, 17, 18, 19, 20, 21, 22, 23, 24, 25, 26, 27, 28, 29, 30, 31, 32, 33, 34, 35, 36, 37, 38, 39, 40, 41, 42, 43, 44, 45] (by decide +kernel) (by decide +kernel)
set_option maxRecDepth 20000 in
theorem gX3_fold_X3_failed : GoodIn wsX3_fold (wsV RX3 131 RX3 yX3_failed wsX3_failed) := goodIn_app (goodIn_of _ (by decide +kernel)) ggX3_fold_X3_failed
theorem dX3_fold_0 : decode cX3_fold 0 = .ok (.iload_n 1, 1) := by decide +kernel
theorem dX3_fold_1 : decode cX3_fold 1 = .ok (.iconst 0, 1) := by decide +kernel
theorem dX3_fold_2 : decode cX3_fold 2 = .ok (.iconst 4, 1) := by decide +kernel
theorem dX3_fold_3 : decode cX3_fold 3 = .ok (.invokestatic 68, 3) := by decide +kernel
theorem dX3_fold_6 : decode cX3_fold 6 = .ok (.ifCond .eq 12, 3) := by decide +kernel
theorem dX3_fold_9 : decode cX3_fold 9 = .ok (.iload_n 2, 1) := by decide +kernel
theorem dX3_fold_10 : decode cX3_fold 10 = .ok (.iconst 0, 1) := by decide +kernel
theorem dX3_fold_11 : decode cX3_fold 11 = .ok (.iconst 3, 1) := by decide +kernel
theorem dX3_fold_12 : decode cX3_fold 12 = .ok (.invokestatic 68, 3) := by decide +kernel
theorem dX3_fold_15 : decode cX3_fold 15 = .ok (.ifCond .ne 5, 3) := by decide +kernel
theorem dX3_fold_18 : decode cX3_fold 18 = .ok (.iconst (-1), 1) := by decide +kernel
theorem dX3_fold_19 : decode cX3_fold 19 = .ok (.ireturn, 1) := by decide +kernel
theorem dX3_fold_20 : decode cX3_fold 20 = .ok (.aload_n 0, 1) := by decide +kernel
theorem dX3_fold_21 : decode cX3_fold 21 = .ok (.getfield 13, 3) := by decide +kernel
theorem dX3_fold_24 : decode cX3_fold 24 = .ok (.iload_n 2, 1) := by decide +kernel
theorem dX3_fold_25 : decode cX3_fold 25 = .ok (.iaload, 1) := by decide +kernel
theorem dX3_fold_26 : decode cX3_fold 26 = .ok (.ifCond .ge 6, 3) := by decide +kernel
theorem dX3_fold_29 : decode cX3_fold 29 = .ok (.bipush (-13), 2) := by decide +kernel
theorem dX3_fold_31 : decode cX3_fold 31 = .ok (.ireturn, 1) := by decide +kernel
theorem dX3_fold_32 : decode cX3_fold 32 = .ok (.aload_n 0, 1) := by decide +kernel
theorem dX3_fold_33 : decode cX3_fold 33 = .ok (.getfield 13, 3) := by decide +kernel
theorem dX3_fold_36 : decode cX3_fold 36 = .ok (.iload_n 2, 1) := by decide +kernel
theorem dX3_fold_37 : decode cX3_fold 37 = .ok (.iaload, 1) := by decide +kernel
theorem dX3_fold_38 : decode cX3_fold 38 = .ok (.istore 4, 2) := by decide +kernel
theorem dX3_fold_40 : decode cX3_fold 40 = .ok (.iload_n 3, 1) := by decide +kernel
theorem dX3_fold_41 : decode cX3_fold 41 = .ok (.istore 5, 2) := by decide +kernel
theorem dX3_fold_43 : decode cX3_fold 43 = .ok (.iconst 0, 1) := by decide +kernel
theorem dX3_fold_44 : decode cX3_fold 44 = .ok (.istore 6, 2) := by decide +kernel
theorem dX3_fold_46 : decode cX3_fold 46 = .ok (.iload 6, 2) := by decide +kernel
theorem dX3_fold_48 : decode cX3_fold 48 = .ok (.aload_n 0, 1) := by decide +kernel
theorem dX3_fold_49 : decode cX3_fold 49 = .ok (.getfield 16, 3) := by decide +kernel
theorem dX3_fold_52 : decode cX3_fold 52 = .ok (.iload 4, 2) := by decide +kernel
theorem dX3_fold_54 : decode cX3_fold 54 = .ok (.iaload, 1) := by decide +kernel
theorem dX3_fold_55 : decode cX3_fold 55 = .ok (.if_icmp .ge 112, 3) := by decide +kernel
theorem dX3_fold_58 : decode cX3_fold 58 = .ok (.aload_n 0, 1) := by decide +kernel
theorem dX3_fold_59 : decode cX3_fold 59 = .ok (.getfield 19, 3) := by decide +kernel
theorem dX3_fold_62 : decode cX3_fold 62 = .ok (.bipush 10, 2) := by decide +kernel
theorem dX3_fold_64 : decode cX3_fold 64 = .ok (.iload 4, 2) := by decide +kernel
theorem dX3_fold_66 : decode cX3_fold 66 = .ok (.imul, 1) := by decide +kernel
theorem dX3_fold_67 : decode cX3_fold 67 = .ok (.iload 6, 2) := by decide +kernel
theorem dX3_fold_69 : decode cX3_fold 69 = .ok (.iadd, 1) := by decide +kernel
theorem dX3_fold_70 : decode cX3_fold 70 = .ok (.iaload, 1) := by decide +kernel
theorem dX3_fold_71 : decode cX3_fold 71 = .ok (.istore 7, 2) := by decide +kernel
theorem dX3_fold_73 : decode cX3_fold 73 = .ok (.iload_n 1, 1) := by decide +kernel
theorem dX3_fold_74 : decode cX3_fold 74 = .ok (.iconst 4, 1) := by decide +kernel
theorem dX3_fold_75 : decode cX3_fold 75 = .ok (.if_icmp .ne 16, 3) := by decide +kernel
theorem dX3_fold_78 : decode cX3_fold 78 = .ok (.iload 7, 2) := by decide +kernel
theorem dX3_fold_80 : decode cX3_fold 80 = .ok (.ifCond .ne 11, 3) := by decide +kernel
theorem dX3_fold_83 : decode cX3_fold 83 = .ok (.aload_n 0, 1) := by decide +kernel
theorem dX3_fold_84 : decode cX3_fold 84 = .ok (.iconst 1, 1) := by decide +kernel
theorem dX3_fold_85 : decode cX3_fold 85 = .ok (.iconst (-1), 1) := by decide +kernel
theorem dX3_fold_86 : decode cX3_fold 86 = .ok (.iconst 0, 1) := by decide +kernel
theorem dX3_fold_87 : decode cX3_fold 87 = .ok (.invokevirtual 131, 3) := by decide +kernel
theorem dX3_fold_90 : decode cX3_fold 90 = .ok (.ireturn, 1) := by decide +kernel
theorem dX3_fold_91 : decode cX3_fold 91 = .ok (.iload_n 1, 1) := by decide +kernel
theorem dX3_fold_92 : decode cX3_fold 92 = .ok (.ifCond .ne 11, 3) := by decide +kernel
theorem dX3_fold_95 : decode cX3_fold 95 = .ok (.iload 5, 2) := by decide +kernel
theorem dX3_fold_97 : decode cX3_fold 97 = .ok (.iload 7, 2) := by decide +kernel
theorem dX3_fold_99 : decode cX3_fold 99 = .ok (.iadd, 1) := by decide +kernel
theorem dX3_fold_100 : decode cX3_fold 100 = .ok (.goto 59, 3) := by decide +kernel
theorem dX3_fold_103 : decode cX3_fold 103 = .ok (.iload_n 1, 1) := by decide +kernel
theorem dX3_fold_104 : decode cX3_fold 104 = .ok (.iconst 1, 1) := by decide +kernel
theorem dX3_fold_105 : decode cX3_fold 105 = .ok (.if_icmp .ne 20, 3) := by decide +kernel
theorem dX3_fold_108 : decode cX3_fold 108 = .ok (.iload 5, 2) := by decide +kernel
theorem dX3_fold_110 : decode cX3_fold 110 = .ok (.iload 7, 2) := by decide +kernel
theorem dX3_fold_112 : decode cX3_fold 112 = .ok (.if_icmp .le 8, 3) := by decide +kernel
theorem dX3_fold_115 : decode cX3_fold 115 = .ok (.iload 5, 2) := by decide +kernel
theorem dX3_fold_117 : decode cX3_fold 117 = .ok (.goto 42, 3) := by decide +kernel
theorem dX3_fold_120 : decode cX3_fold 120 = .ok (.iload 7, 2) := by decide +kernel
theorem dX3_fold_122 : decode cX3_fold 122 = .ok (.goto 37, 3) := by decide +kernel
theorem dX3_fold_125 : decode cX3_fold 125 = .ok (.iload_n 1, 1) := by decide +kernel
theorem dX3_fold_126 : decode cX3_fold 126 = .ok (.iconst 2, 1) := by decide +kernel
theorem dX3_fold_127 : decode cX3_fold 127 = .ok (.if_icmp .ne 14, 3) := by decide +kernel
theorem dX3_fold_130 : decode cX3_fold 130 = .ok (.bipush 31, 2) := by decide +kernel
theorem dX3_fold_132 : decode cX3_fold 132 = .ok (.iload 5, 2) := by decide +kernel
theorem dX3_fold_134 : decode cX3_fold 134 = .ok (.imul, 1) := by decide +kernel
theorem dX3_fold_135 : decode cX3_fold 135 = .ok (.iload 7, 2) := by decide +kernel
theorem dX3_fold_137 : decode cX3_fold 137 = .ok (.iadd, 1) := by decide +kernel
theorem dX3_fold_138 : decode cX3_fold 138 = .ok (.goto 21, 3) := by decide +kernel
theorem dX3_fold_141 : decode cX3_fold 141 = .ok (.iload_n 1, 1) := by decide +kernel
theorem dX3_fold_142 : decode cX3_fold 142 = .ok (.iconst 3, 1) := by decide +kernel
theorem dX3_fold_143 : decode cX3_fold 143 = .ok (.if_icmp .ne 11, 3) := by decide +kernel
theorem dX3_fold_146 : decode cX3_fold 146 = .ok (.iload 7, 2) := by decide +kernel
theorem dX3_fold_148 : decode cX3_fold 148 = .ok (.iload 5, 2) := by decide +kernel
theorem dX3_fold_150 : decode cX3_fold 150 = .ok (.isub, 1) := by decide +kernel
theorem dX3_fold_151 : decode cX3_fold 151 = .ok (.goto 8, 3) := by decide +kernel
theorem dX3_fold_154 : decode cX3_fold 154 = .ok (.iload 5, 2) := by decide +kernel
theorem dX3_fold_156 : decode cX3_fold 156 = .ok (.iload 7, 2) := by decide +kernel
theorem dX3_fold_158 : decode cX3_fold 158 = .ok (.idiv, 1) := by decide +kernel
theorem dX3_fold_159 : decode cX3_fold 159 = .ok (.istore 5, 2) := by decide +kernel
theorem dX3_fold_161 : decode cX3_fold 161 = .ok (.iinc 6 1, 3) := by decide +kernel
theorem dX3_fold_164 : decode cX3_fold 164 = .ok (.goto (-118), 3) := by decide +kernel
theorem dX3_fold_167 : decode cX3_fold 167 = .ok (.aload_n 0, 1) := by decide +kernel
theorem dX3_fold_168 : decode cX3_fold 168 = .ok (.iload 5, 2) := by decide +kernel
theorem dX3_fold_170 : decode cX3_fold 170 = .ok (.putfield 152, 3) := by decide +kernel
theorem dX3_fold_173 : decode cX3_fold 173 = .ok (.iconst 1, 1) := by decide +kernel
theorem dX3_fold_174 : decode cX3_fold 174 = .ok (.ireturn, 1) := by decide +kernel
set_option maxRecDepth 20000 in
theorem ggX3_until_X3_isRule : GoodIn wsX3_until wsX3_isRule := goodIn_r _ [8, 9, 10, 11, 7, 12, 79, 80, 81, 82, 83, 84, 85, 86, 87, 88, 89, 90, 91, 92, 93, 94, 95, 96, 97, 98, 99, 100, 101, 102, 103, 104, 105, 106, 107, 108] (by decide +kernel) (by decide +kernel)
set_option maxRecDepth 20000 in
theorem gX3_until_X3_isRule : GoodIn wsX3_until (wsV RX3 140 RX3 yX3_isRule wsX3_isRule) := goodIn_app (goodIn_of _ (by decide +kernel)) ggX3_until_X3_isRule
set_option maxRecDepth 20000 in
theorem ggX3_until_X3_in : GoodIn wsX3_until wsX3_in := goodIn_r _ [12] (by decide +kernel) (by decide +kernel)
set_option maxRecDepth 20000 in
theorem gX3_until_X3_in : GoodIn wsX3_until (va_wsS RX3 68 yX3_in wsX3_in) := goodIn_app (goodIn_of _ (by decide +kernel)) ggX3_until_X3_in
set_option maxRecDepth 20000 in
theorem ggX3_until_X3_startsCall : GoodIn wsX3_until wsX3_startsCall := goodIn_r _ [16, 17, 2, 79, 80, 81, 82, 83, 84, 85, 86, 87, 88, 89, 90, 91, 92, 93, 94, 95, 96, 97, 98, 99, 100, 101, 102, 103, 104, 105, 106, 107, 108] (by decide +kernel) (by decide +kernel)
set_option maxRecDepth 20000 in
theorem gX3_until_X3_startsCall : GoodIn wsX3_until (wsV RX3 143 RX3 yX3_startsCall wsX3_startsCall) := goodIn_app (goodIn_of _ (by decide +kernel)) ggX3_until_X3_startsCall
set_option maxRecDepth 20000 in
theorem ggX3_until_X3_gives : GoodIn wsX3_until wsX3_gives := goodIn_r _ [21, 22, 2, 23, 24, 1, 25, 26, 27, 28, 7, 29, 17, 30, 31, 32, 33, 34, 35, 36, 37, 38, 39, 40, 41, 42, 43, 44, 45, 10, 11, 12, 46, 47, 48, 49, 50, 51, 52, 53, 54, 55, 56, 57, 58, 59, 60, 61, 62, 63, 64, 65, 66, 79, 80, 81, 82, 83, 84, 85, 86, 87, 88, 89, 90, 91, 92, 93, 94, 95, 96, 97, 98, 99, 100, 101, 102, 103, 104, 105, 106, 107, 108] (by decide +kernel) (by decide +kernel)
set_option maxRecDepth 20000 in
theorem gX3_until_X3_gives : GoodIn wsX3_until (wsV RX3 146 RX3 yX3_gives wsX3_gives) := goodIn_app (goodIn_of _ (by decide +kernel)) ggX3_until_X3_gives
set_option maxRecDepth 20000 in
theorem ggX3_until_X3_ends : GoodIn wsX3_until wsX3_ends := goodIn_r _ [70, 17, 71, 2, 36, 72, 73, 74, 7, 75, 76, 77, 78, 79, 80, 81, 82, 83, 84, 85, 86, 87, 88, 89, 90, 91, 92, 93, 94, 95, 96, 97, 98, 99, 100, 101, 102, 103, 104, 105, 106, 107, 108] (by decide +kernel) (by decide +kernel)
set_option maxRecDepth 20000 in
theorem gX3_until_X3_ends : GoodIn wsX3_until (wsV RX3 149 RX3 yX3_ends wsX3_ends) := goodIn_app (goodIn_of _ (by decide +kernel)) ggX3_until_X3_ends
theorem dX3_until_0 : decode cX3_until 0 = .ok (.aload_n 0, 1) := by decide +kernel
theorem dX3_until_1 : decode cX3_until 1 = .ok (.iload_n 1, 1) := by decide +kernel
theorem dX3_until_2 : decode cX3_until 2 = .ok (.invokevirtual 140, 3) := by decide +kernel
theorem dX3_until_5 : decode cX3_until 5 = .ok (.ifCond .eq 22, 3) := by decide +kernel
theorem dX3_until_8 : decode cX3_until 8 = .ok (.aload_n 0, 1) := by decide +kernel
theorem dX3_until_9 : decode cX3_until 9 = .ok (.iload_n 2, 1) := by decide +kernel
theorem dX3_until_10 : decode cX3_until 10 = .ok (.invokevirtual 140, 3) := by decide +kernel
theorem dX3_until_13 : decode cX3_until 13 = .ok (.ifCond .eq 14, 3) := by decide +kernel
theorem dX3_until_16 : decode cX3_until 16 = .ok (.iload 4, 2) := by decide +kernel
theorem dX3_until_18 : decode cX3_until 18 = .ok (.iconst 1, 1) := by decide +kernel
theorem dX3_until_19 : decode cX3_until 19 = .ok (.bipush 30, 2) := by decide +kernel
theorem dX3_until_21 : decode cX3_until 21 = .ok (.invokestatic 68, 3) := by decide +kernel
theorem dX3_until_24 : decode cX3_until 24 = .ok (.ifCond .ne 5, 3) := by decide +kernel
theorem dX3_until_27 : decode cX3_until 27 = .ok (.iconst (-1), 1) := by decide +kernel
theorem dX3_until_28 : decode cX3_until 28 = .ok (.ireturn, 1) := by decide +kernel
theorem dX3_until_29 : decode cX3_until 29 = .ok (.aload_n 0, 1) := by decide +kernel
theorem dX3_until_30 : decode cX3_until 30 = .ok (.invokevirtual 143, 3) := by decide +kernel
theorem dX3_until_33 : decode cX3_until 33 = .ok (.iload_n 3, 1) := by decide +kernel
theorem dX3_until_34 : decode cX3_until 34 = .ok (.istore 5, 2) := by decide +kernel
theorem dX3_until_36 : decode cX3_until 36 = .ok (.iconst 0, 1) := by decide +kernel
theorem dX3_until_37 : decode cX3_until 37 = .ok (.istore 6, 2) := by decide +kernel
theorem dX3_until_39 : decode cX3_until 39 = .ok (.iconst 1, 1) := by decide +kernel
theorem dX3_until_40 : decode cX3_until 40 = .ok (.istore 7, 2) := by decide +kernel
theorem dX3_until_42 : decode cX3_until 42 = .ok (.iload 7, 2) := by decide +kernel
theorem dX3_until_44 : decode cX3_until 44 = .ok (.ifCond .eq 60, 3) := by decide +kernel
theorem dX3_until_47 : decode cX3_until 47 = .ok (.iload 6, 2) := by decide +kernel
theorem dX3_until_49 : decode cX3_until 49 = .ok (.iload 4, 2) := by decide +kernel
theorem dX3_until_51 : decode cX3_until 51 = .ok (.if_icmp .ge 53, 3) := by decide +kernel
theorem dX3_until_54 : decode cX3_until 54 = .ok (.aload_n 0, 1) := by decide +kernel
theorem dX3_until_55 : decode cX3_until 55 = .ok (.iload_n 1, 1) := by decide +kernel
theorem dX3_until_56 : decode cX3_until 56 = .ok (.iload 5, 2) := by decide +kernel
theorem dX3_until_58 : decode cX3_until 58 = .ok (.invokevirtual 146, 3) := by decide +kernel
theorem dX3_until_61 : decode cX3_until 61 = .ok (.istore 7, 2) := by decide +kernel
theorem dX3_until_63 : decode cX3_until 63 = .ok (.iload 7, 2) := by decide +kernel
theorem dX3_until_65 : decode cX3_until 65 = .ok (.ifCond .eq (-23), 3) := by decide +kernel
theorem dX3_until_68 : decode cX3_until 68 = .ok (.aload_n 0, 1) := by decide +kernel
theorem dX3_until_69 : decode cX3_until 69 = .ok (.getfield 109, 3) := by decide +kernel
theorem dX3_until_72 : decode cX3_until 72 = .ok (.istore 5, 2) := by decide +kernel
theorem dX3_until_74 : decode cX3_until 74 = .ok (.iinc 6 1, 3) := by decide +kernel
theorem dX3_until_77 : decode cX3_until 77 = .ok (.aload_n 0, 1) := by decide +kernel
theorem dX3_until_78 : decode cX3_until 78 = .ok (.iload_n 2, 1) := by decide +kernel
theorem dX3_until_79 : decode cX3_until 79 = .ok (.iload 5, 2) := by decide +kernel
theorem dX3_until_81 : decode cX3_until 81 = .ok (.invokevirtual 146, 3) := by decide +kernel
theorem dX3_until_84 : decode cX3_until 84 = .ok (.ifCond .eq 14, 3) := by decide +kernel
theorem dX3_until_87 : decode cX3_until 87 = .ok (.aload_n 0, 1) := by decide +kernel
theorem dX3_until_88 : decode cX3_until 88 = .ok (.getfield 109, 3) := by decide +kernel
theorem dX3_until_91 : decode cX3_until 91 = .ok (.ifCond .eq 7, 3) := by decide +kernel
theorem dX3_until_94 : decode cX3_until 94 = .ok (.iconst 1, 1) := by decide +kernel
theorem dX3_until_95 : decode cX3_until 95 = .ok (.goto 4, 3) := by decide +kernel
theorem dX3_until_98 : decode cX3_until 98 = .ok (.iconst 0, 1) := by decide +kernel
theorem dX3_until_99 : decode cX3_until 99 = .ok (.istore 7, 2) := by decide +kernel
theorem dX3_until_101 : decode cX3_until 101 = .ok (.goto (-59), 3) := by decide +kernel
theorem dX3_until_104 : decode cX3_until 104 = .ok (.aload_n 0, 1) := by decide +kernel
theorem dX3_until_105 : decode cX3_until 105 = .ok (.getfield 95, 3) := by decide +kernel
theorem dX3_until_108 : decode cX3_until 108 = .ok (.ifCond .ne 9, 3) := by decide +kernel
theorem dX3_until_111 : decode cX3_until 111 = .ok (.aload_n 0, 1) := by decide +kernel
theorem dX3_until_112 : decode cX3_until 112 = .ok (.iload 5, 2) := by decide +kernel
theorem dX3_until_114 : decode cX3_until 114 = .ok (.putfield 152, 3) := by decide +kernel
theorem dX3_until_117 : decode cX3_until 117 = .ok (.aload_n 0, 1) := by decide +kernel
theorem dX3_until_118 : decode cX3_until 118 = .ok (.iload 6, 2) := by decide +kernel
theorem dX3_until_120 : decode cX3_until 120 = .ok (.invokevirtual 149, 3) := by decide +kernel
theorem dX3_until_123 : decode cX3_until 123 = .ok (.ireturn, 1) := by decide +kernel
theorem dX3_result_0 : decode cX3_result 0 = .ok (.aload_n 0, 1) := by decide +kernel
theorem dX3_result_1 : decode cX3_result 1 = .ok (.getfield 152, 3) := by decide +kernel
theorem dX3_result_4 : decode cX3_result 4 = .ok (.ireturn, 1) := by decide +kernel
theorem dX3_steps_0 : decode cX3_steps 0 = .ok (.aload_n 0, 1) := by decide +kernel
theorem dX3_steps_1 : decode cX3_steps 1 = .ok (.getfield 128, 3) := by decide +kernel
theorem dX3_steps_4 : decode cX3_steps 4 = .ok (.ireturn, 1) := by decide +kernel
theorem dX3_failed__0 : decode cX3_failed_ 0 = .ok (.iload_n 1, 1) := by decide +kernel
theorem dX3_failed__1 : decode cX3_failed_ 1 = .ok (.ifCond .ne 10, 3) := by decide +kernel
theorem dX3_failed__4 : decode cX3_failed_ 4 = .ok (.aload_n 0, 1) := by decide +kernel
theorem dX3_failed__5 : decode cX3_failed_ 5 = .ok (.getfield 134, 3) := by decide +kernel
theorem dX3_failed__8 : decode cX3_failed_ 8 = .ok (.goto 16, 3) := by decide +kernel
theorem dX3_failed__11 : decode cX3_failed_ 11 = .ok (.iload_n 1, 1) := by decide +kernel
theorem dX3_failed__12 : decode cX3_failed_ 12 = .ok (.iconst 1, 1) := by decide +kernel
theorem dX3_failed__13 : decode cX3_failed_ 13 = .ok (.if_icmp .ne 10, 3) := by decide +kernel
theorem dX3_failed__16 : decode cX3_failed_ 16 = .ok (.aload_n 0, 1) := by decide +kernel
theorem dX3_failed__17 : decode cX3_failed_ 17 = .ok (.getfield 52, 3) := by decide +kernel
theorem dX3_failed__20 : decode cX3_failed_ 20 = .ok (.goto 4, 3) := by decide +kernel
theorem dX3_failed__23 : decode cX3_failed_ 23 = .ok (.iconst (-1), 1) := by decide +kernel
theorem dX3_failed__24 : decode cX3_failed_ 24 = .ok (.ireturn, 1) := by decide +kernel
theorem dX3_count_0 : decode cX3_count 0 = .ok (.iconst 0, 1) := by decide +kernel
theorem dX3_count_1 : decode cX3_count 1 = .ok (.istore_n 2, 1) := by decide +kernel
theorem dX3_count_2 : decode cX3_count 2 = .ok (.iconst 0, 1) := by decide +kernel
theorem dX3_count_3 : decode cX3_count 3 = .ok (.istore_n 3, 1) := by decide +kernel
theorem dX3_count_4 : decode cX3_count 4 = .ok (.iload_n 3, 1) := by decide +kernel
theorem dX3_count_5 : decode cX3_count 5 = .ok (.iconst 4, 1) := by decide +kernel
theorem dX3_count_6 : decode cX3_count 6 = .ok (.if_icmp .ge 26, 3) := by decide +kernel
theorem dX3_count_9 : decode cX3_count 9 = .ok (.iload_n 2, 1) := by decide +kernel
theorem dX3_count_10 : decode cX3_count 10 = .ok (.aload_n 0, 1) := by decide +kernel
theorem dX3_count_11 : decode cX3_count 11 = .ok (.getfield 13, 3) := by decide +kernel
theorem dX3_count_14 : decode cX3_count 14 = .ok (.iload_n 3, 1) := by decide +kernel
theorem dX3_count_15 : decode cX3_count 15 = .ok (.iaload, 1) := by decide +kernel
theorem dX3_count_16 : decode cX3_count 16 = .ok (.ifCond .ge 7, 3) := by decide +kernel
theorem dX3_count_19 : decode cX3_count 19 = .ok (.iconst 1, 1) := by decide +kernel
theorem dX3_count_20 : decode cX3_count 20 = .ok (.goto 4, 3) := by decide +kernel
theorem dX3_count_23 : decode cX3_count 23 = .ok (.iconst 0, 1) := by decide +kernel
theorem dX3_count_24 : decode cX3_count 24 = .ok (.iadd, 1) := by decide +kernel
theorem dX3_count_25 : decode cX3_count 25 = .ok (.istore_n 2, 1) := by decide +kernel
theorem dX3_count_26 : decode cX3_count 26 = .ok (.iinc 3 1, 3) := by decide +kernel
theorem dX3_count_29 : decode cX3_count 29 = .ok (.goto (-25), 3) := by decide +kernel
theorem dX3_count_32 : decode cX3_count 32 = .ok (.iload_n 1, 1) := by decide +kernel
theorem dX3_count_33 : decode cX3_count 33 = .ok (.tableswitch 57 0 4 #[35, 40, 45, 50, 55], 35) := by decide +kernel
theorem dX3_count_68 : decode cX3_count 68 = .ok (.aload_n 0, 1) := by decide +kernel
theorem dX3_count_69 : decode cX3_count 69 = .ok (.getfield 65, 3) := by decide +kernel
theorem dX3_count_72 : decode cX3_count 72 = .ok (.ireturn, 1) := by decide +kernel
theorem dX3_count_73 : decode cX3_count 73 = .ok (.aload_n 0, 1) := by decide +kernel
theorem dX3_count_74 : decode cX3_count 74 = .ok (.getfield 89, 3) := by decide +kernel
theorem dX3_count_77 : decode cX3_count 77 = .ok (.ireturn, 1) := by decide +kernel
theorem dX3_count_78 : decode cX3_count 78 = .ok (.aload_n 0, 1) := by decide +kernel
theorem dX3_count_79 : decode cX3_count 79 = .ok (.getfield 137, 3) := by decide +kernel
theorem dX3_count_82 : decode cX3_count 82 = .ok (.ireturn, 1) := by decide +kernel
theorem dX3_count_83 : decode cX3_count 83 = .ok (.aload_n 0, 1) := by decide +kernel
theorem dX3_count_84 : decode cX3_count 84 = .ok (.getfield 112, 3) := by decide +kernel
theorem dX3_count_87 : decode cX3_count 87 = .ok (.ireturn, 1) := by decide +kernel
theorem dX3_count_88 : decode cX3_count 88 = .ok (.iload_n 2, 1) := by decide +kernel
theorem dX3_count_89 : decode cX3_count 89 = .ok (.ireturn, 1) := by decide +kernel
theorem dX3_count_90 : decode cX3_count 90 = .ok (.iconst (-1), 1) := by decide +kernel
theorem dX3_count_91 : decode cX3_count 91 = .ok (.ireturn, 1) := by decide +kernel
theorem dJ9_max_7cf53_0 : decode cJ9_max_7cf53 0 = .ok (.iload_n 0, 1) := by decide +kernel
theorem dJ9_max_7cf53_1 : decode cJ9_max_7cf53 1 = .ok (.iload_n 1, 1) := by decide +kernel
theorem dJ9_max_7cf53_2 : decode cJ9_max_7cf53 2 = .ok (.if_icmp .lt 7, 3) := by decide +kernel
theorem dJ9_max_7cf53_5 : decode cJ9_max_7cf53 5 = .ok (.iload_n 0, 1) := by decide +kernel
theorem dJ9_max_7cf53_6 : decode cJ9_max_7cf53 6 = .ok (.goto 4, 3) := by decide +kernel
theorem dJ9_max_7cf53_9 : decode cJ9_max_7cf53 9 = .ok (.iload_n 1, 1) := by decide +kernel
theorem dJ9_max_7cf53_10 : decode cJ9_max_7cf53 10 = .ok (.ireturn, 1) := by decide +kernel
theorem dJ9_min_7cf53_0 : decode cJ9_min_7cf53 0 = .ok (.iload_n 0, 1) := by decide +kernel
theorem dJ9_min_7cf53_1 : decode cJ9_min_7cf53 1 = .ok (.iload_n 1, 1) := by decide +kernel
theorem dJ9_min_7cf53_2 : decode cJ9_min_7cf53 2 = .ok (.if_icmp .gt 7, 3) := by decide +kernel
theorem dJ9_min_7cf53_5 : decode cJ9_min_7cf53 5 = .ok (.iload_n 0, 1) := by decide +kernel
theorem dJ9_min_7cf53_6 : decode cJ9_min_7cf53 6 = .ok (.goto 4, 3) := by decide +kernel
theorem dJ9_min_7cf53_9 : decode cJ9_min_7cf53 9 = .ok (.iload_n 1, 1) := by decide +kernel
theorem dJ9_min_7cf53_10 : decode cJ9_min_7cf53 10 = .ok (.ireturn, 1) := by decide +kernel
theorem dJ7_copyOf_59c91_0 : decode cJ7_copyOf_59c91 0 = .ok (.iload_n 1, 1) := by decide +kernel
theorem dJ7_copyOf_59c91_1 : decode cJ7_copyOf_59c91 1 = .ok (.aload_n 0, 1) := by decide +kernel
theorem dJ7_copyOf_59c91_2 : decode cJ7_copyOf_59c91 2 = .ok (.arraylength, 1) := by decide +kernel
theorem dJ7_copyOf_59c91_3 : decode cJ7_copyOf_59c91 3 = .ok (.if_icmp .ne 11, 3) := by decide +kernel
theorem dJ7_copyOf_59c91_6 : decode cJ7_copyOf_59c91 6 = .ok (.aload_n 0, 1) := by decide +kernel
theorem dJ7_copyOf_59c91_7 : decode cJ7_copyOf_59c91 7 = .ok (.invokevirtual 316, 3) := by decide +kernel
theorem dJ7_copyOf_59c91_10 : decode cJ7_copyOf_59c91 10 = .ok (.checkcast 317, 3) := by decide +kernel
theorem dJ7_copyOf_59c91_13 : decode cJ7_copyOf_59c91 13 = .ok (.areturn, 1) := by decide +kernel
theorem dJ7_copyOf_59c91_14 : decode cJ7_copyOf_59c91 14 = .ok (.iload_n 1, 1) := by decide +kernel
theorem dJ7_copyOf_59c91_15 : decode cJ7_copyOf_59c91 15 = .ok (.newarray .int, 2) := by decide +kernel
theorem dJ7_copyOf_59c91_17 : decode cJ7_copyOf_59c91 17 = .ok (.astore_n 2, 1) := by decide +kernel
theorem dJ7_copyOf_59c91_18 : decode cJ7_copyOf_59c91 18 = .ok (.aload_n 0, 1) := by decide +kernel
theorem dJ7_copyOf_59c91_19 : decode cJ7_copyOf_59c91 19 = .ok (.iconst 0, 1) := by decide +kernel
theorem dJ7_copyOf_59c91_20 : decode cJ7_copyOf_59c91 20 = .ok (.aload_n 2, 1) := by decide +kernel
theorem dJ7_copyOf_59c91_21 : decode cJ7_copyOf_59c91 21 = .ok (.iconst 0, 1) := by decide +kernel
theorem dJ7_copyOf_59c91_22 : decode cJ7_copyOf_59c91 22 = .ok (.aload_n 0, 1) := by decide +kernel
theorem dJ7_copyOf_59c91_23 : decode cJ7_copyOf_59c91 23 = .ok (.arraylength, 1) := by decide +kernel
theorem dJ7_copyOf_59c91_24 : decode cJ7_copyOf_59c91 24 = .ok (.iload_n 1, 1) := by decide +kernel
theorem dJ7_copyOf_59c91_25 : decode cJ7_copyOf_59c91 25 = .ok (.invokestatic 304, 3) := by decide +kernel
theorem dJ7_copyOf_59c91_28 : decode cJ7_copyOf_59c91 28 = .ok (.invokestatic 150, 3) := by decide +kernel
theorem dJ7_copyOf_59c91_31 : decode cJ7_copyOf_59c91 31 = .ok (.aload_n 2, 1) := by decide +kernel
theorem dJ7_copyOf_59c91_32 : decode cJ7_copyOf_59c91 32 = .ok (.areturn, 1) := by decide +kernel
set_option maxRecDepth 20000 in
theorem ggL_law_X2_init : GoodIn wsL_law wsX2_init := goodIn_r _ [8, 9, 10, 11, 12, 13, 14, 15, 16, 17, 18, 19, 20, 21, 22, 23, 24, 25, 26, 27, 28, 29, 30, 387, 388, 389, 390, 391, 392, 393, 394, 395, 396, 397, 398, 399, 400, 401, 402] (by decide +kernel) (by decide +kernel)
set_option maxRecDepth 20000 in
theorem gL_law_X2_init : GoodIn wsL_law (wsX2_init) := ggL_law_X2_init
set_option maxRecDepth 20000 in
theorem ggL_law_X3_init : GoodIn wsL_law wsX3_init := goodIn_r _ [33, 34, 10, 11, 12, 35, 36, 37, 38, 39, 40, 41, 42, 43, 44, 45, 46, 47, 48, 49, 50, 51, 52, 53, 403, 404, 405, 406, 407, 408, 409, 410, 411, 412, 413, 414, 415, 416, 417, 418, 419, 420, 421, 422, 423, 424, 425, 426, 427, 428, 429, 430, 431, 432] (by decide +kernel) (by decide +kernel)
set_option maxRecDepth 20000 in
theorem gL_law_X3_init : GoodIn wsL_law (wsX3_init) := ggL_law_X3_init
set_option maxRecDepth 20000 in
theorem ggL_law_X2_place : GoodIn wsL_law wsX2_place := goodIn_r _ [57, 58, 13, 59, 60, 2, 61, 387, 388, 389, 390, 391, 392, 393, 394, 395, 396, 397, 398, 399, 400, 401, 402] (by decide +kernel) (by decide +kernel)
set_option maxRecDepth 20000 in
theorem gL_law_X2_place : GoodIn wsL_law (wsV RL 13 RX2 yX2_place wsX2_place) := goodIn_app (goodIn_of _ (by decide +kernel)) ggL_law_X2_place
set_option maxRecDepth 20000 in
theorem ggL_law_X3_place : GoodIn wsL_law wsX3_place := goodIn_r _ [65, 66, 35, 67, 68, 5, 69, 403, 404, 405, 406, 407, 408, 409, 410, 411, 412, 413, 414, 415, 416, 417, 418, 419, 420, 421, 422, 423, 424, 425, 426, 427, 428, 429, 430, 431, 432] (by decide +kernel) (by decide +kernel)
set_option maxRecDepth 20000 in
theorem gL_law_X3_place : GoodIn wsL_law (wsV RL 17 RX3 yX3_place wsX3_place) := goodIn_app (goodIn_of _ (by decide +kernel)) ggL_law_X3_place
set_option maxRecDepth 20000 in
theorem ggL_law_X2_has : GoodIn wsL_law wsX2_has := goodIn_r _ [73, 13, 58, 59, 60, 2, 61, 387, 388, 389, 390, 391, 392, 393, 394, 395, 396, 397, 398, 399, 400, 401, 402] (by decide +kernel) (by decide +kernel)
set_option maxRecDepth 20000 in
theorem gL_law_X2_has : GoodIn wsL_law (wsV RL 18 RX2 yX2_has wsX2_has) := goodIn_app (goodIn_of _ (by decide +kernel)) ggL_law_X2_has
set_option maxRecDepth 20000 in
theorem ggL_law_X3_has : GoodIn wsL_law wsX3_has := goodIn_r _ [77, 35, 66, 67, 68, 5, 69, 403, 404, 405, 406, 407, 408, 409, 410, 411, 412, 413, 414, 415, 416, 417, 418, 419, 420, 421, 422, 423, 424, 425, 426, 427, 428, 429, 430, 431, 432] (by decide +kernel) (by decide +kernel)
set_option maxRecDepth 20000 in
theorem gL_law_X3_has : GoodIn wsL_law (wsV RL 22 RX3 yX3_has wsX3_has) := goodIn_app (goodIn_of _ (by decide +kernel)) ggL_law_X3_has
set_option maxRecDepth 20000 in
theorem ggL_law_X2_row : GoodIn wsL_law wsX2_row := goodIn_r _ [81, 15, 14, 82, 83, 12, 84, 85, 2, 86, 87, 88, 89, 90, 10, 11, 91, 387, 388, 389, 390, 391, 392, 393, 394, 395, 396, 397, 398, 399, 400, 401, 402, 433] (by decide +kernel) (by decide +kernel)
set_option maxRecDepth 20000 in
theorem gL_law_X2_row : GoodIn wsL_law (wsV RL 23 RX2 yX2_row wsX2_row) := goodIn_app (goodIn_of _ (by decide +kernel)) ggL_law_X2_row
set_option maxRecDepth 20000 in
theorem ggL_law_X3_row : GoodIn wsL_law wsX3_row := goodIn_r _ [95, 36, 67, 68, 5, 69, 96, 97, 98, 99, 37, 38, 100, 101, 102, 103, 53, 39, 43, 403, 404, 405, 406, 407, 408, 409, 410, 411, 412, 413, 414, 415, 416, 417, 418, 419, 420, 421, 422, 423, 424, 425, 426, 427, 428, 429, 430, 431, 432] (by decide +kernel) (by decide +kernel)
set_option maxRecDepth 20000 in
theorem gL_law_X3_row : GoodIn wsL_law (wsV RL 27 RX3 yX3_row wsX3_row) := goodIn_app (goodIn_of _ (by decide +kernel)) ggL_law_X3_row
set_option maxRecDepth 20000 in
theorem ggL_law_X2_share : GoodIn wsL_law wsX2_share := goodIn_r _ [107, 15, 84, 85, 2, 86, 387, 388, 389, 390, 391, 392, 393, 394, 395, 396, 397, 398, 399, 400, 401, 402] (by decide +kernel) (by decide +kernel)
set_option maxRecDepth 20000 in
theorem gL_law_X2_share : GoodIn wsL_law (wsV RL 28 RX2 yX2_share wsX2_share) := goodIn_app (goodIn_of _ (by decide +kernel)) ggL_law_X2_share
set_option maxRecDepth 20000 in
theorem ggL_law_X3_share : GoodIn wsL_law wsX3_share := goodIn_r _ [111, 36, 67, 68, 5, 69, 403, 404, 405, 406, 407, 408, 409, 410, 411, 412, 413, 414, 415, 416, 417, 418, 419, 420, 421, 422, 423, 424, 425, 426, 427, 428, 429, 430, 431, 432] (by decide +kernel) (by decide +kernel)
set_option maxRecDepth 20000 in
theorem gL_law_X3_share : GoodIn wsL_law (wsV RL 31 RX3 yX3_share wsX3_share) := goodIn_app (goodIn_of _ (by decide +kernel)) ggL_law_X3_share
set_option maxRecDepth 20000 in
theorem ggL_law_X2_put : GoodIn wsL_law wsX2_put := goodIn_r _ [115, 15, 116, 84, 85, 2, 86, 117, 118, 119, 120, 121, 122, 83, 123, 91, 387, 388, 389, 390, 391, 392, 393, 394, 395, 396, 397, 398, 399, 400, 401, 402, 433] (by decide +kernel) (by decide +kernel)
set_option maxRecDepth 20000 in
theorem gL_law_X2_put : GoodIn wsL_law (wsV RL 32 RX2 yX2_put wsX2_put) := goodIn_app (goodIn_of _ (by decide +kernel)) ggL_law_X2_put
set_option maxRecDepth 20000 in
theorem ggL_law_X3_put : GoodIn wsL_law wsX3_put := goodIn_r _ [127, 36, 37, 38, 67, 68, 5, 69, 403, 404, 405, 406, 407, 408, 409, 410, 411, 412, 413, 414, 415, 416, 417, 418, 419, 420, 421, 422, 423, 424, 425, 426, 427, 428, 429, 430, 431, 432] (by decide +kernel) (by decide +kernel)
set_option maxRecDepth 20000 in
theorem gL_law_X3_put : GoodIn wsL_law (wsV RL 36 RX3 yX3_put wsX3_put) := goodIn_app (goodIn_of _ (by decide +kernel)) ggL_law_X3_put
set_option maxRecDepth 20000 in
theorem ggL_law_X2_item : GoodIn wsL_law wsX2_item := goodIn_r _ [131, 58, 15, 116, 84, 85, 2, 86, 120, 121, 122, 83, 123, 91, 387, 388, 389, 390, 391, 392, 393, 394, 395, 396, 397, 398, 399, 400, 401, 402, 433] (by decide +kernel) (by decide +kernel)
set_option maxRecDepth 20000 in
theorem gL_law_X2_item : GoodIn wsL_law (wsV RL 37 RX2 yX2_item wsX2_item) := goodIn_app (goodIn_of _ (by decide +kernel)) ggL_law_X2_item
set_option maxRecDepth 20000 in
theorem ggL_law_X3_item : GoodIn wsL_law wsX3_item := goodIn_r _ [135, 36, 37, 38, 66, 67, 68, 5, 69, 403, 404, 405, 406, 407, 408, 409, 410, 411, 412, 413, 414, 415, 416, 417, 418, 419, 420, 421, 422, 423, 424, 425, 426, 427, 428, 429, 430, 431, 432] (by decide +kernel) (by decide +kernel)
set_option maxRecDepth 20000 in
theorem gL_law_X3_item : GoodIn wsL_law (wsV RL 40 RX3 yX3_item wsX3_item) := goodIn_app (goodIn_of _ (by decide +kernel)) ggL_law_X3_item
set_option maxRecDepth 20000 in
theorem ggL_law_X2_rule : GoodIn wsL_law wsX2_rule := goodIn_r _ [139, 18, 13, 15, 17, 16, 140, 141, 142, 143, 144, 2, 145, 59, 60, 61, 84, 85, 86, 146, 147, 148, 149, 150, 151, 152, 153, 25, 22, 154, 155, 156, 157, 26, 158, 159, 160, 161, 162, 163, 164, 165, 166, 23, 167, 168, 169, 170, 116, 120, 121, 122, 83, 123, 91, 171, 172, 173, 174, 175, 176, 177, 178, 179, 180, 181, 182, 183, 184, 185, 186, 187, 188, 189, 190, 191, 30, 192, 193, 194, 195, 27, 28, 29, 117, 118, 119, 196, 197, 198, 199, 10, 11, 200, 201, 202, 203, 204, 205, 387, 388, 389, 390, 391, 392, 393, 394, 395, 396, 397, 398, 399, 400, 401, 402, 434, 435, 436, 437, 438, 439, 433] (by decide +kernel) (by decide +kernel)
set_option maxRecDepth 20000 in
theorem gL_law_X2_rule : GoodIn wsL_law (wsV RL 41 RX2 yX2_rule wsX2_rule) := goodIn_app (goodIn_of _ (by decide +kernel)) ggL_law_X2_rule
set_option maxRecDepth 20000 in
theorem ggL_law_X3_rule : GoodIn wsL_law wsX3_rule := goodIn_r _ [209, 53, 35, 210, 39, 40, 41, 42, 43, 36, 44, 67, 68, 5, 69, 211, 212, 213, 214, 215, 216, 217, 218, 219, 220, 221, 222, 223, 224, 225, 226, 227, 228, 45, 46, 229, 230, 231, 232, 233, 47, 234, 235, 236, 237, 238, 239, 240, 241, 242, 243, 244, 245, 246, 247, 48, 248, 249, 250, 251, 252, 253, 254, 255, 37, 38, 256, 257, 258, 259, 260, 261, 262, 263, 264, 265, 49, 266, 403, 404, 405, 406, 407, 408, 409, 410, 411, 412, 413, 414, 415, 416, 417, 418, 419, 420, 421, 422, 423, 424, 425, 426, 427, 428, 429, 430, 431, 432] (by decide +kernel) (by decide +kernel)
set_option maxRecDepth 20000 in
theorem gL_law_X3_rule : GoodIn wsL_law (wsV RL 44 RX3 yX3_rule wsX3_rule) := goodIn_app (goodIn_of _ (by decide +kernel)) ggL_law_X3_rule
set_option maxRecDepth 20000 in
theorem ggL_law_X2_apply : GoodIn wsL_law wsX2_apply := goodIn_r _ [270, 24, 146, 147, 148, 2, 149, 18, 150, 151, 152, 153, 25, 22, 154, 155, 156, 157, 26, 17, 158, 159, 160, 13, 161, 15, 162, 163, 164, 165, 166, 23, 167, 168, 169, 170, 116, 120, 121, 122, 83, 123, 91, 171, 172, 173, 174, 175, 176, 177, 178, 179, 180, 181, 182, 183, 184, 185, 186, 187, 188, 189, 190, 191, 30, 192, 193, 194, 195, 27, 28, 29, 117, 118, 119, 387, 388, 389, 390, 391, 392, 393, 394, 395, 396, 397, 398, 399, 400, 401, 402, 434, 435, 436, 437, 438, 439, 433] (by decide +kernel) (by decide +kernel)
set_option maxRecDepth 20000 in
theorem gL_law_X2_apply : GoodIn wsL_law (wsV RL 45 RX2 yX2_apply wsX2_apply) := goodIn_app (goodIn_of _ (by decide +kernel)) ggL_law_X2_apply
set_option maxRecDepth 20000 in
theorem ggL_law_X3_apply : GoodIn wsL_law wsX3_apply := goodIn_r _ [274, 210, 275, 214, 215, 216, 5, 217, 53, 67, 68, 69, 218, 219, 220, 221, 222, 223, 224, 225, 226, 227, 228, 45, 39, 46, 229, 230, 231, 232, 233, 47, 234, 235, 236, 237, 238, 239, 240, 241, 242, 243, 41, 211, 212, 213, 244, 245, 246, 247, 40, 48, 248, 249, 250, 251, 42, 35, 43, 36, 44, 252, 253, 254, 255, 37, 38, 256, 257, 258, 259, 260, 261, 262, 263, 264, 265, 49, 266, 403, 404, 405, 406, 407, 408, 409, 410, 411, 412, 413, 414, 415, 416, 417, 418, 419, 420, 421, 422, 423, 424, 425, 426, 427, 428, 429, 430, 431, 432] (by decide +kernel) (by decide +kernel)
set_option maxRecDepth 20000 in
theorem gL_law_X3_apply : GoodIn wsL_law (wsV RL 48 RX3 yX3_apply wsX3_apply) := goodIn_app (goodIn_of _ (by decide +kernel)) ggL_law_X3_apply
set_option maxRecDepth 20000 in
theorem ggL_law_X2_each : GoodIn wsL_law wsX2_each := goodIn_r _ [279, 15, 116, 146, 147, 148, 2, 149, 18, 84, 85, 86, 117, 118, 119, 150, 151, 152, 153, 25, 22, 154, 155, 156, 157, 26, 17, 158, 159, 160, 13, 161, 162, 163, 164, 165, 166, 23, 167, 168, 169, 170, 120, 121, 122, 83, 123, 91, 171, 172, 173, 174, 175, 176, 177, 178, 179, 180, 181, 182, 183, 184, 185, 186, 187, 188, 189, 190, 191, 30, 192, 193, 194, 195, 27, 28, 29, 387, 388, 389, 390, 391, 392, 393, 394, 395, 396, 397, 398, 399, 400, 401, 402, 433, 434, 435, 436, 437, 438, 439] (by decide +kernel) (by decide +kernel)
set_option maxRecDepth 20000 in
theorem gL_law_X2_each : GoodIn wsL_law (wsV RL 49 RX2 yX2_each wsX2_each) := goodIn_app (goodIn_of _ (by decide +kernel)) ggL_law_X2_each
set_option maxRecDepth 20000 in
theorem ggL_law_X3_each : GoodIn wsL_law wsX3_each := goodIn_r _ [283, 36, 37, 38, 210, 214, 215, 216, 5, 217, 53, 67, 68, 69, 218, 219, 220, 221, 222, 223, 224, 225, 226, 227, 228, 45, 39, 46, 229, 230, 231, 232, 233, 47, 234, 235, 236, 237, 238, 239, 240, 241, 242, 243, 41, 211, 212, 213, 244, 245, 246, 247, 40, 48, 248, 249, 250, 251, 42, 35, 43, 44, 252, 253, 254, 255, 256, 257, 258, 259, 260, 261, 262, 263, 264, 265, 49, 266, 403, 404, 405, 406, 407, 408, 409, 410, 411, 412, 413, 414, 415, 416, 417, 418, 419, 420, 421, 422, 423, 424, 425, 426, 427, 428, 429, 430, 431, 432] (by decide +kernel) (by decide +kernel)
set_option maxRecDepth 20000 in
theorem gL_law_X3_each : GoodIn wsL_law (wsV RL 52 RX3 yX3_each wsX3_each) := goodIn_app (goodIn_of _ (by decide +kernel)) ggL_law_X3_each
set_option maxRecDepth 20000 in
theorem ggL_law_X2_keep : GoodIn wsL_law wsX2_keep := goodIn_r _ [287, 15, 116, 19, 14, 82, 83, 146, 147, 148, 2, 149, 18, 84, 85, 86, 117, 118, 119, 150, 151, 152, 153, 25, 22, 154, 155, 156, 157, 26, 17, 158, 159, 160, 13, 161, 162, 163, 164, 165, 166, 23, 167, 168, 169, 170, 120, 121, 122, 123, 91, 171, 172, 173, 174, 175, 176, 177, 178, 179, 180, 181, 182, 183, 184, 185, 186, 187, 188, 189, 190, 191, 30, 192, 193, 194, 195, 27, 28, 29, 288, 289, 290, 291, 292, 293, 294, 295, 296, 297, 12, 298, 299, 300, 301, 302, 87, 88, 89, 90, 10, 11, 387, 388, 389, 390, 391, 392, 393, 394, 395, 396, 397, 398, 399, 400, 401, 402, 433, 434, 435, 436, 437, 438, 439] (by decide +kernel) (by decide +kernel)
set_option maxRecDepth 20000 in
theorem gL_law_X2_keep : GoodIn wsL_law (wsV RL 53 RX2 yX2_keep wsX2_keep) := goodIn_app (goodIn_of _ (by decide +kernel)) ggL_law_X2_keep
set_option maxRecDepth 20000 in
theorem ggL_law_X3_keep : GoodIn wsL_law wsX3_keep := goodIn_r _ [306, 36, 37, 50, 51, 38, 214, 215, 216, 5, 217, 53, 67, 68, 69, 307, 308, 309, 310, 210, 218, 219, 220, 221, 222, 223, 224, 225, 226, 227, 228, 45, 39, 46, 229, 230, 231, 232, 233, 47, 234, 235, 236, 237, 238, 239, 240, 241, 242, 243, 41, 211, 212, 213, 244, 245, 246, 247, 40, 48, 248, 249, 250, 251, 42, 35, 43, 44, 252, 253, 254, 255, 96, 97, 98, 99, 100, 101, 102, 103, 256, 257, 258, 259, 260, 261, 262, 263, 264, 265, 49, 266, 403, 404, 405, 406, 407, 408, 409, 410, 411, 412, 413, 414, 415, 416, 417, 418, 419, 420, 421, 422, 423, 424, 425, 426, 427, 428, 429, 430, 431, 432] (by decide +kernel) (by decide +kernel)
set_option maxRecDepth 20000 in
theorem gL_law_X3_keep : GoodIn wsL_law (wsV RL 56 RX3 yX3_keep wsX3_keep) := goodIn_app (goodIn_of _ (by decide +kernel)) ggL_law_X3_keep
set_option maxRecDepth 20000 in
theorem ggL_law_X2_order : GoodIn wsL_law wsX2_order := goodIn_r _ [314, 15, 116, 20, 146, 147, 148, 2, 149, 18, 84, 85, 86, 117, 118, 119, 150, 151, 152, 153, 25, 22, 154, 155, 156, 157, 26, 17, 158, 159, 160, 13, 161, 162, 163, 164, 165, 166, 23, 167, 168, 169, 170, 120, 121, 122, 83, 123, 91, 171, 172, 173, 174, 175, 176, 177, 178, 179, 180, 181, 182, 183, 184, 185, 186, 187, 188, 189, 190, 191, 30, 192, 193, 194, 195, 27, 28, 29, 315, 316, 317, 318, 21, 319, 320, 321, 322, 19, 323, 300, 301, 302, 387, 388, 389, 390, 391, 392, 393, 394, 395, 396, 397, 398, 399, 400, 401, 402, 433, 434, 435, 436, 437, 438, 439] (by decide +kernel) (by decide +kernel)
set_option maxRecDepth 20000 in
theorem gL_law_X2_order : GoodIn wsL_law (wsV RL 57 RX2 yX2_order wsX2_order) := goodIn_app (goodIn_of _ (by decide +kernel)) ggL_law_X2_order
set_option maxRecDepth 20000 in
theorem ggL_law_X3_order : GoodIn wsL_law wsX3_order := goodIn_r _ [327, 36, 37, 50, 52, 38, 214, 215, 216, 5, 217, 53, 67, 68, 69, 307, 308, 309, 310, 210, 218, 219, 220, 221, 222, 223, 224, 225, 226, 227, 228, 45, 39, 46, 229, 230, 231, 232, 233, 47, 234, 235, 236, 237, 238, 239, 240, 241, 242, 243, 41, 211, 212, 213, 244, 245, 246, 247, 40, 48, 248, 249, 250, 251, 42, 35, 43, 44, 252, 253, 254, 255, 256, 257, 258, 259, 260, 261, 262, 263, 264, 265, 49, 266, 403, 404, 405, 406, 407, 408, 409, 410, 411, 412, 413, 414, 415, 416, 417, 418, 419, 420, 421, 422, 423, 424, 425, 426, 427, 428, 429, 430, 431, 432] (by decide +kernel) (by decide +kernel)
set_option maxRecDepth 20000 in
theorem gL_law_X3_order : GoodIn wsL_law (wsV RL 60 RX3 yX3_order wsX3_order) := goodIn_app (goodIn_of _ (by decide +kernel)) ggL_law_X3_order
set_option maxRecDepth 20000 in
theorem ggL_law_X2_fold : GoodIn wsL_law wsX2_fold := goodIn_r _ [331, 15, 22, 116, 24, 84, 85, 2, 86, 117, 118, 119, 332, 333, 334, 335, 336, 337, 182, 338, 163, 164, 165, 166, 23, 184, 185, 186, 187, 192, 193, 194, 195, 27, 28, 29, 387, 388, 389, 390, 391, 392, 393, 394, 395, 396, 397, 398, 399, 400, 401, 402, 433] (by decide +kernel) (by decide +kernel)
set_option maxRecDepth 20000 in
theorem gL_law_X2_fold : GoodIn wsL_law (wsV RL 61 RX2 yX2_fold wsX2_fold) := goodIn_app (goodIn_of _ (by decide +kernel)) ggL_law_X2_fold
set_option maxRecDepth 20000 in
theorem ggL_law_X3_fold : GoodIn wsL_law wsX3_fold := goodIn_r _ [342, 36, 37, 38, 275, 67, 68, 5, 69, 261, 262, 263, 264, 265, 49, 266, 403, 404, 405, 406, 407, 408, 409, 410, 411, 412, 413, 414, 415, 416, 417, 418, 419, 420, 421, 422, 423, 424, 425, 426, 427, 428, 429, 430, 431, 432] (by decide +kernel) (by decide +kernel)
set_option maxRecDepth 20000 in
theorem gL_law_X3_fold : GoodIn wsL_law (wsV RL 64 RX3 yX3_fold wsX3_fold) := goodIn_app (goodIn_of _ (by decide +kernel)) ggL_law_X3_fold
set_option maxRecDepth 20000 in
theorem ggL_law_X2_until : GoodIn wsL_law wsX2_until := goodIn_r _ [346, 24, 146, 147, 148, 2, 149, 18, 150, 151, 152, 153, 25, 22, 154, 155, 156, 157, 26, 17, 158, 159, 160, 13, 161, 15, 162, 163, 164, 165, 166, 23, 167, 168, 169, 170, 116, 120, 121, 122, 83, 123, 91, 171, 172, 173, 174, 175, 176, 177, 178, 179, 180, 181, 182, 183, 184, 185, 186, 187, 188, 189, 190, 191, 30, 192, 193, 194, 195, 27, 28, 29, 117, 118, 119, 387, 388, 389, 390, 391, 392, 393, 394, 395, 396, 397, 398, 399, 400, 401, 402, 434, 435, 436, 437, 438, 439, 433] (by decide +kernel) (by decide +kernel)
set_option maxRecDepth 20000 in
theorem gL_law_X2_until : GoodIn wsL_law (wsV RL 65 RX2 yX2_until wsX2_until) := goodIn_app (goodIn_of _ (by decide +kernel)) ggL_law_X2_until
set_option maxRecDepth 20000 in
theorem ggL_law_X3_until : GoodIn wsL_law wsX3_until := goodIn_r _ [350, 210, 223, 275, 214, 215, 216, 5, 217, 53, 67, 68, 69, 218, 219, 220, 221, 222, 224, 225, 226, 227, 228, 45, 39, 46, 229, 230, 231, 232, 233, 47, 234, 235, 236, 237, 238, 239, 240, 241, 242, 243, 41, 211, 212, 213, 244, 245, 246, 247, 40, 48, 248, 249, 250, 251, 42, 35, 43, 36, 44, 252, 253, 254, 255, 37, 38, 256, 257, 258, 259, 260, 261, 262, 263, 264, 265, 49, 266, 403, 404, 405, 406, 407, 408, 409, 410, 411, 412, 413, 414, 415, 416, 417, 418, 419, 420, 421, 422, 423, 424, 425, 426, 427, 428, 429, 430, 431, 432] (by decide +kernel) (by decide +kernel)
set_option maxRecDepth 20000 in
theorem gL_law_X3_until : GoodIn wsL_law (wsV RL 69 RX3 yX3_until wsX3_until) := goodIn_app (goodIn_of _ (by decide +kernel)) ggL_law_X3_until
set_option maxRecDepth 20000 in
theorem ggL_law_X2_result : GoodIn wsL_law wsX2_result := goodIn_r _ [354, 24, 387, 388, 389, 390, 391, 392, 393, 394, 395, 396, 397, 398, 399, 400, 401, 402] (by decide +kernel) (by decide +kernel)
set_option maxRecDepth 20000 in
theorem gL_law_X2_result : GoodIn wsL_law (wsV RL 70 RX2 yX2_result wsX2_result) := goodIn_app (goodIn_of _ (by decide +kernel)) ggL_law_X2_result
set_option maxRecDepth 20000 in
theorem ggL_law_X3_result : GoodIn wsL_law wsX3_result := goodIn_r _ [358, 275, 403, 404, 405, 406, 407, 408, 409, 410, 411, 412, 413, 414, 415, 416, 417, 418, 419, 420, 421, 422, 423, 424, 425, 426, 427, 428, 429, 430, 431, 432] (by decide +kernel) (by decide +kernel)
set_option maxRecDepth 20000 in
theorem gL_law_X3_result : GoodIn wsL_law (wsV RL 74 RX3 yX3_result wsX3_result) := goodIn_app (goodIn_of _ (by decide +kernel)) ggL_law_X3_result
set_option maxRecDepth 20000 in
theorem ggL_law_X2_steps : GoodIn wsL_law wsX2_steps := goodIn_r _ [362, 25, 387, 388, 389, 390, 391, 392, 393, 394, 395, 396, 397, 398, 399, 400, 401, 402] (by decide +kernel) (by decide +kernel)
set_option maxRecDepth 20000 in
theorem gL_law_X2_steps : GoodIn wsL_law (wsV RL 75 RX2 yX2_steps wsX2_steps) := goodIn_app (goodIn_of _ (by decide +kernel)) ggL_law_X2_steps
set_option maxRecDepth 20000 in
theorem ggL_law_X3_steps : GoodIn wsL_law wsX3_steps := goodIn_r _ [366, 260, 403, 404, 405, 406, 407, 408, 409, 410, 411, 412, 413, 414, 415, 416, 417, 418, 419, 420, 421, 422, 423, 424, 425, 426, 427, 428, 429, 430, 431, 432] (by decide +kernel) (by decide +kernel)
set_option maxRecDepth 20000 in
theorem gL_law_X3_steps : GoodIn wsL_law (wsV RL 78 RX3 yX3_steps wsX3_steps) := goodIn_app (goodIn_of _ (by decide +kernel)) ggL_law_X3_steps
set_option maxRecDepth 20000 in
theorem ggL_law_X2_failed : GoodIn wsL_law wsX2_failed := goodIn_r _ [370, 27, 28, 387, 388, 389, 390, 391, 392, 393, 394, 395, 396, 397, 398, 399, 400, 401, 402] (by decide +kernel) (by decide +kernel)
set_option maxRecDepth 20000 in
theorem gL_law_X2_failed : GoodIn wsL_law (wsV RL 79 RX2 yX2_failed wsX2_failed) := goodIn_app (goodIn_of _ (by decide +kernel)) ggL_law_X2_failed
set_option maxRecDepth 20000 in
theorem ggL_law_X3_failed_ : GoodIn wsL_law wsX3_failed_ := goodIn_r _ [374, 265, 49, 403, 404, 405, 406, 407, 408, 409, 410, 411, 412, 413, 414, 415, 416, 417, 418, 419, 420, 421, 422, 423, 424, 425, 426, 427, 428, 429, 430, 431, 432] (by decide +kernel) (by decide +kernel)
set_option maxRecDepth 20000 in
theorem gL_law_X3_failed_ : GoodIn wsL_law (wsV RL 83 RX3 yX3_failed_ wsX3_failed_) := goodIn_app (goodIn_of _ (by decide +kernel)) ggL_law_X3_failed_
set_option maxRecDepth 20000 in
theorem ggL_law_X2_count : GoodIn wsL_law wsX2_count := goodIn_r _ [378, 18, 26, 29, 30, 379, 380, 381, 2, 382, 15, 387, 388, 389, 390, 391, 392, 393, 394, 395, 396, 397, 398, 399, 400, 401, 402] (by decide +kernel) (by decide +kernel)
set_option maxRecDepth 20000 in
theorem gL_law_X2_count : GoodIn wsL_law (wsV RL 84 RX2 yX2_count wsX2_count) := goodIn_app (goodIn_of _ (by decide +kernel)) ggL_law_X2_count
set_option maxRecDepth 20000 in
theorem ggL_law_X3_count : GoodIn wsL_law wsX3_count := goodIn_r _ [386, 36, 53, 233, 266, 243, 403, 404, 405, 406, 407, 408, 409, 410, 411, 412, 413, 414, 415, 416, 417, 418, 419, 420, 421, 422, 423, 424, 425, 426, 427, 428, 429, 430, 431, 432] (by decide +kernel) (by decide +kernel)
set_option maxRecDepth 20000 in
theorem gL_law_X3_count : GoodIn wsL_law (wsV RL 87 RX3 yX3_count wsX3_count) := goodIn_app (goodIn_of _ (by decide +kernel)) ggL_law_X3_count
theorem dL_law_0 : decode cL_law 0 = .ok (.new 7, 3) := by decide +kernel
theorem dL_law_3 : decode cL_law 3 = .ok (.dup, 1) := by decide +kernel
theorem dL_law_4 : decode cL_law 4 = .ok (.invokespecial 9, 3) := by decide +kernel
theorem dL_law_7 : decode cL_law 7 = .ok (.astore_n 1, 1) := by decide +kernel
theorem dL_law_8 : decode cL_law 8 = .ok (.new 10, 3) := by decide +kernel
theorem dL_law_11 : decode cL_law 11 = .ok (.dup, 1) := by decide +kernel
theorem dL_law_12 : decode cL_law 12 = .ok (.invokespecial 12, 3) := by decide +kernel
theorem dL_law_15 : decode cL_law 15 = .ok (.astore_n 2, 1) := by decide +kernel
theorem dL_law_16 : decode cL_law 16 = .ok (.iconst 0, 1) := by decide +kernel
theorem dL_law_17 : decode cL_law 17 = .ok (.istore_n 3, 1) := by decide +kernel
theorem dL_law_18 : decode cL_law 18 = .ok (.iload_n 3, 1) := by decide +kernel
theorem dL_law_19 : decode cL_law 19 = .ok (.aload_n 0, 1) := by decide +kernel
theorem dL_law_20 : decode cL_law 20 = .ok (.arraylength, 1) := by decide +kernel
theorem dL_law_21 : decode cL_law 21 = .ok (.iconst 5, 1) := by decide +kernel
theorem dL_law_22 : decode cL_law 22 = .ok (.isub, 1) := by decide +kernel
theorem dL_law_23 : decode cL_law 23 = .ok (.if_icmp .gt 643, 3) := by decide +kernel
theorem dL_law_26 : decode cL_law 26 = .ok (.aload_n 0, 1) := by decide +kernel
theorem dL_law_27 : decode cL_law 27 = .ok (.iload_n 3, 1) := by decide +kernel
theorem dL_law_28 : decode cL_law 28 = .ok (.iaload, 1) := by decide +kernel
theorem dL_law_29 : decode cL_law 29 = .ok (.bipush 31, 2) := by decide +kernel
theorem dL_law_31 : decode cL_law 31 = .ok (.iand, 1) := by decide +kernel
theorem dL_law_32 : decode cL_law 32 = .ok (.tableswitch 628 0 16 #[84, 118, 142, 175, 208, 251, 285, 328, 361, 394, 427, 460, 503, 556, 569, 582, 605], 84) := by decide +kernel
theorem dL_law_116 : decode cL_law 116 = .ok (.aload_n 1, 1) := by decide +kernel
theorem dL_law_117 : decode cL_law 117 = .ok (.aload_n 0, 1) := by decide +kernel
theorem dL_law_118 : decode cL_law 118 = .ok (.iload_n 3, 1) := by decide +kernel
theorem dL_law_119 : decode cL_law 119 = .ok (.iconst 1, 1) := by decide +kernel
theorem dL_law_120 : decode cL_law 120 = .ok (.iadd, 1) := by decide +kernel
theorem dL_law_121 : decode cL_law 121 = .ok (.iaload, 1) := by decide +kernel
theorem dL_law_122 : decode cL_law 122 = .ok (.aload_n 0, 1) := by decide +kernel
theorem dL_law_123 : decode cL_law 123 = .ok (.iload_n 3, 1) := by decide +kernel
theorem dL_law_124 : decode cL_law 124 = .ok (.iconst 2, 1) := by decide +kernel
theorem dL_law_125 : decode cL_law 125 = .ok (.iadd, 1) := by decide +kernel
theorem dL_law_126 : decode cL_law 126 = .ok (.iaload, 1) := by decide +kernel
theorem dL_law_127 : decode cL_law 127 = .ok (.invokevirtual 13, 3) := by decide +kernel
theorem dL_law_130 : decode cL_law 130 = .ok (.aload_n 2, 1) := by decide +kernel
theorem dL_law_131 : decode cL_law 131 = .ok (.aload_n 0, 1) := by decide +kernel
theorem dL_law_132 : decode cL_law 132 = .ok (.iload_n 3, 1) := by decide +kernel
theorem dL_law_133 : decode cL_law 133 = .ok (.iconst 1, 1) := by decide +kernel
theorem dL_law_134 : decode cL_law 134 = .ok (.iadd, 1) := by decide +kernel
theorem dL_law_135 : decode cL_law 135 = .ok (.iaload, 1) := by decide +kernel
theorem dL_law_136 : decode cL_law 136 = .ok (.aload_n 0, 1) := by decide +kernel
theorem dL_law_137 : decode cL_law 137 = .ok (.iload_n 3, 1) := by decide +kernel
theorem dL_law_138 : decode cL_law 138 = .ok (.iconst 2, 1) := by decide +kernel
theorem dL_law_139 : decode cL_law 139 = .ok (.iadd, 1) := by decide +kernel
theorem dL_law_140 : decode cL_law 140 = .ok (.iaload, 1) := by decide +kernel
theorem dL_law_141 : decode cL_law 141 = .ok (.invokevirtual 17, 3) := by decide +kernel
theorem dL_law_144 : decode cL_law 144 = .ok (.lcmp, 1) := by decide +kernel
theorem dL_law_145 : decode cL_law 145 = .ok (.ifCond .eq 515, 3) := by decide +kernel
theorem dL_law_148 : decode cL_law 148 = .ok (.iconst 0, 1) := by decide +kernel
theorem dL_law_149 : decode cL_law 149 = .ok (.ireturn, 1) := by decide +kernel
theorem dL_law_150 : decode cL_law 150 = .ok (.aload_n 1, 1) := by decide +kernel
theorem dL_law_151 : decode cL_law 151 = .ok (.aload_n 0, 1) := by decide +kernel
theorem dL_law_152 : decode cL_law 152 = .ok (.iload_n 3, 1) := by decide +kernel
theorem dL_law_153 : decode cL_law 153 = .ok (.iconst 1, 1) := by decide +kernel
theorem dL_law_154 : decode cL_law 154 = .ok (.iadd, 1) := by decide +kernel
theorem dL_law_155 : decode cL_law 155 = .ok (.iaload, 1) := by decide +kernel
theorem dL_law_156 : decode cL_law 156 = .ok (.invokevirtual 18, 3) := by decide +kernel
theorem dL_law_159 : decode cL_law 159 = .ok (.aload_n 2, 1) := by decide +kernel
theorem dL_law_160 : decode cL_law 160 = .ok (.aload_n 0, 1) := by decide +kernel
theorem dL_law_161 : decode cL_law 161 = .ok (.iload_n 3, 1) := by decide +kernel
theorem dL_law_162 : decode cL_law 162 = .ok (.iconst 1, 1) := by decide +kernel
theorem dL_law_163 : decode cL_law 163 = .ok (.iadd, 1) := by decide +kernel
theorem dL_law_164 : decode cL_law 164 = .ok (.iaload, 1) := by decide +kernel
theorem dL_law_165 : decode cL_law 165 = .ok (.invokevirtual 22, 3) := by decide +kernel
theorem dL_law_168 : decode cL_law 168 = .ok (.lcmp, 1) := by decide +kernel
theorem dL_law_169 : decode cL_law 169 = .ok (.ifCond .eq 491, 3) := by decide +kernel
theorem dL_law_172 : decode cL_law 172 = .ok (.iconst 0, 1) := by decide +kernel
theorem dL_law_173 : decode cL_law 173 = .ok (.ireturn, 1) := by decide +kernel
theorem dL_law_174 : decode cL_law 174 = .ok (.aload_n 1, 1) := by decide +kernel
theorem dL_law_175 : decode cL_law 175 = .ok (.aload_n 0, 1) := by decide +kernel
theorem dL_law_176 : decode cL_law 176 = .ok (.iload_n 3, 1) := by decide +kernel
theorem dL_law_177 : decode cL_law 177 = .ok (.iconst 1, 1) := by decide +kernel
theorem dL_law_178 : decode cL_law 178 = .ok (.iadd, 1) := by decide +kernel
theorem dL_law_179 : decode cL_law 179 = .ok (.iaload, 1) := by decide +kernel
theorem dL_law_180 : decode cL_law 180 = .ok (.aload_n 0, 1) := by decide +kernel
theorem dL_law_181 : decode cL_law 181 = .ok (.iload_n 3, 1) := by decide +kernel
theorem dL_law_182 : decode cL_law 182 = .ok (.iconst 2, 1) := by decide +kernel
theorem dL_law_183 : decode cL_law 183 = .ok (.iadd, 1) := by decide +kernel
theorem dL_law_184 : decode cL_law 184 = .ok (.iaload, 1) := by decide +kernel
theorem dL_law_185 : decode cL_law 185 = .ok (.invokevirtual 23, 3) := by decide +kernel
theorem dL_law_188 : decode cL_law 188 = .ok (.aload_n 2, 1) := by decide +kernel
theorem dL_law_189 : decode cL_law 189 = .ok (.aload_n 0, 1) := by decide +kernel
theorem dL_law_190 : decode cL_law 190 = .ok (.iload_n 3, 1) := by decide +kernel
theorem dL_law_191 : decode cL_law 191 = .ok (.iconst 1, 1) := by decide +kernel
theorem dL_law_192 : decode cL_law 192 = .ok (.iadd, 1) := by decide +kernel
theorem dL_law_193 : decode cL_law 193 = .ok (.iaload, 1) := by decide +kernel
theorem dL_law_194 : decode cL_law 194 = .ok (.aload_n 0, 1) := by decide +kernel
theorem dL_law_195 : decode cL_law 195 = .ok (.iload_n 3, 1) := by decide +kernel
theorem dL_law_196 : decode cL_law 196 = .ok (.iconst 2, 1) := by decide +kernel
theorem dL_law_197 : decode cL_law 197 = .ok (.iadd, 1) := by decide +kernel
theorem dL_law_198 : decode cL_law 198 = .ok (.iaload, 1) := by decide +kernel
theorem dL_law_199 : decode cL_law 199 = .ok (.invokevirtual 27, 3) := by decide +kernel
theorem dL_law_202 : decode cL_law 202 = .ok (.if_icmp .eq 458, 3) := by decide +kernel
theorem dL_law_205 : decode cL_law 205 = .ok (.iconst 0, 1) := by decide +kernel
theorem dL_law_206 : decode cL_law 206 = .ok (.ireturn, 1) := by decide +kernel
theorem dL_law_207 : decode cL_law 207 = .ok (.aload_n 1, 1) := by decide +kernel
theorem dL_law_208 : decode cL_law 208 = .ok (.aload_n 0, 1) := by decide +kernel
theorem dL_law_209 : decode cL_law 209 = .ok (.iload_n 3, 1) := by decide +kernel
theorem dL_law_210 : decode cL_law 210 = .ok (.iconst 1, 1) := by decide +kernel
theorem dL_law_211 : decode cL_law 211 = .ok (.iadd, 1) := by decide +kernel
theorem dL_law_212 : decode cL_law 212 = .ok (.iaload, 1) := by decide +kernel
theorem dL_law_213 : decode cL_law 213 = .ok (.aload_n 0, 1) := by decide +kernel
theorem dL_law_214 : decode cL_law 214 = .ok (.iload_n 3, 1) := by decide +kernel
theorem dL_law_215 : decode cL_law 215 = .ok (.iconst 2, 1) := by decide +kernel
theorem dL_law_216 : decode cL_law 216 = .ok (.iadd, 1) := by decide +kernel
theorem dL_law_217 : decode cL_law 217 = .ok (.iaload, 1) := by decide +kernel
theorem dL_law_218 : decode cL_law 218 = .ok (.invokevirtual 28, 3) := by decide +kernel
theorem dL_law_221 : decode cL_law 221 = .ok (.aload_n 2, 1) := by decide +kernel
theorem dL_law_222 : decode cL_law 222 = .ok (.aload_n 0, 1) := by decide +kernel
theorem dL_law_223 : decode cL_law 223 = .ok (.iload_n 3, 1) := by decide +kernel
theorem dL_law_224 : decode cL_law 224 = .ok (.iconst 1, 1) := by decide +kernel
theorem dL_law_225 : decode cL_law 225 = .ok (.iadd, 1) := by decide +kernel
theorem dL_law_226 : decode cL_law 226 = .ok (.iaload, 1) := by decide +kernel
theorem dL_law_227 : decode cL_law 227 = .ok (.aload_n 0, 1) := by decide +kernel
theorem dL_law_228 : decode cL_law 228 = .ok (.iload_n 3, 1) := by decide +kernel
theorem dL_law_229 : decode cL_law 229 = .ok (.iconst 2, 1) := by decide +kernel
theorem dL_law_230 : decode cL_law 230 = .ok (.iadd, 1) := by decide +kernel
theorem dL_law_231 : decode cL_law 231 = .ok (.iaload, 1) := by decide +kernel
theorem dL_law_232 : decode cL_law 232 = .ok (.invokevirtual 31, 3) := by decide +kernel
theorem dL_law_235 : decode cL_law 235 = .ok (.if_icmp .eq 425, 3) := by decide +kernel
theorem dL_law_238 : decode cL_law 238 = .ok (.iconst 0, 1) := by decide +kernel
theorem dL_law_239 : decode cL_law 239 = .ok (.ireturn, 1) := by decide +kernel
theorem dL_law_240 : decode cL_law 240 = .ok (.aload_n 1, 1) := by decide +kernel
theorem dL_law_241 : decode cL_law 241 = .ok (.aload_n 0, 1) := by decide +kernel
theorem dL_law_242 : decode cL_law 242 = .ok (.iload_n 3, 1) := by decide +kernel
theorem dL_law_243 : decode cL_law 243 = .ok (.iconst 1, 1) := by decide +kernel
theorem dL_law_244 : decode cL_law 244 = .ok (.iadd, 1) := by decide +kernel
theorem dL_law_245 : decode cL_law 245 = .ok (.iaload, 1) := by decide +kernel
theorem dL_law_246 : decode cL_law 246 = .ok (.aload_n 0, 1) := by decide +kernel
theorem dL_law_247 : decode cL_law 247 = .ok (.iload_n 3, 1) := by decide +kernel
theorem dL_law_248 : decode cL_law 248 = .ok (.iconst 2, 1) := by decide +kernel
theorem dL_law_249 : decode cL_law 249 = .ok (.iadd, 1) := by decide +kernel
theorem dL_law_250 : decode cL_law 250 = .ok (.iaload, 1) := by decide +kernel
theorem dL_law_251 : decode cL_law 251 = .ok (.aload_n 0, 1) := by decide +kernel
theorem dL_law_252 : decode cL_law 252 = .ok (.iload_n 3, 1) := by decide +kernel
theorem dL_law_253 : decode cL_law 253 = .ok (.iconst 3, 1) := by decide +kernel
theorem dL_law_254 : decode cL_law 254 = .ok (.iadd, 1) := by decide +kernel
theorem dL_law_255 : decode cL_law 255 = .ok (.iaload, 1) := by decide +kernel
theorem dL_law_256 : decode cL_law 256 = .ok (.invokevirtual 32, 3) := by decide +kernel
theorem dL_law_259 : decode cL_law 259 = .ok (.aload_n 2, 1) := by decide +kernel
theorem dL_law_260 : decode cL_law 260 = .ok (.aload_n 0, 1) := by decide +kernel
theorem dL_law_261 : decode cL_law 261 = .ok (.iload_n 3, 1) := by decide +kernel
theorem dL_law_262 : decode cL_law 262 = .ok (.iconst 1, 1) := by decide +kernel
theorem dL_law_263 : decode cL_law 263 = .ok (.iadd, 1) := by decide +kernel
theorem dL_law_264 : decode cL_law 264 = .ok (.iaload, 1) := by decide +kernel
theorem dL_law_265 : decode cL_law 265 = .ok (.aload_n 0, 1) := by decide +kernel
theorem dL_law_266 : decode cL_law 266 = .ok (.iload_n 3, 1) := by decide +kernel
theorem dL_law_267 : decode cL_law 267 = .ok (.iconst 2, 1) := by decide +kernel
theorem dL_law_268 : decode cL_law 268 = .ok (.iadd, 1) := by decide +kernel
theorem dL_law_269 : decode cL_law 269 = .ok (.iaload, 1) := by decide +kernel
theorem dL_law_270 : decode cL_law 270 = .ok (.aload_n 0, 1) := by decide +kernel
theorem dL_law_271 : decode cL_law 271 = .ok (.iload_n 3, 1) := by decide +kernel
theorem dL_law_272 : decode cL_law 272 = .ok (.iconst 3, 1) := by decide +kernel
theorem dL_law_273 : decode cL_law 273 = .ok (.iadd, 1) := by decide +kernel
theorem dL_law_274 : decode cL_law 274 = .ok (.iaload, 1) := by decide +kernel
theorem dL_law_275 : decode cL_law 275 = .ok (.invokevirtual 36, 3) := by decide +kernel
theorem dL_law_278 : decode cL_law 278 = .ok (.if_icmp .eq 382, 3) := by decide +kernel
theorem dL_law_281 : decode cL_law 281 = .ok (.iconst 0, 1) := by decide +kernel
theorem dL_law_282 : decode cL_law 282 = .ok (.ireturn, 1) := by decide +kernel
theorem dL_law_283 : decode cL_law 283 = .ok (.aload_n 1, 1) := by decide +kernel
theorem dL_law_284 : decode cL_law 284 = .ok (.aload_n 0, 1) := by decide +kernel
theorem dL_law_285 : decode cL_law 285 = .ok (.iload_n 3, 1) := by decide +kernel
theorem dL_law_286 : decode cL_law 286 = .ok (.iconst 1, 1) := by decide +kernel
theorem dL_law_287 : decode cL_law 287 = .ok (.iadd, 1) := by decide +kernel
theorem dL_law_288 : decode cL_law 288 = .ok (.iaload, 1) := by decide +kernel
theorem dL_law_289 : decode cL_law 289 = .ok (.aload_n 0, 1) := by decide +kernel
theorem dL_law_290 : decode cL_law 290 = .ok (.iload_n 3, 1) := by decide +kernel
theorem dL_law_291 : decode cL_law 291 = .ok (.iconst 2, 1) := by decide +kernel
theorem dL_law_292 : decode cL_law 292 = .ok (.iadd, 1) := by decide +kernel
theorem dL_law_293 : decode cL_law 293 = .ok (.iaload, 1) := by decide +kernel
theorem dL_law_294 : decode cL_law 294 = .ok (.invokevirtual 37, 3) := by decide +kernel
theorem dL_law_297 : decode cL_law 297 = .ok (.aload_n 2, 1) := by decide +kernel
theorem dL_law_298 : decode cL_law 298 = .ok (.aload_n 0, 1) := by decide +kernel
theorem dL_law_299 : decode cL_law 299 = .ok (.iload_n 3, 1) := by decide +kernel
theorem dL_law_300 : decode cL_law 300 = .ok (.iconst 1, 1) := by decide +kernel
theorem dL_law_301 : decode cL_law 301 = .ok (.iadd, 1) := by decide +kernel
theorem dL_law_302 : decode cL_law 302 = .ok (.iaload, 1) := by decide +kernel
theorem dL_law_303 : decode cL_law 303 = .ok (.aload_n 0, 1) := by decide +kernel
theorem dL_law_304 : decode cL_law 304 = .ok (.iload_n 3, 1) := by decide +kernel
theorem dL_law_305 : decode cL_law 305 = .ok (.iconst 2, 1) := by decide +kernel
theorem dL_law_306 : decode cL_law 306 = .ok (.iadd, 1) := by decide +kernel
theorem dL_law_307 : decode cL_law 307 = .ok (.iaload, 1) := by decide +kernel
theorem dL_law_308 : decode cL_law 308 = .ok (.invokevirtual 40, 3) := by decide +kernel
theorem dL_law_311 : decode cL_law 311 = .ok (.lcmp, 1) := by decide +kernel
theorem dL_law_312 : decode cL_law 312 = .ok (.ifCond .eq 348, 3) := by decide +kernel
theorem dL_law_315 : decode cL_law 315 = .ok (.iconst 0, 1) := by decide +kernel
theorem dL_law_316 : decode cL_law 316 = .ok (.ireturn, 1) := by decide +kernel
theorem dL_law_317 : decode cL_law 317 = .ok (.aload_n 1, 1) := by decide +kernel
theorem dL_law_318 : decode cL_law 318 = .ok (.aload_n 0, 1) := by decide +kernel
theorem dL_law_319 : decode cL_law 319 = .ok (.iload_n 3, 1) := by decide +kernel
theorem dL_law_320 : decode cL_law 320 = .ok (.iconst 1, 1) := by decide +kernel
theorem dL_law_321 : decode cL_law 321 = .ok (.iadd, 1) := by decide +kernel
theorem dL_law_322 : decode cL_law 322 = .ok (.iaload, 1) := by decide +kernel
theorem dL_law_323 : decode cL_law 323 = .ok (.aload_n 0, 1) := by decide +kernel
theorem dL_law_324 : decode cL_law 324 = .ok (.iload_n 3, 1) := by decide +kernel
theorem dL_law_325 : decode cL_law 325 = .ok (.iconst 2, 1) := by decide +kernel
theorem dL_law_326 : decode cL_law 326 = .ok (.iadd, 1) := by decide +kernel
theorem dL_law_327 : decode cL_law 327 = .ok (.iaload, 1) := by decide +kernel
theorem dL_law_328 : decode cL_law 328 = .ok (.aload_n 0, 1) := by decide +kernel
theorem dL_law_329 : decode cL_law 329 = .ok (.iload_n 3, 1) := by decide +kernel
theorem dL_law_330 : decode cL_law 330 = .ok (.iconst 3, 1) := by decide +kernel
theorem dL_law_331 : decode cL_law 331 = .ok (.iadd, 1) := by decide +kernel
theorem dL_law_332 : decode cL_law 332 = .ok (.iaload, 1) := by decide +kernel
theorem dL_law_333 : decode cL_law 333 = .ok (.invokevirtual 41, 3) := by decide +kernel
theorem dL_law_336 : decode cL_law 336 = .ok (.aload_n 2, 1) := by decide +kernel
theorem dL_law_337 : decode cL_law 337 = .ok (.aload_n 0, 1) := by decide +kernel
theorem dL_law_338 : decode cL_law 338 = .ok (.iload_n 3, 1) := by decide +kernel
theorem dL_law_339 : decode cL_law 339 = .ok (.iconst 1, 1) := by decide +kernel
theorem dL_law_340 : decode cL_law 340 = .ok (.iadd, 1) := by decide +kernel
theorem dL_law_341 : decode cL_law 341 = .ok (.iaload, 1) := by decide +kernel
theorem dL_law_342 : decode cL_law 342 = .ok (.aload_n 0, 1) := by decide +kernel
theorem dL_law_343 : decode cL_law 343 = .ok (.iload_n 3, 1) := by decide +kernel
theorem dL_law_344 : decode cL_law 344 = .ok (.iconst 2, 1) := by decide +kernel
theorem dL_law_345 : decode cL_law 345 = .ok (.iadd, 1) := by decide +kernel
theorem dL_law_346 : decode cL_law 346 = .ok (.iaload, 1) := by decide +kernel
theorem dL_law_347 : decode cL_law 347 = .ok (.aload_n 0, 1) := by decide +kernel
theorem dL_law_348 : decode cL_law 348 = .ok (.iload_n 3, 1) := by decide +kernel
theorem dL_law_349 : decode cL_law 349 = .ok (.iconst 3, 1) := by decide +kernel
theorem dL_law_350 : decode cL_law 350 = .ok (.iadd, 1) := by decide +kernel
theorem dL_law_351 : decode cL_law 351 = .ok (.iaload, 1) := by decide +kernel
theorem dL_law_352 : decode cL_law 352 = .ok (.invokevirtual 44, 3) := by decide +kernel
theorem dL_law_355 : decode cL_law 355 = .ok (.if_icmp .eq 305, 3) := by decide +kernel
theorem dL_law_358 : decode cL_law 358 = .ok (.iconst 0, 1) := by decide +kernel
theorem dL_law_359 : decode cL_law 359 = .ok (.ireturn, 1) := by decide +kernel
theorem dL_law_360 : decode cL_law 360 = .ok (.aload_n 1, 1) := by decide +kernel
theorem dL_law_361 : decode cL_law 361 = .ok (.aload_n 0, 1) := by decide +kernel
theorem dL_law_362 : decode cL_law 362 = .ok (.iload_n 3, 1) := by decide +kernel
theorem dL_law_363 : decode cL_law 363 = .ok (.iconst 1, 1) := by decide +kernel
theorem dL_law_364 : decode cL_law 364 = .ok (.iadd, 1) := by decide +kernel
theorem dL_law_365 : decode cL_law 365 = .ok (.iaload, 1) := by decide +kernel
theorem dL_law_366 : decode cL_law 366 = .ok (.aload_n 0, 1) := by decide +kernel
theorem dL_law_367 : decode cL_law 367 = .ok (.iload_n 3, 1) := by decide +kernel
theorem dL_law_368 : decode cL_law 368 = .ok (.iconst 2, 1) := by decide +kernel
theorem dL_law_369 : decode cL_law 369 = .ok (.iadd, 1) := by decide +kernel
theorem dL_law_370 : decode cL_law 370 = .ok (.iaload, 1) := by decide +kernel
theorem dL_law_371 : decode cL_law 371 = .ok (.invokevirtual 45, 3) := by decide +kernel
theorem dL_law_374 : decode cL_law 374 = .ok (.aload_n 2, 1) := by decide +kernel
theorem dL_law_375 : decode cL_law 375 = .ok (.aload_n 0, 1) := by decide +kernel
theorem dL_law_376 : decode cL_law 376 = .ok (.iload_n 3, 1) := by decide +kernel
theorem dL_law_377 : decode cL_law 377 = .ok (.iconst 1, 1) := by decide +kernel
theorem dL_law_378 : decode cL_law 378 = .ok (.iadd, 1) := by decide +kernel
theorem dL_law_379 : decode cL_law 379 = .ok (.iaload, 1) := by decide +kernel
theorem dL_law_380 : decode cL_law 380 = .ok (.aload_n 0, 1) := by decide +kernel
theorem dL_law_381 : decode cL_law 381 = .ok (.iload_n 3, 1) := by decide +kernel
theorem dL_law_382 : decode cL_law 382 = .ok (.iconst 2, 1) := by decide +kernel
theorem dL_law_383 : decode cL_law 383 = .ok (.iadd, 1) := by decide +kernel
theorem dL_law_384 : decode cL_law 384 = .ok (.iaload, 1) := by decide +kernel
theorem dL_law_385 : decode cL_law 385 = .ok (.invokevirtual 48, 3) := by decide +kernel
theorem dL_law_388 : decode cL_law 388 = .ok (.if_icmp .eq 272, 3) := by decide +kernel
theorem dL_law_391 : decode cL_law 391 = .ok (.iconst 0, 1) := by decide +kernel
theorem dL_law_392 : decode cL_law 392 = .ok (.ireturn, 1) := by decide +kernel
theorem dL_law_393 : decode cL_law 393 = .ok (.aload_n 1, 1) := by decide +kernel
theorem dL_law_394 : decode cL_law 394 = .ok (.aload_n 0, 1) := by decide +kernel
theorem dL_law_395 : decode cL_law 395 = .ok (.iload_n 3, 1) := by decide +kernel
theorem dL_law_396 : decode cL_law 396 = .ok (.iconst 1, 1) := by decide +kernel
theorem dL_law_397 : decode cL_law 397 = .ok (.iadd, 1) := by decide +kernel
theorem dL_law_398 : decode cL_law 398 = .ok (.iaload, 1) := by decide +kernel
theorem dL_law_399 : decode cL_law 399 = .ok (.aload_n 0, 1) := by decide +kernel
theorem dL_law_400 : decode cL_law 400 = .ok (.iload_n 3, 1) := by decide +kernel
theorem dL_law_401 : decode cL_law 401 = .ok (.iconst 2, 1) := by decide +kernel
theorem dL_law_402 : decode cL_law 402 = .ok (.iadd, 1) := by decide +kernel
theorem dL_law_403 : decode cL_law 403 = .ok (.iaload, 1) := by decide +kernel
theorem dL_law_404 : decode cL_law 404 = .ok (.invokevirtual 49, 3) := by decide +kernel
theorem dL_law_407 : decode cL_law 407 = .ok (.aload_n 2, 1) := by decide +kernel
theorem dL_law_408 : decode cL_law 408 = .ok (.aload_n 0, 1) := by decide +kernel
theorem dL_law_409 : decode cL_law 409 = .ok (.iload_n 3, 1) := by decide +kernel
theorem dL_law_410 : decode cL_law 410 = .ok (.iconst 1, 1) := by decide +kernel
theorem dL_law_411 : decode cL_law 411 = .ok (.iadd, 1) := by decide +kernel
theorem dL_law_412 : decode cL_law 412 = .ok (.iaload, 1) := by decide +kernel
theorem dL_law_413 : decode cL_law 413 = .ok (.aload_n 0, 1) := by decide +kernel
theorem dL_law_414 : decode cL_law 414 = .ok (.iload_n 3, 1) := by decide +kernel
theorem dL_law_415 : decode cL_law 415 = .ok (.iconst 2, 1) := by decide +kernel
theorem dL_law_416 : decode cL_law 416 = .ok (.iadd, 1) := by decide +kernel
theorem dL_law_417 : decode cL_law 417 = .ok (.iaload, 1) := by decide +kernel
theorem dL_law_418 : decode cL_law 418 = .ok (.invokevirtual 52, 3) := by decide +kernel
theorem dL_law_421 : decode cL_law 421 = .ok (.if_icmp .eq 239, 3) := by decide +kernel
theorem dL_law_424 : decode cL_law 424 = .ok (.iconst 0, 1) := by decide +kernel
theorem dL_law_425 : decode cL_law 425 = .ok (.ireturn, 1) := by decide +kernel
theorem dL_law_426 : decode cL_law 426 = .ok (.aload_n 1, 1) := by decide +kernel
theorem dL_law_427 : decode cL_law 427 = .ok (.aload_n 0, 1) := by decide +kernel
theorem dL_law_428 : decode cL_law 428 = .ok (.iload_n 3, 1) := by decide +kernel
theorem dL_law_429 : decode cL_law 429 = .ok (.iconst 1, 1) := by decide +kernel
theorem dL_law_430 : decode cL_law 430 = .ok (.iadd, 1) := by decide +kernel
theorem dL_law_431 : decode cL_law 431 = .ok (.iaload, 1) := by decide +kernel
theorem dL_law_432 : decode cL_law 432 = .ok (.aload_n 0, 1) := by decide +kernel
theorem dL_law_433 : decode cL_law 433 = .ok (.iload_n 3, 1) := by decide +kernel
theorem dL_law_434 : decode cL_law 434 = .ok (.iconst 2, 1) := by decide +kernel
theorem dL_law_435 : decode cL_law 435 = .ok (.iadd, 1) := by decide +kernel
theorem dL_law_436 : decode cL_law 436 = .ok (.iaload, 1) := by decide +kernel
theorem dL_law_437 : decode cL_law 437 = .ok (.invokevirtual 53, 3) := by decide +kernel
theorem dL_law_440 : decode cL_law 440 = .ok (.aload_n 2, 1) := by decide +kernel
theorem dL_law_441 : decode cL_law 441 = .ok (.aload_n 0, 1) := by decide +kernel
theorem dL_law_442 : decode cL_law 442 = .ok (.iload_n 3, 1) := by decide +kernel
theorem dL_law_443 : decode cL_law 443 = .ok (.iconst 1, 1) := by decide +kernel
theorem dL_law_444 : decode cL_law 444 = .ok (.iadd, 1) := by decide +kernel
theorem dL_law_445 : decode cL_law 445 = .ok (.iaload, 1) := by decide +kernel
theorem dL_law_446 : decode cL_law 446 = .ok (.aload_n 0, 1) := by decide +kernel
theorem dL_law_447 : decode cL_law 447 = .ok (.iload_n 3, 1) := by decide +kernel
theorem dL_law_448 : decode cL_law 448 = .ok (.iconst 2, 1) := by decide +kernel
theorem dL_law_449 : decode cL_law 449 = .ok (.iadd, 1) := by decide +kernel
theorem dL_law_450 : decode cL_law 450 = .ok (.iaload, 1) := by decide +kernel
theorem dL_law_451 : decode cL_law 451 = .ok (.invokevirtual 56, 3) := by decide +kernel
theorem dL_law_454 : decode cL_law 454 = .ok (.if_icmp .eq 206, 3) := by decide +kernel
theorem dL_law_457 : decode cL_law 457 = .ok (.iconst 0, 1) := by decide +kernel
theorem dL_law_458 : decode cL_law 458 = .ok (.ireturn, 1) := by decide +kernel
theorem dL_law_459 : decode cL_law 459 = .ok (.aload_n 1, 1) := by decide +kernel
theorem dL_law_460 : decode cL_law 460 = .ok (.aload_n 0, 1) := by decide +kernel
theorem dL_law_461 : decode cL_law 461 = .ok (.iload_n 3, 1) := by decide +kernel
theorem dL_law_462 : decode cL_law 462 = .ok (.iconst 1, 1) := by decide +kernel
theorem dL_law_463 : decode cL_law 463 = .ok (.iadd, 1) := by decide +kernel
theorem dL_law_464 : decode cL_law 464 = .ok (.iaload, 1) := by decide +kernel
theorem dL_law_465 : decode cL_law 465 = .ok (.aload_n 0, 1) := by decide +kernel
theorem dL_law_466 : decode cL_law 466 = .ok (.iload_n 3, 1) := by decide +kernel
theorem dL_law_467 : decode cL_law 467 = .ok (.iconst 2, 1) := by decide +kernel
theorem dL_law_468 : decode cL_law 468 = .ok (.iadd, 1) := by decide +kernel
theorem dL_law_469 : decode cL_law 469 = .ok (.iaload, 1) := by decide +kernel
theorem dL_law_470 : decode cL_law 470 = .ok (.invokevirtual 57, 3) := by decide +kernel
theorem dL_law_473 : decode cL_law 473 = .ok (.aload_n 2, 1) := by decide +kernel
theorem dL_law_474 : decode cL_law 474 = .ok (.aload_n 0, 1) := by decide +kernel
theorem dL_law_475 : decode cL_law 475 = .ok (.iload_n 3, 1) := by decide +kernel
theorem dL_law_476 : decode cL_law 476 = .ok (.iconst 1, 1) := by decide +kernel
theorem dL_law_477 : decode cL_law 477 = .ok (.iadd, 1) := by decide +kernel
theorem dL_law_478 : decode cL_law 478 = .ok (.iaload, 1) := by decide +kernel
theorem dL_law_479 : decode cL_law 479 = .ok (.aload_n 0, 1) := by decide +kernel
theorem dL_law_480 : decode cL_law 480 = .ok (.iload_n 3, 1) := by decide +kernel
theorem dL_law_481 : decode cL_law 481 = .ok (.iconst 2, 1) := by decide +kernel
theorem dL_law_482 : decode cL_law 482 = .ok (.iadd, 1) := by decide +kernel
theorem dL_law_483 : decode cL_law 483 = .ok (.iaload, 1) := by decide +kernel
theorem dL_law_484 : decode cL_law 484 = .ok (.invokevirtual 60, 3) := by decide +kernel
theorem dL_law_487 : decode cL_law 487 = .ok (.if_icmp .eq 173, 3) := by decide +kernel
theorem dL_law_490 : decode cL_law 490 = .ok (.iconst 0, 1) := by decide +kernel
theorem dL_law_491 : decode cL_law 491 = .ok (.ireturn, 1) := by decide +kernel
theorem dL_law_492 : decode cL_law 492 = .ok (.aload_n 1, 1) := by decide +kernel
theorem dL_law_493 : decode cL_law 493 = .ok (.aload_n 0, 1) := by decide +kernel
theorem dL_law_494 : decode cL_law 494 = .ok (.iload_n 3, 1) := by decide +kernel
theorem dL_law_495 : decode cL_law 495 = .ok (.iconst 1, 1) := by decide +kernel
theorem dL_law_496 : decode cL_law 496 = .ok (.iadd, 1) := by decide +kernel
theorem dL_law_497 : decode cL_law 497 = .ok (.iaload, 1) := by decide +kernel
theorem dL_law_498 : decode cL_law 498 = .ok (.aload_n 0, 1) := by decide +kernel
theorem dL_law_499 : decode cL_law 499 = .ok (.iload_n 3, 1) := by decide +kernel
theorem dL_law_500 : decode cL_law 500 = .ok (.iconst 2, 1) := by decide +kernel
theorem dL_law_501 : decode cL_law 501 = .ok (.iadd, 1) := by decide +kernel
theorem dL_law_502 : decode cL_law 502 = .ok (.iaload, 1) := by decide +kernel
theorem dL_law_503 : decode cL_law 503 = .ok (.aload_n 0, 1) := by decide +kernel
theorem dL_law_504 : decode cL_law 504 = .ok (.iload_n 3, 1) := by decide +kernel
theorem dL_law_505 : decode cL_law 505 = .ok (.iconst 3, 1) := by decide +kernel
theorem dL_law_506 : decode cL_law 506 = .ok (.iadd, 1) := by decide +kernel
theorem dL_law_507 : decode cL_law 507 = .ok (.iaload, 1) := by decide +kernel
theorem dL_law_508 : decode cL_law 508 = .ok (.invokevirtual 61, 3) := by decide +kernel
theorem dL_law_511 : decode cL_law 511 = .ok (.aload_n 2, 1) := by decide +kernel
theorem dL_law_512 : decode cL_law 512 = .ok (.aload_n 0, 1) := by decide +kernel
theorem dL_law_513 : decode cL_law 513 = .ok (.iload_n 3, 1) := by decide +kernel
theorem dL_law_514 : decode cL_law 514 = .ok (.iconst 1, 1) := by decide +kernel
theorem dL_law_515 : decode cL_law 515 = .ok (.iadd, 1) := by decide +kernel
theorem dL_law_516 : decode cL_law 516 = .ok (.iaload, 1) := by decide +kernel
theorem dL_law_517 : decode cL_law 517 = .ok (.aload_n 0, 1) := by decide +kernel
theorem dL_law_518 : decode cL_law 518 = .ok (.iload_n 3, 1) := by decide +kernel
theorem dL_law_519 : decode cL_law 519 = .ok (.iconst 2, 1) := by decide +kernel
theorem dL_law_520 : decode cL_law 520 = .ok (.iadd, 1) := by decide +kernel
theorem dL_law_521 : decode cL_law 521 = .ok (.iaload, 1) := by decide +kernel
theorem dL_law_522 : decode cL_law 522 = .ok (.aload_n 0, 1) := by decide +kernel
theorem dL_law_523 : decode cL_law 523 = .ok (.iload_n 3, 1) := by decide +kernel
theorem dL_law_524 : decode cL_law 524 = .ok (.iconst 3, 1) := by decide +kernel
theorem dL_law_525 : decode cL_law 525 = .ok (.iadd, 1) := by decide +kernel
theorem dL_law_526 : decode cL_law 526 = .ok (.iaload, 1) := by decide +kernel
theorem dL_law_527 : decode cL_law 527 = .ok (.invokevirtual 64, 3) := by decide +kernel
theorem dL_law_530 : decode cL_law 530 = .ok (.if_icmp .eq 130, 3) := by decide +kernel
theorem dL_law_533 : decode cL_law 533 = .ok (.iconst 0, 1) := by decide +kernel
theorem dL_law_534 : decode cL_law 534 = .ok (.ireturn, 1) := by decide +kernel
theorem dL_law_535 : decode cL_law 535 = .ok (.aload_n 1, 1) := by decide +kernel
theorem dL_law_536 : decode cL_law 536 = .ok (.aload_n 0, 1) := by decide +kernel
theorem dL_law_537 : decode cL_law 537 = .ok (.iload_n 3, 1) := by decide +kernel
theorem dL_law_538 : decode cL_law 538 = .ok (.iconst 1, 1) := by decide +kernel
theorem dL_law_539 : decode cL_law 539 = .ok (.iadd, 1) := by decide +kernel
theorem dL_law_540 : decode cL_law 540 = .ok (.iaload, 1) := by decide +kernel
theorem dL_law_541 : decode cL_law 541 = .ok (.aload_n 0, 1) := by decide +kernel
theorem dL_law_542 : decode cL_law 542 = .ok (.iload_n 3, 1) := by decide +kernel
theorem dL_law_543 : decode cL_law 543 = .ok (.iconst 2, 1) := by decide +kernel
theorem dL_law_544 : decode cL_law 544 = .ok (.iadd, 1) := by decide +kernel
theorem dL_law_545 : decode cL_law 545 = .ok (.iaload, 1) := by decide +kernel
theorem dL_law_546 : decode cL_law 546 = .ok (.aload_n 0, 1) := by decide +kernel
theorem dL_law_547 : decode cL_law 547 = .ok (.iload_n 3, 1) := by decide +kernel
theorem dL_law_548 : decode cL_law 548 = .ok (.iconst 3, 1) := by decide +kernel
theorem dL_law_549 : decode cL_law 549 = .ok (.iadd, 1) := by decide +kernel
theorem dL_law_550 : decode cL_law 550 = .ok (.iaload, 1) := by decide +kernel
theorem dL_law_551 : decode cL_law 551 = .ok (.aload_n 0, 1) := by decide +kernel
theorem dL_law_552 : decode cL_law 552 = .ok (.iload_n 3, 1) := by decide +kernel
theorem dL_law_553 : decode cL_law 553 = .ok (.iconst 4, 1) := by decide +kernel
theorem dL_law_554 : decode cL_law 554 = .ok (.iadd, 1) := by decide +kernel
theorem dL_law_555 : decode cL_law 555 = .ok (.iaload, 1) := by decide +kernel
theorem dL_law_556 : decode cL_law 556 = .ok (.invokevirtual 65, 3) := by decide +kernel
theorem dL_law_559 : decode cL_law 559 = .ok (.aload_n 2, 1) := by decide +kernel
theorem dL_law_560 : decode cL_law 560 = .ok (.aload_n 0, 1) := by decide +kernel
theorem dL_law_561 : decode cL_law 561 = .ok (.iload_n 3, 1) := by decide +kernel
theorem dL_law_562 : decode cL_law 562 = .ok (.iconst 1, 1) := by decide +kernel
theorem dL_law_563 : decode cL_law 563 = .ok (.iadd, 1) := by decide +kernel
theorem dL_law_564 : decode cL_law 564 = .ok (.iaload, 1) := by decide +kernel
theorem dL_law_565 : decode cL_law 565 = .ok (.aload_n 0, 1) := by decide +kernel
theorem dL_law_566 : decode cL_law 566 = .ok (.iload_n 3, 1) := by decide +kernel
theorem dL_law_567 : decode cL_law 567 = .ok (.iconst 2, 1) := by decide +kernel
theorem dL_law_568 : decode cL_law 568 = .ok (.iadd, 1) := by decide +kernel
theorem dL_law_569 : decode cL_law 569 = .ok (.iaload, 1) := by decide +kernel
theorem dL_law_570 : decode cL_law 570 = .ok (.aload_n 0, 1) := by decide +kernel
theorem dL_law_571 : decode cL_law 571 = .ok (.iload_n 3, 1) := by decide +kernel
theorem dL_law_572 : decode cL_law 572 = .ok (.iconst 3, 1) := by decide +kernel
theorem dL_law_573 : decode cL_law 573 = .ok (.iadd, 1) := by decide +kernel
theorem dL_law_574 : decode cL_law 574 = .ok (.iaload, 1) := by decide +kernel
theorem dL_law_575 : decode cL_law 575 = .ok (.aload_n 0, 1) := by decide +kernel
theorem dL_law_576 : decode cL_law 576 = .ok (.iload_n 3, 1) := by decide +kernel
theorem dL_law_577 : decode cL_law 577 = .ok (.iconst 4, 1) := by decide +kernel
theorem dL_law_578 : decode cL_law 578 = .ok (.iadd, 1) := by decide +kernel
theorem dL_law_579 : decode cL_law 579 = .ok (.iaload, 1) := by decide +kernel
theorem dL_law_580 : decode cL_law 580 = .ok (.invokevirtual 69, 3) := by decide +kernel
theorem dL_law_583 : decode cL_law 583 = .ok (.if_icmp .eq 77, 3) := by decide +kernel
theorem dL_law_586 : decode cL_law 586 = .ok (.iconst 0, 1) := by decide +kernel
theorem dL_law_587 : decode cL_law 587 = .ok (.ireturn, 1) := by decide +kernel
theorem dL_law_588 : decode cL_law 588 = .ok (.aload_n 1, 1) := by decide +kernel
theorem dL_law_589 : decode cL_law 589 = .ok (.invokevirtual 70, 3) := by decide +kernel
theorem dL_law_592 : decode cL_law 592 = .ok (.aload_n 2, 1) := by decide +kernel
theorem dL_law_593 : decode cL_law 593 = .ok (.invokevirtual 74, 3) := by decide +kernel
theorem dL_law_596 : decode cL_law 596 = .ok (.if_icmp .eq 64, 3) := by decide +kernel
theorem dL_law_599 : decode cL_law 599 = .ok (.iconst 0, 1) := by decide +kernel
theorem dL_law_600 : decode cL_law 600 = .ok (.ireturn, 1) := by decide +kernel
theorem dL_law_601 : decode cL_law 601 = .ok (.aload_n 1, 1) := by decide +kernel
theorem dL_law_602 : decode cL_law 602 = .ok (.invokevirtual 75, 3) := by decide +kernel
theorem dL_law_605 : decode cL_law 605 = .ok (.aload_n 2, 1) := by decide +kernel
theorem dL_law_606 : decode cL_law 606 = .ok (.invokevirtual 78, 3) := by decide +kernel
theorem dL_law_609 : decode cL_law 609 = .ok (.if_icmp .eq 51, 3) := by decide +kernel
theorem dL_law_612 : decode cL_law 612 = .ok (.iconst 0, 1) := by decide +kernel
theorem dL_law_613 : decode cL_law 613 = .ok (.ireturn, 1) := by decide +kernel
theorem dL_law_614 : decode cL_law 614 = .ok (.aload_n 1, 1) := by decide +kernel
theorem dL_law_615 : decode cL_law 615 = .ok (.aload_n 0, 1) := by decide +kernel
theorem dL_law_616 : decode cL_law 616 = .ok (.iload_n 3, 1) := by decide +kernel
theorem dL_law_617 : decode cL_law 617 = .ok (.iconst 1, 1) := by decide +kernel
theorem dL_law_618 : decode cL_law 618 = .ok (.iadd, 1) := by decide +kernel
theorem dL_law_619 : decode cL_law 619 = .ok (.iaload, 1) := by decide +kernel
theorem dL_law_620 : decode cL_law 620 = .ok (.invokevirtual 79, 3) := by decide +kernel
theorem dL_law_623 : decode cL_law 623 = .ok (.aload_n 2, 1) := by decide +kernel
theorem dL_law_624 : decode cL_law 624 = .ok (.aload_n 0, 1) := by decide +kernel
theorem dL_law_625 : decode cL_law 625 = .ok (.iload_n 3, 1) := by decide +kernel
theorem dL_law_626 : decode cL_law 626 = .ok (.iconst 1, 1) := by decide +kernel
theorem dL_law_627 : decode cL_law 627 = .ok (.iadd, 1) := by decide +kernel
theorem dL_law_628 : decode cL_law 628 = .ok (.iaload, 1) := by decide +kernel
theorem dL_law_629 : decode cL_law 629 = .ok (.invokevirtual 83, 3) := by decide +kernel
theorem dL_law_632 : decode cL_law 632 = .ok (.if_icmp .eq 28, 3) := by decide +kernel
theorem dL_law_635 : decode cL_law 635 = .ok (.iconst 0, 1) := by decide +kernel
theorem dL_law_636 : decode cL_law 636 = .ok (.ireturn, 1) := by decide +kernel
theorem dL_law_637 : decode cL_law 637 = .ok (.aload_n 1, 1) := by decide +kernel
theorem dL_law_638 : decode cL_law 638 = .ok (.aload_n 0, 1) := by decide +kernel
theorem dL_law_639 : decode cL_law 639 = .ok (.iload_n 3, 1) := by decide +kernel
theorem dL_law_640 : decode cL_law 640 = .ok (.iconst 1, 1) := by decide +kernel
theorem dL_law_641 : decode cL_law 641 = .ok (.iadd, 1) := by decide +kernel
theorem dL_law_642 : decode cL_law 642 = .ok (.iaload, 1) := by decide +kernel
theorem dL_law_643 : decode cL_law 643 = .ok (.invokevirtual 84, 3) := by decide +kernel
theorem dL_law_646 : decode cL_law 646 = .ok (.aload_n 2, 1) := by decide +kernel
theorem dL_law_647 : decode cL_law 647 = .ok (.aload_n 0, 1) := by decide +kernel
theorem dL_law_648 : decode cL_law 648 = .ok (.iload_n 3, 1) := by decide +kernel
theorem dL_law_649 : decode cL_law 649 = .ok (.iconst 1, 1) := by decide +kernel
theorem dL_law_650 : decode cL_law 650 = .ok (.iadd, 1) := by decide +kernel
theorem dL_law_651 : decode cL_law 651 = .ok (.iaload, 1) := by decide +kernel
theorem dL_law_652 : decode cL_law 652 = .ok (.invokevirtual 87, 3) := by decide +kernel
theorem dL_law_655 : decode cL_law 655 = .ok (.if_icmp .eq 5, 3) := by decide +kernel
theorem dL_law_658 : decode cL_law 658 = .ok (.iconst 0, 1) := by decide +kernel
theorem dL_law_659 : decode cL_law 659 = .ok (.ireturn, 1) := by decide +kernel
theorem dL_law_660 : decode cL_law 660 = .ok (.iinc 3 5, 3) := by decide +kernel
theorem dL_law_663 : decode cL_law 663 = .ok (.goto (-645), 3) := by decide +kernel
theorem dL_law_666 : decode cL_law 666 = .ok (.iconst 1, 1) := by decide +kernel
theorem dL_law_667 : decode cL_law 667 = .ok (.ireturn, 1) := by decide +kernel
abbrev vwCl : List vw_C := [(RX0, TX0, 1), (RX1, TX1, 6), (RX2, TX2, 16), (RX3, TX3, 30)]

