set_option maxRecDepth 20000 in
theorem gX3_order_X3_in : GoodIn wsX3_order (va_wsS RX3 68 yX3_in wsX3_in) := goodIn_app (goodIn_of _ (by decide +kernel)) ggX3_order_X3_in
set_option maxRecDepth 20000 in
theorem ggX3_order_X3_asksEach : GoodIn wsX3_order wsX3_asksEach := goodIn_r _ [18, 2, 5, 3, 19, 20, 21, 22, 9, 23, 24, 25, 26, 27, 28, 29, 30, 31, 32, 33, 34, 35, 36, 37, 38, 39, 40, 41, 42, 43, 44, 45, 46, 47, 48, 49, 50, 51, 52, 53, 12, 13, 14, 54, 55, 56, 57, 58, 59, 60, 61, 62, 63, 64, 65, 66, 1, 67, 68, 69, 70, 71, 84, 85, 86, 87, 88, 89, 90, 91, 92, 93, 94, 95, 96, 97, 98, 99, 100, 101, 102, 103, 104, 105, 106, 107, 108, 109, 110, 111, 112, 113] (by decide +kernel) (by decide +kernel)
set_option maxRecDepth 20000 in
theorem gX3_order_X3_asksEach : GoodIn wsX3_order (wsV RX3 155 RX3 yX3_asksEach wsX3_asksEach) := goodIn_app (goodIn_of _ (by decide +kernel)) ggX3_order_X3_asksEach
set_option maxRecDepth 20000 in
theorem ggX3_order_X3_ends : GoodIn wsX3_order wsX3_ends := goodIn_r _ [75, 24, 76, 25, 44, 77, 78, 79, 9, 80, 81, 82, 83, 84, 85, 86, 87, 88, 89, 90, 91, 92, 93, 94, 95, 96, 97, 98, 99, 100, 101, 102, 103, 104, 105, 106, 107, 108, 109, 110, 111, 112, 113] (by decide +kernel) (by decide +kernel)
set_option maxRecDepth 20000 in
theorem gX3_order_X3_ends : GoodIn wsX3_order (wsV RX3 149 RX3 yX3_ends wsX3_ends) := goodIn_app (goodIn_of _ (by decide +kernel)) ggX3_order_X3_ends
theorem dX3_order_0 : decode cX3_order 0 = .ok (.aload_n 0, 1) := by decide +kernel
theorem dX3_order_1 : decode cX3_order 1 = .ok (.iload_n 1, 1) := by decide +kernel
theorem dX3_order_2 : decode cX3_order 2 = .ok (.invokevirtual 140, 3) := by decide +kernel
theorem dX3_order_5 : decode cX3_order 5 = .ok (.ifCond .eq 12, 3) := by decide +kernel
theorem dX3_order_8 : decode cX3_order 8 = .ok (.iload_n 2, 1) := by decide +kernel
theorem dX3_order_9 : decode cX3_order 9 = .ok (.iconst 0, 1) := by decide +kernel
theorem dX3_order_10 : decode cX3_order 10 = .ok (.iconst 3, 1) := by decide +kernel
theorem dX3_order_11 : decode cX3_order 11 = .ok (.invokestatic 68, 3) := by decide +kernel
theorem dX3_order_14 : decode cX3_order 14 = .ok (.ifCond .ne 5, 3) := by decide +kernel
theorem dX3_order_17 : decode cX3_order 17 = .ok (.iconst (-1), 1) := by decide +kernel
theorem dX3_order_18 : decode cX3_order 18 = .ok (.ireturn, 1) := by decide +kernel
theorem dX3_order_19 : decode cX3_order 19 = .ok (.aload_n 0, 1) := by decide +kernel
theorem dX3_order_20 : decode cX3_order 20 = .ok (.getfield 13, 3) := by decide +kernel
theorem dX3_order_23 : decode cX3_order 23 = .ok (.iload_n 2, 1) := by decide +kernel
theorem dX3_order_24 : decode cX3_order 24 = .ok (.iaload, 1) := by decide +kernel
theorem dX3_order_25 : decode cX3_order 25 = .ok (.ifCond .ge 6, 3) := by decide +kernel
theorem dX3_order_28 : decode cX3_order 28 = .ok (.bipush (-13), 2) := by decide +kernel
theorem dX3_order_30 : decode cX3_order 30 = .ok (.ireturn, 1) := by decide +kernel
theorem dX3_order_31 : decode cX3_order 31 = .ok (.aload_n 0, 1) := by decide +kernel
theorem dX3_order_32 : decode cX3_order 32 = .ok (.getfield 13, 3) := by decide +kernel
theorem dX3_order_35 : decode cX3_order 35 = .ok (.iload_n 2, 1) := by decide +kernel
theorem dX3_order_36 : decode cX3_order 36 = .ok (.iaload, 1) := by decide +kernel
theorem dX3_order_37 : decode cX3_order 37 = .ok (.istore_n 3, 1) := by decide +kernel
theorem dX3_order_38 : decode cX3_order 38 = .ok (.iconst 0, 1) := by decide +kernel
theorem dX3_order_39 : decode cX3_order 39 = .ok (.istore 4, 2) := by decide +kernel
theorem dX3_order_41 : decode cX3_order 41 = .ok (.aload_n 0, 1) := by decide +kernel
theorem dX3_order_42 : decode cX3_order 42 = .ok (.iload_n 1, 1) := by decide +kernel
theorem dX3_order_43 : decode cX3_order 43 = .ok (.iload_n 3, 1) := by decide +kernel
theorem dX3_order_44 : decode cX3_order 44 = .ok (.invokevirtual 155, 3) := by decide +kernel
theorem dX3_order_47 : decode cX3_order 47 = .ok (.ifCond .eq 172, 3) := by decide +kernel
theorem dX3_order_50 : decode cX3_order 50 = .ok (.iconst 0, 1) := by decide +kernel
theorem dX3_order_51 : decode cX3_order 51 = .ok (.istore 5, 2) := by decide +kernel
theorem dX3_order_53 : decode cX3_order 53 = .ok (.iload 5, 2) := by decide +kernel
theorem dX3_order_55 : decode cX3_order 55 = .ok (.aload_n 0, 1) := by decide +kernel
theorem dX3_order_56 : decode cX3_order 56 = .ok (.getfield 16, 3) := by decide +kernel
theorem dX3_order_59 : decode cX3_order 59 = .ok (.iload_n 3, 1) := by decide +kernel
theorem dX3_order_60 : decode cX3_order 60 = .ok (.iaload, 1) := by decide +kernel
theorem dX3_order_61 : decode cX3_order 61 = .ok (.if_icmp .ge 119, 3) := by decide +kernel
theorem dX3_order_64 : decode cX3_order 64 = .ok (.iconst 0, 1) := by decide +kernel
theorem dX3_order_65 : decode cX3_order 65 = .ok (.istore 6, 2) := by decide +kernel
theorem dX3_order_67 : decode cX3_order 67 = .ok (.iconst 0, 1) := by decide +kernel
theorem dX3_order_68 : decode cX3_order 68 = .ok (.istore 7, 2) := by decide +kernel
theorem dX3_order_70 : decode cX3_order 70 = .ok (.iload 7, 2) := by decide +kernel
theorem dX3_order_72 : decode cX3_order 72 = .ok (.aload_n 0, 1) := by decide +kernel
theorem dX3_order_73 : decode cX3_order 73 = .ok (.getfield 16, 3) := by decide +kernel
theorem dX3_order_76 : decode cX3_order 76 = .ok (.iload_n 3, 1) := by decide +kernel
theorem dX3_order_77 : decode cX3_order 77 = .ok (.iaload, 1) := by decide +kernel
theorem dX3_order_78 : decode cX3_order 78 = .ok (.if_icmp .ge 60, 3) := by decide +kernel
theorem dX3_order_81 : decode cX3_order 81 = .ok (.iload 6, 2) := by decide +kernel
theorem dX3_order_83 : decode cX3_order 83 = .ok (.aload_n 0, 1) := by decide +kernel
theorem dX3_order_84 : decode cX3_order 84 = .ok (.getfield 56, 3) := by decide +kernel
theorem dX3_order_87 : decode cX3_order 87 = .ok (.iload 7, 2) := by decide +kernel
theorem dX3_order_89 : decode cX3_order 89 = .ok (.iaload, 1) := by decide +kernel
theorem dX3_order_90 : decode cX3_order 90 = .ok (.aload_n 0, 1) := by decide +kernel
theorem dX3_order_91 : decode cX3_order 91 = .ok (.getfield 56, 3) := by decide +kernel
theorem dX3_order_94 : decode cX3_order 94 = .ok (.iload 5, 2) := by decide +kernel
theorem dX3_order_96 : decode cX3_order 96 = .ok (.iaload, 1) := by decide +kernel
theorem dX3_order_97 : decode cX3_order 97 = .ok (.if_icmp .lt 27, 3) := by decide +kernel
theorem dX3_order_100 : decode cX3_order 100 = .ok (.aload_n 0, 1) := by decide +kernel
theorem dX3_order_101 : decode cX3_order 101 = .ok (.getfield 56, 3) := by decide +kernel
theorem dX3_order_104 : decode cX3_order 104 = .ok (.iload 7, 2) := by decide +kernel
theorem dX3_order_106 : decode cX3_order 106 = .ok (.iaload, 1) := by decide +kernel
theorem dX3_order_107 : decode cX3_order 107 = .ok (.aload_n 0, 1) := by decide +kernel
theorem dX3_order_108 : decode cX3_order 108 = .ok (.getfield 56, 3) := by decide +kernel
theorem dX3_order_111 : decode cX3_order 111 = .ok (.iload 5, 2) := by decide +kernel
theorem dX3_order_113 : decode cX3_order 113 = .ok (.iaload, 1) := by decide +kernel
theorem dX3_order_114 : decode cX3_order 114 = .ok (.if_icmp .ne 14, 3) := by decide +kernel
theorem dX3_order_117 : decode cX3_order 117 = .ok (.iload 7, 2) := by decide +kernel
theorem dX3_order_119 : decode cX3_order 119 = .ok (.iload 5, 2) := by decide +kernel
theorem dX3_order_121 : decode cX3_order 121 = .ok (.if_icmp .ge 7, 3) := by decide +kernel
theorem dX3_order_124 : decode cX3_order 124 = .ok (.iconst 1, 1) := by decide +kernel
theorem dX3_order_125 : decode cX3_order 125 = .ok (.goto 4, 3) := by decide +kernel
theorem dX3_order_128 : decode cX3_order 128 = .ok (.iconst 0, 1) := by decide +kernel
theorem dX3_order_129 : decode cX3_order 129 = .ok (.iadd, 1) := by decide +kernel
theorem dX3_order_130 : decode cX3_order 130 = .ok (.istore 6, 2) := by decide +kernel
theorem dX3_order_132 : decode cX3_order 132 = .ok (.iinc 7 1, 3) := by decide +kernel
theorem dX3_order_135 : decode cX3_order 135 = .ok (.goto (-65), 3) := by decide +kernel
theorem dX3_order_138 : decode cX3_order 138 = .ok (.aload_n 0, 1) := by decide +kernel
theorem dX3_order_139 : decode cX3_order 139 = .ok (.getfield 62, 3) := by decide +kernel
theorem dX3_order_142 : decode cX3_order 142 = .ok (.iload 6, 2) := by decide +kernel
theorem dX3_order_144 : decode cX3_order 144 = .ok (.aload_n 0, 1) := by decide +kernel
theorem dX3_order_145 : decode cX3_order 145 = .ok (.getfield 19, 3) := by decide +kernel
theorem dX3_order_148 : decode cX3_order 148 = .ok (.bipush 10, 2) := by decide +kernel
theorem dX3_order_150 : decode cX3_order 150 = .ok (.iload_n 3, 1) := by decide +kernel
theorem dX3_order_151 : decode cX3_order 151 = .ok (.imul, 1) := by decide +kernel
theorem dX3_order_152 : decode cX3_order 152 = .ok (.iload 5, 2) := by decide +kernel
theorem dX3_order_154 : decode cX3_order 154 = .ok (.iadd, 1) := by decide +kernel
theorem dX3_order_155 : decode cX3_order 155 = .ok (.iaload, 1) := by decide +kernel
theorem dX3_order_156 : decode cX3_order 156 = .ok (.iastore, 1) := by decide +kernel
theorem dX3_order_157 : decode cX3_order 157 = .ok (.iload 4, 2) := by decide +kernel
theorem dX3_order_159 : decode cX3_order 159 = .ok (.iload 6, 2) := by decide +kernel
theorem dX3_order_161 : decode cX3_order 161 = .ok (.iload 5, 2) := by decide +kernel
theorem dX3_order_163 : decode cX3_order 163 = .ok (.if_icmp .ne 7, 3) := by decide +kernel
theorem dX3_order_166 : decode cX3_order 166 = .ok (.iconst 0, 1) := by decide +kernel
theorem dX3_order_167 : decode cX3_order 167 = .ok (.goto 4, 3) := by decide +kernel
theorem dX3_order_170 : decode cX3_order 170 = .ok (.iconst 1, 1) := by decide +kernel
theorem dX3_order_171 : decode cX3_order 171 = .ok (.iadd, 1) := by decide +kernel
theorem dX3_order_172 : decode cX3_order 172 = .ok (.istore 4, 2) := by decide +kernel
theorem dX3_order_174 : decode cX3_order 174 = .ok (.iinc 5 1, 3) := by decide +kernel
theorem dX3_order_177 : decode cX3_order 177 = .ok (.goto (-124), 3) := by decide +kernel
theorem dX3_order_180 : decode cX3_order 180 = .ok (.iconst 0, 1) := by decide +kernel
theorem dX3_order_181 : decode cX3_order 181 = .ok (.istore 5, 2) := by decide +kernel
theorem dX3_order_183 : decode cX3_order 183 = .ok (.iload 5, 2) := by decide +kernel
theorem dX3_order_185 : decode cX3_order 185 = .ok (.aload_n 0, 1) := by decide +kernel
theorem dX3_order_186 : decode cX3_order 186 = .ok (.getfield 16, 3) := by decide +kernel
theorem dX3_order_189 : decode cX3_order 189 = .ok (.iload_n 3, 1) := by decide +kernel
theorem dX3_order_190 : decode cX3_order 190 = .ok (.iaload, 1) := by decide +kernel
theorem dX3_order_191 : decode cX3_order 191 = .ok (.if_icmp .ge 28, 3) := by decide +kernel
theorem dX3_order_194 : decode cX3_order 194 = .ok (.aload_n 0, 1) := by decide +kernel
theorem dX3_order_195 : decode cX3_order 195 = .ok (.getfield 19, 3) := by decide +kernel
theorem dX3_order_198 : decode cX3_order 198 = .ok (.bipush 10, 2) := by decide +kernel
theorem dX3_order_200 : decode cX3_order 200 = .ok (.iload_n 3, 1) := by decide +kernel
theorem dX3_order_201 : decode cX3_order 201 = .ok (.imul, 1) := by decide +kernel
theorem dX3_order_202 : decode cX3_order 202 = .ok (.iload 5, 2) := by decide +kernel
theorem dX3_order_204 : decode cX3_order 204 = .ok (.iadd, 1) := by decide +kernel
theorem dX3_order_205 : decode cX3_order 205 = .ok (.aload_n 0, 1) := by decide +kernel
theorem dX3_order_206 : decode cX3_order 206 = .ok (.getfield 62, 3) := by decide +kernel
theorem dX3_order_209 : decode cX3_order 209 = .ok (.iload 5, 2) := by decide +kernel
theorem dX3_order_211 : decode cX3_order 211 = .ok (.iaload, 1) := by decide +kernel
theorem dX3_order_212 : decode cX3_order 212 = .ok (.iastore, 1) := by decide +kernel
theorem dX3_order_213 : decode cX3_order 213 = .ok (.iinc 5 1, 3) := by decide +kernel
theorem dX3_order_216 : decode cX3_order 216 = .ok (.goto (-33), 3) := by decide +kernel
theorem dX3_order_219 : decode cX3_order 219 = .ok (.aload_n 0, 1) := by decide +kernel
theorem dX3_order_220 : decode cX3_order 220 = .ok (.iload 4, 2) := by decide +kernel
theorem dX3_order_222 : decode cX3_order 222 = .ok (.invokevirtual 149, 3) := by decide +kernel
theorem dX3_order_225 : decode cX3_order 225 = .ok (.ireturn, 1) := by decide +kernel
set_option maxRecDepth 20000 in
theorem ggX3_fold_X3_in : GoodIn wsX3_fold wsX3_in := goodIn_r _ [8] (by decide +kernel) (by decide +kernel)
set_option maxRecDepth 20000 in
theorem gX3_fold_X3_in : GoodIn wsX3_fold (va_wsS RX3 68 yX3_in wsX3_in) := goodIn_app (goodIn_of _ (by decide +kernel)) ggX3_fold_X3_in
set_option maxRecDepth 20000 in
theorem ggX3_fold_X3_failed : GoodIn wsX3_fold wsX3_failed := goodIn_r _ [12, 13, 14, 15, 16, 17, 18, 19, 20, 21, 22, 23, 24, 25, 26, 27, 28, 29, 30, 31, 32, 33, 34, 35, 36, 37, 38, 39, 40, 41, 42, 43, 44, 45] (by decide +kernel) (by decide +kernel)
set_option maxRecDepth 20000 in
theorem gX3_fold_X3_failed : GoodIn wsX3_fold (wsV RX3 131 RX3 yX3_failed wsX3_failed) := goodIn_app (goodIn_of _ (by decide +kernel)) ggX3_fold_X3_failed
theorem dX3_fold_0 : decode cX3_fold 0 = .ok (.iload_n 1, 1) := by decide +kernel
theorem dX3_fold_1 : decode cX3_fold 1 = .ok (.iconst 0, 1) := by decide +kernel
theorem dX3_fold_2 : decode cX3_fold 2 = .ok (.iconst 4, 1) := by decide +kernel
theorem dX3_fold_3 : decode cX3_fold 3 = .ok (.invokestatic 68, 3) := by decide +kernel
theorem dX3_fold_6 : decode cX3_fold 6 = .ok (.ifCond .eq 12, 3) := by decide +kernel
theorem dX3_fold_9 : decode cX3_fold 9 = .ok (.iload_n 2, 1) := by decide +kernel
theorem dX3_fold_10 : decode cX3_fold 10 = .ok (.iconst 0, 1) := by decide +kernel
theorem dX3_fold_11 : decode cX3_fold 11 = .ok (.iconst 3, 1) := by decide +kernel
theorem dX3_fold_12 : decode cX3_fold 12 = .ok (.invokestatic 68, 3) := by decide +kernel
theorem dX3_fold_15 : decode cX3_fold 15 = .ok (.ifCond .ne 5, 3) := by decide +kernel
theorem dX3_fold_18 : decode cX3_fold 18 = .ok (.iconst (-1), 1) := by decide +kernel
theorem dX3_fold_19 : decode cX3_fold 19 = .ok (.ireturn, 1) := by decide +kernel
theorem dX3_fold_20 : decode cX3_fold 20 = .ok (.aload_n 0, 1) := by decide +kernel
theorem dX3_fold_21 : decode cX3_fold 21 = .ok (.getfield 13, 3) := by decide +kernel
theorem dX3_fold_24 : decode cX3_fold 24 = .ok (.iload_n 2, 1) := by decide +kernel
theorem dX3_fold_25 : decode cX3_fold 25 = .ok (.iaload, 1) := by decide +kernel
theorem dX3_fold_26 : decode cX3_fold 26 = .ok (.ifCond .ge 6, 3) := by decide +kernel
theorem dX3_fold_29 : decode cX3_fold 29 = .ok (.bipush (-13), 2) := by decide +kernel
theorem dX3_fold_31 : decode cX3_fold 31 = .ok (.ireturn, 1) := by decide +kernel
theorem dX3_fold_32 : decode cX3_fold 32 = .ok (.aload_n 0, 1) := by decide +kernel
theorem dX3_fold_33 : decode cX3_fold 33 = .ok (.getfield 13, 3) := by decide +kernel
theorem dX3_fold_36 : decode cX3_fold 36 = .ok (.iload_n 2, 1) := by decide +kernel
theorem dX3_fold_37 : decode cX3_fold 37 = .ok (.iaload, 1) := by decide +kernel
theorem dX3_fold_38 : decode cX3_fold 38 = .ok (.istore 4, 2) := by decide +kernel
theorem dX3_fold_40 : decode cX3_fold 40 = .ok (.iload_n 3, 1) := by decide +kernel
theorem dX3_fold_41 : decode cX3_fold 41 = .ok (.istore 5, 2) := by decide +kernel
theorem dX3_fold_43 : decode cX3_fold 43 = .ok (.iconst 0, 1) := by decide +kernel
theorem dX3_fold_44 : decode cX3_fold 44 = .ok (.istore 6, 2) := by decide +kernel
theorem dX3_fold_46 : decode cX3_fold 46 = .ok (.iload 6, 2) := by decide +kernel
theorem dX3_fold_48 : decode cX3_fold 48 = .ok (.aload_n 0, 1) := by decide +kernel
theorem dX3_fold_49 : decode cX3_fold 49 = .ok (.getfield 16, 3) := by decide +kernel
theorem dX3_fold_52 : decode cX3_fold 52 = .ok (.iload 4, 2) := by decide +kernel
theorem dX3_fold_54 : decode cX3_fold 54 = .ok (.iaload, 1) := by decide +kernel
theorem dX3_fold_55 : decode cX3_fold 55 = .ok (.if_icmp .ge 112, 3) := by decide +kernel
theorem dX3_fold_58 : decode cX3_fold 58 = .ok (.aload_n 0, 1) := by decide +kernel
theorem dX3_fold_59 : decode cX3_fold 59 = .ok (.getfield 19, 3) := by decide +kernel
theorem dX3_fold_62 : decode cX3_fold 62 = .ok (.bipush 10, 2) := by decide +kernel
theorem dX3_fold_64 : decode cX3_fold 64 = .ok (.iload 4, 2) := by decide +kernel
theorem dX3_fold_66 : decode cX3_fold 66 = .ok (.imul, 1) := by decide +kernel
theorem dX3_fold_67 : decode cX3_fold 67 = .ok (.iload 6, 2) := by decide +kernel
theorem dX3_fold_69 : decode cX3_fold 69 = .ok (.iadd, 1) := by decide +kernel
theorem dX3_fold_70 : decode cX3_fold 70 = .ok (.iaload, 1) := by decide +kernel
theorem dX3_fold_71 : decode cX3_fold 71 = .ok (.istore 7, 2) := by decide +kernel
theorem dX3_fold_73 : decode cX3_fold 73 = .ok (.iload_n 1, 1) := by decide +kernel
theorem dX3_fold_74 : decode cX3_fold 74 = .ok (.iconst 4, 1) := by decide +kernel
theorem dX3_fold_75 : decode cX3_fold 75 = .ok (.if_icmp .ne 16, 3) := by decide +kernel
theorem dX3_fold_78 : decode cX3_fold 78 = .ok (.iload 7, 2) := by decide +kernel
theorem dX3_fold_80 : decode cX3_fold 80 = .ok (.ifCond .ne 11, 3) := by decide +kernel
theorem dX3_fold_83 : decode cX3_fold 83 = .ok (.aload_n 0, 1) := by decide +kernel
theorem dX3_fold_84 : decode cX3_fold 84 = .ok (.iconst 1, 1) := by decide +kernel
theorem dX3_fold_85 : decode cX3_fold 85 = .ok (.iconst (-1), 1) := by decide +kernel
theorem dX3_fold_86 : decode cX3_fold 86 = .ok (.iconst 0, 1) := by decide +kernel
theorem dX3_fold_87 : decode cX3_fold 87 = .ok (.invokevirtual 131, 3) := by decide +kernel
theorem dX3_fold_90 : decode cX3_fold 90 = .ok (.ireturn, 1) := by decide +kernel
theorem dX3_fold_91 : decode cX3_fold 91 = .ok (.iload_n 1, 1) := by decide +kernel
theorem dX3_fold_92 : decode cX3_fold 92 = .ok (.ifCond .ne 11, 3) := by decide +kernel
theorem dX3_fold_95 : decode cX3_fold 95 = .ok (.iload 5, 2) := by decide +kernel
theorem dX3_fold_97 : decode cX3_fold 97 = .ok (.iload 7, 2) := by decide +kernel
theorem dX3_fold_99 : decode cX3_fold 99 = .ok (.iadd, 1) := by decide +kernel
theorem dX3_fold_100 : decode cX3_fold 100 = .ok (.goto 59, 3) := by decide +kernel
theorem dX3_fold_103 : decode cX3_fold 103 = .ok (.iload_n 1, 1) := by decide +kernel
theorem dX3_fold_104 : decode cX3_fold 104 = .ok (.iconst 1, 1) := by decide +kernel
theorem dX3_fold_105 : decode cX3_fold 105 = .ok (.if_icmp .ne 20, 3) := by decide +kernel
theorem dX3_fold_108 : decode cX3_fold 108 = .ok (.iload 5, 2) := by decide +kernel
theorem dX3_fold_110 : decode cX3_fold 110 = .ok (.iload 7, 2) := by decide +kernel
theorem dX3_fold_112 : decode cX3_fold 112 = .ok (.if_icmp .le 8, 3) := by decide +kernel
theorem dX3_fold_115 : decode cX3_fold 115 = .ok (.iload 5, 2) := by decide +kernel
theorem dX3_fold_117 : decode cX3_fold 117 = .ok (.goto 42, 3) := by decide +kernel
theorem dX3_fold_120 : decode cX3_fold 120 = .ok (.iload 7, 2) := by decide +kernel
theorem dX3_fold_122 : decode cX3_fold 122 = .ok (.goto 37, 3) := by decide +kernel
theorem dX3_fold_125 : decode cX3_fold 125 = .ok (.iload_n 1, 1) := by decide +kernel
theorem dX3_fold_126 : decode cX3_fold 126 = .ok (.iconst 2, 1) := by decide +kernel
theorem dX3_fold_127 : decode cX3_fold 127 = .ok (.if_icmp .ne 14, 3) := by decide +kernel
theorem dX3_fold_130 : decode cX3_fold 130 = .ok (.bipush 31, 2) := by decide +kernel
theorem dX3_fold_132 : decode cX3_fold 132 = .ok (.iload 5, 2) := by decide +kernel
theorem dX3_fold_134 : decode cX3_fold 134 = .ok (.imul, 1) := by decide +kernel
theorem dX3_fold_135 : decode cX3_fold 135 = .ok (.iload 7, 2) := by decide +kernel
theorem dX3_fold_137 : decode cX3_fold 137 = .ok (.iadd, 1) := by decide +kernel
theorem dX3_fold_138 : decode cX3_fold 138 = .ok (.goto 21, 3) := by decide +kernel
theorem dX3_fold_141 : decode cX3_fold 141 = .ok (.iload_n 1, 1) := by decide +kernel
theorem dX3_fold_142 : decode cX3_fold 142 = .ok (.iconst 3, 1) := by decide +kernel
theorem dX3_fold_143 : decode cX3_fold 143 = .ok (.if_icmp .ne 11, 3) := by decide +kernel
theorem dX3_fold_146 : decode cX3_fold 146 = .ok (.iload 7, 2) := by decide +kernel
theorem dX3_fold_148 : decode cX3_fold 148 = .ok (.iload 5, 2) := by decide +kernel
theorem dX3_fold_150 : decode cX3_fold 150 = .ok (.isub, 1) := by decide +kernel
theorem dX3_fold_151 : decode cX3_fold 151 = .ok (.goto 8, 3) := by decide +kernel
theorem dX3_fold_154 : decode cX3_fold 154 = .ok (.iload 5, 2) := by decide +kernel
theorem dX3_fold_156 : decode cX3_fold 156 = .ok (.iload 7, 2) := by decide +kernel
theorem dX3_fold_158 : decode cX3_fold 158 = .ok (.idiv, 1) := by decide +kernel
theorem dX3_fold_159 : decode cX3_fold 159 = .ok (.istore 5, 2) := by decide +kernel
theorem dX3_fold_161 : decode cX3_fold 161 = .ok (.iinc 6 1, 3) := by decide +kernel
theorem dX3_fold_164 : decode cX3_fold 164 = .ok (.goto (-118), 3) := by decide +kernel
theorem dX3_fold_167 : decode cX3_fold 167 = .ok (.aload_n 0, 1) := by decide +kernel
theorem dX3_fold_168 : decode cX3_fold 168 = .ok (.iload 5, 2) := by decide +kernel
theorem dX3_fold_170 : decode cX3_fold 170 = .ok (.putfield 152, 3) := by decide +kernel
theorem dX3_fold_173 : decode cX3_fold 173 = .ok (.iconst 1, 1) := by decide +kernel
theorem dX3_fold_174 : decode cX3_fold 174 = .ok (.ireturn, 1) := by decide +kernel
set_option maxRecDepth 20000 in
theorem ggX3_until_X3_isRule : GoodIn wsX3_until wsX3_isRule := goodIn_r _ [8, 9, 10, 11, 7, 12, 79, 80, 81, 82, 83, 84, 85, 86, 87, 88, 89, 90, 91, 92, 93, 94, 95, 96, 97, 98, 99, 100, 101, 102, 103, 104, 105, 106, 107, 108] (by decide +kernel) (by decide +kernel)
set_option maxRecDepth 20000 in
theorem gX3_until_X3_isRule : GoodIn wsX3_until (wsV RX3 140 RX3 yX3_isRule wsX3_isRule) := goodIn_app (goodIn_of _ (by decide +kernel)) ggX3_until_X3_isRule
set_option maxRecDepth 20000 in
theorem ggX3_until_X3_in : GoodIn wsX3_until wsX3_in := goodIn_r _ [12] (by decide +kernel) (by decide +kernel)
set_option maxRecDepth 20000 in
theorem gX3_until_X3_in : GoodIn wsX3_until (va_wsS RX3 68 yX3_in wsX3_in) := goodIn_app (goodIn_of _ (by decide +kernel)) ggX3_until_X3_in
set_option maxRecDepth 20000 in
theorem ggX3_until_X3_startsCall : GoodIn wsX3_until wsX3_startsCall := goodIn_r _ [16, 17, 2, 79, 80, 81, 82, 83, 84, 85, 86, 87, 88, 89, 90, 91, 92, 93, 94, 95, 96, 97, 98, 99, 100, 101, 102, 103, 104, 105, 106, 107, 108] (by decide +kernel) (by decide +kernel)
set_option maxRecDepth 20000 in
theorem gX3_until_X3_startsCall : GoodIn wsX3_until (wsV RX3 143 RX3 yX3_startsCall wsX3_startsCall) := goodIn_app (goodIn_of _ (by decide +kernel)) ggX3_until_X3_startsCall
set_option maxRecDepth 20000 in
theorem ggX3_until_X3_gives : GoodIn wsX3_until wsX3_gives := goodIn_r _ [21, 22, 2, 23, 24, 1, 25, 26, 27, 28, 7, 29, 17, 30, 31, 32, 33, 34, 35, 36, 37, 38, 39, 40, 41, 42, 43, 44, 45, 10, 11, 12, 46, 47, 48, 49, 50, 51, 52, 53, 54, 55, 56, 57, 58, 59, 60, 61, 62, 63, 64, 65, 66, 79, 80, 81, 82, 83, 84, 85, 86, 87, 88, 89, 90, 91, 92, 93, 94, 95, 96, 97, 98, 99, 100, 101, 102, 103, 104, 105, 106, 107, 108] (by decide +kernel) (by decide +kernel)
set_option maxRecDepth 20000 in
theorem gX3_until_X3_gives : GoodIn wsX3_until (wsV RX3 146 RX3 yX3_gives wsX3_gives) := goodIn_app (goodIn_of _ (by decide +kernel)) ggX3_until_X3_gives
set_option maxRecDepth 20000 in
theorem ggX3_until_X3_ends : GoodIn wsX3_until wsX3_ends := goodIn_r _ [70, 17, 71, 2, 36, 72, 73, 74, 7, 75, 76, 77, 78, 79, 80, 81, 82, 83, 84, 85, 86, 87, 88, 89, 90, 91, 92, 93, 94, 95, 96, 97, 98, 99, 100, 101, 102, 103, 104, 105, 106, 107, 108] (by decide +kernel) (by decide +kernel)
set_option maxRecDepth 20000 in
theorem gX3_until_X3_ends : GoodIn wsX3_until (wsV RX3 149 RX3 yX3_ends wsX3_ends) := goodIn_app (goodIn_of _ (by decide +kernel)) ggX3_until_X3_ends
theorem dX3_until_0 : decode cX3_until 0 = .ok (.aload_n 0, 1) := by decide +kernel
theorem dX3_until_1 : decode cX3_until 1 = .ok (.iload_n 1, 1) := by decide +kernel
theorem dX3_until_2 : decode cX3_until 2 = .ok (.invokevirtual 140, 3) := by decide +kernel
theorem dX3_until_5 : decode cX3_until 5 = .ok (.ifCond .eq 22, 3) := by decide +kernel
theorem dX3_until_8 : decode cX3_until 8 = .ok (.aload_n 0, 1) := by decide +kernel
theorem dX3_until_9 : decode cX3_until 9 = .ok (.iload_n 2, 1) := by decide +kernel
theorem dX3_until_10 : decode cX3_until 10 = .ok (.invokevirtual 140, 3) := by decide +kernel
theorem dX3_until_13 : decode cX3_until 13 = .ok (.ifCond .eq 14, 3) := by decide +kernel
theorem dX3_until_16 : decode cX3_until 16 = .ok (.iload 4, 2) := by decide +kernel
theorem dX3_until_18 : decode cX3_until 18 = .ok (.iconst 1, 1) := by decide +kernel
theorem dX3_until_19 : decode cX3_until 19 = .ok (.bipush 30, 2) := by decide +kernel
theorem dX3_until_21 : decode cX3_until 21 = .ok (.invokestatic 68, 3) := by decide +kernel
theorem dX3_until_24 : decode cX3_until 24 = .ok (.ifCond .ne 5, 3) := by decide +kernel
theorem dX3_until_27 : decode cX3_until 27 = .ok (.iconst (-1), 1) := by decide +kernel
theorem dX3_until_28 : decode cX3_until 28 = .ok (.ireturn, 1) := by decide +kernel
theorem dX3_until_29 : decode cX3_until 29 = .ok (.aload_n 0, 1) := by decide +kernel
theorem dX3_until_30 : decode cX3_until 30 = .ok (.invokevirtual 143, 3) := by decide +kernel
theorem dX3_until_33 : decode cX3_until 33 = .ok (.iload_n 3, 1) := by decide +kernel
theorem dX3_until_34 : decode cX3_until 34 = .ok (.istore 5, 2) := by decide +kernel
theorem dX3_until_36 : decode cX3_until 36 = .ok (.iconst 0, 1) := by decide +kernel
theorem dX3_until_37 : decode cX3_until 37 = .ok (.istore 6, 2) := by decide +kernel
theorem dX3_until_39 : decode cX3_until 39 = .ok (.iconst 1, 1) := by decide +kernel
theorem dX3_until_40 : decode cX3_until 40 = .ok (.istore 7, 2) := by decide +kernel
theorem dX3_until_42 : decode cX3_until 42 = .ok (.iload 7, 2) := by decide +kernel
theorem dX3_until_44 : decode cX3_until 44 = .ok (.ifCond .eq 60, 3) := by decide +kernel
theorem dX3_until_47 : decode cX3_until 47 = .ok (.iload 6, 2) := by decide +kernel
theorem dX3_until_49 : decode cX3_until 49 = .ok (.iload 4, 2) := by decide +kernel
theorem dX3_until_51 : decode cX3_until 51 = .ok (.if_icmp .ge 53, 3) := by decide +kernel
theorem dX3_until_54 : decode cX3_until 54 = .ok (.aload_n 0, 1) := by decide +kernel
theorem dX3_until_55 : decode cX3_until 55 = .ok (.iload_n 1, 1) := by decide +kernel
theorem dX3_until_56 : decode cX3_until 56 = .ok (.iload 5, 2) := by decide +kernel
theorem dX3_until_58 : decode cX3_until 58 = .ok (.invokevirtual 146, 3) := by decide +kernel
theorem dX3_until_61 : decode cX3_until 61 = .ok (.istore 7, 2) := by decide +kernel
theorem dX3_until_63 : decode cX3_until 63 = .ok (.iload 7, 2) := by decide +kernel
theorem dX3_until_65 : decode cX3_until 65 = .ok (.ifCond .eq (-23), 3) := by decide +kernel
theorem dX3_until_68 : decode cX3_until 68 = .ok (.aload_n 0, 1) := by decide +kernel
theorem dX3_until_69 : decode cX3_until 69 = .ok (.getfield 109, 3) := by decide +kernel
theorem dX3_until_72 : decode cX3_until 72 = .ok (.istore 5, 2) := by decide +kernel
theorem dX3_until_74 : decode cX3_until 74 = .ok (.iinc 6 1, 3) := by decide +kernel
theorem dX3_until_77 : decode cX3_until 77 = .ok (.aload_n 0, 1) := by decide +kernel
theorem dX3_until_78 : decode cX3_until 78 = .ok (.iload_n 2, 1) := by decide +kernel
theorem dX3_until_79 : decode cX3_until 79 = .ok (.iload 5, 2) := by decide +kernel
theorem dX3_until_81 : decode cX3_until 81 = .ok (.invokevirtual 146, 3) := by decide +kernel
theorem dX3_until_84 : decode cX3_until 84 = .ok (.ifCond .eq 14, 3) := by decide +kernel
theorem dX3_until_87 : decode cX3_until 87 = .ok (.aload_n 0, 1) := by decide +kernel
theorem dX3_until_88 : decode cX3_until 88 = .ok (.getfield 109, 3) := by decide +kernel
theorem dX3_until_91 : decode cX3_until 91 = .ok (.ifCond .eq 7, 3) := by decide +kernel
theorem dX3_until_94 : decode cX3_until 94 = .ok (.iconst 1, 1) := by decide +kernel
theorem dX3_until_95 : decode cX3_until 95 = .ok (.goto 4, 3) := by decide +kernel
theorem dX3_until_98 : decode cX3_until 98 = .ok (.iconst 0, 1) := by decide +kernel
theorem dX3_until_99 : decode cX3_until 99 = .ok (.istore 7, 2) := by decide +kernel
theorem dX3_until_101 : decode cX3_until 101 = .ok (.goto (-59), 3) := by decide +kernel
theorem dX3_until_104 : decode cX3_until 104 = .ok (.aload_n 0, 1) := by decide +kernel
theorem dX3_until_105 : decode cX3_until 105 = .ok (.getfield 95, 3) := by decide +kernel
theorem dX3_until_108 : decode cX3_until 108 = .ok (.ifCond .ne 9, 3) := by decide +kernel
theorem dX3_until_111 : decode cX3_until 111 = .ok (.aload_n 0, 1) := by decide +kernel
theorem dX3_until_112 : decode cX3_until 112 = .ok (.iload 5, 2) := by decide +kernel
theorem dX3_until_114 : decode cX3_until 114 = .ok (.putfield 152, 3) := by decide +kernel
theorem dX3_until_117 : decode cX3_until 117 = .ok (.aload_n 0, 1) := by decide +kernel
theorem dX3_until_118 : decode cX3_until 118 = .ok (.iload 6, 2) := by decide +kernel
theorem dX3_until_120 : decode cX3_until 120 = .ok (.invokevirtual 149, 3) := by decide +kernel
theorem dX3_until_123 : decode cX3_until 123 = .ok (.ireturn, 1) := by decide +kernel
theorem dX3_result_0 : decode cX3_result 0 = .ok (.aload_n 0, 1) := by decide +kernel
theorem dX3_result_1 : decode cX3_result 1 = .ok (.getfield 152, 3) := by decide +kernel
theorem dX3_result_4 : decode cX3_result 4 = .ok (.ireturn, 1) := by decide +kernel
theorem dX3_steps_0 : decode cX3_steps 0 = .ok (.aload_n 0, 1) := by decide +kernel
theorem dX3_steps_1 : decode cX3_steps 1 = .ok (.getfield 128, 3) := by decide +kernel
theorem dX3_steps_4 : decode cX3_steps 4 = .ok (.ireturn, 1) := by decide +kernel
theorem dX3_failed__0 : decode cX3_failed_ 0 = .ok (.iload_n 1, 1) := by decide +kernel
theorem dX3_failed__1 : decode cX3_failed_ 1 = .ok (.ifCond .ne 10, 3) := by decide +kernel
theorem dX3_failed__4 : decode cX3_failed_ 4 = .ok (.aload_n 0, 1) := by decide +kernel
theorem dX3_failed__5 : decode cX3_failed_ 5 = .ok (.getfield 134, 3) := by decide +kernel
theorem dX3_failed__8 : decode cX3_failed_ 8 = .ok (.goto 16, 3) := by decide +kernel
theorem dX3_failed__11 : decode cX3_failed_ 11 = .ok (.iload_n 1, 1) := by decide +kernel
theorem dX3_failed__12 : decode cX3_failed_ 12 = .ok (.iconst 1, 1) := by decide +kernel
theorem dX3_failed__13 : decode cX3_failed_ 13 = .ok (.if_icmp .ne 10, 3) := by decide +kernel
theorem dX3_failed__16 : decode cX3_failed_ 16 = .ok (.aload_n 0, 1) := by decide +kernel
theorem dX3_failed__17 : decode cX3_failed_ 17 = .ok (.getfield 52, 3) := by decide +kernel
theorem dX3_failed__20 : decode cX3_failed_ 20 = .ok (.goto 4, 3) := by decide +kernel
theorem dX3_failed__23 : decode cX3_failed_ 23 = .ok (.iconst (-1), 1) := by decide +kernel
theorem dX3_failed__24 : decode cX3_failed_ 24 = .ok (.ireturn, 1) := by decide +kernel
theorem dX3_count_0 : decode cX3_count 0 = .ok (.iconst 0, 1) := by decide +kernel
theorem dX3_count_1 : decode cX3_count 1 = .ok (.istore_n 2, 1) := by decide +kernel
theorem dX3_count_2 : decode cX3_count 2 = .ok (.iconst 0, 1) := by decide +kernel
theorem dX3_count_3 : decode cX3_count 3 = .ok (.istore_n 3, 1) := by decide +kernel
theorem dX3_count_4 : decode cX3_count 4 = .ok (.iload_n 3, 1) := by decide +kernel
theorem dX3_count_5 : decode cX3_count 5 = .ok (.iconst 4, 1) := by decide +kernel
theorem dX3_count_6 : decode cX3_count 6 = .ok (.if_icmp .ge 26, 3) := by decide +kernel
theorem dX3_count_9 : decode cX3_count 9 = .ok (.iload_n 2, 1) := by decide +kernel
theorem dX3_count_10 : decode cX3_count 10 = .ok (.aload_n 0, 1) := by decide +kernel
theorem dX3_count_11 : decode cX3_count 11 = .ok (.getfield 13, 3) := by decide +kernel
theorem dX3_count_14 : decode cX3_count 14 = .ok (.iload_n 3, 1) := by decide +kernel
theorem dX3_count_15 : decode cX3_count 15 = .ok (.iaload, 1) := by decide +kernel
theorem dX3_count_16 : decode cX3_count 16 = .ok (.ifCond .ge 7, 3) := by decide +kernel
theorem dX3_count_19 : decode cX3_count 19 = .ok (.iconst 1, 1) := by decide +kernel
theorem dX3_count_20 : decode cX3_count 20 = .ok (.goto 4, 3) := by decide +kernel
theorem dX3_count_23 : decode cX3_count 23 = .ok (.iconst 0, 1) := by decide +kernel
theorem dX3_count_24 : decode cX3_count 24 = .ok (.iadd, 1) := by decide +kernel
theorem dX3_count_25 : decode cX3_count 25 = .ok (.istore_n 2, 1) := by decide +kernel
theorem dX3_count_26 : decode cX3_count 26 = .ok (.iinc 3 1, 3) := by decide +kernel
theorem dX3_count_29 : decode cX3_count 29 = .ok (.goto (-25), 3) := by decide +kernel
theorem dX3_count_32 : decode cX3_count 32 = .ok (.iload_n 1, 1) := by decide +kernel
theorem dX3_count_33 : decode cX3_count 33 = .ok (.tableswitch 57 0 4 #[35, 40, 45, 50, 55], 35) := by decide +kernel
theorem dX3_count_68 : decode cX3_count 68 = .ok (.aload_n 0, 1) := by decide +kernel
theorem dX3_count_69 : decode cX3_count 69 = .ok (.getfield 65, 3) := by decide +kernel
theorem dX3_count_72 : decode cX3_count 72 = .ok (.ireturn, 1) := by decide +kernel
theorem dX3_count_73 : decode cX3_count 73 = .ok (.aload_n 0, 1) := by decide +kernel
theorem dX3_count_74 : decode cX3_count 74 = .ok (.getfield 89, 3) := by decide +kernel
theorem dX3_count_77 : decode cX3_count 77 = .ok (.ireturn, 1) := by decide +kernel
theorem dX3_count_78 : decode cX3_count 78 = .ok (.aload_n 0, 1) := by decide +kernel
theorem dX3_count_79 : decode cX3_count 79 = .ok (.getfield 137, 3) := by decide +kernel
theorem dX3_count_82 : decode cX3_count 82 = .ok (.ireturn, 1) := by decide +kernel
theorem dX3_count_83 : decode cX3_count 83 = .ok (.aload_n 0, 1) := by decide +kernel
theorem dX3_count_84 : decode cX3_count 84 = .ok (.getfield 112, 3) := by decide +kernel
theorem dX3_count_87 : decode cX3_count 87 = .ok (.ireturn, 1) := by decide +kernel
theorem dX3_count_88 : decode cX3_count 88 = .ok (.iload_n 2, 1) := by decide +kernel
theorem dX3_count_89 : decode cX3_count 89 = .ok (.ireturn, 1) := by decide +kernel
theorem dX3_count_90 : decode cX3_count 90 = .ok (.iconst (-1), 1) := by decide +kernel
theorem dX3_count_91 : decode cX3_count 91 = .ok (.ireturn, 1) := by decide +kernel
theorem dJ9_max_7cf53_0 : decode cJ9_max_7cf53 0 = .ok (.iload_n 0, 1) := by decide +kernel
theorem dJ9_max_7cf53_1 : decode cJ9_max_7cf53 1 = .ok (.iload_n 1, 1) := by decide +kernel
theorem dJ9_max_7cf53_2 : decode cJ9_max_7cf53 2 = .ok (.if_icmp .lt 7, 3) := by decide +kernel
theorem dJ9_max_7cf53_5 : decode cJ9_max_7cf53 5 = .ok (.iload_n 0, 1) := by decide +kernel
theorem dJ9_max_7cf53_6 : decode cJ9_max_7cf53 6 = .ok (.goto 4, 3) := by decide +kernel
theorem dJ9_max_7cf53_9 : decode cJ9_max_7cf53 9 = .ok (.iload_n 1, 1) := by decide +kernel
theorem dJ9_max_7cf53_10 : decode cJ9_max_7cf53 10 = .ok (.ireturn, 1) := by decide +kernel
theorem dJ9_min_7cf53_0 : decode cJ9_min_7cf53 0 = .ok (.iload_n 0, 1) := by decide +kernel
theorem dJ9_min_7cf53_1 : decode cJ9_min_7cf53 1 = .ok (.iload_n 1, 1) := by decide +kernel
theorem dJ9_min_7cf53_2 : decode cJ9_min_7cf53 2 = .ok (.if_icmp .gt 7, 3) := by decide +kernel
theorem dJ9_min_7cf53_5 : decode cJ9_min_7cf53 5 = .ok (.iload_n 0, 1) := by decide +kernel
theorem dJ9_min_7cf53_6 : decode cJ9_min_7cf53 6 = .ok (.goto 4, 3) := by decide +kernel
theorem dJ9_min_7cf53_9 : decode cJ9_min_7cf53 9 = .ok (.iload_n 1, 1) := by decide +kernel
theorem dJ9_min_7cf53_10 : decode cJ9_min_7cf53 10 = .ok (.ireturn, 1) := by decide +kernel
theorem dJ7_copyOf_59c91_0 : decode cJ7_copyOf_59c91 0 = .ok (.iload_n 1, 1) := by decide +kernel
theorem dJ7_copyOf_59c91_1 : decode cJ7_copyOf_59c91 1 = .ok (.aload_n 0, 1) := by decide +kernel
theorem dJ7_copyOf_59c91_2 : decode cJ7_copyOf_59c91 2 = .ok (.arraylength, 1) := by decide +kernel
theorem dJ7_copyOf_59c91_3 : decode cJ7_copyOf_59c91 3 = .ok (.if_icmp .ne 11, 3) := by decide +kernel
theorem dJ7_copyOf_59c91_6 : decode cJ7_copyOf_59c91 6 = .ok (.aload_n 0, 1) := by decide +kernel
theorem dJ7_copyOf_59c91_7 : decode cJ7_copyOf_59c91 7 = .ok (.invokevirtual 316, 3) := by decide +kernel
theorem dJ7_copyOf_59c91_10 : decode cJ7_copyOf_59c91 10 = .ok (.checkcast 317, 3) := by decide +kernel
theorem dJ7_copyOf_59c91_13 : decode cJ7_copyOf_59c91 13 = .ok (.areturn, 1) := by decide +kernel
theorem dJ7_copyOf_59c91_14 : decode cJ7_copyOf_59c91 14 = .ok (.iload_n 1, 1) := by decide +kernel
theorem dJ7_copyOf_59c91_15 : decode cJ7_copyOf_59c91 15 = .ok (.newarray .int, 2) := by decide +kernel
theorem dJ7_copyOf_59c91_17 : decode cJ7_copyOf_59c91 17 = .ok (.astore_n 2, 1) := by decide +kernel
theorem dJ7_copyOf_59c91_18 : decode cJ7_copyOf_59c91 18 = .ok (.aload_n 0, 1) := by decide +kernel
theorem dJ7_copyOf_59c91_19 : decode cJ7_copyOf_59c91 19 = .ok (.iconst 0, 1) := by decide +kernel
theorem dJ7_copyOf_59c91_20 : decode cJ7_copyOf_59c91 20 = .ok (.aload_n 2, 1) := by decide +kernel
theorem dJ7_copyOf_59c91_21 : decode cJ7_copyOf_59c91 21 = .ok (.iconst 0, 1) := by decide +kernel
theorem dJ7_copyOf_59c91_22 : decode cJ7_copyOf_59c91 22 = .ok (.aload_n 0, 1) := by decide +kernel
theorem dJ7_copyOf_59c91_23 : decode cJ7_copyOf_59c91 23 = .ok (.arraylength, 1) := by decide +kernel
theorem dJ7_copyOf_59c91_24 : decode cJ7_copyOf_59c91 24 = .ok (.iload_n 1, 1) := by decide +kernel
theorem dJ7_copyOf_59c91_25 : decode cJ7_copyOf_59c91 25 = .ok (.invokestatic 304, 3) := by decide +kernel
theorem dJ7_copyOf_59c91_28 : decode cJ7_copyOf_59c91 28 = .ok (.invokestatic 150, 3) := by decide +kernel
theorem dJ7_copyOf_59c91_31 : decode cJ7_copyOf_59c91 31 = .ok (.aload_n 2, 1) := by decide +kernel
theorem dJ7_copyOf_59c91_32 : decode cJ7_copyOf_59c91 32 = .ok (.areturn, 1) := by decide +kernel
abbrev vwCl : List vw_C := [(RX0, TX0, 1), (RX1, TX1, 6), (RX2, TX2, 16), (RX3, TX3, 30)]

