theorem dX9_cellsBarred_40 : decode cX9_cellsBarred 40 = .ok (.lload 4, 2) := by decide +kernel
theorem dX9_cellsBarred_42 : decode cX9_cellsBarred 42 = .ok (.lconst 0, 1) := by decide +kernel
theorem dX9_cellsBarred_43 : decode cX9_cellsBarred 43 = .ok (.lcmp, 1) := by decide +kernel
theorem dX9_cellsBarred_44 : decode cX9_cellsBarred 44 = .ok (.ifCond .ge 9, 3) := by decide +kernel
theorem dX9_cellsBarred_47 : decode cX9_cellsBarred 47 = .ok (.aload_n 0, 1) := by decide +kernel
theorem dX9_cellsBarred_48 : decode cX9_cellsBarred 48 = .ok (.iconst 4, 1) := by decide +kernel
theorem dX9_cellsBarred_49 : decode cX9_cellsBarred 49 = .ok (.invokevirtual 136, 3) := by decide +kernel
theorem dX9_cellsBarred_52 : decode cX9_cellsBarred 52 = .ok (.ireturn, 1) := by decide +kernel
theorem dX9_cellsBarred_53 : decode cX9_cellsBarred 53 = .ok (.iload_n 3, 1) := by decide +kernel
theorem dX9_cellsBarred_54 : decode cX9_cellsBarred 54 = .ok (.lload 4, 2) := by decide +kernel
theorem dX9_cellsBarred_56 : decode cX9_cellsBarred 56 = .ok (.aload_n 0, 1) := by decide +kernel
theorem dX9_cellsBarred_57 : decode cX9_cellsBarred 57 = .ok (.getfield 80, 3) := by decide +kernel
theorem dX9_cellsBarred_60 : decode cX9_cellsBarred 60 = .ok (.iload_n 1, 1) := by decide +kernel
theorem dX9_cellsBarred_61 : decode cX9_cellsBarred 61 = .ok (.iaload, 1) := by decide +kernel
theorem dX9_cellsBarred_62 : decode cX9_cellsBarred 62 = .ok (.invokestatic 140, 3) := by decide +kernel
theorem dX9_cellsBarred_65 : decode cX9_cellsBarred 65 = .ok (.ifCond .eq 11, 3) := by decide +kernel
theorem dX9_cellsBarred_68 : decode cX9_cellsBarred 68 = .ok (.aload_n 0, 1) := by decide +kernel
theorem dX9_cellsBarred_69 : decode cX9_cellsBarred 69 = .ok (.iconst 3, 1) := by decide +kernel
theorem dX9_cellsBarred_70 : decode cX9_cellsBarred 70 = .ok (.invokevirtual 136, 3) := by decide +kernel
theorem dX9_cellsBarred_73 : decode cX9_cellsBarred 73 = .ok (.goto 4, 3) := by decide +kernel
theorem dX9_cellsBarred_76 : decode cX9_cellsBarred 76 = .ok (.iconst 0, 1) := by decide +kernel
theorem dX9_cellsBarred_77 : decode cX9_cellsBarred 77 = .ok (.ireturn, 1) := by decide +kernel
set_option maxRecDepth 20000 in
theorem ggX9_steppe_X9_noSheet : GoodIn wsX9_steppe wsX9_noSheet := goodIn_r _ [20, 21, 22, 23, 19, 24] (by decide +kernel) (by decide +kernel)
set_option maxRecDepth 20000 in
theorem gX9_steppe_X9_noSheet : GoodIn wsX9_steppe (va_wsS RX9 144 yX9_noSheet wsX9_noSheet) := goodIn_app (goodIn_of _ (by decide +kernel)) ggX9_steppe_X9_noSheet
set_option maxRecDepth 20000 in
theorem ggX9_steppe_X9_refused : GoodIn wsX9_steppe wsX9_refused := goodIn_r _ [28, 29, 60, 61, 62, 63, 64, 65, 66, 67, 68, 69, 70, 71, 72, 73, 74, 75, 76, 77, 78, 79, 80, 81, 82, 83, 84, 85, 86, 87, 88, 89, 90, 91, 92, 93, 94, 95, 96, 97] (by decide +kernel) (by decide +kernel)
set_option maxRecDepth 20000 in
theorem gX9_steppe_X9_refused : GoodIn wsX9_steppe (wsV RX9 148 RX9 yX9_refused wsX9_refused) := goodIn_app (goodIn_of _ (by decide +kernel)) ggX9_steppe_X9_refused
set_option maxRecDepth 20000 in
theorem ggX9_steppe_X9_in : GoodIn wsX9_steppe wsX9_in := goodIn_r _ [24] (by decide +kernel) (by decide +kernel)
set_option maxRecDepth 20000 in
theorem gX9_steppe_X9_in : GoodIn wsX9_steppe (va_wsS RX9 105 yX9_in wsX9_in) := goodIn_app (goodIn_of _ (by decide +kernel)) ggX9_steppe_X9_in
set_option maxRecDepth 20000 in
theorem ggX9_steppe_X9_cellsBarred : GoodIn wsX9_steppe wsX9_cellsBarred := goodIn_r _ [33, 34, 35, 36, 37, 38, 19, 39, 29, 40, 41, 42, 60, 61, 62, 63, 64, 65, 66, 67, 68, 69, 70, 71, 72, 73, 74, 75, 76, 77, 78, 79, 80, 81, 82, 83, 84, 85, 86, 87, 88, 89, 90, 91, 92, 93, 94, 95, 96, 97] (by decide +kernel) (by decide +kernel)
set_option maxRecDepth 20000 in
theorem gX9_steppe_X9_cellsBarred : GoodIn wsX9_steppe (wsV RX9 151 RX9 yX9_cellsBarred wsX9_cellsBarred) := goodIn_app (goodIn_of _ (by decide +kernel)) ggX9_steppe_X9_cellsBarred
set_option maxRecDepth 20000 in
theorem ggX9_steppe_X9_readsSteppe : GoodIn wsX9_steppe wsX9_readsSteppe := goodIn_r _ [46, 2, 3, 47, 48, 49, 19, 50, 51, 52, 53, 54, 55, 6, 8, 10, 56, 57, 58, 59, 22, 23, 24, 60, 61, 62, 63, 64, 65, 66, 67, 68, 69, 70, 71, 72, 73, 74, 75, 76, 77, 78, 79, 80, 81, 82, 83, 84, 85, 86, 87, 88, 89, 90, 91, 92, 93, 94, 95, 96, 97] (by decide +kernel) (by decide +kernel)
set_option maxRecDepth 20000 in
theorem gX9_steppe_X9_readsSteppe : GoodIn wsX9_steppe (wsV RX9 155 RX9 yX9_readsSteppe wsX9_readsSteppe) := goodIn_app (goodIn_of _ (by decide +kernel)) ggX9_steppe_X9_readsSteppe
theorem dX9_steppe_0 : decode cX9_steppe 0 = .ok (.iload_n 1, 1) := by decide +kernel
theorem dX9_steppe_1 : decode cX9_steppe 1 = .ok (.invokestatic 144, 3) := by decide +kernel
theorem dX9_steppe_4 : decode cX9_steppe 4 = .ok (.ifCond .eq 9, 3) := by decide +kernel
theorem dX9_steppe_7 : decode cX9_steppe 7 = .ok (.aload_n 0, 1) := by decide +kernel
theorem dX9_steppe_8 : decode cX9_steppe 8 = .ok (.iconst (-1), 1) := by decide +kernel
theorem dX9_steppe_9 : decode cX9_steppe 9 = .ok (.invokevirtual 148, 3) := by decide +kernel
theorem dX9_steppe_12 : decode cX9_steppe 12 = .ok (.ireturn, 1) := by decide +kernel
theorem dX9_steppe_13 : decode cX9_steppe 13 = .ok (.iload_n 2, 1) := by decide +kernel
theorem dX9_steppe_14 : decode cX9_steppe 14 = .ok (.i2l, 1) := by decide +kernel
theorem dX9_steppe_15 : decode cX9_steppe 15 = .ok (.lconst 0, 1) := by decide +kernel
theorem dX9_steppe_16 : decode cX9_steppe 16 = .ok (.ldc2_w 114, 3) := by decide +kernel
theorem dX9_steppe_19 : decode cX9_steppe 19 = .ok (.invokestatic 105, 3) := by decide +kernel
theorem dX9_steppe_22 : decode cX9_steppe 22 = .ok (.ifCond .ne 10, 3) := by decide +kernel
theorem dX9_steppe_25 : decode cX9_steppe 25 = .ok (.aload_n 0, 1) := by decide +kernel
theorem dX9_steppe_26 : decode cX9_steppe 26 = .ok (.bipush (-2), 2) := by decide +kernel
theorem dX9_steppe_28 : decode cX9_steppe 28 = .ok (.invokevirtual 148, 3) := by decide +kernel
theorem dX9_steppe_31 : decode cX9_steppe 31 = .ok (.ireturn, 1) := by decide +kernel
theorem dX9_steppe_32 : decode cX9_steppe 32 = .ok (.aload_n 0, 1) := by decide +kernel
theorem dX9_steppe_33 : decode cX9_steppe 33 = .ok (.iload_n 1, 1) := by decide +kernel
theorem dX9_steppe_34 : decode cX9_steppe 34 = .ok (.iload_n 2, 1) := by decide +kernel
theorem dX9_steppe_35 : decode cX9_steppe 35 = .ok (.iload_n 3, 1) := by decide +kernel
theorem dX9_steppe_36 : decode cX9_steppe 36 = .ok (.iload 4, 2) := by decide +kernel
theorem dX9_steppe_38 : decode cX9_steppe 38 = .ok (.i2l, 1) := by decide +kernel
theorem dX9_steppe_39 : decode cX9_steppe 39 = .ok (.invokevirtual 151, 3) := by decide +kernel
theorem dX9_steppe_42 : decode cX9_steppe 42 = .ok (.istore 5, 2) := by decide +kernel
theorem dX9_steppe_44 : decode cX9_steppe 44 = .ok (.iload 5, 2) := by decide +kernel
theorem dX9_steppe_46 : decode cX9_steppe 46 = .ok (.ifCond .ge 6, 3) := by decide +kernel
theorem dX9_steppe_49 : decode cX9_steppe 49 = .ok (.iload 5, 2) := by decide +kernel
theorem dX9_steppe_51 : decode cX9_steppe 51 = .ok (.ireturn, 1) := by decide +kernel
theorem dX9_steppe_52 : decode cX9_steppe 52 = .ok (.aload_n 0, 1) := by decide +kernel
theorem dX9_steppe_53 : decode cX9_steppe 53 = .ok (.bipush 60, 2) := by decide +kernel
theorem dX9_steppe_55 : decode cX9_steppe 55 = .ok (.iload_n 1, 1) := by decide +kernel
theorem dX9_steppe_56 : decode cX9_steppe 56 = .ok (.imul, 1) := by decide +kernel
theorem dX9_steppe_57 : decode cX9_steppe 57 = .ok (.iload_n 3, 1) := by decide +kernel
theorem dX9_steppe_58 : decode cX9_steppe 58 = .ok (.iadd, 1) := by decide +kernel
theorem dX9_steppe_59 : decode cX9_steppe 59 = .ok (.iload 4, 2) := by decide +kernel
theorem dX9_steppe_61 : decode cX9_steppe 61 = .ok (.invokevirtual 155, 3) := by decide +kernel
theorem dX9_steppe_64 : decode cX9_steppe 64 = .ok (.ifCond .ne 15, 3) := by decide +kernel
theorem dX9_steppe_67 : decode cX9_steppe 67 = .ok (.aload_n 0, 1) := by decide +kernel
theorem dX9_steppe_68 : decode cX9_steppe 68 = .ok (.bipush (-100), 2) := by decide +kernel
theorem dX9_steppe_70 : decode cX9_steppe 70 = .ok (.aload_n 0, 1) := by decide +kernel
theorem dX9_steppe_71 : decode cX9_steppe 71 = .ok (.getfield 118, 3) := by decide +kernel
theorem dX9_steppe_74 : decode cX9_steppe 74 = .ok (.isub, 1) := by decide +kernel
theorem dX9_steppe_75 : decode cX9_steppe 75 = .ok (.invokevirtual 148, 3) := by decide +kernel
theorem dX9_steppe_78 : decode cX9_steppe 78 = .ok (.ireturn, 1) := by decide +kernel
theorem dX9_steppe_79 : decode cX9_steppe 79 = .ok (.aload_n 0, 1) := by decide +kernel
theorem dX9_steppe_80 : decode cX9_steppe 80 = .ok (.aload_n 0, 1) := by decide +kernel
theorem dX9_steppe_81 : decode cX9_steppe 81 = .ok (.getfield 125, 3) := by decide +kernel
theorem dX9_steppe_84 : decode cX9_steppe 84 = .ok (.putfield 102, 3) := by decide +kernel
theorem dX9_steppe_87 : decode cX9_steppe 87 = .ok (.iconst 0, 1) := by decide +kernel
theorem dX9_steppe_88 : decode cX9_steppe 88 = .ok (.istore 6, 2) := by decide +kernel
theorem dX9_steppe_90 : decode cX9_steppe 90 = .ok (.iload 6, 2) := by decide +kernel
theorem dX9_steppe_92 : decode cX9_steppe 92 = .ok (.aload_n 0, 1) := by decide +kernel
theorem dX9_steppe_93 : decode cX9_steppe 93 = .ok (.getfield 102, 3) := by decide +kernel
theorem dX9_steppe_96 : decode cX9_steppe 96 = .ok (.if_icmp .ge 51, 3) := by decide +kernel
theorem dX9_steppe_99 : decode cX9_steppe 99 = .ok (.aload_n 0, 1) := by decide +kernel
theorem dX9_steppe_100 : decode cX9_steppe 100 = .ok (.getfield 7, 3) := by decide +kernel
theorem dX9_steppe_103 : decode cX9_steppe 103 = .ok (.iload 6, 2) := by decide +kernel
theorem dX9_steppe_105 : decode cX9_steppe 105 = .ok (.aload_n 0, 1) := by decide +kernel
theorem dX9_steppe_106 : decode cX9_steppe 106 = .ok (.getfield 19, 3) := by decide +kernel
theorem dX9_steppe_109 : decode cX9_steppe 109 = .ok (.iload 6, 2) := by decide +kernel
theorem dX9_steppe_111 : decode cX9_steppe 111 = .ok (.iaload, 1) := by decide +kernel
theorem dX9_steppe_112 : decode cX9_steppe 112 = .ok (.iastore, 1) := by decide +kernel
theorem dX9_steppe_113 : decode cX9_steppe 113 = .ok (.aload_n 0, 1) := by decide +kernel
theorem dX9_steppe_114 : decode cX9_steppe 114 = .ok (.getfield 13, 3) := by decide +kernel
theorem dX9_steppe_117 : decode cX9_steppe 117 = .ok (.iload 6, 2) := by decide +kernel
theorem dX9_steppe_119 : decode cX9_steppe 119 = .ok (.aload_n 0, 1) := by decide +kernel
theorem dX9_steppe_120 : decode cX9_steppe 120 = .ok (.getfield 22, 3) := by decide +kernel
theorem dX9_steppe_123 : decode cX9_steppe 123 = .ok (.iload 6, 2) := by decide +kernel
theorem dX9_steppe_125 : decode cX9_steppe 125 = .ok (.iaload, 1) := by decide +kernel
theorem dX9_steppe_126 : decode cX9_steppe 126 = .ok (.iastore, 1) := by decide +kernel
theorem dX9_steppe_127 : decode cX9_steppe 127 = .ok (.aload_n 0, 1) := by decide +kernel
theorem dX9_steppe_128 : decode cX9_steppe 128 = .ok (.getfield 16, 3) := by decide +kernel
theorem dX9_steppe_131 : decode cX9_steppe 131 = .ok (.iload 6, 2) := by decide +kernel
theorem dX9_steppe_133 : decode cX9_steppe 133 = .ok (.aload_n 0, 1) := by decide +kernel
theorem dX9_steppe_134 : decode cX9_steppe 134 = .ok (.getfield 25, 3) := by decide +kernel
theorem dX9_steppe_137 : decode cX9_steppe 137 = .ok (.iload 6, 2) := by decide +kernel
theorem dX9_steppe_139 : decode cX9_steppe 139 = .ok (.iaload, 1) := by decide +kernel
theorem dX9_steppe_140 : decode cX9_steppe 140 = .ok (.iastore, 1) := by decide +kernel
theorem dX9_steppe_141 : decode cX9_steppe 141 = .ok (.iinc 6 1, 3) := by decide +kernel
theorem dX9_steppe_144 : decode cX9_steppe 144 = .ok (.goto (-54), 3) := by decide +kernel
theorem dX9_steppe_147 : decode cX9_steppe 147 = .ok (.aload_n 0, 1) := by decide +kernel
theorem dX9_steppe_148 : decode cX9_steppe 148 = .ok (.iconst 0, 1) := by decide +kernel
theorem dX9_steppe_149 : decode cX9_steppe 149 = .ok (.putfield 158, 3) := by decide +kernel
theorem dX9_steppe_152 : decode cX9_steppe 152 = .ok (.aload_n 0, 1) := by decide +kernel
theorem dX9_steppe_153 : decode cX9_steppe 153 = .ok (.iconst 0, 1) := by decide +kernel
theorem dX9_steppe_154 : decode cX9_steppe 154 = .ok (.putfield 161, 3) := by decide +kernel
theorem dX9_steppe_157 : decode cX9_steppe 157 = .ok (.aload_n 0, 1) := by decide +kernel
theorem dX9_steppe_158 : decode cX9_steppe 158 = .ok (.iconst 0, 1) := by decide +kernel
theorem dX9_steppe_159 : decode cX9_steppe 159 = .ok (.putfield 109, 3) := by decide +kernel
theorem dX9_steppe_162 : decode cX9_steppe 162 = .ok (.aload_n 0, 1) := by decide +kernel
theorem dX9_steppe_163 : decode cX9_steppe 163 = .ok (.iconst 0, 1) := by decide +kernel
theorem dX9_steppe_164 : decode cX9_steppe 164 = .ok (.putfield 164, 3) := by decide +kernel
theorem dX9_steppe_167 : decode cX9_steppe 167 = .ok (.aload_n 0, 1) := by decide +kernel
theorem dX9_steppe_168 : decode cX9_steppe 168 = .ok (.iconst 0, 1) := by decide +kernel
theorem dX9_steppe_169 : decode cX9_steppe 169 = .ok (.putfield 167, 3) := by decide +kernel
theorem dX9_steppe_172 : decode cX9_steppe 172 = .ok (.aload_n 0, 1) := by decide +kernel
theorem dX9_steppe_173 : decode cX9_steppe 173 = .ok (.iconst 0, 1) := by decide +kernel
theorem dX9_steppe_174 : decode cX9_steppe 174 = .ok (.putfield 170, 3) := by decide +kernel
theorem dX9_steppe_177 : decode cX9_steppe 177 = .ok (.aload_n 0, 1) := by decide +kernel
theorem dX9_steppe_178 : decode cX9_steppe 178 = .ok (.aload_n 0, 1) := by decide +kernel
theorem dX9_steppe_179 : decode cX9_steppe 179 = .ok (.getfield 102, 3) := by decide +kernel
theorem dX9_steppe_182 : decode cX9_steppe 182 = .ok (.invokevirtual 148, 3) := by decide +kernel
theorem dX9_steppe_185 : decode cX9_steppe 185 = .ok (.ireturn, 1) := by decide +kernel
theorem dX9_memoryOf_0 : decode cX9_memoryOf 0 = .ok (.aload_n 0, 1) := by decide +kernel
theorem dX9_memoryOf_1 : decode cX9_memoryOf 1 = .ok (.getfield 13, 3) := by decide +kernel
theorem dX9_memoryOf_4 : decode cX9_memoryOf 4 = .ok (.iload_n 1, 1) := by decide +kernel
theorem dX9_memoryOf_5 : decode cX9_memoryOf 5 = .ok (.iaload, 1) := by decide +kernel
theorem dX9_memoryOf_6 : decode cX9_memoryOf 6 = .ok (.istore_n 2, 1) := by decide +kernel
theorem dX9_memoryOf_7 : decode cX9_memoryOf 7 = .ok (.aload_n 0, 1) := by decide +kernel
theorem dX9_memoryOf_8 : decode cX9_memoryOf 8 = .ok (.getfield 7, 3) := by decide +kernel
theorem dX9_memoryOf_11 : decode cX9_memoryOf 11 = .ok (.iload_n 1, 1) := by decide +kernel
theorem dX9_memoryOf_12 : decode cX9_memoryOf 12 = .ok (.iaload, 1) := by decide +kernel
theorem dX9_memoryOf_13 : decode cX9_memoryOf 13 = .ok (.ifCond .ne 7, 3) := by decide +kernel
theorem dX9_memoryOf_16 : decode cX9_memoryOf 16 = .ok (.iload_n 2, 1) := by decide +kernel
theorem dX9_memoryOf_17 : decode cX9_memoryOf 17 = .ok (.goto 24, 3) := by decide +kernel
theorem dX9_memoryOf_20 : decode cX9_memoryOf 20 = .ok (.aload_n 0, 1) := by decide +kernel
theorem dX9_memoryOf_21 : decode cX9_memoryOf 21 = .ok (.getfield 7, 3) := by decide +kernel
theorem dX9_memoryOf_24 : decode cX9_memoryOf 24 = .ok (.iload_n 1, 1) := by decide +kernel
theorem dX9_memoryOf_25 : decode cX9_memoryOf 25 = .ok (.iaload, 1) := by decide +kernel
theorem dX9_memoryOf_26 : decode cX9_memoryOf 26 = .ok (.iconst 1, 1) := by decide +kernel
theorem dX9_memoryOf_27 : decode cX9_memoryOf 27 = .ok (.if_icmp .ne 9, 3) := by decide +kernel
theorem dX9_memoryOf_30 : decode cX9_memoryOf 30 = .ok (.iload_n 2, 1) := by decide +kernel
theorem dX9_memoryOf_31 : decode cX9_memoryOf 31 = .ok (.iconst 2, 1) := by decide +kernel
theorem dX9_memoryOf_32 : decode cX9_memoryOf 32 = .ok (.iadd, 1) := by decide +kernel
theorem dX9_memoryOf_33 : decode cX9_memoryOf 33 = .ok (.goto 8, 3) := by decide +kernel
theorem dX9_memoryOf_36 : decode cX9_memoryOf 36 = .ok (.iconst 2, 1) := by decide +kernel
theorem dX9_memoryOf_37 : decode cX9_memoryOf 37 = .ok (.iload_n 2, 1) := by decide +kernel
theorem dX9_memoryOf_38 : decode cX9_memoryOf 38 = .ok (.iconst 2, 1) := by decide +kernel
theorem dX9_memoryOf_39 : decode cX9_memoryOf 39 = .ok (.iadd, 1) := by decide +kernel
theorem dX9_memoryOf_40 : decode cX9_memoryOf 40 = .ok (.imul, 1) := by decide +kernel
theorem dX9_memoryOf_41 : decode cX9_memoryOf 41 = .ok (.ireturn, 1) := by decide +kernel
set_option maxRecDepth 20000 in
theorem ggX9_ofPerson_X9_noPerson : GoodIn wsX9_ofPerson wsX9_noPerson := goodIn_r _ [9, 10, 11, 12, 8, 13, 21, 22, 23, 24, 25, 26, 27, 28, 29, 30, 31, 32, 33, 34, 35, 36, 37, 38, 39, 40, 41, 42, 43, 44, 45, 46, 47, 48, 49, 50, 51, 52, 53, 54, 55, 56, 57, 58] (by decide +kernel) (by decide +kernel)
set_option maxRecDepth 20000 in
theorem gX9_ofPerson_X9_noPerson : GoodIn wsX9_ofPerson (wsV RX9 173 RX9 yX9_noPerson wsX9_noPerson) := goodIn_app (goodIn_of _ (by decide +kernel)) ggX9_ofPerson_X9_noPerson
set_option maxRecDepth 20000 in
theorem ggX9_ofPerson_X9_memoryOf : GoodIn wsX9_ofPerson wsX9_memoryOf := goodIn_r _ [17, 2, 1, 21, 22, 23, 24, 25, 26, 27, 28, 29, 30, 31, 32, 33, 34, 35, 36, 37, 38, 39, 40, 41, 42, 43, 44, 45, 46, 47, 48, 49, 50, 51, 52, 53, 54, 55, 56, 57, 58] (by decide +kernel) (by decide +kernel)
set_option maxRecDepth 20000 in
theorem gX9_ofPerson_X9_memoryOf : GoodIn wsX9_ofPerson (wsV RX9 176 RX9 yX9_memoryOf wsX9_memoryOf) := goodIn_app (goodIn_of _ (by decide +kernel)) ggX9_ofPerson_X9_memoryOf
set_option maxRecDepth 20000 in
theorem ggX9_ofPerson_X9_isIn : GoodIn wsX9_ofPerson wsX9_isIn := goodIn_r _ [20] (by decide +kernel) (by decide +kernel)
set_option maxRecDepth 20000 in
theorem gX9_ofPerson_X9_isIn : GoodIn wsX9_ofPerson (va_wsS RX9 179 yX9_isIn wsX9_isIn) := goodIn_app (goodIn_of _ (by decide +kernel)) ggX9_ofPerson_X9_isIn
theorem dX9_ofPerson_0 : decode cX9_ofPerson 0 = .ok (.aload_n 0, 1) := by decide +kernel
theorem dX9_ofPerson_1 : decode cX9_ofPerson 1 = .ok (.iload_n 1, 1) := by decide +kernel
theorem dX9_ofPerson_2 : decode cX9_ofPerson 2 = .ok (.invokevirtual 173, 3) := by decide +kernel
theorem dX9_ofPerson_5 : decode cX9_ofPerson 5 = .ok (.ifCond .eq 5, 3) := by decide +kernel
theorem dX9_ofPerson_8 : decode cX9_ofPerson 8 = .ok (.iconst (-1), 1) := by decide +kernel
theorem dX9_ofPerson_9 : decode cX9_ofPerson 9 = .ok (.ireturn, 1) := by decide +kernel
theorem dX9_ofPerson_10 : decode cX9_ofPerson 10 = .ok (.iload_n 2, 1) := by decide +kernel
theorem dX9_ofPerson_11 : decode cX9_ofPerson 11 = .ok (.tableswitch 77 0 4 #[33, 40, 47, 54, 60], 33) := by decide +kernel
theorem dX9_ofPerson_44 : decode cX9_ofPerson 44 = .ok (.aload_n 0, 1) := by decide +kernel
theorem dX9_ofPerson_45 : decode cX9_ofPerson 45 = .ok (.getfield 7, 3) := by decide +kernel
theorem dX9_ofPerson_48 : decode cX9_ofPerson 48 = .ok (.iload_n 1, 1) := by decide +kernel
theorem dX9_ofPerson_49 : decode cX9_ofPerson 49 = .ok (.iaload, 1) := by decide +kernel
theorem dX9_ofPerson_50 : decode cX9_ofPerson 50 = .ok (.ireturn, 1) := by decide +kernel
theorem dX9_ofPerson_51 : decode cX9_ofPerson 51 = .ok (.aload_n 0, 1) := by decide +kernel
theorem dX9_ofPerson_52 : decode cX9_ofPerson 52 = .ok (.getfield 13, 3) := by decide +kernel
theorem dX9_ofPerson_55 : decode cX9_ofPerson 55 = .ok (.iload_n 1, 1) := by decide +kernel
theorem dX9_ofPerson_56 : decode cX9_ofPerson 56 = .ok (.iaload, 1) := by decide +kernel
theorem dX9_ofPerson_57 : decode cX9_ofPerson 57 = .ok (.ireturn, 1) := by decide +kernel
theorem dX9_ofPerson_58 : decode cX9_ofPerson 58 = .ok (.aload_n 0, 1) := by decide +kernel
theorem dX9_ofPerson_59 : decode cX9_ofPerson 59 = .ok (.getfield 16, 3) := by decide +kernel
theorem dX9_ofPerson_62 : decode cX9_ofPerson 62 = .ok (.iload_n 1, 1) := by decide +kernel
theorem dX9_ofPerson_63 : decode cX9_ofPerson 63 = .ok (.iaload, 1) := by decide +kernel
theorem dX9_ofPerson_64 : decode cX9_ofPerson 64 = .ok (.ireturn, 1) := by decide +kernel
theorem dX9_ofPerson_65 : decode cX9_ofPerson 65 = .ok (.aload_n 0, 1) := by decide +kernel
theorem dX9_ofPerson_66 : decode cX9_ofPerson 66 = .ok (.iload_n 1, 1) := by decide +kernel
theorem dX9_ofPerson_67 : decode cX9_ofPerson 67 = .ok (.invokevirtual 176, 3) := by decide +kernel
theorem dX9_ofPerson_70 : decode cX9_ofPerson 70 = .ok (.ireturn, 1) := by decide +kernel
theorem dX9_ofPerson_71 : decode cX9_ofPerson 71 = .ok (.aload_n 0, 1) := by decide +kernel
theorem dX9_ofPerson_72 : decode cX9_ofPerson 72 = .ok (.getfield 158, 3) := by decide +kernel
theorem dX9_ofPerson_75 : decode cX9_ofPerson 75 = .ok (.iload_n 1, 1) := by decide +kernel
theorem dX9_ofPerson_76 : decode cX9_ofPerson 76 = .ok (.invokestatic 179, 3) := by decide +kernel
theorem dX9_ofPerson_79 : decode cX9_ofPerson 79 = .ok (.ifCond .eq 7, 3) := by decide +kernel
theorem dX9_ofPerson_82 : decode cX9_ofPerson 82 = .ok (.iconst 1, 1) := by decide +kernel
theorem dX9_ofPerson_83 : decode cX9_ofPerson 83 = .ok (.goto 4, 3) := by decide +kernel
theorem dX9_ofPerson_86 : decode cX9_ofPerson 86 = .ok (.iconst 0, 1) := by decide +kernel
theorem dX9_ofPerson_87 : decode cX9_ofPerson 87 = .ok (.ireturn, 1) := by decide +kernel
theorem dX9_ofPerson_88 : decode cX9_ofPerson 88 = .ok (.bipush (-2), 2) := by decide +kernel
theorem dX9_ofPerson_90 : decode cX9_ofPerson 90 = .ok (.ireturn, 1) := by decide +kernel
set_option maxRecDepth 20000 in
theorem ggX9_tale_X9_noDeed : GoodIn wsX9_tale wsX9_noDeed := goodIn_r _ [9, 10, 11, 12, 8, 13] (by decide +kernel) (by decide +kernel)
set_option maxRecDepth 20000 in
theorem gX9_tale_X9_noDeed : GoodIn wsX9_tale (va_wsS RX9 182 yX9_noDeed wsX9_noDeed) := goodIn_app (goodIn_of _ (by decide +kernel)) ggX9_tale_X9_noDeed
set_option maxRecDepth 20000 in
theorem ggX9_tale_X9_noPerson : GoodIn wsX9_tale wsX9_noPerson := goodIn_r _ [17, 18, 11, 12, 8, 13, 23, 24, 25, 26, 27, 28, 29, 30, 31, 32, 33, 34, 35, 36, 37, 38, 39, 40, 41, 42, 43, 44, 45, 46, 47, 48, 49, 50, 51, 52, 53, 54, 55, 56, 57, 58, 59, 60] (by decide +kernel) (by decide +kernel)
set_option maxRecDepth 20000 in
theorem gX9_tale_X9_noPerson : GoodIn wsX9_tale (wsV RX9 173 RX9 yX9_noPerson wsX9_noPerson) := goodIn_app (goodIn_of _ (by decide +kernel)) ggX9_tale_X9_noPerson
set_option maxRecDepth 20000 in
theorem ggX9_tale_X9_isSeason : GoodIn wsX9_tale wsX9_isSeason := goodIn_r _ [21, 22, 11, 12, 8, 13] (by decide +kernel) (by decide +kernel)
set_option maxRecDepth 20000 in
theorem gX9_tale_X9_isSeason : GoodIn wsX9_tale (va_wsS RX9 185 yX9_isSeason wsX9_isSeason) := goodIn_app (goodIn_of _ (by decide +kernel)) ggX9_tale_X9_isSeason
theorem dX9_tale_0 : decode cX9_tale 0 = .ok (.iload_n 1, 1) := by decide +kernel
theorem dX9_tale_1 : decode cX9_tale 1 = .ok (.invokestatic 182, 3) := by decide +kernel
theorem dX9_tale_4 : decode cX9_tale 4 = .ok (.ifCond .ne 11, 3) := by decide +kernel
theorem dX9_tale_7 : decode cX9_tale 7 = .ok (.aload_n 0, 1) := by decide +kernel
theorem dX9_tale_8 : decode cX9_tale 8 = .ok (.iload_n 2, 1) := by decide +kernel
theorem dX9_tale_9 : decode cX9_tale 9 = .ok (.invokevirtual 173, 3) := by decide +kernel
theorem dX9_tale_12 : decode cX9_tale 12 = .ok (.ifCond .eq 5, 3) := by decide +kernel
theorem dX9_tale_15 : decode cX9_tale 15 = .ok (.iconst (-1), 1) := by decide +kernel
theorem dX9_tale_16 : decode cX9_tale 16 = .ok (.ireturn, 1) := by decide +kernel
theorem dX9_tale_17 : decode cX9_tale 17 = .ok (.iload_n 3, 1) := by decide +kernel
theorem dX9_tale_18 : decode cX9_tale 18 = .ok (.invokestatic 185, 3) := by decide +kernel
theorem dX9_tale_21 : decode cX9_tale 21 = .ok (.ifCond .ne 6, 3) := by decide +kernel
theorem dX9_tale_24 : decode cX9_tale 24 = .ok (.bipush (-2), 2) := by decide +kernel
theorem dX9_tale_26 : decode cX9_tale 26 = .ok (.ireturn, 1) := by decide +kernel
theorem dX9_tale_27 : decode cX9_tale 27 = .ok (.aload_n 0, 1) := by decide +kernel
theorem dX9_tale_28 : decode cX9_tale 28 = .ok (.getfield 109, 3) := by decide +kernel
theorem dX9_tale_31 : decode cX9_tale 31 = .ok (.bipush 6, 2) := by decide +kernel
theorem dX9_tale_33 : decode cX9_tale 33 = .ok (.if_icmp .ne 6, 3) := by decide +kernel
theorem dX9_tale_36 : decode cX9_tale 36 = .ok (.bipush (-4), 2) := by decide +kernel
theorem dX9_tale_38 : decode cX9_tale 38 = .ok (.ireturn, 1) := by decide +kernel
theorem dX9_tale_39 : decode cX9_tale 39 = .ok (.aload_n 0, 1) := by decide +kernel
theorem dX9_tale_40 : decode cX9_tale 40 = .ok (.getfield 28, 3) := by decide +kernel
theorem dX9_tale_43 : decode cX9_tale 43 = .ok (.aload_n 0, 1) := by decide +kernel
theorem dX9_tale_44 : decode cX9_tale 44 = .ok (.getfield 109, 3) := by decide +kernel
theorem dX9_tale_47 : decode cX9_tale 47 = .ok (.iload_n 1, 1) := by decide +kernel
theorem dX9_tale_48 : decode cX9_tale 48 = .ok (.iastore, 1) := by decide +kernel
theorem dX9_tale_49 : decode cX9_tale 49 = .ok (.aload_n 0, 1) := by decide +kernel
theorem dX9_tale_50 : decode cX9_tale 50 = .ok (.getfield 31, 3) := by decide +kernel
theorem dX9_tale_53 : decode cX9_tale 53 = .ok (.aload_n 0, 1) := by decide +kernel
theorem dX9_tale_54 : decode cX9_tale 54 = .ok (.getfield 109, 3) := by decide +kernel
theorem dX9_tale_57 : decode cX9_tale 57 = .ok (.iload_n 2, 1) := by decide +kernel
theorem dX9_tale_58 : decode cX9_tale 58 = .ok (.iastore, 1) := by decide +kernel
theorem dX9_tale_59 : decode cX9_tale 59 = .ok (.aload_n 0, 1) := by decide +kernel
theorem dX9_tale_60 : decode cX9_tale 60 = .ok (.getfield 34, 3) := by decide +kernel
theorem dX9_tale_63 : decode cX9_tale 63 = .ok (.aload_n 0, 1) := by decide +kernel
theorem dX9_tale_64 : decode cX9_tale 64 = .ok (.getfield 109, 3) := by decide +kernel
theorem dX9_tale_67 : decode cX9_tale 67 = .ok (.iload_n 3, 1) := by decide +kernel
theorem dX9_tale_68 : decode cX9_tale 68 = .ok (.iastore, 1) := by decide +kernel
theorem dX9_tale_69 : decode cX9_tale 69 = .ok (.aload_n 0, 1) := by decide +kernel
theorem dX9_tale_70 : decode cX9_tale 70 = .ok (.getfield 37, 3) := by decide +kernel
theorem dX9_tale_73 : decode cX9_tale 73 = .ok (.aload_n 0, 1) := by decide +kernel
theorem dX9_tale_74 : decode cX9_tale 74 = .ok (.getfield 109, 3) := by decide +kernel
theorem dX9_tale_77 : decode cX9_tale 77 = .ok (.iconst 0, 1) := by decide +kernel
theorem dX9_tale_78 : decode cX9_tale 78 = .ok (.bastore, 1) := by decide +kernel
theorem dX9_tale_79 : decode cX9_tale 79 = .ok (.aload_n 0, 1) := by decide +kernel
theorem dX9_tale_80 : decode cX9_tale 80 = .ok (.dup, 1) := by decide +kernel
theorem dX9_tale_81 : decode cX9_tale 81 = .ok (.getfield 109, 3) := by decide +kernel
theorem dX9_tale_84 : decode cX9_tale 84 = .ok (.iconst 1, 1) := by decide +kernel
theorem dX9_tale_85 : decode cX9_tale 85 = .ok (.iadd, 1) := by decide +kernel
theorem dX9_tale_86 : decode cX9_tale 86 = .ok (.putfield 109, 3) := by decide +kernel
theorem dX9_tale_89 : decode cX9_tale 89 = .ok (.aload_n 0, 1) := by decide +kernel
theorem dX9_tale_90 : decode cX9_tale 90 = .ok (.getfield 109, 3) := by decide +kernel
theorem dX9_tale_93 : decode cX9_tale 93 = .ok (.iconst 1, 1) := by decide +kernel
theorem dX9_tale_94 : decode cX9_tale 94 = .ok (.isub, 1) := by decide +kernel
theorem dX9_tale_95 : decode cX9_tale 95 = .ok (.ireturn, 1) := by decide +kernel
set_option maxRecDepth 20000 in
theorem ggX9_undo_X9_in : GoodIn wsX9_undo wsX9_in := goodIn_r _ [10] (by decide +kernel) (by decide +kernel)
set_option maxRecDepth 20000 in
theorem gX9_undo_X9_in : GoodIn wsX9_undo (va_wsS RX9 105 yX9_in wsX9_in) := goodIn_app (goodIn_of _ (by decide +kernel)) ggX9_undo_X9_in
set_option maxRecDepth 20000 in
theorem ggX9_undo_X9_noTale : GoodIn wsX9_undo wsX9_noTale := goodIn_r _ [14, 1, 7, 8, 9, 10, 15, 16, 17, 18, 19, 20, 21, 22, 23, 24, 25, 26, 27, 28, 29, 30, 31, 32, 33, 34, 35, 36, 37, 38, 39, 40, 41, 42, 43, 44, 45, 46, 47, 48, 49, 50, 51, 52] (by decide +kernel) (by decide +kernel)
set_option maxRecDepth 20000 in
theorem gX9_undo_X9_noTale : GoodIn wsX9_undo (wsV RX9 188 RX9 yX9_noTale wsX9_noTale) := goodIn_app (goodIn_of _ (by decide +kernel)) ggX9_undo_X9_noTale
theorem dX9_undo_0 : decode cX9_undo 0 = .ok (.iload_n 1, 1) := by decide +kernel
theorem dX9_undo_1 : decode cX9_undo 1 = .ok (.i2l, 1) := by decide +kernel
theorem dX9_undo_2 : decode cX9_undo 2 = .ok (.lconst 0, 1) := by decide +kernel
theorem dX9_undo_3 : decode cX9_undo 3 = .ok (.aload_n 0, 1) := by decide +kernel
theorem dX9_undo_4 : decode cX9_undo 4 = .ok (.getfield 109, 3) := by decide +kernel
theorem dX9_undo_7 : decode cX9_undo 7 = .ok (.i2l, 1) := by decide +kernel
theorem dX9_undo_8 : decode cX9_undo 8 = .ok (.invokestatic 105, 3) := by decide +kernel
theorem dX9_undo_11 : decode cX9_undo 11 = .ok (.ifCond .ne 6, 3) := by decide +kernel
theorem dX9_undo_14 : decode cX9_undo 14 = .ok (.bipush (-2), 2) := by decide +kernel
theorem dX9_undo_16 : decode cX9_undo 16 = .ok (.ireturn, 1) := by decide +kernel
theorem dX9_undo_17 : decode cX9_undo 17 = .ok (.aload_n 0, 1) := by decide +kernel
theorem dX9_undo_18 : decode cX9_undo 18 = .ok (.dup, 1) := by decide +kernel
theorem dX9_undo_19 : decode cX9_undo 19 = .ok (.getfield 109, 3) := by decide +kernel
theorem dX9_undo_22 : decode cX9_undo 22 = .ok (.iload_n 1, 1) := by decide +kernel
theorem dX9_undo_23 : decode cX9_undo 23 = .ok (.isub, 1) := by decide +kernel
theorem dX9_undo_24 : decode cX9_undo 24 = .ok (.putfield 109, 3) := by decide +kernel
theorem dX9_undo_27 : decode cX9_undo 27 = .ok (.iconst 0, 1) := by decide +kernel
theorem dX9_undo_28 : decode cX9_undo 28 = .ok (.istore_n 2, 1) := by decide +kernel
theorem dX9_undo_29 : decode cX9_undo 29 = .ok (.iconst 0, 1) := by decide +kernel
theorem dX9_undo_30 : decode cX9_undo 30 = .ok (.istore_n 3, 1) := by decide +kernel
theorem dX9_undo_31 : decode cX9_undo 31 = .ok (.iload_n 3, 1) := by decide +kernel
theorem dX9_undo_32 : decode cX9_undo 32 = .ok (.aload_n 0, 1) := by decide +kernel
theorem dX9_undo_33 : decode cX9_undo 33 = .ok (.getfield 170, 3) := by decide +kernel
theorem dX9_undo_36 : decode cX9_undo 36 = .ok (.if_icmp .ge 73, 3) := by decide +kernel
theorem dX9_undo_39 : decode cX9_undo 39 = .ok (.aload_n 0, 1) := by decide +kernel
theorem dX9_undo_40 : decode cX9_undo 40 = .ok (.aload_n 0, 1) := by decide +kernel
theorem dX9_undo_41 : decode cX9_undo 41 = .ok (.getfield 71, 3) := by decide +kernel
theorem dX9_undo_44 : decode cX9_undo 44 = .ok (.iload_n 3, 1) := by decide +kernel
theorem dX9_undo_45 : decode cX9_undo 45 = .ok (.iaload, 1) := by decide +kernel
theorem dX9_undo_46 : decode cX9_undo 46 = .ok (.invokevirtual 188, 3) := by decide +kernel
theorem dX9_undo_49 : decode cX9_undo 49 = .ok (.ifCond .ne 54, 3) := by decide +kernel
theorem dX9_undo_52 : decode cX9_undo 52 = .ok (.aload_n 0, 1) := by decide +kernel
theorem dX9_undo_53 : decode cX9_undo 53 = .ok (.getfield 68, 3) := by decide +kernel
theorem dX9_undo_56 : decode cX9_undo 56 = .ok (.iload_n 2, 1) := by decide +kernel
theorem dX9_undo_57 : decode cX9_undo 57 = .ok (.aload_n 0, 1) := by decide +kernel
theorem dX9_undo_58 : decode cX9_undo 58 = .ok (.getfield 68, 3) := by decide +kernel
theorem dX9_undo_61 : decode cX9_undo 61 = .ok (.iload_n 3, 1) := by decide +kernel
theorem dX9_undo_62 : decode cX9_undo 62 = .ok (.iaload, 1) := by decide +kernel
theorem dX9_undo_63 : decode cX9_undo 63 = .ok (.iastore, 1) := by decide +kernel
theorem dX9_undo_64 : decode cX9_undo 64 = .ok (.aload_n 0, 1) := by decide +kernel
theorem dX9_undo_65 : decode cX9_undo 65 = .ok (.getfield 71, 3) := by decide +kernel
theorem dX9_undo_68 : decode cX9_undo 68 = .ok (.iload_n 2, 1) := by decide +kernel
theorem dX9_undo_69 : decode cX9_undo 69 = .ok (.aload_n 0, 1) := by decide +kernel
theorem dX9_undo_70 : decode cX9_undo 70 = .ok (.getfield 71, 3) := by decide +kernel
theorem dX9_undo_73 : decode cX9_undo 73 = .ok (.iload_n 3, 1) := by decide +kernel
theorem dX9_undo_74 : decode cX9_undo 74 = .ok (.iaload, 1) := by decide +kernel
theorem dX9_undo_75 : decode cX9_undo 75 = .ok (.iastore, 1) := by decide +kernel
theorem dX9_undo_76 : decode cX9_undo 76 = .ok (.aload_n 0, 1) := by decide +kernel
theorem dX9_undo_77 : decode cX9_undo 77 = .ok (.getfield 74, 3) := by decide +kernel
theorem dX9_undo_80 : decode cX9_undo 80 = .ok (.iload_n 2, 1) := by decide +kernel
theorem dX9_undo_81 : decode cX9_undo 81 = .ok (.aload_n 0, 1) := by decide +kernel
theorem dX9_undo_82 : decode cX9_undo 82 = .ok (.getfield 74, 3) := by decide +kernel
theorem dX9_undo_85 : decode cX9_undo 85 = .ok (.iload_n 3, 1) := by decide +kernel
theorem dX9_undo_86 : decode cX9_undo 86 = .ok (.iaload, 1) := by decide +kernel
theorem dX9_undo_87 : decode cX9_undo 87 = .ok (.iastore, 1) := by decide +kernel
theorem dX9_undo_88 : decode cX9_undo 88 = .ok (.aload_n 0, 1) := by decide +kernel
theorem dX9_undo_89 : decode cX9_undo 89 = .ok (.getfield 77, 3) := by decide +kernel
theorem dX9_undo_92 : decode cX9_undo 92 = .ok (.iload_n 2, 1) := by decide +kernel
theorem dX9_undo_93 : decode cX9_undo 93 = .ok (.aload_n 0, 1) := by decide +kernel
theorem dX9_undo_94 : decode cX9_undo 94 = .ok (.getfield 77, 3) := by decide +kernel
theorem dX9_undo_97 : decode cX9_undo 97 = .ok (.iload_n 3, 1) := by decide +kernel
theorem dX9_undo_98 : decode cX9_undo 98 = .ok (.baload, 1) := by decide +kernel
theorem dX9_undo_99 : decode cX9_undo 99 = .ok (.bastore, 1) := by decide +kernel
theorem dX9_undo_100 : decode cX9_undo 100 = .ok (.iinc 2 1, 3) := by decide +kernel
theorem dX9_undo_103 : decode cX9_undo 103 = .ok (.iinc 3 1, 3) := by decide +kernel
theorem dX9_undo_106 : decode cX9_undo 106 = .ok (.goto (-75), 3) := by decide +kernel
theorem dX9_undo_109 : decode cX9_undo 109 = .ok (.aload_n 0, 1) := by decide +kernel
theorem dX9_undo_110 : decode cX9_undo 110 = .ok (.iload_n 2, 1) := by decide +kernel
theorem dX9_undo_111 : decode cX9_undo 111 = .ok (.putfield 170, 3) := by decide +kernel
theorem dX9_undo_114 : decode cX9_undo 114 = .ok (.aload_n 0, 1) := by decide +kernel
theorem dX9_undo_115 : decode cX9_undo 115 = .ok (.getfield 109, 3) := by decide +kernel
theorem dX9_undo_118 : decode cX9_undo 118 = .ok (.ireturn, 1) := by decide +kernel
set_option maxRecDepth 20000 in
theorem ggX9_move_X9_noPerson : GoodIn wsX9_move wsX9_noPerson := goodIn_r _ [9, 10, 11, 12, 8, 13, 22, 23, 24, 25, 26, 27, 28, 29, 30, 31, 32, 33, 34, 35, 36, 37, 38, 39, 40, 41, 42, 43, 44, 45, 46, 47, 48, 49, 50, 51, 52, 53, 54, 55, 56, 57, 58, 59] (by decide +kernel) (by decide +kernel)
set_option maxRecDepth 20000 in
theorem gX9_move_X9_noPerson : GoodIn wsX9_move (wsV RX9 173 RX9 yX9_noPerson wsX9_noPerson) := goodIn_app (goodIn_of _ (by decide +kernel)) ggX9_move_X9_noPerson
set_option maxRecDepth 20000 in
theorem ggX9_move_X9_noHearth : GoodIn wsX9_move wsX9_noHearth := goodIn_r _ [16, 17, 11, 12, 8, 13] (by decide +kernel) (by decide +kernel)
set_option maxRecDepth 20000 in
theorem gX9_move_X9_noHearth : GoodIn wsX9_move (va_wsS RX9 191 yX9_noHearth wsX9_noHearth) := goodIn_app (goodIn_of _ (by decide +kernel)) ggX9_move_X9_noHearth
set_option maxRecDepth 20000 in
theorem ggX9_move_X9_isSeason : GoodIn wsX9_move wsX9_isSeason := goodIn_r _ [20, 21, 11, 12, 8, 13] (by decide +kernel) (by decide +kernel)
set_option maxRecDepth 20000 in
theorem gX9_move_X9_isSeason : GoodIn wsX9_move (va_wsS RX9 185 yX9_isSeason wsX9_isSeason) := goodIn_app (goodIn_of _ (by decide +kernel)) ggX9_move_X9_isSeason
theorem dX9_move_0 : decode cX9_move 0 = .ok (.aload_n 0, 1) := by decide +kernel
theorem dX9_move_1 : decode cX9_move 1 = .ok (.iload_n 1, 1) := by decide +kernel
theorem dX9_move_2 : decode cX9_move 2 = .ok (.invokevirtual 173, 3) := by decide +kernel
theorem dX9_move_5 : decode cX9_move 5 = .ok (.ifCond .ne 10, 3) := by decide +kernel
theorem dX9_move_8 : decode cX9_move 8 = .ok (.iload_n 2, 1) := by decide +kernel
theorem dX9_move_9 : decode cX9_move 9 = .ok (.invokestatic 191, 3) := by decide +kernel
theorem dX9_move_12 : decode cX9_move 12 = .ok (.ifCond .eq 5, 3) := by decide +kernel
theorem dX9_move_15 : decode cX9_move 15 = .ok (.iconst (-1), 1) := by decide +kernel
theorem dX9_move_16 : decode cX9_move 16 = .ok (.ireturn, 1) := by decide +kernel
theorem dX9_move_17 : decode cX9_move 17 = .ok (.iload_n 3, 1) := by decide +kernel
theorem dX9_move_18 : decode cX9_move 18 = .ok (.invokestatic 185, 3) := by decide +kernel
theorem dX9_move_21 : decode cX9_move 21 = .ok (.ifCond .ne 6, 3) := by decide +kernel
theorem dX9_move_24 : decode cX9_move 24 = .ok (.bipush (-2), 2) := by decide +kernel
theorem dX9_move_26 : decode cX9_move 26 = .ok (.ireturn, 1) := by decide +kernel
theorem dX9_move_27 : decode cX9_move 27 = .ok (.aload_n 0, 1) := by decide +kernel
theorem dX9_move_28 : decode cX9_move 28 = .ok (.getfield 164, 3) := by decide +kernel
theorem dX9_move_31 : decode cX9_move 31 = .ok (.bipush 8, 2) := by decide +kernel
theorem dX9_move_33 : decode cX9_move 33 = .ok (.if_icmp .ne 6, 3) := by decide +kernel
theorem dX9_move_36 : decode cX9_move 36 = .ok (.bipush (-4), 2) := by decide +kernel
theorem dX9_move_38 : decode cX9_move 38 = .ok (.ireturn, 1) := by decide +kernel
theorem dX9_move_39 : decode cX9_move 39 = .ok (.aload_n 0, 1) := by decide +kernel
theorem dX9_move_40 : decode cX9_move 40 = .ok (.getfield 41, 3) := by decide +kernel
theorem dX9_move_43 : decode cX9_move 43 = .ok (.aload_n 0, 1) := by decide +kernel
theorem dX9_move_44 : decode cX9_move 44 = .ok (.getfield 164, 3) := by decide +kernel
theorem dX9_move_47 : decode cX9_move 47 = .ok (.iload_n 1, 1) := by decide +kernel
theorem dX9_move_48 : decode cX9_move 48 = .ok (.iastore, 1) := by decide +kernel
theorem dX9_move_49 : decode cX9_move 49 = .ok (.aload_n 0, 1) := by decide +kernel
theorem dX9_move_50 : decode cX9_move 50 = .ok (.getfield 44, 3) := by decide +kernel
theorem dX9_move_53 : decode cX9_move 53 = .ok (.aload_n 0, 1) := by decide +kernel
theorem dX9_move_54 : decode cX9_move 54 = .ok (.getfield 164, 3) := by decide +kernel
theorem dX9_move_57 : decode cX9_move 57 = .ok (.iload_n 2, 1) := by decide +kernel
theorem dX9_move_58 : decode cX9_move 58 = .ok (.iastore, 1) := by decide +kernel
theorem dX9_move_59 : decode cX9_move 59 = .ok (.aload_n 0, 1) := by decide +kernel
theorem dX9_move_60 : decode cX9_move 60 = .ok (.getfield 47, 3) := by decide +kernel
theorem dX9_move_63 : decode cX9_move 63 = .ok (.aload_n 0, 1) := by decide +kernel
theorem dX9_move_64 : decode cX9_move 64 = .ok (.getfield 164, 3) := by decide +kernel
theorem dX9_move_67 : decode cX9_move 67 = .ok (.iload_n 3, 1) := by decide +kernel
theorem dX9_move_68 : decode cX9_move 68 = .ok (.iastore, 1) := by decide +kernel
theorem dX9_move_69 : decode cX9_move 69 = .ok (.aload_n 0, 1) := by decide +kernel
theorem dX9_move_70 : decode cX9_move 70 = .ok (.dup, 1) := by decide +kernel
theorem dX9_move_71 : decode cX9_move 71 = .ok (.getfield 164, 3) := by decide +kernel
theorem dX9_move_74 : decode cX9_move 74 = .ok (.iconst 1, 1) := by decide +kernel
theorem dX9_move_75 : decode cX9_move 75 = .ok (.iadd, 1) := by decide +kernel
theorem dX9_move_76 : decode cX9_move 76 = .ok (.putfield 164, 3) := by decide +kernel
theorem dX9_move_79 : decode cX9_move 79 = .ok (.aload_n 0, 1) := by decide +kernel
theorem dX9_move_80 : decode cX9_move 80 = .ok (.getfield 164, 3) := by decide +kernel
theorem dX9_move_83 : decode cX9_move 83 = .ok (.iconst 1, 1) := by decide +kernel
theorem dX9_move_84 : decode cX9_move 84 = .ok (.isub, 1) := by decide +kernel
theorem dX9_move_85 : decode cX9_move 85 = .ok (.ireturn, 1) := by decide +kernel
set_option maxRecDepth 20000 in
theorem ggX9_unmove_X9_in : GoodIn wsX9_unmove wsX9_in := goodIn_r _ [5] (by decide +kernel) (by decide +kernel)
set_option maxRecDepth 20000 in
theorem gX9_unmove_X9_in : GoodIn wsX9_unmove (va_wsS RX9 105 yX9_in wsX9_in) := goodIn_app (goodIn_of _ (by decide +kernel)) ggX9_unmove_X9_in
theorem dX9_unmove_0 : decode cX9_unmove 0 = .ok (.iload_n 1, 1) := by decide +kernel
theorem dX9_unmove_1 : decode cX9_unmove 1 = .ok (.i2l, 1) := by decide +kernel
theorem dX9_unmove_2 : decode cX9_unmove 2 = .ok (.lconst 0, 1) := by decide +kernel
theorem dX9_unmove_3 : decode cX9_unmove 3 = .ok (.aload_n 0, 1) := by decide +kernel
theorem dX9_unmove_4 : decode cX9_unmove 4 = .ok (.getfield 164, 3) := by decide +kernel
theorem dX9_unmove_7 : decode cX9_unmove 7 = .ok (.i2l, 1) := by decide +kernel
theorem dX9_unmove_8 : decode cX9_unmove 8 = .ok (.invokestatic 105, 3) := by decide +kernel
theorem dX9_unmove_11 : decode cX9_unmove 11 = .ok (.ifCond .ne 6, 3) := by decide +kernel
theorem dX9_unmove_14 : decode cX9_unmove 14 = .ok (.bipush (-2), 2) := by decide +kernel
theorem dX9_unmove_16 : decode cX9_unmove 16 = .ok (.ireturn, 1) := by decide +kernel
theorem dX9_unmove_17 : decode cX9_unmove 17 = .ok (.aload_n 0, 1) := by decide +kernel
theorem dX9_unmove_18 : decode cX9_unmove 18 = .ok (.dup, 1) := by decide +kernel
theorem dX9_unmove_19 : decode cX9_unmove 19 = .ok (.getfield 164, 3) := by decide +kernel
theorem dX9_unmove_22 : decode cX9_unmove 22 = .ok (.iload_n 1, 1) := by decide +kernel
theorem dX9_unmove_23 : decode cX9_unmove 23 = .ok (.isub, 1) := by decide +kernel
theorem dX9_unmove_24 : decode cX9_unmove 24 = .ok (.putfield 164, 3) := by decide +kernel
theorem dX9_unmove_27 : decode cX9_unmove 27 = .ok (.aload_n 0, 1) := by decide +kernel
theorem dX9_unmove_28 : decode cX9_unmove 28 = .ok (.getfield 164, 3) := by decide +kernel
theorem dX9_unmove_31 : decode cX9_unmove 31 = .ok (.ireturn, 1) := by decide +kernel
set_option maxRecDepth 20000 in
theorem ggX9_law_X9_in : GoodIn wsX9_law wsX9_in := goodIn_r _ [7] (by decide +kernel) (by decide +kernel)
set_option maxRecDepth 20000 in
theorem gX9_law_X9_in : GoodIn wsX9_law (va_wsS RX9 105 yX9_in wsX9_in) := goodIn_app (goodIn_of _ (by decide +kernel)) ggX9_law_X9_in
theorem dX9_law_0 : decode cX9_law 0 = .ok (.iload_n 1, 1) := by decide +kernel
theorem dX9_law_1 : decode cX9_law 1 = .ok (.i2l, 1) := by decide +kernel
theorem dX9_law_2 : decode cX9_law 2 = .ok (.lconst 0, 1) := by decide +kernel
theorem dX9_law_3 : decode cX9_law 3 = .ok (.ldc2_w 114, 3) := by decide +kernel
theorem dX9_law_6 : decode cX9_law 6 = .ok (.invokestatic 105, 3) := by decide +kernel
theorem dX9_law_9 : decode cX9_law 9 = .ok (.ifCond .ne 6, 3) := by decide +kernel
theorem dX9_law_12 : decode cX9_law 12 = .ok (.bipush (-2), 2) := by decide +kernel
theorem dX9_law_14 : decode cX9_law 14 = .ok (.ireturn, 1) := by decide +kernel
theorem dX9_law_15 : decode cX9_law 15 = .ok (.aload_n 0, 1) := by decide +kernel
theorem dX9_law_16 : decode cX9_law 16 = .ok (.getfield 102, 3) := by decide +kernel
theorem dX9_law_19 : decode cX9_law 19 = .ok (.ifCond .ne 6, 3) := by decide +kernel
theorem dX9_law_22 : decode cX9_law 22 = .ok (.bipush (-3), 2) := by decide +kernel
theorem dX9_law_24 : decode cX9_law 24 = .ok (.ireturn, 1) := by decide +kernel
theorem dX9_law_25 : decode cX9_law 25 = .ok (.aload_n 0, 1) := by decide +kernel
theorem dX9_law_26 : decode cX9_law 26 = .ok (.getfield 161, 3) := by decide +kernel
theorem dX9_law_29 : decode cX9_law 29 = .ok (.istore_n 2, 1) := by decide +kernel
theorem dX9_law_30 : decode cX9_law 30 = .ok (.aload_n 0, 1) := by decide +kernel
theorem dX9_law_31 : decode cX9_law 31 = .ok (.iload_n 1, 1) := by decide +kernel
theorem dX9_law_32 : decode cX9_law 32 = .ok (.putfield 161, 3) := by decide +kernel
theorem dX9_law_35 : decode cX9_law 35 = .ok (.iload_n 2, 1) := by decide +kernel
theorem dX9_law_36 : decode cX9_law 36 = .ok (.ireturn, 1) := by decide +kernel
set_option maxRecDepth 20000 in
theorem ggX9_pay_X9_noPerson : GoodIn wsX9_pay wsX9_noPerson := goodIn_r _ [6, 7, 8, 9, 5, 10, 14, 15, 16, 17, 18, 19, 20, 21, 22, 23, 24, 25, 26, 27, 28, 29, 30, 31, 32, 33, 34, 35, 36, 37, 38, 39, 40, 41, 42, 43, 44, 45, 46, 47, 48, 49, 50, 51] (by decide +kernel) (by decide +kernel)
set_option maxRecDepth 20000 in
theorem gX9_pay_X9_noPerson : GoodIn wsX9_pay (wsV RX9 173 RX9 yX9_noPerson wsX9_noPerson) := goodIn_app (goodIn_of _ (by decide +kernel)) ggX9_pay_X9_noPerson
set_option maxRecDepth 20000 in
theorem ggX9_pay_X9_isIn : GoodIn wsX9_pay wsX9_isIn := goodIn_r _ [13] (by decide +kernel) (by decide +kernel)
set_option maxRecDepth 20000 in
theorem gX9_pay_X9_isIn : GoodIn wsX9_pay (va_wsS RX9 179 yX9_isIn wsX9_isIn) := goodIn_app (goodIn_of _ (by decide +kernel)) ggX9_pay_X9_isIn
theorem dX9_pay_0 : decode cX9_pay 0 = .ok (.aload_n 0, 1) := by decide +kernel
theorem dX9_pay_1 : decode cX9_pay 1 = .ok (.iload_n 1, 1) := by decide +kernel
theorem dX9_pay_2 : decode cX9_pay 2 = .ok (.invokevirtual 173, 3) := by decide +kernel
theorem dX9_pay_5 : decode cX9_pay 5 = .ok (.ifCond .eq 5, 3) := by decide +kernel
theorem dX9_pay_8 : decode cX9_pay 8 = .ok (.iconst (-1), 1) := by decide +kernel
theorem dX9_pay_9 : decode cX9_pay 9 = .ok (.ireturn, 1) := by decide +kernel
theorem dX9_pay_10 : decode cX9_pay 10 = .ok (.aload_n 0, 1) := by decide +kernel
theorem dX9_pay_11 : decode cX9_pay 11 = .ok (.getfield 158, 3) := by decide +kernel
theorem dX9_pay_14 : decode cX9_pay 14 = .ok (.iload_n 1, 1) := by decide +kernel
theorem dX9_pay_15 : decode cX9_pay 15 = .ok (.invokestatic 179, 3) := by decide +kernel
theorem dX9_pay_18 : decode cX9_pay 18 = .ok (.istore_n 3, 1) := by decide +kernel
theorem dX9_pay_19 : decode cX9_pay 19 = .ok (.aload_n 0, 1) := by decide +kernel
theorem dX9_pay_20 : decode cX9_pay 20 = .ok (.iload_n 2, 1) := by decide +kernel
theorem dX9_pay_21 : decode cX9_pay 21 = .ok (.ifCond .eq 14, 3) := by decide +kernel
theorem dX9_pay_24 : decode cX9_pay 24 = .ok (.aload_n 0, 1) := by decide +kernel
theorem dX9_pay_25 : decode cX9_pay 25 = .ok (.getfield 158, 3) := by decide +kernel
theorem dX9_pay_28 : decode cX9_pay 28 = .ok (.iconst 1, 1) := by decide +kernel
theorem dX9_pay_29 : decode cX9_pay 29 = .ok (.iload_n 1, 1) := by decide +kernel
theorem dX9_pay_30 : decode cX9_pay 30 = .ok (.ishl, 1) := by decide +kernel
theorem dX9_pay_31 : decode cX9_pay 31 = .ok (.ior, 1) := by decide +kernel
theorem dX9_pay_32 : decode cX9_pay 32 = .ok (.goto 13, 3) := by decide +kernel
theorem dX9_pay_35 : decode cX9_pay 35 = .ok (.aload_n 0, 1) := by decide +kernel
theorem dX9_pay_36 : decode cX9_pay 36 = .ok (.getfield 158, 3) := by decide +kernel
theorem dX9_pay_39 : decode cX9_pay 39 = .ok (.iconst 1, 1) := by decide +kernel
theorem dX9_pay_40 : decode cX9_pay 40 = .ok (.iload_n 1, 1) := by decide +kernel
theorem dX9_pay_41 : decode cX9_pay 41 = .ok (.ishl, 1) := by decide +kernel
theorem dX9_pay_42 : decode cX9_pay 42 = .ok (.iconst (-1), 1) := by decide +kernel
theorem dX9_pay_43 : decode cX9_pay 43 = .ok (.ixor, 1) := by decide +kernel
theorem dX9_pay_44 : decode cX9_pay 44 = .ok (.iand, 1) := by decide +kernel
theorem dX9_pay_45 : decode cX9_pay 45 = .ok (.putfield 158, 3) := by decide +kernel
theorem dX9_pay_48 : decode cX9_pay 48 = .ok (.iload_n 3, 1) := by decide +kernel
theorem dX9_pay_49 : decode cX9_pay 49 = .ok (.iload_n 2, 1) := by decide +kernel
theorem dX9_pay_50 : decode cX9_pay 50 = .ok (.if_icmp .ne 7, 3) := by decide +kernel
theorem dX9_pay_53 : decode cX9_pay 53 = .ok (.iconst 0, 1) := by decide +kernel
theorem dX9_pay_54 : decode cX9_pay 54 = .ok (.goto 4, 3) := by decide +kernel
theorem dX9_pay_57 : decode cX9_pay 57 = .ok (.iconst 1, 1) := by decide +kernel
theorem dX9_pay_58 : decode cX9_pay 58 = .ok (.ireturn, 1) := by decide +kernel
set_option maxRecDepth 20000 in
theorem ggX9_parody_X9_noTale : GoodIn wsX9_parody wsX9_noTale := goodIn_r _ [6, 7, 8, 9, 5, 10, 11, 12, 13, 14, 15, 16, 17, 18, 19, 20, 21, 22, 23, 24, 25, 26, 27, 28, 29, 30, 31, 32, 33, 34, 35, 36, 37, 38, 39, 40, 41, 42, 43, 44, 45, 46, 47, 48] (by decide +kernel) (by decide +kernel)
set_option maxRecDepth 20000 in
theorem gX9_parody_X9_noTale : GoodIn wsX9_parody (wsV RX9 188 RX9 yX9_noTale wsX9_noTale) := goodIn_app (goodIn_of _ (by decide +kernel)) ggX9_parody_X9_noTale
theorem dX9_parody_0 : decode cX9_parody 0 = .ok (.aload_n 0, 1) := by decide +kernel
theorem dX9_parody_1 : decode cX9_parody 1 = .ok (.iload_n 1, 1) := by decide +kernel
theorem dX9_parody_2 : decode cX9_parody 2 = .ok (.invokevirtual 188, 3) := by decide +kernel
theorem dX9_parody_5 : decode cX9_parody 5 = .ok (.ifCond .eq 5, 3) := by decide +kernel
theorem dX9_parody_8 : decode cX9_parody 8 = .ok (.iconst (-1), 1) := by decide +kernel
theorem dX9_parody_9 : decode cX9_parody 9 = .ok (.ireturn, 1) := by decide +kernel
theorem dX9_parody_10 : decode cX9_parody 10 = .ok (.aload_n 0, 1) := by decide +kernel
theorem dX9_parody_11 : decode cX9_parody 11 = .ok (.getfield 37, 3) := by decide +kernel
theorem dX9_parody_14 : decode cX9_parody 14 = .ok (.iload_n 1, 1) := by decide +kernel
theorem dX9_parody_15 : decode cX9_parody 15 = .ok (.baload, 1) := by decide +kernel
theorem dX9_parody_16 : decode cX9_parody 16 = .ok (.istore_n 3, 1) := by decide +kernel
theorem dX9_parody_17 : decode cX9_parody 17 = .ok (.aload_n 0, 1) := by decide +kernel
theorem dX9_parody_18 : decode cX9_parody 18 = .ok (.getfield 37, 3) := by decide +kernel
theorem dX9_parody_21 : decode cX9_parody 21 = .ok (.iload_n 1, 1) := by decide +kernel
theorem dX9_parody_22 : decode cX9_parody 22 = .ok (.iload_n 2, 1) := by decide +kernel
theorem dX9_parody_23 : decode cX9_parody 23 = .ok (.bastore, 1) := by decide +kernel
theorem dX9_parody_24 : decode cX9_parody 24 = .ok (.iload_n 3, 1) := by decide +kernel
theorem dX9_parody_25 : decode cX9_parody 25 = .ok (.iload_n 2, 1) := by decide +kernel
theorem dX9_parody_26 : decode cX9_parody 26 = .ok (.if_icmp .ne 7, 3) := by decide +kernel
theorem dX9_parody_29 : decode cX9_parody 29 = .ok (.iconst 0, 1) := by decide +kernel
theorem dX9_parody_30 : decode cX9_parody 30 = .ok (.goto 4, 3) := by decide +kernel
theorem dX9_parody_33 : decode cX9_parody 33 = .ok (.iconst 1, 1) := by decide +kernel
theorem dX9_parody_34 : decode cX9_parody 34 = .ok (.ireturn, 1) := by decide +kernel
theorem dX9_begin_0 : decode cX9_begin 0 = .ok (.iconst 0, 1) := by decide +kernel
theorem dX9_begin_1 : decode cX9_begin 1 = .ok (.istore_n 1, 1) := by decide +kernel
theorem dX9_begin_2 : decode cX9_begin 2 = .ok (.iload_n 1, 1) := by decide +kernel
theorem dX9_begin_3 : decode cX9_begin 3 = .ok (.aload_n 0, 1) := by decide +kernel
theorem dX9_begin_4 : decode cX9_begin 4 = .ok (.getfield 102, 3) := by decide +kernel
theorem dX9_begin_7 : decode cX9_begin 7 = .ok (.if_icmp .ge 21, 3) := by decide +kernel
theorem dX9_begin_10 : decode cX9_begin 10 = .ok (.aload_n 0, 1) := by decide +kernel
theorem dX9_begin_11 : decode cX9_begin 11 = .ok (.getfield 50, 3) := by decide +kernel
theorem dX9_begin_14 : decode cX9_begin 14 = .ok (.iload_n 1, 1) := by decide +kernel
theorem dX9_begin_15 : decode cX9_begin 15 = .ok (.aload_n 0, 1) := by decide +kernel
theorem dX9_begin_16 : decode cX9_begin 16 = .ok (.getfield 16, 3) := by decide +kernel
theorem dX9_begin_19 : decode cX9_begin 19 = .ok (.iload_n 1, 1) := by decide +kernel
theorem dX9_begin_20 : decode cX9_begin 20 = .ok (.iaload, 1) := by decide +kernel
theorem dX9_begin_21 : decode cX9_begin 21 = .ok (.iastore, 1) := by decide +kernel
theorem dX9_begin_22 : decode cX9_begin 22 = .ok (.iinc 1 1, 3) := by decide +kernel
theorem dX9_begin_25 : decode cX9_begin 25 = .ok (.goto (-23), 3) := by decide +kernel
theorem dX9_begin_28 : decode cX9_begin 28 = .ok (.iconst 0, 1) := by decide +kernel
theorem dX9_begin_29 : decode cX9_begin 29 = .ok (.istore_n 1, 1) := by decide +kernel
theorem dX9_begin_30 : decode cX9_begin 30 = .ok (.iload_n 1, 1) := by decide +kernel
theorem dX9_begin_31 : decode cX9_begin 31 = .ok (.bipush 36, 2) := by decide +kernel
theorem dX9_begin_33 : decode cX9_begin 33 = .ok (.if_icmp .ge 18, 3) := by decide +kernel
theorem dX9_begin_36 : decode cX9_begin 36 = .ok (.aload_n 0, 1) := by decide +kernel
theorem dX9_begin_37 : decode cX9_begin 37 = .ok (.getfield 53, 3) := by decide +kernel
theorem dX9_begin_40 : decode cX9_begin 40 = .ok (.iload_n 1, 1) := by decide +kernel
theorem dX9_begin_41 : decode cX9_begin 41 = .ok (.sipush (-999), 3) := by decide +kernel
theorem dX9_begin_44 : decode cX9_begin 44 = .ok (.iastore, 1) := by decide +kernel
theorem dX9_begin_45 : decode cX9_begin 45 = .ok (.iinc 1 1, 3) := by decide +kernel
theorem dX9_begin_48 : decode cX9_begin 48 = .ok (.goto (-18), 3) := by decide +kernel
theorem dX9_begin_51 : decode cX9_begin 51 = .ok (.iconst 0, 1) := by decide +kernel
theorem dX9_begin_52 : decode cX9_begin 52 = .ok (.istore_n 1, 1) := by decide +kernel
theorem dX9_begin_53 : decode cX9_begin 53 = .ok (.iload_n 1, 1) := by decide +kernel
theorem dX9_begin_54 : decode cX9_begin 54 = .ok (.bipush 18, 2) := by decide +kernel
theorem dX9_begin_56 : decode cX9_begin 56 = .ok (.if_icmp .ge 18, 3) := by decide +kernel
theorem dX9_begin_59 : decode cX9_begin 59 = .ok (.aload_n 0, 1) := by decide +kernel
theorem dX9_begin_60 : decode cX9_begin 60 = .ok (.getfield 56, 3) := by decide +kernel
theorem dX9_begin_63 : decode cX9_begin 63 = .ok (.iload_n 1, 1) := by decide +kernel
theorem dX9_begin_64 : decode cX9_begin 64 = .ok (.sipush (-999), 3) := by decide +kernel
theorem dX9_begin_67 : decode cX9_begin 67 = .ok (.iastore, 1) := by decide +kernel
theorem dX9_begin_68 : decode cX9_begin 68 = .ok (.iinc 1 1, 3) := by decide +kernel
theorem dX9_begin_71 : decode cX9_begin 71 = .ok (.goto (-18), 3) := by decide +kernel
theorem dX9_begin_74 : decode cX9_begin 74 = .ok (.return_, 1) := by decide +kernel
set_option maxRecDepth 20000 in
theorem ggX9_doesRemember_X9_memoryOf : GoodIn wsX9_doesRemember wsX9_memoryOf := goodIn_r _ [6, 7, 8, 9, 10, 11, 12, 13, 14, 15, 16, 17, 18, 19, 20, 21, 22, 23, 24, 25, 26, 27, 28, 29, 30, 31, 32, 33, 34, 35, 36, 37, 38, 39, 40, 41, 42, 43, 44, 45, 46] (by decide +kernel) (by decide +kernel)
set_option maxRecDepth 20000 in
theorem gX9_doesRemember_X9_memoryOf : GoodIn wsX9_doesRemember (wsV RX9 176 RX9 yX9_memoryOf wsX9_memoryOf) := goodIn_app (goodIn_of _ (by decide +kernel)) ggX9_doesRemember_X9_memoryOf
theorem dX9_doesRemember_0 : decode cX9_doesRemember 0 = .ok (.iload_n 3, 1) := by decide +kernel
theorem dX9_doesRemember_1 : decode cX9_doesRemember 1 = .ok (.aload_n 0, 1) := by decide +kernel
theorem dX9_doesRemember_2 : decode cX9_doesRemember 2 = .ok (.getfield 53, 3) := by decide +kernel
theorem dX9_doesRemember_5 : decode cX9_doesRemember 5 = .ok (.bipush 6, 2) := by decide +kernel
theorem dX9_doesRemember_7 : decode cX9_doesRemember 7 = .ok (.iload_n 1, 1) := by decide +kernel
theorem dX9_doesRemember_8 : decode cX9_doesRemember 8 = .ok (.imul, 1) := by decide +kernel
theorem dX9_doesRemember_9 : decode cX9_doesRemember 9 = .ok (.iload_n 2, 1) := by decide +kernel
theorem dX9_doesRemember_10 : decode cX9_doesRemember 10 = .ok (.iadd, 1) := by decide +kernel
theorem dX9_doesRemember_11 : decode cX9_doesRemember 11 = .ok (.iaload, 1) := by decide +kernel
theorem dX9_doesRemember_12 : decode cX9_doesRemember 12 = .ok (.isub, 1) := by decide +kernel
theorem dX9_doesRemember_13 : decode cX9_doesRemember 13 = .ok (.aload_n 0, 1) := by decide +kernel
theorem dX9_doesRemember_14 : decode cX9_doesRemember 14 = .ok (.iload_n 1, 1) := by decide +kernel
theorem dX9_doesRemember_15 : decode cX9_doesRemember 15 = .ok (.invokevirtual 176, 3) := by decide +kernel
theorem dX9_doesRemember_18 : decode cX9_doesRemember 18 = .ok (.if_icmp .gt 7, 3) := by decide +kernel
theorem dX9_doesRemember_21 : decode cX9_doesRemember 21 = .ok (.iconst 1, 1) := by decide +kernel
theorem dX9_doesRemember_22 : decode cX9_doesRemember 22 = .ok (.goto 4, 3) := by decide +kernel
theorem dX9_doesRemember_25 : decode cX9_doesRemember 25 = .ok (.iconst 0, 1) := by decide +kernel
theorem dX9_doesRemember_26 : decode cX9_doesRemember 26 = .ok (.ireturn, 1) := by decide +kernel
set_option maxRecDepth 20000 in
theorem ggX9_isAlive_X9_doesRemember : GoodIn wsX9_isAlive wsX9_doesRemember := goodIn_r _ [6, 7, 8, 9, 10, 5, 11, 12, 13, 14, 15, 16, 17, 18, 19, 20, 21, 22, 23, 24, 25, 26, 27, 28, 29, 30, 31, 32, 33, 34, 35, 36, 37, 38, 39, 40, 41, 42, 43, 44, 45, 46, 47, 48, 49, 50, 51] (by decide +kernel) (by decide +kernel)
set_option maxRecDepth 20000 in
theorem gX9_isAlive_X9_doesRemember : GoodIn wsX9_isAlive (wsV RX9 194 RX9 yX9_doesRemember wsX9_doesRemember) := goodIn_app (goodIn_of _ (by decide +kernel)) ggX9_isAlive_X9_doesRemember
theorem dX9_isAlive_0 : decode cX9_isAlive 0 = .ok (.iconst 0, 1) := by decide +kernel
theorem dX9_isAlive_1 : decode cX9_isAlive 1 = .ok (.istore_n 3, 1) := by decide +kernel
theorem dX9_isAlive_2 : decode cX9_isAlive 2 = .ok (.iconst 0, 1) := by decide +kernel
theorem dX9_isAlive_3 : decode cX9_isAlive 3 = .ok (.istore 4, 2) := by decide +kernel
theorem dX9_isAlive_5 : decode cX9_isAlive 5 = .ok (.iload 4, 2) := by decide +kernel
theorem dX9_isAlive_7 : decode cX9_isAlive 7 = .ok (.aload_n 0, 1) := by decide +kernel
theorem dX9_isAlive_8 : decode cX9_isAlive 8 = .ok (.getfield 102, 3) := by decide +kernel
theorem dX9_isAlive_11 : decode cX9_isAlive 11 = .ok (.if_icmp .ge 30, 3) := by decide +kernel
theorem dX9_isAlive_14 : decode cX9_isAlive 14 = .ok (.iload_n 3, 1) := by decide +kernel
theorem dX9_isAlive_15 : decode cX9_isAlive 15 = .ok (.ifCond .ne 14, 3) := by decide +kernel
theorem dX9_isAlive_18 : decode cX9_isAlive 18 = .ok (.aload_n 0, 1) := by decide +kernel
theorem dX9_isAlive_19 : decode cX9_isAlive 19 = .ok (.iload 4, 2) := by decide +kernel
theorem dX9_isAlive_21 : decode cX9_isAlive 21 = .ok (.iload_n 1, 1) := by decide +kernel
theorem dX9_isAlive_22 : decode cX9_isAlive 22 = .ok (.iload_n 2, 1) := by decide +kernel
theorem dX9_isAlive_23 : decode cX9_isAlive 23 = .ok (.invokevirtual 194, 3) := by decide +kernel
theorem dX9_isAlive_26 : decode cX9_isAlive 26 = .ok (.ifCond .eq 7, 3) := by decide +kernel
theorem dX9_isAlive_29 : decode cX9_isAlive 29 = .ok (.iconst 1, 1) := by decide +kernel
theorem dX9_isAlive_30 : decode cX9_isAlive 30 = .ok (.goto 4, 3) := by decide +kernel
theorem dX9_isAlive_33 : decode cX9_isAlive 33 = .ok (.iconst 0, 1) := by decide +kernel
theorem dX9_isAlive_34 : decode cX9_isAlive 34 = .ok (.istore_n 3, 1) := by decide +kernel
theorem dX9_isAlive_35 : decode cX9_isAlive 35 = .ok (.iinc 4 1, 3) := by decide +kernel
theorem dX9_isAlive_38 : decode cX9_isAlive 38 = .ok (.goto (-33), 3) := by decide +kernel
theorem dX9_isAlive_41 : decode cX9_isAlive 41 = .ok (.iload_n 3, 1) := by decide +kernel
theorem dX9_isAlive_42 : decode cX9_isAlive 42 = .ok (.ireturn, 1) := by decide +kernel
set_option maxRecDepth 20000 in
theorem ggX9_isKnownAt_X9_doesRemember : GoodIn wsX9_isKnownAt wsX9_doesRemember := goodIn_r _ [7, 8, 9, 10, 11, 6, 12, 13, 14, 15, 16, 17, 18, 19, 20, 21, 22, 23, 24, 25, 26, 27, 28, 29, 30, 31, 32, 33, 34, 35, 36, 37, 38, 39, 40, 41, 42, 43, 44, 45, 46, 47, 48, 49, 50, 51, 52] (by decide +kernel) (by decide +kernel)
set_option maxRecDepth 20000 in
theorem gX9_isKnownAt_X9_doesRemember : GoodIn wsX9_isKnownAt (wsV RX9 194 RX9 yX9_doesRemember wsX9_doesRemember) := goodIn_app (goodIn_of _ (by decide +kernel)) ggX9_isKnownAt_X9_doesRemember
theorem dX9_isKnownAt_0 : decode cX9_isKnownAt 0 = .ok (.iconst 0, 1) := by decide +kernel
theorem dX9_isKnownAt_1 : decode cX9_isKnownAt 1 = .ok (.istore 4, 2) := by decide +kernel
theorem dX9_isKnownAt_3 : decode cX9_isKnownAt 3 = .ok (.iconst 0, 1) := by decide +kernel
theorem dX9_isKnownAt_4 : decode cX9_isKnownAt 4 = .ok (.istore 5, 2) := by decide +kernel
theorem dX9_isKnownAt_6 : decode cX9_isKnownAt 6 = .ok (.iload 5, 2) := by decide +kernel
theorem dX9_isKnownAt_8 : decode cX9_isKnownAt 8 = .ok (.aload_n 0, 1) := by decide +kernel
theorem dX9_isKnownAt_9 : decode cX9_isKnownAt 9 = .ok (.getfield 102, 3) := by decide +kernel
theorem dX9_isKnownAt_12 : decode cX9_isKnownAt 12 = .ok (.if_icmp .ge 43, 3) := by decide +kernel
theorem dX9_isKnownAt_15 : decode cX9_isKnownAt 15 = .ok (.iload 4, 2) := by decide +kernel
theorem dX9_isKnownAt_17 : decode cX9_isKnownAt 17 = .ok (.ifCond .ne 25, 3) := by decide +kernel
theorem dX9_isKnownAt_20 : decode cX9_isKnownAt 20 = .ok (.aload_n 0, 1) := by decide +kernel
theorem dX9_isKnownAt_21 : decode cX9_isKnownAt 21 = .ok (.getfield 50, 3) := by decide +kernel
theorem dX9_isKnownAt_24 : decode cX9_isKnownAt 24 = .ok (.iload 5, 2) := by decide +kernel
theorem dX9_isKnownAt_26 : decode cX9_isKnownAt 26 = .ok (.iaload, 1) := by decide +kernel
theorem dX9_isKnownAt_27 : decode cX9_isKnownAt 27 = .ok (.iload_n 1, 1) := by decide +kernel
theorem dX9_isKnownAt_28 : decode cX9_isKnownAt 28 = .ok (.if_icmp .ne 18, 3) := by decide +kernel
theorem dX9_isKnownAt_31 : decode cX9_isKnownAt 31 = .ok (.aload_n 0, 1) := by decide +kernel
theorem dX9_isKnownAt_32 : decode cX9_isKnownAt 32 = .ok (.iload 5, 2) := by decide +kernel
theorem dX9_isKnownAt_34 : decode cX9_isKnownAt 34 = .ok (.iload_n 2, 1) := by decide +kernel
theorem dX9_isKnownAt_35 : decode cX9_isKnownAt 35 = .ok (.iload_n 3, 1) := by decide +kernel
theorem dX9_isKnownAt_36 : decode cX9_isKnownAt 36 = .ok (.invokevirtual 194, 3) := by decide +kernel
theorem dX9_isKnownAt_39 : decode cX9_isKnownAt 39 = .ok (.ifCond .eq 7, 3) := by decide +kernel
theorem dX9_isKnownAt_42 : decode cX9_isKnownAt 42 = .ok (.iconst 1, 1) := by decide +kernel
theorem dX9_isKnownAt_43 : decode cX9_isKnownAt 43 = .ok (.goto 4, 3) := by decide +kernel
theorem dX9_isKnownAt_46 : decode cX9_isKnownAt 46 = .ok (.iconst 0, 1) := by decide +kernel
theorem dX9_isKnownAt_47 : decode cX9_isKnownAt 47 = .ok (.istore 4, 2) := by decide +kernel
theorem dX9_isKnownAt_49 : decode cX9_isKnownAt 49 = .ok (.iinc 5 1, 3) := by decide +kernel
theorem dX9_isKnownAt_52 : decode cX9_isKnownAt 52 = .ok (.goto (-46), 3) := by decide +kernel
theorem dX9_isKnownAt_55 : decode cX9_isKnownAt 55 = .ok (.iload 4, 2) := by decide +kernel
theorem dX9_isKnownAt_57 : decode cX9_isKnownAt 57 = .ok (.ireturn, 1) := by decide +kernel
theorem dX9_isRather_0 : decode cX9_isRather 0 = .ok (.aload_n 0, 1) := by decide +kernel
theorem dX9_isRather_1 : decode cX9_isRather 1 = .ok (.getfield 161, 3) := by decide +kernel
theorem dX9_isRather_4 : decode cX9_isRather 4 = .ok (.iconst 2, 1) := by decide +kernel
theorem dX9_isRather_5 : decode cX9_isRather 5 = .ok (.if_icmp .ge 34, 3) := by decide +kernel
theorem dX9_isRather_8 : decode cX9_isRather 8 = .ok (.aload_n 0, 1) := by decide +kernel
theorem dX9_isRather_9 : decode cX9_isRather 9 = .ok (.getfield 161, 3) := by decide +kernel
theorem dX9_isRather_12 : decode cX9_isRather 12 = .ok (.ifCond .ne 16, 3) := by decide +kernel
theorem dX9_isRather_15 : decode cX9_isRather 15 = .ok (.iload_n 2, 1) := by decide +kernel
theorem dX9_isRather_16 : decode cX9_isRather 16 = .ok (.iload_n 3, 1) := by decide +kernel
theorem dX9_isRather_17 : decode cX9_isRather 17 = .ok (.if_icmp .le 7, 3) := by decide +kernel
theorem dX9_isRather_20 : decode cX9_isRather 20 = .ok (.iconst 1, 1) := by decide +kernel
theorem dX9_isRather_21 : decode cX9_isRather 21 = .ok (.goto 17, 3) := by decide +kernel
theorem dX9_isRather_24 : decode cX9_isRather 24 = .ok (.iconst 0, 1) := by decide +kernel
theorem dX9_isRather_25 : decode cX9_isRather 25 = .ok (.goto 13, 3) := by decide +kernel
theorem dX9_isRather_28 : decode cX9_isRather 28 = .ok (.iload_n 2, 1) := by decide +kernel
theorem dX9_isRather_29 : decode cX9_isRather 29 = .ok (.iload_n 3, 1) := by decide +kernel
theorem dX9_isRather_30 : decode cX9_isRather 30 = .ok (.if_icmp .ge 7, 3) := by decide +kernel
theorem dX9_isRather_33 : decode cX9_isRather 33 = .ok (.iconst 1, 1) := by decide +kernel
theorem dX9_isRather_34 : decode cX9_isRather 34 = .ok (.goto 4, 3) := by decide +kernel
theorem dX9_isRather_37 : decode cX9_isRather 37 = .ok (.iconst 0, 1) := by decide +kernel
theorem dX9_isRather_38 : decode cX9_isRather 38 = .ok (.ireturn, 1) := by decide +kernel
theorem dX9_isRather_39 : decode cX9_isRather 39 = .ok (.aload_n 0, 1) := by decide +kernel
theorem dX9_isRather_40 : decode cX9_isRather 40 = .ok (.getfield 56, 3) := by decide +kernel
theorem dX9_isRather_43 : decode cX9_isRather 43 = .ok (.bipush 6, 2) := by decide +kernel
theorem dX9_isRather_45 : decode cX9_isRather 45 = .ok (.iload_n 1, 1) := by decide +kernel
theorem dX9_isRather_46 : decode cX9_isRather 46 = .ok (.imul, 1) := by decide +kernel
theorem dX9_isRather_47 : decode cX9_isRather 47 = .ok (.iload_n 3, 1) := by decide +kernel
theorem dX9_isRather_48 : decode cX9_isRather 48 = .ok (.iadd, 1) := by decide +kernel
theorem dX9_isRather_49 : decode cX9_isRather 49 = .ok (.iaload, 1) := by decide +kernel
theorem dX9_isRather_50 : decode cX9_isRather 50 = .ok (.aload_n 0, 1) := by decide +kernel
theorem dX9_isRather_51 : decode cX9_isRather 51 = .ok (.getfield 56, 3) := by decide +kernel
theorem dX9_isRather_54 : decode cX9_isRather 54 = .ok (.bipush 6, 2) := by decide +kernel
theorem dX9_isRather_56 : decode cX9_isRather 56 = .ok (.iload_n 1, 1) := by decide +kernel
theorem dX9_isRather_57 : decode cX9_isRather 57 = .ok (.imul, 1) := by decide +kernel
theorem dX9_isRather_58 : decode cX9_isRather 58 = .ok (.iload_n 2, 1) := by decide +kernel
theorem dX9_isRather_59 : decode cX9_isRather 59 = .ok (.iadd, 1) := by decide +kernel
theorem dX9_isRather_60 : decode cX9_isRather 60 = .ok (.iaload, 1) := by decide +kernel
theorem dX9_isRather_61 : decode cX9_isRather 61 = .ok (.isub, 1) := by decide +kernel
theorem dX9_isRather_62 : decode cX9_isRather 62 = .ok (.istore 4, 2) := by decide +kernel
theorem dX9_isRather_64 : decode cX9_isRather 64 = .ok (.iload 4, 2) := by decide +kernel
theorem dX9_isRather_66 : decode cX9_isRather 66 = .ok (.ifCond .gt 13, 3) := by decide +kernel
theorem dX9_isRather_69 : decode cX9_isRather 69 = .ok (.iload 4, 2) := by decide +kernel
theorem dX9_isRather_71 : decode cX9_isRather 71 = .ok (.ifCond .ne 12, 3) := by decide +kernel
theorem dX9_isRather_74 : decode cX9_isRather 74 = .ok (.iload_n 2, 1) := by decide +kernel
theorem dX9_isRather_75 : decode cX9_isRather 75 = .ok (.iload_n 3, 1) := by decide +kernel
theorem dX9_isRather_76 : decode cX9_isRather 76 = .ok (.if_icmp .ge 7, 3) := by decide +kernel
theorem dX9_isRather_79 : decode cX9_isRather 79 = .ok (.iconst 1, 1) := by decide +kernel
theorem dX9_isRather_80 : decode cX9_isRather 80 = .ok (.goto 4, 3) := by decide +kernel
theorem dX9_isRather_83 : decode cX9_isRather 83 = .ok (.iconst 0, 1) := by decide +kernel
theorem dX9_isRather_84 : decode cX9_isRather 84 = .ok (.ireturn, 1) := by decide +kernel
set_option maxRecDepth 20000 in
theorem ggX9_tellAt_X9_isKnownAt : GoodIn wsX9_tellAt wsX9_isKnownAt := goodIn_r _ [12, 4, 6, 13, 14, 15, 11, 16, 5, 17, 18, 19, 20, 21, 22, 31, 32, 33, 34, 35, 36, 37, 38, 39, 40, 41, 42, 43, 44, 45, 46, 47, 48, 49, 50, 51, 52, 53, 54, 55, 56, 57, 58, 59, 60, 61, 62, 63, 64, 65, 66, 67, 68] (by decide +kernel) (by decide +kernel)
set_option maxRecDepth 20000 in
theorem gX9_tellAt_X9_isKnownAt : GoodIn wsX9_tellAt (wsV RX9 198 RX9 yX9_isKnownAt wsX9_isKnownAt) := goodIn_app (goodIn_of _ (by decide +kernel)) ggX9_tellAt_X9_isKnownAt
set_option maxRecDepth 20000 in
theorem ggX9_tellAt_X9_isRather : GoodIn wsX9_tellAt wsX9_isRather := goodIn_r _ [26, 27, 3, 31, 32, 33, 34, 35, 36, 37, 38, 39, 40, 41, 42, 43, 44, 45, 46, 47, 48, 49, 50, 51, 52, 53, 54, 55, 56, 57, 58, 59, 60, 61, 62, 63, 64, 65, 66, 67, 68] (by decide +kernel) (by decide +kernel)
set_option maxRecDepth 20000 in
theorem gX9_tellAt_X9_isRather : GoodIn wsX9_tellAt (wsV RX9 201 RX9 yX9_isRather wsX9_isRather) := goodIn_app (goodIn_of _ (by decide +kernel)) ggX9_tellAt_X9_isRather
set_option maxRecDepth 20000 in
theorem ggX9_tellAt_X9_isIn : GoodIn wsX9_tellAt wsX9_isIn := goodIn_r _ [30] (by decide +kernel) (by decide +kernel)
set_option maxRecDepth 20000 in
theorem gX9_tellAt_X9_isIn : GoodIn wsX9_tellAt (va_wsS RX9 179 yX9_isIn wsX9_isIn) := goodIn_app (goodIn_of _ (by decide +kernel)) ggX9_tellAt_X9_isIn
theorem dX9_tellAt_0 : decode cX9_tellAt 0 = .ok (.bipush (-9), 2) := by decide +kernel
theorem dX9_tellAt_2 : decode cX9_tellAt 2 = .ok (.istore_n 3, 1) := by decide +kernel
theorem dX9_tellAt_3 : decode cX9_tellAt 3 = .ok (.iconst 0, 1) := by decide +kernel
theorem dX9_tellAt_4 : decode cX9_tellAt 4 = .ok (.istore 4, 2) := by decide +kernel
theorem dX9_tellAt_6 : decode cX9_tellAt 6 = .ok (.iload 4, 2) := by decide +kernel
theorem dX9_tellAt_8 : decode cX9_tellAt 8 = .ok (.aload_n 0, 1) := by decide +kernel
theorem dX9_tellAt_9 : decode cX9_tellAt 9 = .ok (.getfield 109, 3) := by decide +kernel
theorem dX9_tellAt_12 : decode cX9_tellAt 12 = .ok (.if_icmp .ge 38, 3) := by decide +kernel
theorem dX9_tellAt_15 : decode cX9_tellAt 15 = .ok (.aload_n 0, 1) := by decide +kernel
theorem dX9_tellAt_16 : decode cX9_tellAt 16 = .ok (.iload_n 1, 1) := by decide +kernel
theorem dX9_tellAt_17 : decode cX9_tellAt 17 = .ok (.iload 4, 2) := by decide +kernel
theorem dX9_tellAt_19 : decode cX9_tellAt 19 = .ok (.iload_n 2, 1) := by decide +kernel
theorem dX9_tellAt_20 : decode cX9_tellAt 20 = .ok (.invokevirtual 198, 3) := by decide +kernel
theorem dX9_tellAt_23 : decode cX9_tellAt 23 = .ok (.ifCond .eq 21, 3) := by decide +kernel
theorem dX9_tellAt_26 : decode cX9_tellAt 26 = .ok (.iload_n 3, 1) := by decide +kernel
theorem dX9_tellAt_27 : decode cX9_tellAt 27 = .ok (.ifCond .lt 14, 3) := by decide +kernel
theorem dX9_tellAt_30 : decode cX9_tellAt 30 = .ok (.aload_n 0, 1) := by decide +kernel
theorem dX9_tellAt_31 : decode cX9_tellAt 31 = .ok (.iload_n 1, 1) := by decide +kernel
theorem dX9_tellAt_32 : decode cX9_tellAt 32 = .ok (.iload 4, 2) := by decide +kernel
theorem dX9_tellAt_34 : decode cX9_tellAt 34 = .ok (.iload_n 3, 1) := by decide +kernel
theorem dX9_tellAt_35 : decode cX9_tellAt 35 = .ok (.invokevirtual 201, 3) := by decide +kernel
theorem dX9_tellAt_38 : decode cX9_tellAt 38 = .ok (.ifCond .eq 6, 3) := by decide +kernel
theorem dX9_tellAt_41 : decode cX9_tellAt 41 = .ok (.iload 4, 2) := by decide +kernel
theorem dX9_tellAt_43 : decode cX9_tellAt 43 = .ok (.istore_n 3, 1) := by decide +kernel
theorem dX9_tellAt_44 : decode cX9_tellAt 44 = .ok (.iinc 4 1, 3) := by decide +kernel
theorem dX9_tellAt_47 : decode cX9_tellAt 47 = .ok (.goto (-41), 3) := by decide +kernel
theorem dX9_tellAt_50 : decode cX9_tellAt 50 = .ok (.aload_n 0, 1) := by decide +kernel
theorem dX9_tellAt_51 : decode cX9_tellAt 51 = .ok (.getfield 59, 3) := by decide +kernel
theorem dX9_tellAt_54 : decode cX9_tellAt 54 = .ok (.iload_n 1, 1) := by decide +kernel
theorem dX9_tellAt_55 : decode cX9_tellAt 55 = .ok (.iload_n 3, 1) := by decide +kernel
theorem dX9_tellAt_56 : decode cX9_tellAt 56 = .ok (.iastore, 1) := by decide +kernel
theorem dX9_tellAt_57 : decode cX9_tellAt 57 = .ok (.iload_n 3, 1) := by decide +kernel
theorem dX9_tellAt_58 : decode cX9_tellAt 58 = .ok (.ifCond .lt 84, 3) := by decide +kernel
theorem dX9_tellAt_61 : decode cX9_tellAt 61 = .ok (.aload_n 0, 1) := by decide +kernel
theorem dX9_tellAt_62 : decode cX9_tellAt 62 = .ok (.getfield 56, 3) := by decide +kernel
theorem dX9_tellAt_65 : decode cX9_tellAt 65 = .ok (.bipush 6, 2) := by decide +kernel
theorem dX9_tellAt_67 : decode cX9_tellAt 67 = .ok (.iload_n 1, 1) := by decide +kernel
theorem dX9_tellAt_68 : decode cX9_tellAt 68 = .ok (.imul, 1) := by decide +kernel
theorem dX9_tellAt_69 : decode cX9_tellAt 69 = .ok (.iload_n 3, 1) := by decide +kernel
theorem dX9_tellAt_70 : decode cX9_tellAt 70 = .ok (.iadd, 1) := by decide +kernel
theorem dX9_tellAt_71 : decode cX9_tellAt 71 = .ok (.iload_n 2, 1) := by decide +kernel
theorem dX9_tellAt_72 : decode cX9_tellAt 72 = .ok (.iastore, 1) := by decide +kernel
theorem dX9_tellAt_73 : decode cX9_tellAt 73 = .ok (.iconst 0, 1) := by decide +kernel
theorem dX9_tellAt_74 : decode cX9_tellAt 74 = .ok (.istore 4, 2) := by decide +kernel
theorem dX9_tellAt_76 : decode cX9_tellAt 76 = .ok (.iload 4, 2) := by decide +kernel
theorem dX9_tellAt_78 : decode cX9_tellAt 78 = .ok (.aload_n 0, 1) := by decide +kernel
theorem dX9_tellAt_79 : decode cX9_tellAt 79 = .ok (.getfield 102, 3) := by decide +kernel
theorem dX9_tellAt_82 : decode cX9_tellAt 82 = .ok (.if_icmp .ge 60, 3) := by decide +kernel
theorem dX9_tellAt_85 : decode cX9_tellAt 85 = .ok (.aload_n 0, 1) := by decide +kernel
theorem dX9_tellAt_86 : decode cX9_tellAt 86 = .ok (.getfield 53, 3) := by decide +kernel
theorem dX9_tellAt_89 : decode cX9_tellAt 89 = .ok (.bipush 6, 2) := by decide +kernel
theorem dX9_tellAt_91 : decode cX9_tellAt 91 = .ok (.iload 4, 2) := by decide +kernel
theorem dX9_tellAt_93 : decode cX9_tellAt 93 = .ok (.imul, 1) := by decide +kernel
theorem dX9_tellAt_94 : decode cX9_tellAt 94 = .ok (.iload_n 3, 1) := by decide +kernel
theorem dX9_tellAt_95 : decode cX9_tellAt 95 = .ok (.iadd, 1) := by decide +kernel
theorem dX9_tellAt_96 : decode cX9_tellAt 96 = .ok (.aload_n 0, 1) := by decide +kernel
theorem dX9_tellAt_97 : decode cX9_tellAt 97 = .ok (.getfield 50, 3) := by decide +kernel
theorem dX9_tellAt_100 : decode cX9_tellAt 100 = .ok (.iload 4, 2) := by decide +kernel
theorem dX9_tellAt_102 : decode cX9_tellAt 102 = .ok (.iaload, 1) := by decide +kernel
theorem dX9_tellAt_103 : decode cX9_tellAt 103 = .ok (.iload_n 1, 1) := by decide +kernel
theorem dX9_tellAt_104 : decode cX9_tellAt 104 = .ok (.if_icmp .ne 19, 3) := by decide +kernel
theorem dX9_tellAt_107 : decode cX9_tellAt 107 = .ok (.aload_n 0, 1) := by decide +kernel
theorem dX9_tellAt_108 : decode cX9_tellAt 108 = .ok (.getfield 158, 3) := by decide +kernel
theorem dX9_tellAt_111 : decode cX9_tellAt 111 = .ok (.iload 4, 2) := by decide +kernel
theorem dX9_tellAt_113 : decode cX9_tellAt 113 = .ok (.invokestatic 179, 3) := by decide +kernel
theorem dX9_tellAt_116 : decode cX9_tellAt 116 = .ok (.ifCond .ne 7, 3) := by decide +kernel
theorem dX9_tellAt_119 : decode cX9_tellAt 119 = .ok (.iload_n 2, 1) := by decide +kernel
theorem dX9_tellAt_120 : decode cX9_tellAt 120 = .ok (.goto 15, 3) := by decide +kernel
theorem dX9_tellAt_123 : decode cX9_tellAt 123 = .ok (.aload_n 0, 1) := by decide +kernel
theorem dX9_tellAt_124 : decode cX9_tellAt 124 = .ok (.getfield 53, 3) := by decide +kernel
theorem dX9_tellAt_127 : decode cX9_tellAt 127 = .ok (.bipush 6, 2) := by decide +kernel
theorem dX9_tellAt_129 : decode cX9_tellAt 129 = .ok (.iload 4, 2) := by decide +kernel
theorem dX9_tellAt_131 : decode cX9_tellAt 131 = .ok (.imul, 1) := by decide +kernel
theorem dX9_tellAt_132 : decode cX9_tellAt 132 = .ok (.iload_n 3, 1) := by decide +kernel
theorem dX9_tellAt_133 : decode cX9_tellAt 133 = .ok (.iadd, 1) := by decide +kernel
theorem dX9_tellAt_134 : decode cX9_tellAt 134 = .ok (.iaload, 1) := by decide +kernel
theorem dX9_tellAt_135 : decode cX9_tellAt 135 = .ok (.iastore, 1) := by decide +kernel
theorem dX9_tellAt_136 : decode cX9_tellAt 136 = .ok (.iinc 4 1, 3) := by decide +kernel
theorem dX9_tellAt_139 : decode cX9_tellAt 139 = .ok (.goto (-63), 3) := by decide +kernel
theorem dX9_tellAt_142 : decode cX9_tellAt 142 = .ok (.return_, 1) := by decide +kernel
set_option maxRecDepth 20000 in
theorem ggX9_goSeason_X9_tellAt : GoodIn wsX9_goSeason wsX9_tellAt := goodIn_r _ [14, 6, 15, 16, 17, 8, 2, 18, 19, 20, 21, 13, 22, 23, 24, 25, 26, 27, 28, 29, 30, 31, 32, 33, 34, 35, 36, 37, 38, 39, 40, 41, 42, 43, 44, 45, 46, 47, 48, 49, 50, 51, 52, 53, 54, 55, 56, 57, 58, 59, 60, 61, 62, 63, 64, 65, 66, 67, 68, 69, 70, 71, 72, 73, 74, 75, 76, 77, 78] (by decide +kernel) (by decide +kernel)
set_option maxRecDepth 20000 in
theorem gX9_goSeason_X9_tellAt : GoodIn wsX9_goSeason (wsV RX9 204 RX9 yX9_tellAt wsX9_tellAt) := goodIn_app (goodIn_of _ (by decide +kernel)) ggX9_goSeason_X9_tellAt
theorem dX9_goSeason_0 : decode cX9_goSeason 0 = .ok (.iconst 0, 1) := by decide +kernel
theorem dX9_goSeason_1 : decode cX9_goSeason 1 = .ok (.istore_n 2, 1) := by decide +kernel
theorem dX9_goSeason_2 : decode cX9_goSeason 2 = .ok (.iload_n 2, 1) := by decide +kernel
theorem dX9_goSeason_3 : decode cX9_goSeason 3 = .ok (.aload_n 0, 1) := by decide +kernel
theorem dX9_goSeason_4 : decode cX9_goSeason 4 = .ok (.getfield 164, 3) := by decide +kernel
theorem dX9_goSeason_7 : decode cX9_goSeason 7 = .ok (.if_icmp .ge 50, 3) := by decide +kernel
theorem dX9_goSeason_10 : decode cX9_goSeason 10 = .ok (.aload_n 0, 1) := by decide +kernel
theorem dX9_goSeason_11 : decode cX9_goSeason 11 = .ok (.getfield 50, 3) := by decide +kernel
theorem dX9_goSeason_14 : decode cX9_goSeason 14 = .ok (.aload_n 0, 1) := by decide +kernel
theorem dX9_goSeason_15 : decode cX9_goSeason 15 = .ok (.getfield 41, 3) := by decide +kernel
theorem dX9_goSeason_18 : decode cX9_goSeason 18 = .ok (.iload_n 2, 1) := by decide +kernel
theorem dX9_goSeason_19 : decode cX9_goSeason 19 = .ok (.iaload, 1) := by decide +kernel
theorem dX9_goSeason_20 : decode cX9_goSeason 20 = .ok (.aload_n 0, 1) := by decide +kernel
theorem dX9_goSeason_21 : decode cX9_goSeason 21 = .ok (.getfield 47, 3) := by decide +kernel
theorem dX9_goSeason_24 : decode cX9_goSeason 24 = .ok (.iload_n 2, 1) := by decide +kernel
theorem dX9_goSeason_25 : decode cX9_goSeason 25 = .ok (.iaload, 1) := by decide +kernel
theorem dX9_goSeason_26 : decode cX9_goSeason 26 = .ok (.iload_n 1, 1) := by decide +kernel
theorem dX9_goSeason_27 : decode cX9_goSeason 27 = .ok (.if_icmp .ne 12, 3) := by decide +kernel
theorem dX9_goSeason_30 : decode cX9_goSeason 30 = .ok (.aload_n 0, 1) := by decide +kernel
theorem dX9_goSeason_31 : decode cX9_goSeason 31 = .ok (.getfield 44, 3) := by decide +kernel
theorem dX9_goSeason_34 : decode cX9_goSeason 34 = .ok (.iload_n 2, 1) := by decide +kernel
theorem dX9_goSeason_35 : decode cX9_goSeason 35 = .ok (.iaload, 1) := by decide +kernel
theorem dX9_goSeason_36 : decode cX9_goSeason 36 = .ok (.goto 14, 3) := by decide +kernel
theorem dX9_goSeason_39 : decode cX9_goSeason 39 = .ok (.aload_n 0, 1) := by decide +kernel
theorem dX9_goSeason_40 : decode cX9_goSeason 40 = .ok (.getfield 50, 3) := by decide +kernel
theorem dX9_goSeason_43 : decode cX9_goSeason 43 = .ok (.aload_n 0, 1) := by decide +kernel
theorem dX9_goSeason_44 : decode cX9_goSeason 44 = .ok (.getfield 41, 3) := by decide +kernel
theorem dX9_goSeason_47 : decode cX9_goSeason 47 = .ok (.iload_n 2, 1) := by decide +kernel
theorem dX9_goSeason_48 : decode cX9_goSeason 48 = .ok (.iaload, 1) := by decide +kernel
theorem dX9_goSeason_49 : decode cX9_goSeason 49 = .ok (.iaload, 1) := by decide +kernel
theorem dX9_goSeason_50 : decode cX9_goSeason 50 = .ok (.iastore, 1) := by decide +kernel
theorem dX9_goSeason_51 : decode cX9_goSeason 51 = .ok (.iinc 2 1, 3) := by decide +kernel
theorem dX9_goSeason_54 : decode cX9_goSeason 54 = .ok (.goto (-52), 3) := by decide +kernel
theorem dX9_goSeason_57 : decode cX9_goSeason 57 = .ok (.iconst 0, 1) := by decide +kernel
theorem dX9_goSeason_58 : decode cX9_goSeason 58 = .ok (.istore_n 2, 1) := by decide +kernel
theorem dX9_goSeason_59 : decode cX9_goSeason 59 = .ok (.iload_n 2, 1) := by decide +kernel
theorem dX9_goSeason_60 : decode cX9_goSeason 60 = .ok (.aload_n 0, 1) := by decide +kernel
theorem dX9_goSeason_61 : decode cX9_goSeason 61 = .ok (.getfield 109, 3) := by decide +kernel
theorem dX9_goSeason_64 : decode cX9_goSeason 64 = .ok (.if_icmp .ge 47, 3) := by decide +kernel
theorem dX9_goSeason_67 : decode cX9_goSeason 67 = .ok (.bipush 6, 2) := by decide +kernel
theorem dX9_goSeason_69 : decode cX9_goSeason 69 = .ok (.aload_n 0, 1) := by decide +kernel
theorem dX9_goSeason_70 : decode cX9_goSeason 70 = .ok (.getfield 31, 3) := by decide +kernel
theorem dX9_goSeason_73 : decode cX9_goSeason 73 = .ok (.iload_n 2, 1) := by decide +kernel
theorem dX9_goSeason_74 : decode cX9_goSeason 74 = .ok (.iaload, 1) := by decide +kernel
theorem dX9_goSeason_75 : decode cX9_goSeason 75 = .ok (.imul, 1) := by decide +kernel
theorem dX9_goSeason_76 : decode cX9_goSeason 76 = .ok (.iload_n 2, 1) := by decide +kernel
theorem dX9_goSeason_77 : decode cX9_goSeason 77 = .ok (.iadd, 1) := by decide +kernel
theorem dX9_goSeason_78 : decode cX9_goSeason 78 = .ok (.istore_n 3, 1) := by decide +kernel
theorem dX9_goSeason_79 : decode cX9_goSeason 79 = .ok (.aload_n 0, 1) := by decide +kernel
theorem dX9_goSeason_80 : decode cX9_goSeason 80 = .ok (.getfield 53, 3) := by decide +kernel
theorem dX9_goSeason_83 : decode cX9_goSeason 83 = .ok (.iload_n 3, 1) := by decide +kernel
theorem dX9_goSeason_84 : decode cX9_goSeason 84 = .ok (.aload_n 0, 1) := by decide +kernel
theorem dX9_goSeason_85 : decode cX9_goSeason 85 = .ok (.getfield 34, 3) := by decide +kernel
theorem dX9_goSeason_88 : decode cX9_goSeason 88 = .ok (.iload_n 2, 1) := by decide +kernel
theorem dX9_goSeason_89 : decode cX9_goSeason 89 = .ok (.iaload, 1) := by decide +kernel
theorem dX9_goSeason_90 : decode cX9_goSeason 90 = .ok (.iload_n 1, 1) := by decide +kernel
theorem dX9_goSeason_91 : decode cX9_goSeason 91 = .ok (.if_icmp .ne 7, 3) := by decide +kernel
theorem dX9_goSeason_94 : decode cX9_goSeason 94 = .ok (.iload_n 1, 1) := by decide +kernel
theorem dX9_goSeason_95 : decode cX9_goSeason 95 = .ok (.goto 9, 3) := by decide +kernel
theorem dX9_goSeason_98 : decode cX9_goSeason 98 = .ok (.aload_n 0, 1) := by decide +kernel
theorem dX9_goSeason_99 : decode cX9_goSeason 99 = .ok (.getfield 53, 3) := by decide +kernel
theorem dX9_goSeason_102 : decode cX9_goSeason 102 = .ok (.iload_n 3, 1) := by decide +kernel
theorem dX9_goSeason_103 : decode cX9_goSeason 103 = .ok (.iaload, 1) := by decide +kernel
theorem dX9_goSeason_104 : decode cX9_goSeason 104 = .ok (.iastore, 1) := by decide +kernel
theorem dX9_goSeason_105 : decode cX9_goSeason 105 = .ok (.iinc 2 1, 3) := by decide +kernel
theorem dX9_goSeason_108 : decode cX9_goSeason 108 = .ok (.goto (-49), 3) := by decide +kernel
theorem dX9_goSeason_111 : decode cX9_goSeason 111 = .ok (.iconst 0, 1) := by decide +kernel
theorem dX9_goSeason_112 : decode cX9_goSeason 112 = .ok (.istore_n 2, 1) := by decide +kernel
theorem dX9_goSeason_113 : decode cX9_goSeason 113 = .ok (.iload_n 2, 1) := by decide +kernel
theorem dX9_goSeason_114 : decode cX9_goSeason 114 = .ok (.iconst 3, 1) := by decide +kernel
theorem dX9_goSeason_115 : decode cX9_goSeason 115 = .ok (.if_icmp .ge 15, 3) := by decide +kernel
theorem dX9_goSeason_118 : decode cX9_goSeason 118 = .ok (.aload_n 0, 1) := by decide +kernel
theorem dX9_goSeason_119 : decode cX9_goSeason 119 = .ok (.iload_n 2, 1) := by decide +kernel
theorem dX9_goSeason_120 : decode cX9_goSeason 120 = .ok (.iload_n 1, 1) := by decide +kernel
theorem dX9_goSeason_121 : decode cX9_goSeason 121 = .ok (.invokevirtual 204, 3) := by decide +kernel
theorem dX9_goSeason_124 : decode cX9_goSeason 124 = .ok (.iinc 2 1, 3) := by decide +kernel
theorem dX9_goSeason_127 : decode cX9_goSeason 127 = .ok (.goto (-14), 3) := by decide +kernel
theorem dX9_goSeason_130 : decode cX9_goSeason 130 = .ok (.return_, 1) := by decide +kernel
set_option maxRecDepth 20000 in
theorem ggX9_goTo_X9_begin : GoodIn wsX9_goTo wsX9_begin := goodIn_r _ [5, 6, 7, 8, 9, 10, 50, 51, 52, 53, 54, 55, 56, 57, 58, 59, 60, 61, 62, 63, 64, 65, 66, 67, 68, 69, 70, 71, 72, 73, 74, 75, 76, 77, 78, 79, 80, 81, 82, 83, 84, 85, 86, 87] (by decide +kernel) (by decide +kernel)
set_option maxRecDepth 20000 in
theorem gX9_goTo_X9_begin : GoodIn wsX9_goTo (wsV RX9 208 RX9 yX9_begin wsX9_begin) := goodIn_app (goodIn_of _ (by decide +kernel)) ggX9_goTo_X9_begin
set_option maxRecDepth 20000 in
theorem ggX9_goTo_X9_goSeason : GoodIn wsX9_goTo wsX9_goSeason := goodIn_r _ [14, 15, 7, 16, 17, 18, 19, 20, 9, 21, 22, 23, 24, 4, 25, 26, 10, 6, 27, 28, 29, 30, 31, 32, 33, 34, 35, 36, 37, 38, 39, 40, 41, 42, 43, 44, 45, 46, 47, 48, 49, 50, 51, 52, 53, 54, 55, 56, 57, 58, 59, 60, 61, 62, 63, 64, 65, 66, 67, 68, 69, 70, 71, 72, 73, 74, 75, 76, 77, 78, 79, 80, 81, 82, 83, 84, 85, 86, 87] (by decide +kernel) (by decide +kernel)
set_option maxRecDepth 20000 in
theorem gX9_goTo_X9_goSeason : GoodIn wsX9_goTo (wsV RX9 211 RX9 yX9_goSeason wsX9_goSeason) := goodIn_app (goodIn_of _ (by decide +kernel)) ggX9_goTo_X9_goSeason
theorem dX9_goTo_0 : decode cX9_goTo 0 = .ok (.aload_n 0, 1) := by decide +kernel
theorem dX9_goTo_1 : decode cX9_goTo 1 = .ok (.invokevirtual 208, 3) := by decide +kernel
theorem dX9_goTo_4 : decode cX9_goTo 4 = .ok (.iconst 0, 1) := by decide +kernel
theorem dX9_goTo_5 : decode cX9_goTo 5 = .ok (.istore_n 2, 1) := by decide +kernel
theorem dX9_goTo_6 : decode cX9_goTo 6 = .ok (.iload_n 2, 1) := by decide +kernel
theorem dX9_goTo_7 : decode cX9_goTo 7 = .ok (.iload_n 1, 1) := by decide +kernel
theorem dX9_goTo_8 : decode cX9_goTo 8 = .ok (.if_icmp .gt 14, 3) := by decide +kernel
theorem dX9_goTo_11 : decode cX9_goTo 11 = .ok (.aload_n 0, 1) := by decide +kernel
theorem dX9_goTo_12 : decode cX9_goTo 12 = .ok (.iload_n 2, 1) := by decide +kernel
theorem dX9_goTo_13 : decode cX9_goTo 13 = .ok (.invokevirtual 211, 3) := by decide +kernel
theorem dX9_goTo_16 : decode cX9_goTo 16 = .ok (.iinc 2 1, 3) := by decide +kernel
theorem dX9_goTo_19 : decode cX9_goTo 19 = .ok (.goto (-13), 3) := by decide +kernel
theorem dX9_goTo_22 : decode cX9_goTo 22 = .ok (.return_, 1) := by decide +kernel
set_option maxRecDepth 20000 in
theorem ggX9_remembers_X9_noPerson : GoodIn wsX9_remembers wsX9_noPerson := goodIn_r _ [6, 7, 8, 9, 5, 10, 65, 66, 67, 68, 69, 70, 71, 72, 73, 74, 75, 76, 77, 78, 79, 80, 81, 82, 83, 84, 85, 86, 87, 88, 89, 90, 91, 92, 93, 94, 95, 96, 97, 98, 99, 100, 101, 102] (by decide +kernel) (by decide +kernel)
set_option maxRecDepth 20000 in
theorem gX9_remembers_X9_noPerson : GoodIn wsX9_remembers (wsV RX9 173 RX9 yX9_noPerson wsX9_noPerson) := goodIn_app (goodIn_of _ (by decide +kernel)) ggX9_remembers_X9_noPerson
set_option maxRecDepth 20000 in
theorem ggX9_remembers_X9_isSeason : GoodIn wsX9_remembers wsX9_isSeason := goodIn_r _ [13, 14, 8, 9, 5, 10] (by decide +kernel) (by decide +kernel)
set_option maxRecDepth 20000 in
theorem gX9_remembers_X9_isSeason : GoodIn wsX9_remembers (va_wsS RX9 185 yX9_isSeason wsX9_isSeason) := goodIn_app (goodIn_of _ (by decide +kernel)) ggX9_remembers_X9_isSeason
set_option maxRecDepth 20000 in
theorem ggX9_remembers_X9_goTo : GoodIn wsX9_remembers wsX9_goTo := goodIn_r _ [18, 19, 20, 21, 5, 22, 7, 23, 24, 25, 26, 27, 28, 29, 30, 31, 32, 33, 34, 1, 35, 36, 37, 38, 39, 40, 41, 42, 43, 44, 45, 46, 47, 48, 49, 50, 51, 52, 53, 54, 55, 56, 57, 58, 59, 60, 61, 62, 63, 64, 65, 66, 67, 68, 69, 70, 71, 72, 73, 74, 75, 76, 77, 78, 79, 80, 81, 82, 83, 84, 85, 86, 87, 88, 89, 90, 91, 92, 93, 94, 95, 96, 97, 98, 99, 100, 101, 102] (by decide +kernel) (by decide +kernel)
set_option maxRecDepth 20000 in
theorem gX9_remembers_X9_goTo : GoodIn wsX9_remembers (wsV RX9 215 RX9 yX9_goTo wsX9_goTo) := goodIn_app (goodIn_of _ (by decide +kernel)) ggX9_remembers_X9_goTo
set_option maxRecDepth 20000 in
theorem ggX9_remembers_X9_doesRemember : GoodIn wsX9_remembers wsX9_doesRemember := goodIn_r _ [50, 25, 51, 52, 53, 5, 54, 55, 56, 65, 66, 67, 68, 69, 70, 71, 72, 73, 74, 75, 76, 77, 78, 79, 80, 81, 82, 83, 84, 85, 86, 87, 88, 89, 90, 91, 92, 93, 94, 95, 96, 97, 98, 99, 100, 101, 102] (by decide +kernel) (by decide +kernel)
set_option maxRecDepth 20000 in
theorem gX9_remembers_X9_doesRemember : GoodIn wsX9_remembers (wsV RX9 194 RX9 yX9_doesRemember wsX9_doesRemember) := goodIn_app (goodIn_of _ (by decide +kernel)) ggX9_remembers_X9_doesRemember
theorem dX9_remembers_0 : decode cX9_remembers 0 = .ok (.aload_n 0, 1) := by decide +kernel
theorem dX9_remembers_1 : decode cX9_remembers 1 = .ok (.iload_n 1, 1) := by decide +kernel
theorem dX9_remembers_2 : decode cX9_remembers 2 = .ok (.invokevirtual 173, 3) := by decide +kernel
theorem dX9_remembers_5 : decode cX9_remembers 5 = .ok (.ifCond .eq 5, 3) := by decide +kernel
theorem dX9_remembers_8 : decode cX9_remembers 8 = .ok (.iconst (-1), 1) := by decide +kernel
theorem dX9_remembers_9 : decode cX9_remembers 9 = .ok (.ireturn, 1) := by decide +kernel
theorem dX9_remembers_10 : decode cX9_remembers 10 = .ok (.iload_n 2, 1) := by decide +kernel
theorem dX9_remembers_11 : decode cX9_remembers 11 = .ok (.invokestatic 185, 3) := by decide +kernel
theorem dX9_remembers_14 : decode cX9_remembers 14 = .ok (.ifCond .ne 6, 3) := by decide +kernel
theorem dX9_remembers_17 : decode cX9_remembers 17 = .ok (.bipush (-2), 2) := by decide +kernel
theorem dX9_remembers_19 : decode cX9_remembers 19 = .ok (.ireturn, 1) := by decide +kernel
theorem dX9_remembers_20 : decode cX9_remembers 20 = .ok (.aload_n 0, 1) := by decide +kernel
theorem dX9_remembers_21 : decode cX9_remembers 21 = .ok (.iload_n 2, 1) := by decide +kernel
theorem dX9_remembers_22 : decode cX9_remembers 22 = .ok (.invokevirtual 215, 3) := by decide +kernel
theorem dX9_remembers_25 : decode cX9_remembers 25 = .ok (.iconst 0, 1) := by decide +kernel
theorem dX9_remembers_26 : decode cX9_remembers 26 = .ok (.istore_n 3, 1) := by decide +kernel
theorem dX9_remembers_27 : decode cX9_remembers 27 = .ok (.iconst 0, 1) := by decide +kernel
theorem dX9_remembers_28 : decode cX9_remembers 28 = .ok (.istore 4, 2) := by decide +kernel
theorem dX9_remembers_30 : decode cX9_remembers 30 = .ok (.iload 4, 2) := by decide +kernel
theorem dX9_remembers_32 : decode cX9_remembers 32 = .ok (.aload_n 0, 1) := by decide +kernel
theorem dX9_remembers_33 : decode cX9_remembers 33 = .ok (.getfield 109, 3) := by decide +kernel
theorem dX9_remembers_36 : decode cX9_remembers 36 = .ok (.if_icmp .ge 31, 3) := by decide +kernel
theorem dX9_remembers_39 : decode cX9_remembers 39 = .ok (.iload_n 3, 1) := by decide +kernel
theorem dX9_remembers_40 : decode cX9_remembers 40 = .ok (.aload_n 0, 1) := by decide +kernel
theorem dX9_remembers_41 : decode cX9_remembers 41 = .ok (.iload_n 1, 1) := by decide +kernel
theorem dX9_remembers_42 : decode cX9_remembers 42 = .ok (.iload 4, 2) := by decide +kernel
theorem dX9_remembers_44 : decode cX9_remembers 44 = .ok (.iload_n 2, 1) := by decide +kernel
theorem dX9_remembers_45 : decode cX9_remembers 45 = .ok (.invokevirtual 194, 3) := by decide +kernel
theorem dX9_remembers_48 : decode cX9_remembers 48 = .ok (.ifCond .eq 10, 3) := by decide +kernel
theorem dX9_remembers_51 : decode cX9_remembers 51 = .ok (.iconst 1, 1) := by decide +kernel
