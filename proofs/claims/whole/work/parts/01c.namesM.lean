set_option maxRecDepth 20000 in
theorem ggX2_init_X2_sideA : GoodIn wsX2_init wsX2_sideA := goodIn_r _ [21] (by decide +kernel) (by decide +kernel)
set_option maxRecDepth 20000 in
theorem gX2_init_X2_sideA : GoodIn wsX2_init (va_wsS RX2 47 yX2_sideA wsX2_sideA) := goodIn_app (goodIn_of _ (by decide +kernel)) ggX2_init_X2_sideA
set_option maxRecDepth 20000 in
theorem ggX2_init_X2_sideB : GoodIn wsX2_init wsX2_sideB := goodIn_r _ [24] (by decide +kernel) (by decide +kernel)
set_option maxRecDepth 20000 in
theorem gX2_init_X2_sideB : GoodIn wsX2_init (va_wsS RX2 51 yX2_sideB wsX2_sideB) := goodIn_app (goodIn_of _ (by decide +kernel)) ggX2_init_X2_sideB
theorem dX2_init_0 : decode cX2_init 0 = .ok (.aload_n 0, 1) := by decide +kernel
theorem dX2_init_1 : decode cX2_init 1 = .ok (.invokespecial 1, 3) := by decide +kernel
theorem dX2_init_4 : decode cX2_init 4 = .ok (.aload_n 0, 1) := by decide +kernel
theorem dX2_init_5 : decode cX2_init 5 = .ok (.sipush 2401, 3) := by decide +kernel
theorem dX2_init_8 : decode cX2_init 8 = .ok (.newarray .int, 2) := by decide +kernel
theorem dX2_init_10 : decode cX2_init 10 = .ok (.putfield 7, 3) := by decide +kernel
theorem dX2_init_13 : decode cX2_init 13 = .ok (.aload_n 0, 1) := by decide +kernel
theorem dX2_init_14 : decode cX2_init 14 = .ok (.sipush 2401, 3) := by decide +kernel
theorem dX2_init_17 : decode cX2_init 17 = .ok (.newarray .int, 2) := by decide +kernel
theorem dX2_init_19 : decode cX2_init 19 = .ok (.putfield 13, 3) := by decide +kernel
theorem dX2_init_22 : decode cX2_init 22 = .ok (.aload_n 0, 1) := by decide +kernel
theorem dX2_init_23 : decode cX2_init 23 = .ok (.sipush 14641, 3) := by decide +kernel
theorem dX2_init_26 : decode cX2_init 26 = .ok (.newarray .int, 2) := by decide +kernel
theorem dX2_init_28 : decode cX2_init 28 = .ok (.putfield 16, 3) := by decide +kernel
theorem dX2_init_31 : decode cX2_init 31 = .ok (.aload_n 0, 1) := by decide +kernel
theorem dX2_init_32 : decode cX2_init 32 = .ok (.sipush 28812, 3) := by decide +kernel
theorem dX2_init_35 : decode cX2_init 35 = .ok (.newarray .boolean, 2) := by decide +kernel
theorem dX2_init_37 : decode cX2_init 37 = .ok (.putfield 19, 3) := by decide +kernel
theorem dX2_init_40 : decode cX2_init 40 = .ok (.aload_n 0, 1) := by decide +kernel
theorem dX2_init_41 : decode cX2_init 41 = .ok (.iconst 2, 1) := by decide +kernel
theorem dX2_init_42 : decode cX2_init 42 = .ok (.newarray .boolean, 2) := by decide +kernel
theorem dX2_init_44 : decode cX2_init 44 = .ok (.putfield 23, 3) := by decide +kernel
theorem dX2_init_47 : decode cX2_init 47 = .ok (.aload_n 0, 1) := by decide +kernel
theorem dX2_init_48 : decode cX2_init 48 = .ok (.sipush 2401, 3) := by decide +kernel
theorem dX2_init_51 : decode cX2_init 51 = .ok (.newarray .boolean, 2) := by decide +kernel
theorem dX2_init_53 : decode cX2_init 53 = .ok (.putfield 26, 3) := by decide +kernel
theorem dX2_init_56 : decode cX2_init 56 = .ok (.aload_n 0, 1) := by decide +kernel
theorem dX2_init_57 : decode cX2_init 57 = .ok (.sipush 2401, 3) := by decide +kernel
theorem dX2_init_60 : decode cX2_init 60 = .ok (.newarray .boolean, 2) := by decide +kernel
theorem dX2_init_62 : decode cX2_init 62 = .ok (.putfield 29, 3) := by decide +kernel
theorem dX2_init_65 : decode cX2_init 65 = .ok (.aload_n 0, 1) := by decide +kernel
theorem dX2_init_66 : decode cX2_init 66 = .ok (.sipush 2401, 3) := by decide +kernel
theorem dX2_init_69 : decode cX2_init 69 = .ok (.newarray .int, 2) := by decide +kernel
theorem dX2_init_71 : decode cX2_init 71 = .ok (.putfield 32, 3) := by decide +kernel
theorem dX2_init_74 : decode cX2_init 74 = .ok (.aload_n 0, 1) := by decide +kernel
theorem dX2_init_75 : decode cX2_init 75 = .ok (.sipush 2401, 3) := by decide +kernel
theorem dX2_init_78 : decode cX2_init 78 = .ok (.newarray .int, 2) := by decide +kernel
theorem dX2_init_80 : decode cX2_init 80 = .ok (.putfield 35, 3) := by decide +kernel
theorem dX2_init_83 : decode cX2_init 83 = .ok (.aload_n 0, 1) := by decide +kernel
theorem dX2_init_84 : decode cX2_init 84 = .ok (.sipush 2401, 3) := by decide +kernel
theorem dX2_init_87 : decode cX2_init 87 = .ok (.newarray .int, 2) := by decide +kernel
theorem dX2_init_89 : decode cX2_init 89 = .ok (.putfield 38, 3) := by decide +kernel
theorem dX2_init_92 : decode cX2_init 92 = .ok (.aload_n 0, 1) := by decide +kernel
theorem dX2_init_93 : decode cX2_init 93 = .ok (.sipush 2401, 3) := by decide +kernel
theorem dX2_init_96 : decode cX2_init 96 = .ok (.newarray .int, 2) := by decide +kernel
theorem dX2_init_98 : decode cX2_init 98 = .ok (.putfield 41, 3) := by decide +kernel
theorem dX2_init_101 : decode cX2_init 101 = .ok (.aload_n 0, 1) := by decide +kernel
theorem dX2_init_102 : decode cX2_init 102 = .ok (.sipush 2401, 3) := by decide +kernel
theorem dX2_init_105 : decode cX2_init 105 = .ok (.newarray .int, 2) := by decide +kernel
theorem dX2_init_107 : decode cX2_init 107 = .ok (.putfield 44, 3) := by decide +kernel
theorem dX2_init_110 : decode cX2_init 110 = .ok (.iconst 0, 1) := by decide +kernel
theorem dX2_init_111 : decode cX2_init 111 = .ok (.istore_n 1, 1) := by decide +kernel
theorem dX2_init_112 : decode cX2_init 112 = .ok (.iload_n 1, 1) := by decide +kernel
theorem dX2_init_113 : decode cX2_init 113 = .ok (.sipush 2401, 3) := by decide +kernel
theorem dX2_init_116 : decode cX2_init 116 = .ok (.if_icmp .ge 104, 3) := by decide +kernel
theorem dX2_init_119 : decode cX2_init 119 = .ok (.iconst 0, 1) := by decide +kernel
theorem dX2_init_120 : decode cX2_init 120 = .ok (.istore_n 2, 1) := by decide +kernel
theorem dX2_init_121 : decode cX2_init 121 = .ok (.iconst 0, 1) := by decide +kernel
theorem dX2_init_122 : decode cX2_init 122 = .ok (.istore_n 3, 1) := by decide +kernel
theorem dX2_init_123 : decode cX2_init 123 = .ok (.sipush 343, 3) := by decide +kernel
theorem dX2_init_126 : decode cX2_init 126 = .ok (.istore 4, 2) := by decide +kernel
theorem dX2_init_128 : decode cX2_init 128 = .ok (.iload 4, 2) := by decide +kernel
theorem dX2_init_130 : decode cX2_init 130 = .ok (.ifCond .le 50, 3) := by decide +kernel
theorem dX2_init_133 : decode cX2_init 133 = .ok (.iload_n 1, 1) := by decide +kernel
theorem dX2_init_134 : decode cX2_init 134 = .ok (.iload 4, 2) := by decide +kernel
theorem dX2_init_136 : decode cX2_init 136 = .ok (.idiv, 1) := by decide +kernel
theorem dX2_init_137 : decode cX2_init 137 = .ok (.bipush 7, 2) := by decide +kernel
theorem dX2_init_139 : decode cX2_init 139 = .ok (.irem, 1) := by decide +kernel
theorem dX2_init_140 : decode cX2_init 140 = .ok (.istore 5, 2) := by decide +kernel
theorem dX2_init_142 : decode cX2_init 142 = .ok (.iload_n 2, 1) := by decide +kernel
theorem dX2_init_143 : decode cX2_init 143 = .ok (.istore 6, 2) := by decide +kernel
theorem dX2_init_145 : decode cX2_init 145 = .ok (.iconst 2, 1) := by decide +kernel
theorem dX2_init_146 : decode cX2_init 146 = .ok (.iload_n 2, 1) := by decide +kernel
theorem dX2_init_147 : decode cX2_init 147 = .ok (.imul, 1) := by decide +kernel
theorem dX2_init_148 : decode cX2_init 148 = .ok (.iload_n 3, 1) := by decide +kernel
theorem dX2_init_149 : decode cX2_init 149 = .ok (.isub, 1) := by decide +kernel
theorem dX2_init_150 : decode cX2_init 150 = .ok (.iload 5, 2) := by decide +kernel
theorem dX2_init_152 : decode cX2_init 152 = .ok (.invokestatic 47, 3) := by decide +kernel
theorem dX2_init_155 : decode cX2_init 155 = .ok (.iadd, 1) := by decide +kernel
theorem dX2_init_156 : decode cX2_init 156 = .ok (.istore_n 2, 1) := by decide +kernel
theorem dX2_init_157 : decode cX2_init 157 = .ok (.iload 6, 2) := by decide +kernel
theorem dX2_init_159 : decode cX2_init 159 = .ok (.iconst 3, 1) := by decide +kernel
theorem dX2_init_160 : decode cX2_init 160 = .ok (.iload_n 3, 1) := by decide +kernel
theorem dX2_init_161 : decode cX2_init 161 = .ok (.imul, 1) := by decide +kernel
theorem dX2_init_162 : decode cX2_init 162 = .ok (.iadd, 1) := by decide +kernel
theorem dX2_init_163 : decode cX2_init 163 = .ok (.iload 5, 2) := by decide +kernel
theorem dX2_init_165 : decode cX2_init 165 = .ok (.invokestatic 51, 3) := by decide +kernel
theorem dX2_init_168 : decode cX2_init 168 = .ok (.iadd, 1) := by decide +kernel
theorem dX2_init_169 : decode cX2_init 169 = .ok (.istore_n 3, 1) := by decide +kernel
theorem dX2_init_170 : decode cX2_init 170 = .ok (.iload 4, 2) := by decide +kernel
theorem dX2_init_172 : decode cX2_init 172 = .ok (.bipush 7, 2) := by decide +kernel
theorem dX2_init_174 : decode cX2_init 174 = .ok (.idiv, 1) := by decide +kernel
theorem dX2_init_175 : decode cX2_init 175 = .ok (.istore 4, 2) := by decide +kernel
theorem dX2_init_177 : decode cX2_init 177 = .ok (.goto (-49), 3) := by decide +kernel
theorem dX2_init_180 : decode cX2_init 180 = .ok (.aload_n 0, 1) := by decide +kernel
theorem dX2_init_181 : decode cX2_init 181 = .ok (.getfield 7, 3) := by decide +kernel
theorem dX2_init_184 : decode cX2_init 184 = .ok (.iload_n 1, 1) := by decide +kernel
theorem dX2_init_185 : decode cX2_init 185 = .ok (.iload_n 2, 1) := by decide +kernel
theorem dX2_init_186 : decode cX2_init 186 = .ok (.iastore, 1) := by decide +kernel
theorem dX2_init_187 : decode cX2_init 187 = .ok (.aload_n 0, 1) := by decide +kernel
theorem dX2_init_188 : decode cX2_init 188 = .ok (.getfield 13, 3) := by decide +kernel
theorem dX2_init_191 : decode cX2_init 191 = .ok (.iload_n 1, 1) := by decide +kernel
theorem dX2_init_192 : decode cX2_init 192 = .ok (.iload_n 3, 1) := by decide +kernel
theorem dX2_init_193 : decode cX2_init 193 = .ok (.iastore, 1) := by decide +kernel
theorem dX2_init_194 : decode cX2_init 194 = .ok (.aload_n 0, 1) := by decide +kernel
theorem dX2_init_195 : decode cX2_init 195 = .ok (.getfield 16, 3) := by decide +kernel
theorem dX2_init_198 : decode cX2_init 198 = .ok (.bipush 121, 2) := by decide +kernel
theorem dX2_init_200 : decode cX2_init 200 = .ok (.iload_n 2, 1) := by decide +kernel
theorem dX2_init_201 : decode cX2_init 201 = .ok (.bipush 60, 2) := by decide +kernel
theorem dX2_init_203 : decode cX2_init 203 = .ok (.iadd, 1) := by decide +kernel
theorem dX2_init_204 : decode cX2_init 204 = .ok (.imul, 1) := by decide +kernel
theorem dX2_init_205 : decode cX2_init 205 = .ok (.iload_n 3, 1) := by decide +kernel
theorem dX2_init_206 : decode cX2_init 206 = .ok (.iadd, 1) := by decide +kernel
theorem dX2_init_207 : decode cX2_init 207 = .ok (.bipush 60, 2) := by decide +kernel
theorem dX2_init_209 : decode cX2_init 209 = .ok (.iadd, 1) := by decide +kernel
theorem dX2_init_210 : decode cX2_init 210 = .ok (.iload_n 1, 1) := by decide +kernel
theorem dX2_init_211 : decode cX2_init 211 = .ok (.iconst 1, 1) := by decide +kernel
theorem dX2_init_212 : decode cX2_init 212 = .ok (.iadd, 1) := by decide +kernel
theorem dX2_init_213 : decode cX2_init 213 = .ok (.iastore, 1) := by decide +kernel
theorem dX2_init_214 : decode cX2_init 214 = .ok (.iinc 1 1, 3) := by decide +kernel
theorem dX2_init_217 : decode cX2_init 217 = .ok (.goto (-105), 3) := by decide +kernel
theorem dX2_init_220 : decode cX2_init 220 = .ok (.return_, 1) := by decide +kernel
theorem dX2_in_0 : decode cX2_in 0 = .ok (.iload_n 0, 1) := by decide +kernel
theorem dX2_in_1 : decode cX2_in 1 = .ok (.iload_n 1, 1) := by decide +kernel
theorem dX2_in_2 : decode cX2_in 2 = .ok (.if_icmp .lt 12, 3) := by decide +kernel
theorem dX2_in_5 : decode cX2_in 5 = .ok (.iload_n 0, 1) := by decide +kernel
theorem dX2_in_6 : decode cX2_in 6 = .ok (.iload_n 2, 1) := by decide +kernel
theorem dX2_in_7 : decode cX2_in 7 = .ok (.if_icmp .gt 7, 3) := by decide +kernel
theorem dX2_in_10 : decode cX2_in 10 = .ok (.iconst 1, 1) := by decide +kernel
theorem dX2_in_11 : decode cX2_in 11 = .ok (.goto 4, 3) := by decide +kernel
theorem dX2_in_14 : decode cX2_in 14 = .ok (.iconst 0, 1) := by decide +kernel
theorem dX2_in_15 : decode cX2_in 15 = .ok (.ireturn, 1) := by decide +kernel
set_option maxRecDepth 20000 in
theorem ggX2_isKey_X2_in : GoodIn wsX2_isKey wsX2_in := goodIn_r _ [4] (by decide +kernel) (by decide +kernel)
set_option maxRecDepth 20000 in
theorem gX2_isKey_X2_in : GoodIn wsX2_isKey (va_wsS RX2 54 yX2_in wsX2_in) := goodIn_app (goodIn_of _ (by decide +kernel)) ggX2_isKey_X2_in
theorem dX2_isKey_0 : decode cX2_isKey 0 = .ok (.iload_n 0, 1) := by decide +kernel
theorem dX2_isKey_1 : decode cX2_isKey 1 = .ok (.iconst 0, 1) := by decide +kernel
theorem dX2_isKey_2 : decode cX2_isKey 2 = .ok (.sipush 2400, 3) := by decide +kernel
theorem dX2_isKey_5 : decode cX2_isKey 5 = .ok (.invokestatic 54, 3) := by decide +kernel
theorem dX2_isKey_8 : decode cX2_isKey 8 = .ok (.ireturn, 1) := by decide +kernel
set_option maxRecDepth 20000 in
theorem ggX2_isSlot_X2_in : GoodIn wsX2_isSlot wsX2_in := goodIn_r _ [4] (by decide +kernel) (by decide +kernel)
set_option maxRecDepth 20000 in
theorem gX2_isSlot_X2_in : GoodIn wsX2_isSlot (va_wsS RX2 54 yX2_in wsX2_in) := goodIn_app (goodIn_of _ (by decide +kernel)) ggX2_isSlot_X2_in
theorem dX2_isSlot_0 : decode cX2_isSlot 0 = .ok (.iload_n 0, 1) := by decide +kernel
theorem dX2_isSlot_1 : decode cX2_isSlot 1 = .ok (.iconst 0, 1) := by decide +kernel
theorem dX2_isSlot_2 : decode cX2_isSlot 2 = .ok (.iconst 3, 1) := by decide +kernel
theorem dX2_isSlot_3 : decode cX2_isSlot 3 = .ok (.invokestatic 54, 3) := by decide +kernel
theorem dX2_isSlot_6 : decode cX2_isSlot 6 = .ok (.ireturn, 1) := by decide +kernel
set_option maxRecDepth 20000 in
theorem ggX2_isLevel_X2_in : GoodIn wsX2_isLevel wsX2_in := goodIn_r _ [4] (by decide +kernel) (by decide +kernel)
set_option maxRecDepth 20000 in
theorem gX2_isLevel_X2_in : GoodIn wsX2_isLevel (va_wsS RX2 54 yX2_in wsX2_in) := goodIn_app (goodIn_of _ (by decide +kernel)) ggX2_isLevel_X2_in
theorem dX2_isLevel_0 : decode cX2_isLevel 0 = .ok (.iload_n 0, 1) := by decide +kernel
theorem dX2_isLevel_1 : decode cX2_isLevel 1 = .ok (.iconst 0, 1) := by decide +kernel
theorem dX2_isLevel_2 : decode cX2_isLevel 2 = .ok (.iconst 4, 1) := by decide +kernel
theorem dX2_isLevel_3 : decode cX2_isLevel 3 = .ok (.invokestatic 54, 3) := by decide +kernel
theorem dX2_isLevel_6 : decode cX2_isLevel 6 = .ok (.ireturn, 1) := by decide +kernel
theorem dX2_sideA_0 : decode cX2_sideA 0 = .ok (.iload_n 0, 1) := by decide +kernel
theorem dX2_sideA_1 : decode cX2_sideA 1 = .ok (.iconst 1, 1) := by decide +kernel
theorem dX2_sideA_2 : decode cX2_sideA 2 = .ok (.if_icmp .eq 9, 3) := by decide +kernel
theorem dX2_sideA_5 : decode cX2_sideA 5 = .ok (.iload_n 0, 1) := by decide +kernel
theorem dX2_sideA_6 : decode cX2_sideA 6 = .ok (.bipush 6, 2) := by decide +kernel
theorem dX2_sideA_8 : decode cX2_sideA 8 = .ok (.if_icmp .ne 7, 3) := by decide +kernel
theorem dX2_sideA_11 : decode cX2_sideA 11 = .ok (.iconst 1, 1) := by decide +kernel
theorem dX2_sideA_12 : decode cX2_sideA 12 = .ok (.goto 18, 3) := by decide +kernel
theorem dX2_sideA_15 : decode cX2_sideA 15 = .ok (.iload_n 0, 1) := by decide +kernel
theorem dX2_sideA_16 : decode cX2_sideA 16 = .ok (.iconst 3, 1) := by decide +kernel
theorem dX2_sideA_17 : decode cX2_sideA 17 = .ok (.if_icmp .eq 8, 3) := by decide +kernel
theorem dX2_sideA_20 : decode cX2_sideA 20 = .ok (.iload_n 0, 1) := by decide +kernel
theorem dX2_sideA_21 : decode cX2_sideA 21 = .ok (.iconst 4, 1) := by decide +kernel
theorem dX2_sideA_22 : decode cX2_sideA 22 = .ok (.if_icmp .ne 7, 3) := by decide +kernel
theorem dX2_sideA_25 : decode cX2_sideA 25 = .ok (.iconst (-1), 1) := by decide +kernel
theorem dX2_sideA_26 : decode cX2_sideA 26 = .ok (.goto 4, 3) := by decide +kernel
theorem dX2_sideA_29 : decode cX2_sideA 29 = .ok (.iconst 0, 1) := by decide +kernel
theorem dX2_sideA_30 : decode cX2_sideA 30 = .ok (.ireturn, 1) := by decide +kernel
theorem dX2_sideB_0 : decode cX2_sideB 0 = .ok (.iload_n 0, 1) := by decide +kernel
theorem dX2_sideB_1 : decode cX2_sideB 1 = .ok (.iconst 2, 1) := by decide +kernel
theorem dX2_sideB_2 : decode cX2_sideB 2 = .ok (.if_icmp .eq 8, 3) := by decide +kernel
theorem dX2_sideB_5 : decode cX2_sideB 5 = .ok (.iload_n 0, 1) := by decide +kernel
theorem dX2_sideB_6 : decode cX2_sideB 6 = .ok (.iconst 3, 1) := by decide +kernel
theorem dX2_sideB_7 : decode cX2_sideB 7 = .ok (.if_icmp .ne 7, 3) := by decide +kernel
theorem dX2_sideB_10 : decode cX2_sideB 10 = .ok (.iconst 1, 1) := by decide +kernel
theorem dX2_sideB_11 : decode cX2_sideB 11 = .ok (.goto 19, 3) := by decide +kernel
theorem dX2_sideB_14 : decode cX2_sideB 14 = .ok (.iload_n 0, 1) := by decide +kernel
theorem dX2_sideB_15 : decode cX2_sideB 15 = .ok (.iconst 5, 1) := by decide +kernel
theorem dX2_sideB_16 : decode cX2_sideB 16 = .ok (.if_icmp .eq 9, 3) := by decide +kernel
theorem dX2_sideB_19 : decode cX2_sideB 19 = .ok (.iload_n 0, 1) := by decide +kernel
theorem dX2_sideB_20 : decode cX2_sideB 20 = .ok (.bipush 6, 2) := by decide +kernel
theorem dX2_sideB_22 : decode cX2_sideB 22 = .ok (.if_icmp .ne 7, 3) := by decide +kernel
theorem dX2_sideB_25 : decode cX2_sideB 25 = .ok (.iconst (-1), 1) := by decide +kernel
theorem dX2_sideB_26 : decode cX2_sideB 26 = .ok (.goto 4, 3) := by decide +kernel
theorem dX2_sideB_29 : decode cX2_sideB 29 = .ok (.iconst 0, 1) := by decide +kernel
theorem dX2_sideB_30 : decode cX2_sideB 30 = .ok (.ireturn, 1) := by decide +kernel
theorem dX2_size_0 : decode cX2_size 0 = .ok (.iload_n 0, 1) := by decide +kernel
theorem dX2_size_1 : decode cX2_size 1 = .ok (.ifCond .ge 8, 3) := by decide +kernel
theorem dX2_size_4 : decode cX2_size 4 = .ok (.iload_n 0, 1) := by decide +kernel
theorem dX2_size_5 : decode cX2_size 5 = .ok (.ineg, 1) := by decide +kernel
theorem dX2_size_6 : decode cX2_size 6 = .ok (.goto 4, 3) := by decide +kernel
theorem dX2_size_9 : decode cX2_size 9 = .ok (.iload_n 0, 1) := by decide +kernel
theorem dX2_size_10 : decode cX2_size 10 = .ok (.ireturn, 1) := by decide +kernel
set_option maxRecDepth 20000 in
theorem ggX2_keyAt_X2_in : GoodIn wsX2_keyAt wsX2_in := goodIn_r _ [5] (by decide +kernel) (by decide +kernel)
set_option maxRecDepth 20000 in
theorem gX2_keyAt_X2_in : GoodIn wsX2_keyAt (va_wsS RX2 54 yX2_in wsX2_in) := goodIn_app (goodIn_of _ (by decide +kernel)) ggX2_keyAt_X2_in
theorem dX2_keyAt_0 : decode cX2_keyAt 0 = .ok (.iload_n 1, 1) := by decide +kernel
theorem dX2_keyAt_1 : decode cX2_keyAt 1 = .ok (.bipush (-60), 2) := by decide +kernel
theorem dX2_keyAt_3 : decode cX2_keyAt 3 = .ok (.bipush 60, 2) := by decide +kernel
theorem dX2_keyAt_5 : decode cX2_keyAt 5 = .ok (.invokestatic 54, 3) := by decide +kernel
theorem dX2_keyAt_8 : decode cX2_keyAt 8 = .ok (.ifCond .eq 14, 3) := by decide +kernel
theorem dX2_keyAt_11 : decode cX2_keyAt 11 = .ok (.iload_n 2, 1) := by decide +kernel
theorem dX2_keyAt_12 : decode cX2_keyAt 12 = .ok (.bipush (-60), 2) := by decide +kernel
theorem dX2_keyAt_14 : decode cX2_keyAt 14 = .ok (.bipush 60, 2) := by decide +kernel
theorem dX2_keyAt_16 : decode cX2_keyAt 16 = .ok (.invokestatic 54, 3) := by decide +kernel
theorem dX2_keyAt_19 : decode cX2_keyAt 19 = .ok (.ifCond .ne 6, 3) := by decide +kernel
theorem dX2_keyAt_22 : decode cX2_keyAt 22 = .ok (.bipush (-6), 2) := by decide +kernel
theorem dX2_keyAt_24 : decode cX2_keyAt 24 = .ok (.ireturn, 1) := by decide +kernel
theorem dX2_keyAt_25 : decode cX2_keyAt 25 = .ok (.aload_n 0, 1) := by decide +kernel
theorem dX2_keyAt_26 : decode cX2_keyAt 26 = .ok (.getfield 16, 3) := by decide +kernel
theorem dX2_keyAt_29 : decode cX2_keyAt 29 = .ok (.bipush 121, 2) := by decide +kernel
theorem dX2_keyAt_31 : decode cX2_keyAt 31 = .ok (.iload_n 1, 1) := by decide +kernel
theorem dX2_keyAt_32 : decode cX2_keyAt 32 = .ok (.bipush 60, 2) := by decide +kernel
theorem dX2_keyAt_34 : decode cX2_keyAt 34 = .ok (.iadd, 1) := by decide +kernel
theorem dX2_keyAt_35 : decode cX2_keyAt 35 = .ok (.imul, 1) := by decide +kernel
theorem dX2_keyAt_36 : decode cX2_keyAt 36 = .ok (.iload_n 2, 1) := by decide +kernel
theorem dX2_keyAt_37 : decode cX2_keyAt 37 = .ok (.iadd, 1) := by decide +kernel
theorem dX2_keyAt_38 : decode cX2_keyAt 38 = .ok (.bipush 60, 2) := by decide +kernel
theorem dX2_keyAt_40 : decode cX2_keyAt 40 = .ok (.iadd, 1) := by decide +kernel
theorem dX2_keyAt_41 : decode cX2_keyAt 41 = .ok (.iaload, 1) := by decide +kernel
theorem dX2_keyAt_42 : decode cX2_keyAt 42 = .ok (.istore_n 3, 1) := by decide +kernel
theorem dX2_keyAt_43 : decode cX2_keyAt 43 = .ok (.iload_n 3, 1) := by decide +kernel
theorem dX2_keyAt_44 : decode cX2_keyAt 44 = .ok (.ifCond .ne 8, 3) := by decide +kernel
theorem dX2_keyAt_47 : decode cX2_keyAt 47 = .ok (.bipush (-6), 2) := by decide +kernel
theorem dX2_keyAt_49 : decode cX2_keyAt 49 = .ok (.goto 6, 3) := by decide +kernel
theorem dX2_keyAt_52 : decode cX2_keyAt 52 = .ok (.iload_n 3, 1) := by decide +kernel
theorem dX2_keyAt_53 : decode cX2_keyAt 53 = .ok (.iconst 1, 1) := by decide +kernel
theorem dX2_keyAt_54 : decode cX2_keyAt 54 = .ok (.isub, 1) := by decide +kernel
theorem dX2_keyAt_55 : decode cX2_keyAt 55 = .ok (.ireturn, 1) := by decide +kernel
set_option maxRecDepth 20000 in
theorem ggX2_point_X2_isKey : GoodIn wsX2_point wsX2_isKey := goodIn_r _ [6, 7, 8, 5, 9] (by decide +kernel) (by decide +kernel)
set_option maxRecDepth 20000 in
theorem gX2_point_X2_isKey : GoodIn wsX2_point (va_wsS RX2 58 yX2_isKey wsX2_isKey) := goodIn_app (goodIn_of _ (by decide +kernel)) ggX2_point_X2_isKey
set_option maxRecDepth 20000 in
theorem ggX2_point_X2_in : GoodIn wsX2_point wsX2_in := goodIn_r _ [9] (by decide +kernel) (by decide +kernel)
set_option maxRecDepth 20000 in
theorem gX2_point_X2_in : GoodIn wsX2_point (va_wsS RX2 54 yX2_in wsX2_in) := goodIn_app (goodIn_of _ (by decide +kernel)) ggX2_point_X2_in
theorem dX2_point_0 : decode cX2_point 0 = .ok (.iload_n 1, 1) := by decide +kernel
theorem dX2_point_1 : decode cX2_point 1 = .ok (.invokestatic 58, 3) := by decide +kernel
theorem dX2_point_4 : decode cX2_point 4 = .ok (.ifCond .eq 12, 3) := by decide +kernel
theorem dX2_point_7 : decode cX2_point 7 = .ok (.iload_n 2, 1) := by decide +kernel
theorem dX2_point_8 : decode cX2_point 8 = .ok (.iconst 0, 1) := by decide +kernel
theorem dX2_point_9 : decode cX2_point 9 = .ok (.iconst 1, 1) := by decide +kernel
theorem dX2_point_10 : decode cX2_point 10 = .ok (.invokestatic 54, 3) := by decide +kernel
theorem dX2_point_13 : decode cX2_point 13 = .ok (.ifCond .ne 6, 3) := by decide +kernel
theorem dX2_point_16 : decode cX2_point 16 = .ok (.bipush (-2), 2) := by decide +kernel
theorem dX2_point_18 : decode cX2_point 18 = .ok (.ireturn, 1) := by decide +kernel
theorem dX2_point_19 : decode cX2_point 19 = .ok (.sipush 1000, 3) := by decide +kernel
theorem dX2_point_22 : decode cX2_point 22 = .ok (.iload_n 2, 1) := by decide +kernel
theorem dX2_point_23 : decode cX2_point 23 = .ok (.ifCond .ne 12, 3) := by decide +kernel
theorem dX2_point_26 : decode cX2_point 26 = .ok (.aload_n 0, 1) := by decide +kernel
theorem dX2_point_27 : decode cX2_point 27 = .ok (.getfield 7, 3) := by decide +kernel
theorem dX2_point_30 : decode cX2_point 30 = .ok (.iload_n 1, 1) := by decide +kernel
theorem dX2_point_31 : decode cX2_point 31 = .ok (.iaload, 1) := by decide +kernel
theorem dX2_point_32 : decode cX2_point 32 = .ok (.goto 9, 3) := by decide +kernel
theorem dX2_point_35 : decode cX2_point 35 = .ok (.aload_n 0, 1) := by decide +kernel
theorem dX2_point_36 : decode cX2_point 36 = .ok (.getfield 13, 3) := by decide +kernel
theorem dX2_point_39 : decode cX2_point 39 = .ok (.iload_n 1, 1) := by decide +kernel
theorem dX2_point_40 : decode cX2_point 40 = .ok (.iaload, 1) := by decide +kernel
theorem dX2_point_41 : decode cX2_point 41 = .ok (.iadd, 1) := by decide +kernel
theorem dX2_point_42 : decode cX2_point 42 = .ok (.ireturn, 1) := by decide +kernel
set_option maxRecDepth 20000 in
theorem ggX2_key_X2_in : GoodIn wsX2_key wsX2_in := goodIn_r _ [4] (by decide +kernel) (by decide +kernel)
set_option maxRecDepth 20000 in
theorem gX2_key_X2_in : GoodIn wsX2_key (va_wsS RX2 54 yX2_in wsX2_in) := goodIn_app (goodIn_of _ (by decide +kernel)) ggX2_key_X2_in
set_option maxRecDepth 20000 in
theorem ggX2_key_X2_keyAt : GoodIn wsX2_key wsX2_keyAt := goodIn_r _ [8, 9, 1, 2, 3, 4, 10, 11, 12, 13, 14, 15, 16, 17, 18, 19, 20, 21, 22, 23, 24] (by decide +kernel) (by decide +kernel)
set_option maxRecDepth 20000 in
theorem gX2_key_X2_keyAt : GoodIn wsX2_key (wsV RX2 62 RX2 yX2_keyAt wsX2_keyAt) := goodIn_app (goodIn_of _ (by decide +kernel)) ggX2_key_X2_keyAt
theorem dX2_key_0 : decode cX2_key 0 = .ok (.iload_n 1, 1) := by decide +kernel
theorem dX2_key_1 : decode cX2_key 1 = .ok (.bipush (-100), 2) := by decide +kernel
theorem dX2_key_3 : decode cX2_key 3 = .ok (.bipush 100, 2) := by decide +kernel
theorem dX2_key_5 : decode cX2_key 5 = .ok (.invokestatic 54, 3) := by decide +kernel
theorem dX2_key_8 : decode cX2_key 8 = .ok (.ifCond .eq 23, 3) := by decide +kernel
theorem dX2_key_11 : decode cX2_key 11 = .ok (.iload_n 2, 1) := by decide +kernel
theorem dX2_key_12 : decode cX2_key 12 = .ok (.bipush (-100), 2) := by decide +kernel
theorem dX2_key_14 : decode cX2_key 14 = .ok (.bipush 100, 2) := by decide +kernel
theorem dX2_key_16 : decode cX2_key 16 = .ok (.invokestatic 54, 3) := by decide +kernel
theorem dX2_key_19 : decode cX2_key 19 = .ok (.ifCond .eq 12, 3) := by decide +kernel
theorem dX2_key_22 : decode cX2_key 22 = .ok (.aload_n 0, 1) := by decide +kernel
theorem dX2_key_23 : decode cX2_key 23 = .ok (.iload_n 1, 1) := by decide +kernel
theorem dX2_key_24 : decode cX2_key 24 = .ok (.iload_n 2, 1) := by decide +kernel
theorem dX2_key_25 : decode cX2_key 25 = .ok (.invokevirtual 62, 3) := by decide +kernel
theorem dX2_key_28 : decode cX2_key 28 = .ok (.goto 5, 3) := by decide +kernel
theorem dX2_key_31 : decode cX2_key 31 = .ok (.bipush (-2), 2) := by decide +kernel
theorem dX2_key_33 : decode cX2_key 33 = .ok (.ireturn, 1) := by decide +kernel
set_option maxRecDepth 20000 in
theorem ggX2_nextOf_X2_sideA : GoodIn wsX2_nextOf wsX2_sideA := goodIn_r _ [6] (by decide +kernel) (by decide +kernel)
set_option maxRecDepth 20000 in
theorem gX2_nextOf_X2_sideA : GoodIn wsX2_nextOf (va_wsS RX2 47 yX2_sideA wsX2_sideA) := goodIn_app (goodIn_of _ (by decide +kernel)) ggX2_nextOf_X2_sideA
set_option maxRecDepth 20000 in
theorem ggX2_nextOf_X2_sideB : GoodIn wsX2_nextOf wsX2_sideB := goodIn_r _ [9] (by decide +kernel) (by decide +kernel)
set_option maxRecDepth 20000 in
theorem gX2_nextOf_X2_sideB : GoodIn wsX2_nextOf (va_wsS RX2 51 yX2_sideB wsX2_sideB) := goodIn_app (goodIn_of _ (by decide +kernel)) ggX2_nextOf_X2_sideB
set_option maxRecDepth 20000 in
theorem ggX2_nextOf_X2_keyAt : GoodIn wsX2_nextOf wsX2_keyAt := goodIn_r _ [13, 14, 15, 16, 5, 17, 18, 19, 20, 21, 22, 23, 24, 25, 26, 27, 28, 29, 30, 31, 32] (by decide +kernel) (by decide +kernel)
set_option maxRecDepth 20000 in
theorem gX2_nextOf_X2_keyAt : GoodIn wsX2_nextOf (wsV RX2 62 RX2 yX2_keyAt wsX2_keyAt) := goodIn_app (goodIn_of _ (by decide +kernel)) ggX2_nextOf_X2_keyAt
theorem dX2_nextOf_0 : decode cX2_nextOf 0 = .ok (.aload_n 0, 1) := by decide +kernel
theorem dX2_nextOf_1 : decode cX2_nextOf 1 = .ok (.aload_n 0, 1) := by decide +kernel
theorem dX2_nextOf_2 : decode cX2_nextOf 2 = .ok (.getfield 7, 3) := by decide +kernel
theorem dX2_nextOf_5 : decode cX2_nextOf 5 = .ok (.iload_n 1, 1) := by decide +kernel
theorem dX2_nextOf_6 : decode cX2_nextOf 6 = .ok (.iaload, 1) := by decide +kernel
theorem dX2_nextOf_7 : decode cX2_nextOf 7 = .ok (.iload_n 2, 1) := by decide +kernel
theorem dX2_nextOf_8 : decode cX2_nextOf 8 = .ok (.invokestatic 47, 3) := by decide +kernel
theorem dX2_nextOf_11 : decode cX2_nextOf 11 = .ok (.iadd, 1) := by decide +kernel
theorem dX2_nextOf_12 : decode cX2_nextOf 12 = .ok (.aload_n 0, 1) := by decide +kernel
theorem dX2_nextOf_13 : decode cX2_nextOf 13 = .ok (.getfield 13, 3) := by decide +kernel
theorem dX2_nextOf_16 : decode cX2_nextOf 16 = .ok (.iload_n 1, 1) := by decide +kernel
theorem dX2_nextOf_17 : decode cX2_nextOf 17 = .ok (.iaload, 1) := by decide +kernel
theorem dX2_nextOf_18 : decode cX2_nextOf 18 = .ok (.iload_n 2, 1) := by decide +kernel
theorem dX2_nextOf_19 : decode cX2_nextOf 19 = .ok (.invokestatic 51, 3) := by decide +kernel
theorem dX2_nextOf_22 : decode cX2_nextOf 22 = .ok (.iadd, 1) := by decide +kernel
theorem dX2_nextOf_23 : decode cX2_nextOf 23 = .ok (.invokevirtual 62, 3) := by decide +kernel
theorem dX2_nextOf_26 : decode cX2_nextOf 26 = .ok (.ireturn, 1) := by decide +kernel
set_option maxRecDepth 20000 in
theorem ggX2_next_X2_isKey : GoodIn wsX2_next wsX2_isKey := goodIn_r _ [4, 5, 6, 3, 7] (by decide +kernel) (by decide +kernel)
set_option maxRecDepth 20000 in
theorem gX2_next_X2_isKey : GoodIn wsX2_next (va_wsS RX2 58 yX2_isKey wsX2_isKey) := goodIn_app (goodIn_of _ (by decide +kernel)) ggX2_next_X2_isKey
set_option maxRecDepth 20000 in
theorem ggX2_next_X2_in : GoodIn wsX2_next wsX2_in := goodIn_r _ [7] (by decide +kernel) (by decide +kernel)
set_option maxRecDepth 20000 in
theorem gX2_next_X2_in : GoodIn wsX2_next (va_wsS RX2 54 yX2_in wsX2_in) := goodIn_app (goodIn_of _ (by decide +kernel)) ggX2_next_X2_in
set_option maxRecDepth 20000 in
theorem ggX2_next_X2_nextOf : GoodIn wsX2_next wsX2_nextOf := goodIn_r _ [11, 12, 13, 14, 15, 3, 16, 17, 18, 19, 20, 21, 22, 23, 24, 5, 6, 7, 25, 26, 27, 28, 29, 30, 31, 32, 33, 34, 35, 36, 37, 38, 39] (by decide +kernel) (by decide +kernel)
set_option maxRecDepth 20000 in
theorem gX2_next_X2_nextOf : GoodIn wsX2_next (wsV RX2 66 RX2 yX2_nextOf wsX2_nextOf) := goodIn_app (goodIn_of _ (by decide +kernel)) ggX2_next_X2_nextOf
theorem dX2_next_0 : decode cX2_next 0 = .ok (.iload_n 1, 1) := by decide +kernel
theorem dX2_next_1 : decode cX2_next 1 = .ok (.invokestatic 58, 3) := by decide +kernel
theorem dX2_next_4 : decode cX2_next 4 = .ok (.ifCond .eq 22, 3) := by decide +kernel
theorem dX2_next_7 : decode cX2_next 7 = .ok (.iload_n 2, 1) := by decide +kernel
theorem dX2_next_8 : decode cX2_next 8 = .ok (.iconst 1, 1) := by decide +kernel
theorem dX2_next_9 : decode cX2_next 9 = .ok (.bipush 6, 2) := by decide +kernel
theorem dX2_next_11 : decode cX2_next 11 = .ok (.invokestatic 54, 3) := by decide +kernel
theorem dX2_next_14 : decode cX2_next 14 = .ok (.ifCond .eq 12, 3) := by decide +kernel
theorem dX2_next_17 : decode cX2_next 17 = .ok (.aload_n 0, 1) := by decide +kernel
theorem dX2_next_18 : decode cX2_next 18 = .ok (.iload_n 1, 1) := by decide +kernel
theorem dX2_next_19 : decode cX2_next 19 = .ok (.iload_n 2, 1) := by decide +kernel
theorem dX2_next_20 : decode cX2_next 20 = .ok (.invokevirtual 66, 3) := by decide +kernel
theorem dX2_next_23 : decode cX2_next 23 = .ok (.goto 5, 3) := by decide +kernel
theorem dX2_next_26 : decode cX2_next 26 = .ok (.bipush (-2), 2) := by decide +kernel
theorem dX2_next_28 : decode cX2_next 28 = .ok (.ireturn, 1) := by decide +kernel
set_option maxRecDepth 20000 in
theorem ggX2_farOf_X2_size : GoodIn wsX2_farOf wsX2_size := goodIn_r _ [6] (by decide +kernel) (by decide +kernel)
set_option maxRecDepth 20000 in
theorem gX2_farOf_X2_size : GoodIn wsX2_farOf (va_wsS RX2 69 yX2_size wsX2_size) := goodIn_app (goodIn_of _ (by decide +kernel)) ggX2_farOf_X2_size
theorem dX2_farOf_0 : decode cX2_farOf 0 = .ok (.aload_n 0, 1) := by decide +kernel
theorem dX2_farOf_1 : decode cX2_farOf 1 = .ok (.getfield 7, 3) := by decide +kernel
theorem dX2_farOf_4 : decode cX2_farOf 4 = .ok (.iload_n 1, 1) := by decide +kernel
theorem dX2_farOf_5 : decode cX2_farOf 5 = .ok (.iaload, 1) := by decide +kernel
theorem dX2_farOf_6 : decode cX2_farOf 6 = .ok (.aload_n 0, 1) := by decide +kernel
theorem dX2_farOf_7 : decode cX2_farOf 7 = .ok (.getfield 7, 3) := by decide +kernel
theorem dX2_farOf_10 : decode cX2_farOf 10 = .ok (.iload_n 2, 1) := by decide +kernel
theorem dX2_farOf_11 : decode cX2_farOf 11 = .ok (.iaload, 1) := by decide +kernel
theorem dX2_farOf_12 : decode cX2_farOf 12 = .ok (.isub, 1) := by decide +kernel
theorem dX2_farOf_13 : decode cX2_farOf 13 = .ok (.invokestatic 69, 3) := by decide +kernel
theorem dX2_farOf_16 : decode cX2_farOf 16 = .ok (.istore_n 3, 1) := by decide +kernel
theorem dX2_farOf_17 : decode cX2_farOf 17 = .ok (.aload_n 0, 1) := by decide +kernel
theorem dX2_farOf_18 : decode cX2_farOf 18 = .ok (.getfield 13, 3) := by decide +kernel
theorem dX2_farOf_21 : decode cX2_farOf 21 = .ok (.iload_n 1, 1) := by decide +kernel
theorem dX2_farOf_22 : decode cX2_farOf 22 = .ok (.iaload, 1) := by decide +kernel
theorem dX2_farOf_23 : decode cX2_farOf 23 = .ok (.aload_n 0, 1) := by decide +kernel
theorem dX2_farOf_24 : decode cX2_farOf 24 = .ok (.getfield 13, 3) := by decide +kernel
theorem dX2_farOf_27 : decode cX2_farOf 27 = .ok (.iload_n 2, 1) := by decide +kernel
theorem dX2_farOf_28 : decode cX2_farOf 28 = .ok (.iaload, 1) := by decide +kernel
theorem dX2_farOf_29 : decode cX2_farOf 29 = .ok (.isub, 1) := by decide +kernel
theorem dX2_farOf_30 : decode cX2_farOf 30 = .ok (.invokestatic 69, 3) := by decide +kernel
theorem dX2_farOf_33 : decode cX2_farOf 33 = .ok (.istore 4, 2) := by decide +kernel
theorem dX2_farOf_35 : decode cX2_farOf 35 = .ok (.aload_n 0, 1) := by decide +kernel
theorem dX2_farOf_36 : decode cX2_farOf 36 = .ok (.getfield 7, 3) := by decide +kernel
theorem dX2_farOf_39 : decode cX2_farOf 39 = .ok (.iload_n 1, 1) := by decide +kernel
theorem dX2_farOf_40 : decode cX2_farOf 40 = .ok (.iaload, 1) := by decide +kernel
theorem dX2_farOf_41 : decode cX2_farOf 41 = .ok (.aload_n 0, 1) := by decide +kernel
theorem dX2_farOf_42 : decode cX2_farOf 42 = .ok (.getfield 7, 3) := by decide +kernel
theorem dX2_farOf_45 : decode cX2_farOf 45 = .ok (.iload_n 2, 1) := by decide +kernel
theorem dX2_farOf_46 : decode cX2_farOf 46 = .ok (.iaload, 1) := by decide +kernel
theorem dX2_farOf_47 : decode cX2_farOf 47 = .ok (.isub, 1) := by decide +kernel
theorem dX2_farOf_48 : decode cX2_farOf 48 = .ok (.aload_n 0, 1) := by decide +kernel
theorem dX2_farOf_49 : decode cX2_farOf 49 = .ok (.getfield 13, 3) := by decide +kernel
theorem dX2_farOf_52 : decode cX2_farOf 52 = .ok (.iload_n 1, 1) := by decide +kernel
theorem dX2_farOf_53 : decode cX2_farOf 53 = .ok (.iaload, 1) := by decide +kernel
theorem dX2_farOf_54 : decode cX2_farOf 54 = .ok (.iadd, 1) := by decide +kernel
theorem dX2_farOf_55 : decode cX2_farOf 55 = .ok (.aload_n 0, 1) := by decide +kernel
theorem dX2_farOf_56 : decode cX2_farOf 56 = .ok (.getfield 13, 3) := by decide +kernel
theorem dX2_farOf_59 : decode cX2_farOf 59 = .ok (.iload_n 2, 1) := by decide +kernel
theorem dX2_farOf_60 : decode cX2_farOf 60 = .ok (.iaload, 1) := by decide +kernel
theorem dX2_farOf_61 : decode cX2_farOf 61 = .ok (.isub, 1) := by decide +kernel
theorem dX2_farOf_62 : decode cX2_farOf 62 = .ok (.invokestatic 69, 3) := by decide +kernel
theorem dX2_farOf_65 : decode cX2_farOf 65 = .ok (.istore 5, 2) := by decide +kernel
theorem dX2_farOf_67 : decode cX2_farOf 67 = .ok (.iload_n 3, 1) := by decide +kernel
theorem dX2_farOf_68 : decode cX2_farOf 68 = .ok (.iload 4, 2) := by decide +kernel
theorem dX2_farOf_70 : decode cX2_farOf 70 = .ok (.if_icmp .le 7, 3) := by decide +kernel
theorem dX2_farOf_73 : decode cX2_farOf 73 = .ok (.iload_n 3, 1) := by decide +kernel
theorem dX2_farOf_74 : decode cX2_farOf 74 = .ok (.goto 5, 3) := by decide +kernel
theorem dX2_farOf_77 : decode cX2_farOf 77 = .ok (.iload 4, 2) := by decide +kernel
theorem dX2_farOf_79 : decode cX2_farOf 79 = .ok (.istore 6, 2) := by decide +kernel
theorem dX2_farOf_81 : decode cX2_farOf 81 = .ok (.iload 6, 2) := by decide +kernel
theorem dX2_farOf_83 : decode cX2_farOf 83 = .ok (.iload 5, 2) := by decide +kernel
theorem dX2_farOf_85 : decode cX2_farOf 85 = .ok (.if_icmp .le 8, 3) := by decide +kernel
theorem dX2_farOf_88 : decode cX2_farOf 88 = .ok (.iload 6, 2) := by decide +kernel
theorem dX2_farOf_90 : decode cX2_farOf 90 = .ok (.goto 5, 3) := by decide +kernel
theorem dX2_farOf_93 : decode cX2_farOf 93 = .ok (.iload 5, 2) := by decide +kernel
theorem dX2_farOf_95 : decode cX2_farOf 95 = .ok (.ireturn, 1) := by decide +kernel
set_option maxRecDepth 20000 in
theorem ggX2_far_X2_isKey : GoodIn wsX2_far wsX2_isKey := goodIn_r _ [4, 5, 6, 3, 7] (by decide +kernel) (by decide +kernel)
set_option maxRecDepth 20000 in
theorem gX2_far_X2_isKey : GoodIn wsX2_far (va_wsS RX2 58 yX2_isKey wsX2_isKey) := goodIn_app (goodIn_of _ (by decide +kernel)) ggX2_far_X2_isKey
set_option maxRecDepth 20000 in
theorem ggX2_far_X2_farOf : GoodIn wsX2_far wsX2_farOf := goodIn_r _ [11, 12, 13, 14, 15, 3, 16, 17, 18, 19, 20, 21, 22, 23, 24, 25, 26, 27, 28, 29, 30, 31] (by decide +kernel) (by decide +kernel)
set_option maxRecDepth 20000 in
theorem gX2_far_X2_farOf : GoodIn wsX2_far (wsV RX2 72 RX2 yX2_farOf wsX2_farOf) := goodIn_app (goodIn_of _ (by decide +kernel)) ggX2_far_X2_farOf
theorem dX2_far_0 : decode cX2_far 0 = .ok (.iload_n 1, 1) := by decide +kernel
theorem dX2_far_1 : decode cX2_far 1 = .ok (.invokestatic 58, 3) := by decide +kernel
theorem dX2_far_4 : decode cX2_far 4 = .ok (.ifCond .eq 19, 3) := by decide +kernel
theorem dX2_far_7 : decode cX2_far 7 = .ok (.iload_n 2, 1) := by decide +kernel
theorem dX2_far_8 : decode cX2_far 8 = .ok (.invokestatic 58, 3) := by decide +kernel
theorem dX2_far_11 : decode cX2_far 11 = .ok (.ifCond .eq 12, 3) := by decide +kernel
theorem dX2_far_14 : decode cX2_far 14 = .ok (.aload_n 0, 1) := by decide +kernel
theorem dX2_far_15 : decode cX2_far 15 = .ok (.iload_n 1, 1) := by decide +kernel
theorem dX2_far_16 : decode cX2_far 16 = .ok (.iload_n 2, 1) := by decide +kernel
theorem dX2_far_17 : decode cX2_far 17 = .ok (.invokevirtual 72, 3) := by decide +kernel
theorem dX2_far_20 : decode cX2_far 20 = .ok (.goto 5, 3) := by decide +kernel
theorem dX2_far_23 : decode cX2_far 23 = .ok (.bipush (-2), 2) := by decide +kernel
theorem dX2_far_25 : decode cX2_far 25 = .ok (.ireturn, 1) := by decide +kernel
set_option maxRecDepth 20000 in
theorem ggX2_side_X2_isKey : GoodIn wsX2_side wsX2_isKey := goodIn_r _ [4, 5, 6, 3, 7] (by decide +kernel) (by decide +kernel)
set_option maxRecDepth 20000 in
theorem gX2_side_X2_isKey : GoodIn wsX2_side (va_wsS RX2 58 yX2_isKey wsX2_isKey) := goodIn_app (goodIn_of _ (by decide +kernel)) ggX2_side_X2_isKey
set_option maxRecDepth 20000 in
theorem ggX2_side_X2_nextOf : GoodIn wsX2_side wsX2_nextOf := goodIn_r _ [11, 12, 13, 14, 15, 3, 16, 17, 18, 19, 20, 21, 22, 23, 24, 5, 6, 7, 25, 26, 27, 28, 29, 30, 31, 32, 33, 34, 35, 36, 37, 38, 39] (by decide +kernel) (by decide +kernel)
set_option maxRecDepth 20000 in
theorem gX2_side_X2_nextOf : GoodIn wsX2_side (wsV RX2 66 RX2 yX2_nextOf wsX2_nextOf) := goodIn_app (goodIn_of _ (by decide +kernel)) ggX2_side_X2_nextOf
theorem dX2_side_0 : decode cX2_side 0 = .ok (.iload_n 1, 1) := by decide +kernel
theorem dX2_side_1 : decode cX2_side 1 = .ok (.invokestatic 58, 3) := by decide +kernel
theorem dX2_side_4 : decode cX2_side 4 = .ok (.ifCond .eq 10, 3) := by decide +kernel
theorem dX2_side_7 : decode cX2_side 7 = .ok (.iload_n 2, 1) := by decide +kernel
theorem dX2_side_8 : decode cX2_side 8 = .ok (.invokestatic 58, 3) := by decide +kernel
theorem dX2_side_11 : decode cX2_side 11 = .ok (.ifCond .ne 6, 3) := by decide +kernel
theorem dX2_side_14 : decode cX2_side 14 = .ok (.bipush (-2), 2) := by decide +kernel
theorem dX2_side_16 : decode cX2_side 16 = .ok (.ireturn, 1) := by decide +kernel
theorem dX2_side_17 : decode cX2_side 17 = .ok (.iload_n 1, 1) := by decide +kernel
theorem dX2_side_18 : decode cX2_side 18 = .ok (.iload_n 2, 1) := by decide +kernel
theorem dX2_side_19 : decode cX2_side 19 = .ok (.if_icmp .ne 7, 3) := by decide +kernel
theorem dX2_side_22 : decode cX2_side 22 = .ok (.iconst 0, 1) := by decide +kernel
theorem dX2_side_23 : decode cX2_side 23 = .ok (.goto 5, 3) := by decide +kernel
theorem dX2_side_26 : decode cX2_side 26 = .ok (.bipush (-6), 2) := by decide +kernel
theorem dX2_side_28 : decode cX2_side 28 = .ok (.istore_n 3, 1) := by decide +kernel
theorem dX2_side_29 : decode cX2_side 29 = .ok (.iconst 1, 1) := by decide +kernel
theorem dX2_side_30 : decode cX2_side 30 = .ok (.istore 4, 2) := by decide +kernel
theorem dX2_side_32 : decode cX2_side 32 = .ok (.iload 4, 2) := by decide +kernel
theorem dX2_side_34 : decode cX2_side 34 = .ok (.bipush 6, 2) := by decide +kernel
theorem dX2_side_36 : decode cX2_side 36 = .ok (.if_icmp .gt 27, 3) := by decide +kernel
theorem dX2_side_39 : decode cX2_side 39 = .ok (.aload_n 0, 1) := by decide +kernel
theorem dX2_side_40 : decode cX2_side 40 = .ok (.iload_n 1, 1) := by decide +kernel
theorem dX2_side_41 : decode cX2_side 41 = .ok (.iload 4, 2) := by decide +kernel
theorem dX2_side_43 : decode cX2_side 43 = .ok (.invokevirtual 66, 3) := by decide +kernel
theorem dX2_side_46 : decode cX2_side 46 = .ok (.iload_n 2, 1) := by decide +kernel
theorem dX2_side_47 : decode cX2_side 47 = .ok (.if_icmp .ne 8, 3) := by decide +kernel
theorem dX2_side_50 : decode cX2_side 50 = .ok (.iload 4, 2) := by decide +kernel
theorem dX2_side_52 : decode cX2_side 52 = .ok (.goto 4, 3) := by decide +kernel
theorem dX2_side_55 : decode cX2_side 55 = .ok (.iload_n 3, 1) := by decide +kernel
theorem dX2_side_56 : decode cX2_side 56 = .ok (.istore_n 3, 1) := by decide +kernel
theorem dX2_side_57 : decode cX2_side 57 = .ok (.iinc 4 1, 3) := by decide +kernel
theorem dX2_side_60 : decode cX2_side 60 = .ok (.goto (-28), 3) := by decide +kernel
theorem dX2_side_63 : decode cX2_side 63 = .ok (.iload_n 3, 1) := by decide +kernel
theorem dX2_side_64 : decode cX2_side 64 = .ok (.ireturn, 1) := by decide +kernel
theorem dX2_hexes_0 : decode cX2_hexes 0 = .ok (.iconst 1, 1) := by decide +kernel
theorem dX2_hexes_1 : decode cX2_hexes 1 = .ok (.istore_n 1, 1) := by decide +kernel
theorem dX2_hexes_2 : decode cX2_hexes 2 = .ok (.iconst 0, 1) := by decide +kernel
theorem dX2_hexes_3 : decode cX2_hexes 3 = .ok (.istore_n 2, 1) := by decide +kernel
theorem dX2_hexes_4 : decode cX2_hexes 4 = .ok (.iload_n 2, 1) := by decide +kernel
theorem dX2_hexes_5 : decode cX2_hexes 5 = .ok (.iload_n 0, 1) := by decide +kernel
theorem dX2_hexes_6 : decode cX2_hexes 6 = .ok (.if_icmp .ge 14, 3) := by decide +kernel
theorem dX2_hexes_9 : decode cX2_hexes 9 = .ok (.iload_n 1, 1) := by decide +kernel
theorem dX2_hexes_10 : decode cX2_hexes 10 = .ok (.bipush 7, 2) := by decide +kernel
theorem dX2_hexes_12 : decode cX2_hexes 12 = .ok (.imul, 1) := by decide +kernel
theorem dX2_hexes_13 : decode cX2_hexes 13 = .ok (.istore_n 1, 1) := by decide +kernel
theorem dX2_hexes_14 : decode cX2_hexes 14 = .ok (.iinc 2 1, 3) := by decide +kernel
theorem dX2_hexes_17 : decode cX2_hexes 17 = .ok (.goto (-13), 3) := by decide +kernel
theorem dX2_hexes_20 : decode cX2_hexes 20 = .ok (.iload_n 1, 1) := by decide +kernel
theorem dX2_hexes_21 : decode cX2_hexes 21 = .ok (.ireturn, 1) := by decide +kernel
set_option maxRecDepth 20000 in
theorem ggX2_patchOf_X2_hexes : GoodIn wsX2_patchOf wsX2_hexes := goodIn_r _ [4] (by decide +kernel) (by decide +kernel)
set_option maxRecDepth 20000 in
theorem gX2_patchOf_X2_hexes : GoodIn wsX2_patchOf (va_wsS RX2 75 yX2_hexes wsX2_hexes) := goodIn_app (goodIn_of _ (by decide +kernel)) ggX2_patchOf_X2_hexes
theorem dX2_patchOf_0 : decode cX2_patchOf 0 = .ok (.iload_n 0, 1) := by decide +kernel
theorem dX2_patchOf_1 : decode cX2_patchOf 1 = .ok (.iload_n 1, 1) := by decide +kernel
theorem dX2_patchOf_2 : decode cX2_patchOf 2 = .ok (.invokestatic 75, 3) := by decide +kernel
theorem dX2_patchOf_5 : decode cX2_patchOf 5 = .ok (.idiv, 1) := by decide +kernel
theorem dX2_patchOf_6 : decode cX2_patchOf 6 = .ok (.iload_n 1, 1) := by decide +kernel
theorem dX2_patchOf_7 : decode cX2_patchOf 7 = .ok (.invokestatic 75, 3) := by decide +kernel
theorem dX2_patchOf_10 : decode cX2_patchOf 10 = .ok (.imul, 1) := by decide +kernel
theorem dX2_patchOf_11 : decode cX2_patchOf 11 = .ok (.ireturn, 1) := by decide +kernel
set_option maxRecDepth 20000 in
theorem ggX2_patch_X2_isKey : GoodIn wsX2_patch wsX2_isKey := goodIn_r _ [4, 5, 6, 3, 7] (by decide +kernel) (by decide +kernel)
set_option maxRecDepth 20000 in
theorem gX2_patch_X2_isKey : GoodIn wsX2_patch (va_wsS RX2 58 yX2_isKey wsX2_isKey) := goodIn_app (goodIn_of _ (by decide +kernel)) ggX2_patch_X2_isKey
set_option maxRecDepth 20000 in
theorem ggX2_patch_X2_isLevel : GoodIn wsX2_patch wsX2_isLevel := goodIn_r _ [10, 5, 6, 3, 7] (by decide +kernel) (by decide +kernel)
set_option maxRecDepth 20000 in
theorem gX2_patch_X2_isLevel : GoodIn wsX2_patch (va_wsS RX2 78 yX2_isLevel wsX2_isLevel) := goodIn_app (goodIn_of _ (by decide +kernel)) ggX2_patch_X2_isLevel
set_option maxRecDepth 20000 in
theorem ggX2_patch_X2_patchOf : GoodIn wsX2_patch wsX2_patchOf := goodIn_r _ [13, 14, 15, 3, 16] (by decide +kernel) (by decide +kernel)
set_option maxRecDepth 20000 in
theorem gX2_patch_X2_patchOf : GoodIn wsX2_patch (va_wsS RX2 81 yX2_patchOf wsX2_patchOf) := goodIn_app (goodIn_of _ (by decide +kernel)) ggX2_patch_X2_patchOf
theorem dX2_patch_0 : decode cX2_patch 0 = .ok (.iload_n 1, 1) := by decide +kernel
theorem dX2_patch_1 : decode cX2_patch 1 = .ok (.invokestatic 58, 3) := by decide +kernel
theorem dX2_patch_4 : decode cX2_patch 4 = .ok (.ifCond .eq 18, 3) := by decide +kernel
theorem dX2_patch_7 : decode cX2_patch 7 = .ok (.iload_n 2, 1) := by decide +kernel
theorem dX2_patch_8 : decode cX2_patch 8 = .ok (.invokestatic 78, 3) := by decide +kernel
theorem dX2_patch_11 : decode cX2_patch 11 = .ok (.ifCond .eq 11, 3) := by decide +kernel
theorem dX2_patch_14 : decode cX2_patch 14 = .ok (.iload_n 1, 1) := by decide +kernel
theorem dX2_patch_15 : decode cX2_patch 15 = .ok (.iload_n 2, 1) := by decide +kernel
theorem dX2_patch_16 : decode cX2_patch 16 = .ok (.invokestatic 81, 3) := by decide +kernel
theorem dX2_patch_19 : decode cX2_patch 19 = .ok (.goto 5, 3) := by decide +kernel
theorem dX2_patch_22 : decode cX2_patch 22 = .ok (.bipush (-2), 2) := by decide +kernel
theorem dX2_patch_24 : decode cX2_patch 24 = .ok (.ireturn, 1) := by decide +kernel
set_option maxRecDepth 20000 in
theorem ggX2_around_X2_isKey : GoodIn wsX2_around wsX2_isKey := goodIn_r _ [5, 6, 7, 4, 8] (by decide +kernel) (by decide +kernel)
set_option maxRecDepth 20000 in
theorem gX2_around_X2_isKey : GoodIn wsX2_around (va_wsS RX2 58 yX2_isKey wsX2_isKey) := goodIn_app (goodIn_of _ (by decide +kernel)) ggX2_around_X2_isKey
set_option maxRecDepth 20000 in
theorem ggX2_around_X2_isLevel : GoodIn wsX2_around wsX2_isLevel := goodIn_r _ [11, 6, 7, 4, 8] (by decide +kernel) (by decide +kernel)
set_option maxRecDepth 20000 in
theorem gX2_around_X2_isLevel : GoodIn wsX2_around (va_wsS RX2 78 yX2_isLevel wsX2_isLevel) := goodIn_app (goodIn_of _ (by decide +kernel)) ggX2_around_X2_isLevel
set_option maxRecDepth 20000 in
theorem ggX2_around_X2_patchOf : GoodIn wsX2_around wsX2_patchOf := goodIn_r _ [14, 15, 16, 4, 17] (by decide +kernel) (by decide +kernel)
set_option maxRecDepth 20000 in
theorem gX2_around_X2_patchOf : GoodIn wsX2_around (va_wsS RX2 81 yX2_patchOf wsX2_patchOf) := goodIn_app (goodIn_of _ (by decide +kernel)) ggX2_around_X2_patchOf
set_option maxRecDepth 20000 in
theorem ggX2_around_X2_hexes : GoodIn wsX2_around wsX2_hexes := goodIn_r _ [17] (by decide +kernel) (by decide +kernel)
set_option maxRecDepth 20000 in
theorem gX2_around_X2_hexes : GoodIn wsX2_around (va_wsS RX2 75 yX2_hexes wsX2_hexes) := goodIn_app (goodIn_of _ (by decide +kernel)) ggX2_around_X2_hexes
set_option maxRecDepth 20000 in
theorem ggX2_around_X2_nextOf : GoodIn wsX2_around wsX2_nextOf := goodIn_r _ [21, 22, 23, 24, 25, 4, 26, 27, 28, 29, 30, 31, 32, 33, 34, 6, 7, 8, 35, 36, 37, 38, 39, 40, 41, 42, 43, 44, 45, 46, 47, 48, 49] (by decide +kernel) (by decide +kernel)
set_option maxRecDepth 20000 in
theorem gX2_around_X2_nextOf : GoodIn wsX2_around (wsV RX2 66 RX2 yX2_nextOf wsX2_nextOf) := goodIn_app (goodIn_of _ (by decide +kernel)) ggX2_around_X2_nextOf
theorem dX2_around_0 : decode cX2_around 0 = .ok (.iload_n 1, 1) := by decide +kernel
theorem dX2_around_1 : decode cX2_around 1 = .ok (.invokestatic 58, 3) := by decide +kernel
theorem dX2_around_4 : decode cX2_around 4 = .ok (.ifCond .eq 10, 3) := by decide +kernel
theorem dX2_around_7 : decode cX2_around 7 = .ok (.iload_n 2, 1) := by decide +kernel
theorem dX2_around_8 : decode cX2_around 8 = .ok (.invokestatic 78, 3) := by decide +kernel
theorem dX2_around_11 : decode cX2_around 11 = .ok (.ifCond .ne 6, 3) := by decide +kernel
theorem dX2_around_14 : decode cX2_around 14 = .ok (.bipush (-2), 2) := by decide +kernel
theorem dX2_around_16 : decode cX2_around 16 = .ok (.ireturn, 1) := by decide +kernel
theorem dX2_around_17 : decode cX2_around 17 = .ok (.iload_n 1, 1) := by decide +kernel
theorem dX2_around_18 : decode cX2_around 18 = .ok (.iload_n 2, 1) := by decide +kernel
theorem dX2_around_19 : decode cX2_around 19 = .ok (.invokestatic 81, 3) := by decide +kernel
theorem dX2_around_22 : decode cX2_around 22 = .ok (.istore_n 3, 1) := by decide +kernel
theorem dX2_around_23 : decode cX2_around 23 = .ok (.iconst 0, 1) := by decide +kernel
theorem dX2_around_24 : decode cX2_around 24 = .ok (.istore 4, 2) := by decide +kernel
theorem dX2_around_26 : decode cX2_around 26 = .ok (.iconst 0, 1) := by decide +kernel
theorem dX2_around_27 : decode cX2_around 27 = .ok (.istore 5, 2) := by decide +kernel
theorem dX2_around_29 : decode cX2_around 29 = .ok (.iload 5, 2) := by decide +kernel
theorem dX2_around_31 : decode cX2_around 31 = .ok (.sipush 2401, 3) := by decide +kernel
theorem dX2_around_34 : decode cX2_around 34 = .ok (.if_icmp .ge 17, 3) := by decide +kernel
theorem dX2_around_37 : decode cX2_around 37 = .ok (.aload_n 0, 1) := by decide +kernel
theorem dX2_around_38 : decode cX2_around 38 = .ok (.getfield 26, 3) := by decide +kernel
theorem dX2_around_41 : decode cX2_around 41 = .ok (.iload 5, 2) := by decide +kernel
theorem dX2_around_43 : decode cX2_around 43 = .ok (.iconst 0, 1) := by decide +kernel
theorem dX2_around_44 : decode cX2_around 44 = .ok (.bastore, 1) := by decide +kernel
theorem dX2_around_45 : decode cX2_around 45 = .ok (.iinc 5 1, 3) := by decide +kernel
theorem dX2_around_48 : decode cX2_around 48 = .ok (.goto (-19), 3) := by decide +kernel
theorem dX2_around_51 : decode cX2_around 51 = .ok (.iload_n 3, 1) := by decide +kernel
theorem dX2_around_52 : decode cX2_around 52 = .ok (.istore 5, 2) := by decide +kernel
theorem dX2_around_54 : decode cX2_around 54 = .ok (.iload 5, 2) := by decide +kernel
theorem dX2_around_56 : decode cX2_around 56 = .ok (.iload_n 3, 1) := by decide +kernel
theorem dX2_around_57 : decode cX2_around 57 = .ok (.iload_n 2, 1) := by decide +kernel
theorem dX2_around_58 : decode cX2_around 58 = .ok (.invokestatic 75, 3) := by decide +kernel
theorem dX2_around_61 : decode cX2_around 61 = .ok (.iadd, 1) := by decide +kernel
theorem dX2_around_62 : decode cX2_around 62 = .ok (.if_icmp .ge 79, 3) := by decide +kernel
theorem dX2_around_65 : decode cX2_around 65 = .ok (.iconst 1, 1) := by decide +kernel
theorem dX2_around_66 : decode cX2_around 66 = .ok (.istore 6, 2) := by decide +kernel
theorem dX2_around_68 : decode cX2_around 68 = .ok (.iload 6, 2) := by decide +kernel
theorem dX2_around_70 : decode cX2_around 70 = .ok (.bipush 6, 2) := by decide +kernel
theorem dX2_around_72 : decode cX2_around 72 = .ok (.if_icmp .gt 63, 3) := by decide +kernel
theorem dX2_around_75 : decode cX2_around 75 = .ok (.aload_n 0, 1) := by decide +kernel
theorem dX2_around_76 : decode cX2_around 76 = .ok (.iload 5, 2) := by decide +kernel
theorem dX2_around_78 : decode cX2_around 78 = .ok (.iload 6, 2) := by decide +kernel
theorem dX2_around_80 : decode cX2_around 80 = .ok (.invokevirtual 66, 3) := by decide +kernel
theorem dX2_around_83 : decode cX2_around 83 = .ok (.istore 7, 2) := by decide +kernel
theorem dX2_around_85 : decode cX2_around 85 = .ok (.iload 7, 2) := by decide +kernel
theorem dX2_around_87 : decode cX2_around 87 = .ok (.ifCond .ge 7, 3) := by decide +kernel
theorem dX2_around_90 : decode cX2_around 90 = .ok (.iload_n 3, 1) := by decide +kernel
theorem dX2_around_91 : decode cX2_around 91 = .ok (.goto 9, 3) := by decide +kernel
theorem dX2_around_94 : decode cX2_around 94 = .ok (.iload 7, 2) := by decide +kernel
theorem dX2_around_96 : decode cX2_around 96 = .ok (.iload_n 2, 1) := by decide +kernel
theorem dX2_around_97 : decode cX2_around 97 = .ok (.invokestatic 81, 3) := by decide +kernel
theorem dX2_around_100 : decode cX2_around 100 = .ok (.istore 8, 2) := by decide +kernel
theorem dX2_around_102 : decode cX2_around 102 = .ok (.iload 8, 2) := by decide +kernel
theorem dX2_around_104 : decode cX2_around 104 = .ok (.iload_n 3, 1) := by decide +kernel
theorem dX2_around_105 : decode cX2_around 105 = .ok (.if_icmp .eq 24, 3) := by decide +kernel
theorem dX2_around_108 : decode cX2_around 108 = .ok (.aload_n 0, 1) := by decide +kernel
theorem dX2_around_109 : decode cX2_around 109 = .ok (.getfield 26, 3) := by decide +kernel
theorem dX2_around_112 : decode cX2_around 112 = .ok (.iload 8, 2) := by decide +kernel
theorem dX2_around_114 : decode cX2_around 114 = .ok (.baload, 1) := by decide +kernel
theorem dX2_around_115 : decode cX2_around 115 = .ok (.ifCond .ne 14, 3) := by decide +kernel
theorem dX2_around_118 : decode cX2_around 118 = .ok (.aload_n 0, 1) := by decide +kernel
theorem dX2_around_119 : decode cX2_around 119 = .ok (.getfield 26, 3) := by decide +kernel
theorem dX2_around_122 : decode cX2_around 122 = .ok (.iload 8, 2) := by decide +kernel
theorem dX2_around_124 : decode cX2_around 124 = .ok (.iconst 1, 1) := by decide +kernel
theorem dX2_around_125 : decode cX2_around 125 = .ok (.bastore, 1) := by decide +kernel
theorem dX2_around_126 : decode cX2_around 126 = .ok (.iinc 4 1, 3) := by decide +kernel
theorem dX2_around_129 : decode cX2_around 129 = .ok (.iinc 6 1, 3) := by decide +kernel
theorem dX2_around_132 : decode cX2_around 132 = .ok (.goto (-64), 3) := by decide +kernel
theorem dX2_around_135 : decode cX2_around 135 = .ok (.iinc 5 1, 3) := by decide +kernel
theorem dX2_around_138 : decode cX2_around 138 = .ok (.goto (-84), 3) := by decide +kernel
theorem dX2_around_141 : decode cX2_around 141 = .ok (.iload 4, 2) := by decide +kernel
theorem dX2_around_143 : decode cX2_around 143 = .ok (.ireturn, 1) := by decide +kernel
set_option maxRecDepth 20000 in
theorem ggX2_ring_X2_isKey : GoodIn wsX2_ring wsX2_isKey := goodIn_r _ [4, 5, 6, 3, 7] (by decide +kernel) (by decide +kernel)
set_option maxRecDepth 20000 in
theorem gX2_ring_X2_isKey : GoodIn wsX2_ring (va_wsS RX2 58 yX2_isKey wsX2_isKey) := goodIn_app (goodIn_of _ (by decide +kernel)) ggX2_ring_X2_isKey
set_option maxRecDepth 20000 in
theorem ggX2_ring_X2_in : GoodIn wsX2_ring wsX2_in := goodIn_r _ [7] (by decide +kernel) (by decide +kernel)
set_option maxRecDepth 20000 in
theorem gX2_ring_X2_in : GoodIn wsX2_ring (va_wsS RX2 54 yX2_in wsX2_in) := goodIn_app (goodIn_of _ (by decide +kernel)) ggX2_ring_X2_in
set_option maxRecDepth 20000 in
theorem ggX2_ring_X2_farOf : GoodIn wsX2_ring wsX2_farOf := goodIn_r _ [11, 12, 13, 14, 15, 3, 16, 17, 18, 19, 20, 21, 22, 23, 24, 25, 26, 27, 28, 29, 30, 31] (by decide +kernel) (by decide +kernel)
set_option maxRecDepth 20000 in
theorem gX2_ring_X2_farOf : GoodIn wsX2_ring (wsV RX2 72 RX2 yX2_farOf wsX2_farOf) := goodIn_app (goodIn_of _ (by decide +kernel)) ggX2_ring_X2_farOf
theorem dX2_ring_0 : decode cX2_ring 0 = .ok (.iload_n 1, 1) := by decide +kernel
theorem dX2_ring_1 : decode cX2_ring 1 = .ok (.invokestatic 58, 3) := by decide +kernel
theorem dX2_ring_4 : decode cX2_ring 4 = .ok (.ifCond .eq 13, 3) := by decide +kernel
theorem dX2_ring_7 : decode cX2_ring 7 = .ok (.iload_n 2, 1) := by decide +kernel
theorem dX2_ring_8 : decode cX2_ring 8 = .ok (.iconst 0, 1) := by decide +kernel
theorem dX2_ring_9 : decode cX2_ring 9 = .ok (.bipush 70, 2) := by decide +kernel
theorem dX2_ring_11 : decode cX2_ring 11 = .ok (.invokestatic 54, 3) := by decide +kernel
theorem dX2_ring_14 : decode cX2_ring 14 = .ok (.ifCond .ne 6, 3) := by decide +kernel
theorem dX2_ring_17 : decode cX2_ring 17 = .ok (.bipush (-2), 2) := by decide +kernel
theorem dX2_ring_19 : decode cX2_ring 19 = .ok (.ireturn, 1) := by decide +kernel
theorem dX2_ring_20 : decode cX2_ring 20 = .ok (.iconst 0, 1) := by decide +kernel
theorem dX2_ring_21 : decode cX2_ring 21 = .ok (.istore_n 3, 1) := by decide +kernel
theorem dX2_ring_22 : decode cX2_ring 22 = .ok (.iconst 0, 1) := by decide +kernel
theorem dX2_ring_23 : decode cX2_ring 23 = .ok (.istore 4, 2) := by decide +kernel
theorem dX2_ring_25 : decode cX2_ring 25 = .ok (.iload 4, 2) := by decide +kernel
theorem dX2_ring_27 : decode cX2_ring 27 = .ok (.sipush 2401, 3) := by decide +kernel
theorem dX2_ring_30 : decode cX2_ring 30 = .ok (.if_icmp .ge 28, 3) := by decide +kernel
theorem dX2_ring_33 : decode cX2_ring 33 = .ok (.iload_n 3, 1) := by decide +kernel
theorem dX2_ring_34 : decode cX2_ring 34 = .ok (.aload_n 0, 1) := by decide +kernel
theorem dX2_ring_35 : decode cX2_ring 35 = .ok (.iload_n 1, 1) := by decide +kernel
theorem dX2_ring_36 : decode cX2_ring 36 = .ok (.iload 4, 2) := by decide +kernel
theorem dX2_ring_38 : decode cX2_ring 38 = .ok (.invokevirtual 72, 3) := by decide +kernel
theorem dX2_ring_41 : decode cX2_ring 41 = .ok (.iload_n 2, 1) := by decide +kernel
theorem dX2_ring_42 : decode cX2_ring 42 = .ok (.if_icmp .ne 7, 3) := by decide +kernel
theorem dX2_ring_45 : decode cX2_ring 45 = .ok (.iconst 1, 1) := by decide +kernel
theorem dX2_ring_46 : decode cX2_ring 46 = .ok (.goto 4, 3) := by decide +kernel
theorem dX2_ring_49 : decode cX2_ring 49 = .ok (.iconst 0, 1) := by decide +kernel
theorem dX2_ring_50 : decode cX2_ring 50 = .ok (.iadd, 1) := by decide +kernel
theorem dX2_ring_51 : decode cX2_ring 51 = .ok (.istore_n 3, 1) := by decide +kernel
theorem dX2_ring_52 : decode cX2_ring 52 = .ok (.iinc 4 1, 3) := by decide +kernel
theorem dX2_ring_55 : decode cX2_ring 55 = .ok (.goto (-30), 3) := by decide +kernel
theorem dX2_ring_58 : decode cX2_ring 58 = .ok (.iload_n 3, 1) := by decide +kernel
theorem dX2_ring_59 : decode cX2_ring 59 = .ok (.ireturn, 1) := by decide +kernel
theorem dX2_isIn_0 : decode cX2_isIn 0 = .ok (.aload_n 0, 1) := by decide +kernel
theorem dX2_isIn_1 : decode cX2_isIn 1 = .ok (.getfield 19, 3) := by decide +kernel
theorem dX2_isIn_4 : decode cX2_isIn 4 = .ok (.sipush 2401, 3) := by decide +kernel
theorem dX2_isIn_7 : decode cX2_isIn 7 = .ok (.iload_n 1, 1) := by decide +kernel
theorem dX2_isIn_8 : decode cX2_isIn 8 = .ok (.imul, 1) := by decide +kernel
theorem dX2_isIn_9 : decode cX2_isIn 9 = .ok (.iload_n 2, 1) := by decide +kernel
theorem dX2_isIn_10 : decode cX2_isIn 10 = .ok (.iadd, 1) := by decide +kernel
theorem dX2_isIn_11 : decode cX2_isIn 11 = .ok (.baload, 1) := by decide +kernel
theorem dX2_isIn_12 : decode cX2_isIn 12 = .ok (.ireturn, 1) := by decide +kernel
set_option maxRecDepth 20000 in
theorem ggX2_many_X2_isIn : GoodIn wsX2_many wsX2_isIn := goodIn_r _ [5, 6, 7, 8, 9, 10, 11, 12, 13, 14, 15, 16, 17, 18, 19, 20, 21] (by decide +kernel) (by decide +kernel)
set_option maxRecDepth 20000 in
theorem gX2_many_X2_isIn : GoodIn wsX2_many (wsV RX2 84 RX2 yX2_isIn wsX2_isIn) := goodIn_app (goodIn_of _ (by decide +kernel)) ggX2_many_X2_isIn
theorem dX2_many_0 : decode cX2_many 0 = .ok (.iconst 0, 1) := by decide +kernel
theorem dX2_many_1 : decode cX2_many 1 = .ok (.istore_n 2, 1) := by decide +kernel
theorem dX2_many_2 : decode cX2_many 2 = .ok (.iconst 0, 1) := by decide +kernel
theorem dX2_many_3 : decode cX2_many 3 = .ok (.istore_n 3, 1) := by decide +kernel
theorem dX2_many_4 : decode cX2_many 4 = .ok (.iload_n 3, 1) := by decide +kernel
theorem dX2_many_5 : decode cX2_many 5 = .ok (.sipush 2401, 3) := by decide +kernel
theorem dX2_many_8 : decode cX2_many 8 = .ok (.if_icmp .ge 26, 3) := by decide +kernel
theorem dX2_many_11 : decode cX2_many 11 = .ok (.iload_n 2, 1) := by decide +kernel
theorem dX2_many_12 : decode cX2_many 12 = .ok (.aload_n 0, 1) := by decide +kernel
theorem dX2_many_13 : decode cX2_many 13 = .ok (.iload_n 1, 1) := by decide +kernel
theorem dX2_many_14 : decode cX2_many 14 = .ok (.iload_n 3, 1) := by decide +kernel
theorem dX2_many_15 : decode cX2_many 15 = .ok (.invokevirtual 84, 3) := by decide +kernel
theorem dX2_many_18 : decode cX2_many 18 = .ok (.ifCond .eq 7, 3) := by decide +kernel
theorem dX2_many_21 : decode cX2_many 21 = .ok (.iconst 1, 1) := by decide +kernel
theorem dX2_many_22 : decode cX2_many 22 = .ok (.goto 4, 3) := by decide +kernel
theorem dX2_many_25 : decode cX2_many 25 = .ok (.iconst 0, 1) := by decide +kernel
theorem dX2_many_26 : decode cX2_many 26 = .ok (.iadd, 1) := by decide +kernel
theorem dX2_many_27 : decode cX2_many 27 = .ok (.istore_n 2, 1) := by decide +kernel
theorem dX2_many_28 : decode cX2_many 28 = .ok (.iinc 3 1, 3) := by decide +kernel
theorem dX2_many_31 : decode cX2_many 31 = .ok (.goto (-27), 3) := by decide +kernel
theorem dX2_many_34 : decode cX2_many 34 = .ok (.iload_n 2, 1) := by decide +kernel
theorem dX2_many_35 : decode cX2_many 35 = .ok (.ireturn, 1) := by decide +kernel
set_option maxRecDepth 20000 in
theorem ggX2_put_X2_isSlot : GoodIn wsX2_put wsX2_isSlot := goodIn_r _ [5, 6, 7, 4, 8] (by decide +kernel) (by decide +kernel)
set_option maxRecDepth 20000 in
theorem gX2_put_X2_isSlot : GoodIn wsX2_put (va_wsS RX2 88 yX2_isSlot wsX2_isSlot) := goodIn_app (goodIn_of _ (by decide +kernel)) ggX2_put_X2_isSlot
set_option maxRecDepth 20000 in
theorem ggX2_put_X2_isKey : GoodIn wsX2_put wsX2_isKey := goodIn_r _ [11, 6, 7, 4, 8] (by decide +kernel) (by decide +kernel)
set_option maxRecDepth 20000 in
theorem gX2_put_X2_isKey : GoodIn wsX2_put (va_wsS RX2 58 yX2_isKey wsX2_isKey) := goodIn_app (goodIn_of _ (by decide +kernel)) ggX2_put_X2_isKey
set_option maxRecDepth 20000 in
theorem ggX2_put_X2_isLevel : GoodIn wsX2_put wsX2_isLevel := goodIn_r _ [14, 6, 7, 4, 8] (by decide +kernel) (by decide +kernel)
set_option maxRecDepth 20000 in
theorem gX2_put_X2_isLevel : GoodIn wsX2_put (va_wsS RX2 78 yX2_isLevel wsX2_isLevel) := goodIn_app (goodIn_of _ (by decide +kernel)) ggX2_put_X2_isLevel
set_option maxRecDepth 20000 in
theorem ggX2_put_X2_in : GoodIn wsX2_put wsX2_in := goodIn_r _ [8] (by decide +kernel) (by decide +kernel)
set_option maxRecDepth 20000 in
theorem gX2_put_X2_in : GoodIn wsX2_put (va_wsS RX2 54 yX2_in wsX2_in) := goodIn_app (goodIn_of _ (by decide +kernel)) ggX2_put_X2_in
set_option maxRecDepth 20000 in
theorem ggX2_put_X2_patchOf : GoodIn wsX2_put wsX2_patchOf := goodIn_r _ [17, 18, 19, 4, 20] (by decide +kernel) (by decide +kernel)
set_option maxRecDepth 20000 in
theorem gX2_put_X2_patchOf : GoodIn wsX2_put (va_wsS RX2 81 yX2_patchOf wsX2_patchOf) := goodIn_app (goodIn_of _ (by decide +kernel)) ggX2_put_X2_patchOf
set_option maxRecDepth 20000 in
theorem ggX2_put_X2_hexes : GoodIn wsX2_put wsX2_hexes := goodIn_r _ [20] (by decide +kernel) (by decide +kernel)
set_option maxRecDepth 20000 in
theorem gX2_put_X2_hexes : GoodIn wsX2_put (va_wsS RX2 75 yX2_hexes wsX2_hexes) := goodIn_app (goodIn_of _ (by decide +kernel)) ggX2_put_X2_hexes
set_option maxRecDepth 20000 in
theorem ggX2_put_X2_many : GoodIn wsX2_put wsX2_many := goodIn_r _ [24, 25, 26, 27, 4, 28, 1, 29, 30, 31, 32, 33, 34, 35, 36, 37, 38, 39, 40, 41, 42, 43] (by decide +kernel) (by decide +kernel)
set_option maxRecDepth 20000 in
theorem gX2_put_X2_many : GoodIn wsX2_put (wsV RX2 91 RX2 yX2_many wsX2_many) := goodIn_app (goodIn_of _ (by decide +kernel)) ggX2_put_X2_many
theorem dX2_put_0 : decode cX2_put 0 = .ok (.iload_n 1, 1) := by decide +kernel
theorem dX2_put_1 : decode cX2_put 1 = .ok (.invokestatic 88, 3) := by decide +kernel
theorem dX2_put_4 : decode cX2_put 4 = .ok (.ifCond .ne 5, 3) := by decide +kernel
theorem dX2_put_7 : decode cX2_put 7 = .ok (.iconst (-1), 1) := by decide +kernel
theorem dX2_put_8 : decode cX2_put 8 = .ok (.ireturn, 1) := by decide +kernel
theorem dX2_put_9 : decode cX2_put 9 = .ok (.iload_n 2, 1) := by decide +kernel
theorem dX2_put_10 : decode cX2_put 10 = .ok (.invokestatic 58, 3) := by decide +kernel
theorem dX2_put_13 : decode cX2_put 13 = .ok (.ifCond .eq 20, 3) := by decide +kernel
theorem dX2_put_16 : decode cX2_put 16 = .ok (.iload_n 3, 1) := by decide +kernel
theorem dX2_put_17 : decode cX2_put 17 = .ok (.invokestatic 78, 3) := by decide +kernel
theorem dX2_put_20 : decode cX2_put 20 = .ok (.ifCond .eq 13, 3) := by decide +kernel
theorem dX2_put_23 : decode cX2_put 23 = .ok (.iload 4, 2) := by decide +kernel
theorem dX2_put_25 : decode cX2_put 25 = .ok (.iconst 0, 1) := by decide +kernel
theorem dX2_put_26 : decode cX2_put 26 = .ok (.iconst 1, 1) := by decide +kernel
theorem dX2_put_27 : decode cX2_put 27 = .ok (.invokestatic 54, 3) := by decide +kernel
theorem dX2_put_30 : decode cX2_put 30 = .ok (.ifCond .ne 6, 3) := by decide +kernel
theorem dX2_put_33 : decode cX2_put 33 = .ok (.bipush (-2), 2) := by decide +kernel
theorem dX2_put_35 : decode cX2_put 35 = .ok (.ireturn, 1) := by decide +kernel
theorem dX2_put_36 : decode cX2_put 36 = .ok (.iload_n 2, 1) := by decide +kernel
theorem dX2_put_37 : decode cX2_put 37 = .ok (.iload_n 3, 1) := by decide +kernel
theorem dX2_put_38 : decode cX2_put 38 = .ok (.invokestatic 81, 3) := by decide +kernel
theorem dX2_put_41 : decode cX2_put 41 = .ok (.istore 5, 2) := by decide +kernel
theorem dX2_put_43 : decode cX2_put 43 = .ok (.iload 5, 2) := by decide +kernel
theorem dX2_put_45 : decode cX2_put 45 = .ok (.istore 6, 2) := by decide +kernel
theorem dX2_put_47 : decode cX2_put 47 = .ok (.iload 6, 2) := by decide +kernel
theorem dX2_put_49 : decode cX2_put 49 = .ok (.iload 5, 2) := by decide +kernel
theorem dX2_put_51 : decode cX2_put 51 = .ok (.iload_n 3, 1) := by decide +kernel
theorem dX2_put_52 : decode cX2_put 52 = .ok (.invokestatic 75, 3) := by decide +kernel
theorem dX2_put_55 : decode cX2_put 55 = .ok (.iadd, 1) := by decide +kernel
theorem dX2_put_56 : decode cX2_put 56 = .ok (.if_icmp .ge 33, 3) := by decide +kernel
theorem dX2_put_59 : decode cX2_put 59 = .ok (.aload_n 0, 1) := by decide +kernel
theorem dX2_put_60 : decode cX2_put 60 = .ok (.getfield 19, 3) := by decide +kernel
theorem dX2_put_63 : decode cX2_put 63 = .ok (.sipush 2401, 3) := by decide +kernel
theorem dX2_put_66 : decode cX2_put 66 = .ok (.iload_n 1, 1) := by decide +kernel
theorem dX2_put_67 : decode cX2_put 67 = .ok (.imul, 1) := by decide +kernel
theorem dX2_put_68 : decode cX2_put 68 = .ok (.iload 6, 2) := by decide +kernel
theorem dX2_put_70 : decode cX2_put 70 = .ok (.iadd, 1) := by decide +kernel
theorem dX2_put_71 : decode cX2_put 71 = .ok (.iload 4, 2) := by decide +kernel
theorem dX2_put_73 : decode cX2_put 73 = .ok (.iconst 1, 1) := by decide +kernel
theorem dX2_put_74 : decode cX2_put 74 = .ok (.if_icmp .ne 7, 3) := by decide +kernel
theorem dX2_put_77 : decode cX2_put 77 = .ok (.iconst 1, 1) := by decide +kernel
theorem dX2_put_78 : decode cX2_put 78 = .ok (.goto 4, 3) := by decide +kernel
theorem dX2_put_81 : decode cX2_put 81 = .ok (.iconst 0, 1) := by decide +kernel
theorem dX2_put_82 : decode cX2_put 82 = .ok (.bastore, 1) := by decide +kernel
theorem dX2_put_83 : decode cX2_put 83 = .ok (.iinc 6 1, 3) := by decide +kernel
theorem dX2_put_86 : decode cX2_put 86 = .ok (.goto (-39), 3) := by decide +kernel
theorem dX2_put_89 : decode cX2_put 89 = .ok (.aload_n 0, 1) := by decide +kernel
theorem dX2_put_90 : decode cX2_put 90 = .ok (.iload_n 1, 1) := by decide +kernel
theorem dX2_put_91 : decode cX2_put 91 = .ok (.invokevirtual 91, 3) := by decide +kernel
theorem dX2_put_94 : decode cX2_put 94 = .ok (.ireturn, 1) := by decide +kernel
set_option maxRecDepth 20000 in
theorem ggX2_keep_X2_many : GoodIn wsX2_keep wsX2_many := goodIn_r _ [7, 8, 9, 10, 6, 11, 1, 12, 13, 14, 15, 16, 17, 18, 19, 20, 21, 22, 23, 24, 25, 26] (by decide +kernel) (by decide +kernel)
set_option maxRecDepth 20000 in
theorem gX2_keep_X2_many : GoodIn wsX2_keep (wsV RX2 91 RX2 yX2_many wsX2_many) := goodIn_app (goodIn_of _ (by decide +kernel)) ggX2_keep_X2_many
theorem dX2_keep_0 : decode cX2_keep 0 = .ok (.iconst 0, 1) := by decide +kernel
theorem dX2_keep_1 : decode cX2_keep 1 = .ok (.istore_n 2, 1) := by decide +kernel
theorem dX2_keep_2 : decode cX2_keep 2 = .ok (.iload_n 2, 1) := by decide +kernel
theorem dX2_keep_3 : decode cX2_keep 3 = .ok (.sipush 2401, 3) := by decide +kernel
theorem dX2_keep_6 : decode cX2_keep 6 = .ok (.if_icmp .ge 27, 3) := by decide +kernel
theorem dX2_keep_9 : decode cX2_keep 9 = .ok (.aload_n 0, 1) := by decide +kernel
theorem dX2_keep_10 : decode cX2_keep 10 = .ok (.getfield 19, 3) := by decide +kernel
theorem dX2_keep_13 : decode cX2_keep 13 = .ok (.sipush 2401, 3) := by decide +kernel
theorem dX2_keep_16 : decode cX2_keep 16 = .ok (.iload_n 1, 1) := by decide +kernel
theorem dX2_keep_17 : decode cX2_keep 17 = .ok (.imul, 1) := by decide +kernel
theorem dX2_keep_18 : decode cX2_keep 18 = .ok (.iload_n 2, 1) := by decide +kernel
theorem dX2_keep_19 : decode cX2_keep 19 = .ok (.iadd, 1) := by decide +kernel
theorem dX2_keep_20 : decode cX2_keep 20 = .ok (.aload_n 0, 1) := by decide +kernel
theorem dX2_keep_21 : decode cX2_keep 21 = .ok (.getfield 29, 3) := by decide +kernel
theorem dX2_keep_24 : decode cX2_keep 24 = .ok (.iload_n 2, 1) := by decide +kernel
theorem dX2_keep_25 : decode cX2_keep 25 = .ok (.baload, 1) := by decide +kernel
theorem dX2_keep_26 : decode cX2_keep 26 = .ok (.bastore, 1) := by decide +kernel
theorem dX2_keep_27 : decode cX2_keep 27 = .ok (.iinc 2 1, 3) := by decide +kernel
theorem dX2_keep_30 : decode cX2_keep 30 = .ok (.goto (-28), 3) := by decide +kernel
theorem dX2_keep_33 : decode cX2_keep 33 = .ok (.aload_n 0, 1) := by decide +kernel
theorem dX2_keep_34 : decode cX2_keep 34 = .ok (.iload_n 1, 1) := by decide +kernel
theorem dX2_keep_35 : decode cX2_keep 35 = .ok (.invokevirtual 91, 3) := by decide +kernel
theorem dX2_keep_38 : decode cX2_keep 38 = .ok (.ireturn, 1) := by decide +kernel
set_option maxRecDepth 20000 in
theorem ggX2_disk_X2_isSlot : GoodIn wsX2_disk wsX2_isSlot := goodIn_r _ [5, 6, 7, 4, 8] (by decide +kernel) (by decide +kernel)
set_option maxRecDepth 20000 in
theorem gX2_disk_X2_isSlot : GoodIn wsX2_disk (va_wsS RX2 88 yX2_isSlot wsX2_isSlot) := goodIn_app (goodIn_of _ (by decide +kernel)) ggX2_disk_X2_isSlot
set_option maxRecDepth 20000 in
theorem ggX2_disk_X2_isKey : GoodIn wsX2_disk wsX2_isKey := goodIn_r _ [11, 6, 7, 4, 8] (by decide +kernel) (by decide +kernel)
set_option maxRecDepth 20000 in
theorem gX2_disk_X2_isKey : GoodIn wsX2_disk (va_wsS RX2 58 yX2_isKey wsX2_isKey) := goodIn_app (goodIn_of _ (by decide +kernel)) ggX2_disk_X2_isKey
set_option maxRecDepth 20000 in
theorem ggX2_disk_X2_in : GoodIn wsX2_disk wsX2_in := goodIn_r _ [8] (by decide +kernel) (by decide +kernel)
set_option maxRecDepth 20000 in
theorem gX2_disk_X2_in : GoodIn wsX2_disk (va_wsS RX2 54 yX2_in wsX2_in) := goodIn_app (goodIn_of _ (by decide +kernel)) ggX2_disk_X2_in
set_option maxRecDepth 20000 in
theorem ggX2_disk_X2_farOf : GoodIn wsX2_disk wsX2_farOf := goodIn_r _ [15, 16, 17, 18, 19, 4, 20, 34, 35, 36, 37, 38, 39, 40, 41, 42, 43, 44, 45, 46, 47, 48] (by decide +kernel) (by decide +kernel)
set_option maxRecDepth 20000 in
theorem gX2_disk_X2_farOf : GoodIn wsX2_disk (wsV RX2 72 RX2 yX2_farOf wsX2_farOf) := goodIn_app (goodIn_of _ (by decide +kernel)) ggX2_disk_X2_farOf
set_option maxRecDepth 20000 in
theorem ggX2_disk_X2_keep : GoodIn wsX2_disk wsX2_keep := goodIn_r _ [24, 25, 1, 26, 27, 28, 4, 29, 30, 31, 32, 33, 34, 35, 36, 37, 38, 39, 40, 41, 42, 43, 44, 45, 46, 47, 48] (by decide +kernel) (by decide +kernel)
set_option maxRecDepth 20000 in
theorem gX2_disk_X2_keep : GoodIn wsX2_disk (wsV RX2 94 RX2 yX2_keep wsX2_keep) := goodIn_app (goodIn_of _ (by decide +kernel)) ggX2_disk_X2_keep
theorem dX2_disk_0 : decode cX2_disk 0 = .ok (.iload_n 1, 1) := by decide +kernel
theorem dX2_disk_1 : decode cX2_disk 1 = .ok (.invokestatic 88, 3) := by decide +kernel
theorem dX2_disk_4 : decode cX2_disk 4 = .ok (.ifCond .ne 5, 3) := by decide +kernel
theorem dX2_disk_7 : decode cX2_disk 7 = .ok (.iconst (-1), 1) := by decide +kernel
theorem dX2_disk_8 : decode cX2_disk 8 = .ok (.ireturn, 1) := by decide +kernel
theorem dX2_disk_9 : decode cX2_disk 9 = .ok (.iload_n 2, 1) := by decide +kernel
theorem dX2_disk_10 : decode cX2_disk 10 = .ok (.invokestatic 58, 3) := by decide +kernel
theorem dX2_disk_13 : decode cX2_disk 13 = .ok (.ifCond .eq 13, 3) := by decide +kernel
theorem dX2_disk_16 : decode cX2_disk 16 = .ok (.iload_n 3, 1) := by decide +kernel
theorem dX2_disk_17 : decode cX2_disk 17 = .ok (.iconst 0, 1) := by decide +kernel
theorem dX2_disk_18 : decode cX2_disk 18 = .ok (.bipush 70, 2) := by decide +kernel
theorem dX2_disk_20 : decode cX2_disk 20 = .ok (.invokestatic 54, 3) := by decide +kernel
theorem dX2_disk_23 : decode cX2_disk 23 = .ok (.ifCond .ne 6, 3) := by decide +kernel
theorem dX2_disk_26 : decode cX2_disk 26 = .ok (.bipush (-2), 2) := by decide +kernel
theorem dX2_disk_28 : decode cX2_disk 28 = .ok (.ireturn, 1) := by decide +kernel
theorem dX2_disk_29 : decode cX2_disk 29 = .ok (.iconst 0, 1) := by decide +kernel
theorem dX2_disk_30 : decode cX2_disk 30 = .ok (.istore 4, 2) := by decide +kernel
theorem dX2_disk_32 : decode cX2_disk 32 = .ok (.iload 4, 2) := by decide +kernel
theorem dX2_disk_34 : decode cX2_disk 34 = .ok (.sipush 2401, 3) := by decide +kernel
theorem dX2_disk_37 : decode cX2_disk 37 = .ok (.if_icmp .ge 32, 3) := by decide +kernel
theorem dX2_disk_40 : decode cX2_disk 40 = .ok (.aload_n 0, 1) := by decide +kernel
theorem dX2_disk_41 : decode cX2_disk 41 = .ok (.getfield 29, 3) := by decide +kernel
theorem dX2_disk_44 : decode cX2_disk 44 = .ok (.iload 4, 2) := by decide +kernel
theorem dX2_disk_46 : decode cX2_disk 46 = .ok (.aload_n 0, 1) := by decide +kernel
theorem dX2_disk_47 : decode cX2_disk 47 = .ok (.iload_n 2, 1) := by decide +kernel
theorem dX2_disk_48 : decode cX2_disk 48 = .ok (.iload 4, 2) := by decide +kernel
theorem dX2_disk_50 : decode cX2_disk 50 = .ok (.invokevirtual 72, 3) := by decide +kernel
theorem dX2_disk_53 : decode cX2_disk 53 = .ok (.iload_n 3, 1) := by decide +kernel
theorem dX2_disk_54 : decode cX2_disk 54 = .ok (.if_icmp .gt 7, 3) := by decide +kernel
theorem dX2_disk_57 : decode cX2_disk 57 = .ok (.iconst 1, 1) := by decide +kernel
theorem dX2_disk_58 : decode cX2_disk 58 = .ok (.goto 4, 3) := by decide +kernel
theorem dX2_disk_61 : decode cX2_disk 61 = .ok (.iconst 0, 1) := by decide +kernel
theorem dX2_disk_62 : decode cX2_disk 62 = .ok (.bastore, 1) := by decide +kernel
theorem dX2_disk_63 : decode cX2_disk 63 = .ok (.iinc 4 1, 3) := by decide +kernel
theorem dX2_disk_66 : decode cX2_disk 66 = .ok (.goto (-34), 3) := by decide +kernel
theorem dX2_disk_69 : decode cX2_disk 69 = .ok (.aload_n 0, 1) := by decide +kernel
theorem dX2_disk_70 : decode cX2_disk 70 = .ok (.iload_n 1, 1) := by decide +kernel
theorem dX2_disk_71 : decode cX2_disk 71 = .ok (.invokevirtual 94, 3) := by decide +kernel
theorem dX2_disk_74 : decode cX2_disk 74 = .ok (.ireturn, 1) := by decide +kernel
set_option maxRecDepth 20000 in
theorem ggX2_join_X2_isSlot : GoodIn wsX2_join wsX2_isSlot := goodIn_r _ [5, 6, 7, 4, 8] (by decide +kernel) (by decide +kernel)
set_option maxRecDepth 20000 in
theorem gX2_join_X2_isSlot : GoodIn wsX2_join (va_wsS RX2 88 yX2_isSlot wsX2_isSlot) := goodIn_app (goodIn_of _ (by decide +kernel)) ggX2_join_X2_isSlot
set_option maxRecDepth 20000 in
theorem ggX2_join_X2_in : GoodIn wsX2_join wsX2_in := goodIn_r _ [8] (by decide +kernel) (by decide +kernel)
set_option maxRecDepth 20000 in
theorem gX2_join_X2_in : GoodIn wsX2_join (va_wsS RX2 54 yX2_in wsX2_in) := goodIn_app (goodIn_of _ (by decide +kernel)) ggX2_join_X2_in
set_option maxRecDepth 20000 in
theorem ggX2_join_X2_isIn : GoodIn wsX2_join wsX2_isIn := goodIn_r _ [12, 13, 22, 23, 24, 25, 26, 27, 28, 29, 30, 31, 32, 33, 34, 35, 36] (by decide +kernel) (by decide +kernel)
set_option maxRecDepth 20000 in
theorem gX2_join_X2_isIn : GoodIn wsX2_join (wsV RX2 84 RX2 yX2_isIn wsX2_isIn) := goodIn_app (goodIn_of _ (by decide +kernel)) ggX2_join_X2_isIn
set_option maxRecDepth 20000 in
theorem ggX2_join_X2_keep : GoodIn wsX2_join wsX2_keep := goodIn_r _ [17, 13, 1, 18, 19, 20, 4, 21, 9, 10, 11, 12, 22, 23, 24, 25, 26, 27, 28, 29, 30, 31, 32, 33, 34, 35, 36] (by decide +kernel) (by decide +kernel)
set_option maxRecDepth 20000 in
theorem gX2_join_X2_keep : GoodIn wsX2_join (wsV RX2 94 RX2 yX2_keep wsX2_keep) := goodIn_app (goodIn_of _ (by decide +kernel)) ggX2_join_X2_keep
theorem dX2_join_0 : decode cX2_join 0 = .ok (.iload_n 1, 1) := by decide +kernel
theorem dX2_join_1 : decode cX2_join 1 = .ok (.invokestatic 88, 3) := by decide +kernel
theorem dX2_join_4 : decode cX2_join 4 = .ok (.ifCond .eq 17, 3) := by decide +kernel
theorem dX2_join_7 : decode cX2_join 7 = .ok (.iload_n 2, 1) := by decide +kernel
theorem dX2_join_8 : decode cX2_join 8 = .ok (.invokestatic 88, 3) := by decide +kernel
theorem dX2_join_11 : decode cX2_join 11 = .ok (.ifCond .eq 10, 3) := by decide +kernel
theorem dX2_join_14 : decode cX2_join 14 = .ok (.iload_n 3, 1) := by decide +kernel
theorem dX2_join_15 : decode cX2_join 15 = .ok (.invokestatic 88, 3) := by decide +kernel
theorem dX2_join_18 : decode cX2_join 18 = .ok (.ifCond .ne 5, 3) := by decide +kernel
theorem dX2_join_21 : decode cX2_join 21 = .ok (.iconst (-1), 1) := by decide +kernel
theorem dX2_join_22 : decode cX2_join 22 = .ok (.ireturn, 1) := by decide +kernel
theorem dX2_join_23 : decode cX2_join 23 = .ok (.iload 4, 2) := by decide +kernel
theorem dX2_join_25 : decode cX2_join 25 = .ok (.iconst 0, 1) := by decide +kernel
theorem dX2_join_26 : decode cX2_join 26 = .ok (.iconst 3, 1) := by decide +kernel
theorem dX2_join_27 : decode cX2_join 27 = .ok (.invokestatic 54, 3) := by decide +kernel
theorem dX2_join_30 : decode cX2_join 30 = .ok (.ifCond .ne 6, 3) := by decide +kernel
theorem dX2_join_33 : decode cX2_join 33 = .ok (.bipush (-2), 2) := by decide +kernel
theorem dX2_join_35 : decode cX2_join 35 = .ok (.ireturn, 1) := by decide +kernel
theorem dX2_join_36 : decode cX2_join 36 = .ok (.iconst 0, 1) := by decide +kernel
theorem dX2_join_37 : decode cX2_join 37 = .ok (.istore 5, 2) := by decide +kernel
theorem dX2_join_39 : decode cX2_join 39 = .ok (.iload 5, 2) := by decide +kernel
theorem dX2_join_41 : decode cX2_join 41 = .ok (.sipush 2401, 3) := by decide +kernel
theorem dX2_join_44 : decode cX2_join 44 = .ok (.if_icmp .ge 117, 3) := by decide +kernel
theorem dX2_join_47 : decode cX2_join 47 = .ok (.aload_n 0, 1) := by decide +kernel
theorem dX2_join_48 : decode cX2_join 48 = .ok (.iload_n 2, 1) := by decide +kernel
theorem dX2_join_49 : decode cX2_join 49 = .ok (.iload 5, 2) := by decide +kernel
theorem dX2_join_51 : decode cX2_join 51 = .ok (.invokevirtual 84, 3) := by decide +kernel
theorem dX2_join_54 : decode cX2_join 54 = .ok (.istore 6, 2) := by decide +kernel
theorem dX2_join_56 : decode cX2_join 56 = .ok (.aload_n 0, 1) := by decide +kernel
theorem dX2_join_57 : decode cX2_join 57 = .ok (.iload_n 3, 1) := by decide +kernel
theorem dX2_join_58 : decode cX2_join 58 = .ok (.iload 5, 2) := by decide +kernel
theorem dX2_join_60 : decode cX2_join 60 = .ok (.invokevirtual 84, 3) := by decide +kernel
theorem dX2_join_63 : decode cX2_join 63 = .ok (.istore 7, 2) := by decide +kernel
theorem dX2_join_65 : decode cX2_join 65 = .ok (.aload_n 0, 1) := by decide +kernel
theorem dX2_join_66 : decode cX2_join 66 = .ok (.getfield 29, 3) := by decide +kernel
theorem dX2_join_69 : decode cX2_join 69 = .ok (.iload 5, 2) := by decide +kernel
theorem dX2_join_71 : decode cX2_join 71 = .ok (.iload 4, 2) := by decide +kernel
theorem dX2_join_73 : decode cX2_join 73 = .ok (.ifCond .ne 21, 3) := by decide +kernel
theorem dX2_join_76 : decode cX2_join 76 = .ok (.iload 6, 2) := by decide +kernel
theorem dX2_join_78 : decode cX2_join 78 = .ok (.ifCond .ne 8, 3) := by decide +kernel
theorem dX2_join_81 : decode cX2_join 81 = .ok (.iload 7, 2) := by decide +kernel
theorem dX2_join_83 : decode cX2_join 83 = .ok (.ifCond .eq 7, 3) := by decide +kernel
theorem dX2_join_86 : decode cX2_join 86 = .ok (.iconst 1, 1) := by decide +kernel
theorem dX2_join_87 : decode cX2_join 87 = .ok (.goto 67, 3) := by decide +kernel
theorem dX2_join_90 : decode cX2_join 90 = .ok (.iconst 0, 1) := by decide +kernel
theorem dX2_join_91 : decode cX2_join 91 = .ok (.goto 63, 3) := by decide +kernel
theorem dX2_join_94 : decode cX2_join 94 = .ok (.iload 4, 2) := by decide +kernel
theorem dX2_join_96 : decode cX2_join 96 = .ok (.iconst 1, 1) := by decide +kernel
theorem dX2_join_97 : decode cX2_join 97 = .ok (.if_icmp .ne 21, 3) := by decide +kernel
theorem dX2_join_100 : decode cX2_join 100 = .ok (.iload 6, 2) := by decide +kernel
theorem dX2_join_102 : decode cX2_join 102 = .ok (.ifCond .eq 12, 3) := by decide +kernel
theorem dX2_join_105 : decode cX2_join 105 = .ok (.iload 7, 2) := by decide +kernel
theorem dX2_join_107 : decode cX2_join 107 = .ok (.ifCond .eq 7, 3) := by decide +kernel
theorem dX2_join_110 : decode cX2_join 110 = .ok (.iconst 1, 1) := by decide +kernel
theorem dX2_join_111 : decode cX2_join 111 = .ok (.goto 43, 3) := by decide +kernel
theorem dX2_join_114 : decode cX2_join 114 = .ok (.iconst 0, 1) := by decide +kernel
theorem dX2_join_115 : decode cX2_join 115 = .ok (.goto 39, 3) := by decide +kernel
theorem dX2_join_118 : decode cX2_join 118 = .ok (.iload 4, 2) := by decide +kernel
theorem dX2_join_120 : decode cX2_join 120 = .ok (.iconst 2, 1) := by decide +kernel
theorem dX2_join_121 : decode cX2_join 121 = .ok (.if_icmp .ne 21, 3) := by decide +kernel
theorem dX2_join_124 : decode cX2_join 124 = .ok (.iload 6, 2) := by decide +kernel
theorem dX2_join_126 : decode cX2_join 126 = .ok (.ifCond .eq 12, 3) := by decide +kernel
theorem dX2_join_129 : decode cX2_join 129 = .ok (.iload 7, 2) := by decide +kernel
theorem dX2_join_131 : decode cX2_join 131 = .ok (.ifCond .ne 7, 3) := by decide +kernel
theorem dX2_join_134 : decode cX2_join 134 = .ok (.iconst 1, 1) := by decide +kernel
theorem dX2_join_135 : decode cX2_join 135 = .ok (.goto 19, 3) := by decide +kernel
theorem dX2_join_138 : decode cX2_join 138 = .ok (.iconst 0, 1) := by decide +kernel
theorem dX2_join_139 : decode cX2_join 139 = .ok (.goto 15, 3) := by decide +kernel
theorem dX2_join_142 : decode cX2_join 142 = .ok (.iload 6, 2) := by decide +kernel
theorem dX2_join_144 : decode cX2_join 144 = .ok (.iload 7, 2) := by decide +kernel
theorem dX2_join_146 : decode cX2_join 146 = .ok (.if_icmp .eq 7, 3) := by decide +kernel
theorem dX2_join_149 : decode cX2_join 149 = .ok (.iconst 1, 1) := by decide +kernel
theorem dX2_join_150 : decode cX2_join 150 = .ok (.goto 4, 3) := by decide +kernel
theorem dX2_join_153 : decode cX2_join 153 = .ok (.iconst 0, 1) := by decide +kernel
theorem dX2_join_154 : decode cX2_join 154 = .ok (.bastore, 1) := by decide +kernel
theorem dX2_join_155 : decode cX2_join 155 = .ok (.iinc 5 1, 3) := by decide +kernel
theorem dX2_join_158 : decode cX2_join 158 = .ok (.goto (-119), 3) := by decide +kernel
theorem dX2_join_161 : decode cX2_join 161 = .ok (.aload_n 0, 1) := by decide +kernel
theorem dX2_join_162 : decode cX2_join 162 = .ok (.iload_n 1, 1) := by decide +kernel
theorem dX2_join_163 : decode cX2_join 163 = .ok (.invokevirtual 94, 3) := by decide +kernel
theorem dX2_join_166 : decode cX2_join 166 = .ok (.ireturn, 1) := by decide +kernel
set_option maxRecDepth 20000 in
theorem ggX2_nextIn_X2_nextOf : GoodIn wsX2_nextIn wsX2_nextOf := goodIn_r _ [5, 6, 7, 8, 9, 4, 10, 11, 12, 13, 14, 15, 16, 17, 18, 19, 20, 21, 27, 28, 29, 30, 31, 32, 33, 34, 35, 36, 37, 38, 39, 40, 41] (by decide +kernel) (by decide +kernel)
set_option maxRecDepth 20000 in
theorem gX2_nextIn_X2_nextOf : GoodIn wsX2_nextIn (wsV RX2 66 RX2 yX2_nextOf wsX2_nextOf) := goodIn_app (goodIn_of _ (by decide +kernel)) ggX2_nextIn_X2_nextOf
set_option maxRecDepth 20000 in
theorem ggX2_nextIn_X2_isIn : GoodIn wsX2_nextIn wsX2_isIn := goodIn_r _ [25, 26, 27, 28, 29, 30, 31, 32, 33, 34, 35, 36, 37, 38, 39, 40, 41] (by decide +kernel) (by decide +kernel)
set_option maxRecDepth 20000 in
theorem gX2_nextIn_X2_isIn : GoodIn wsX2_nextIn (wsV RX2 84 RX2 yX2_isIn wsX2_isIn) := goodIn_app (goodIn_of _ (by decide +kernel)) ggX2_nextIn_X2_isIn
theorem dX2_nextIn_0 : decode cX2_nextIn 0 = .ok (.iconst 0, 1) := by decide +kernel
theorem dX2_nextIn_1 : decode cX2_nextIn 1 = .ok (.istore_n 3, 1) := by decide +kernel
theorem dX2_nextIn_2 : decode cX2_nextIn 2 = .ok (.iconst 1, 1) := by decide +kernel
theorem dX2_nextIn_3 : decode cX2_nextIn 3 = .ok (.istore 4, 2) := by decide +kernel
theorem dX2_nextIn_5 : decode cX2_nextIn 5 = .ok (.iload 4, 2) := by decide +kernel
theorem dX2_nextIn_7 : decode cX2_nextIn 7 = .ok (.bipush 6, 2) := by decide +kernel
theorem dX2_nextIn_9 : decode cX2_nextIn 9 = .ok (.if_icmp .gt 41, 3) := by decide +kernel
theorem dX2_nextIn_12 : decode cX2_nextIn 12 = .ok (.aload_n 0, 1) := by decide +kernel
theorem dX2_nextIn_13 : decode cX2_nextIn 13 = .ok (.iload_n 2, 1) := by decide +kernel
theorem dX2_nextIn_14 : decode cX2_nextIn 14 = .ok (.iload 4, 2) := by decide +kernel
theorem dX2_nextIn_16 : decode cX2_nextIn 16 = .ok (.invokevirtual 66, 3) := by decide +kernel
theorem dX2_nextIn_19 : decode cX2_nextIn 19 = .ok (.istore 5, 2) := by decide +kernel
theorem dX2_nextIn_21 : decode cX2_nextIn 21 = .ok (.iload_n 3, 1) := by decide +kernel
theorem dX2_nextIn_22 : decode cX2_nextIn 22 = .ok (.iload 5, 2) := by decide +kernel
theorem dX2_nextIn_24 : decode cX2_nextIn 24 = .ok (.ifCond .lt 17, 3) := by decide +kernel
theorem dX2_nextIn_27 : decode cX2_nextIn 27 = .ok (.aload_n 0, 1) := by decide +kernel
theorem dX2_nextIn_28 : decode cX2_nextIn 28 = .ok (.iload_n 1, 1) := by decide +kernel
theorem dX2_nextIn_29 : decode cX2_nextIn 29 = .ok (.iload 5, 2) := by decide +kernel
theorem dX2_nextIn_31 : decode cX2_nextIn 31 = .ok (.invokevirtual 84, 3) := by decide +kernel
theorem dX2_nextIn_34 : decode cX2_nextIn 34 = .ok (.ifCond .eq 7, 3) := by decide +kernel
theorem dX2_nextIn_37 : decode cX2_nextIn 37 = .ok (.iconst 1, 1) := by decide +kernel
theorem dX2_nextIn_38 : decode cX2_nextIn 38 = .ok (.goto 4, 3) := by decide +kernel
theorem dX2_nextIn_41 : decode cX2_nextIn 41 = .ok (.iconst 0, 1) := by decide +kernel
theorem dX2_nextIn_42 : decode cX2_nextIn 42 = .ok (.iadd, 1) := by decide +kernel
theorem dX2_nextIn_43 : decode cX2_nextIn 43 = .ok (.istore_n 3, 1) := by decide +kernel
theorem dX2_nextIn_44 : decode cX2_nextIn 44 = .ok (.iinc 4 1, 3) := by decide +kernel
theorem dX2_nextIn_47 : decode cX2_nextIn 47 = .ok (.goto (-42), 3) := by decide +kernel
theorem dX2_nextIn_50 : decode cX2_nextIn 50 = .ok (.iload_n 3, 1) := by decide +kernel
theorem dX2_nextIn_51 : decode cX2_nextIn 51 = .ok (.ireturn, 1) := by decide +kernel
set_option maxRecDepth 20000 in
theorem ggX2_grow_X2_isSlot : GoodIn wsX2_grow wsX2_isSlot := goodIn_r _ [5, 6, 7, 4, 8] (by decide +kernel) (by decide +kernel)
set_option maxRecDepth 20000 in
theorem gX2_grow_X2_isSlot : GoodIn wsX2_grow (va_wsS RX2 88 yX2_isSlot wsX2_isSlot) := goodIn_app (goodIn_of _ (by decide +kernel)) ggX2_grow_X2_isSlot
set_option maxRecDepth 20000 in
theorem ggX2_grow_X2_isIn : GoodIn wsX2_grow wsX2_isIn := goodIn_r _ [12, 13, 43, 44, 45, 46, 47, 48, 49, 50, 51, 52, 53, 54, 55, 56, 57] (by decide +kernel) (by decide +kernel)
set_option maxRecDepth 20000 in
theorem gX2_grow_X2_isIn : GoodIn wsX2_grow (wsV RX2 84 RX2 yX2_isIn wsX2_isIn) := goodIn_app (goodIn_of _ (by decide +kernel)) ggX2_grow_X2_isIn
set_option maxRecDepth 20000 in
theorem ggX2_grow_X2_nextIn : GoodIn wsX2_grow wsX2_nextIn := goodIn_r _ [17, 18, 19, 20, 4, 21, 22, 23, 24, 25, 26, 27, 28, 29, 30, 31, 32, 33, 34, 6, 7, 8, 9, 10, 11, 12, 13, 43, 44, 45, 46, 47, 48, 49, 50, 51, 52, 53, 54, 55, 56, 57] (by decide +kernel) (by decide +kernel)
set_option maxRecDepth 20000 in
theorem gX2_grow_X2_nextIn : GoodIn wsX2_grow (wsV RX2 97 RX2 yX2_nextIn wsX2_nextIn) := goodIn_app (goodIn_of _ (by decide +kernel)) ggX2_grow_X2_nextIn
set_option maxRecDepth 20000 in
theorem ggX2_grow_X2_keep : GoodIn wsX2_grow wsX2_keep := goodIn_r _ [38, 13, 1, 39, 40, 41, 4, 42, 9, 10, 11, 12, 43, 44, 45, 46, 47, 48, 49, 50, 51, 52, 53, 54, 55, 56, 57] (by decide +kernel) (by decide +kernel)
set_option maxRecDepth 20000 in
theorem gX2_grow_X2_keep : GoodIn wsX2_grow (wsV RX2 94 RX2 yX2_keep wsX2_keep) := goodIn_app (goodIn_of _ (by decide +kernel)) ggX2_grow_X2_keep
theorem dX2_grow_0 : decode cX2_grow 0 = .ok (.iload_n 1, 1) := by decide +kernel
theorem dX2_grow_1 : decode cX2_grow 1 = .ok (.invokestatic 88, 3) := by decide +kernel
theorem dX2_grow_4 : decode cX2_grow 4 = .ok (.ifCond .eq 10, 3) := by decide +kernel
theorem dX2_grow_7 : decode cX2_grow 7 = .ok (.iload_n 2, 1) := by decide +kernel
theorem dX2_grow_8 : decode cX2_grow 8 = .ok (.invokestatic 88, 3) := by decide +kernel
theorem dX2_grow_11 : decode cX2_grow 11 = .ok (.ifCond .ne 5, 3) := by decide +kernel
theorem dX2_grow_14 : decode cX2_grow 14 = .ok (.iconst (-1), 1) := by decide +kernel
theorem dX2_grow_15 : decode cX2_grow 15 = .ok (.ireturn, 1) := by decide +kernel
theorem dX2_grow_16 : decode cX2_grow 16 = .ok (.iload_n 3, 1) := by decide +kernel
theorem dX2_grow_17 : decode cX2_grow 17 = .ok (.iconst 1, 1) := by decide +kernel
theorem dX2_grow_18 : decode cX2_grow 18 = .ok (.if_icmp .eq 11, 3) := by decide +kernel
theorem dX2_grow_21 : decode cX2_grow 21 = .ok (.iload_n 3, 1) := by decide +kernel
theorem dX2_grow_22 : decode cX2_grow 22 = .ok (.iconst (-1), 1) := by decide +kernel
theorem dX2_grow_23 : decode cX2_grow 23 = .ok (.if_icmp .eq 6, 3) := by decide +kernel
theorem dX2_grow_26 : decode cX2_grow 26 = .ok (.bipush (-2), 2) := by decide +kernel
theorem dX2_grow_28 : decode cX2_grow 28 = .ok (.ireturn, 1) := by decide +kernel
theorem dX2_grow_29 : decode cX2_grow 29 = .ok (.iconst 0, 1) := by decide +kernel
theorem dX2_grow_30 : decode cX2_grow 30 = .ok (.istore 4, 2) := by decide +kernel
theorem dX2_grow_32 : decode cX2_grow 32 = .ok (.iload 4, 2) := by decide +kernel
theorem dX2_grow_34 : decode cX2_grow 34 = .ok (.sipush 2401, 3) := by decide +kernel
theorem dX2_grow_37 : decode cX2_grow 37 = .ok (.if_icmp .ge 76, 3) := by decide +kernel
theorem dX2_grow_40 : decode cX2_grow 40 = .ok (.aload_n 0, 1) := by decide +kernel
theorem dX2_grow_41 : decode cX2_grow 41 = .ok (.getfield 29, 3) := by decide +kernel
theorem dX2_grow_44 : decode cX2_grow 44 = .ok (.iload 4, 2) := by decide +kernel
theorem dX2_grow_46 : decode cX2_grow 46 = .ok (.iload_n 3, 1) := by decide +kernel
theorem dX2_grow_47 : decode cX2_grow 47 = .ok (.iconst 1, 1) := by decide +kernel
theorem dX2_grow_48 : decode cX2_grow 48 = .ok (.if_icmp .ne 31, 3) := by decide +kernel
theorem dX2_grow_51 : decode cX2_grow 51 = .ok (.aload_n 0, 1) := by decide +kernel
theorem dX2_grow_52 : decode cX2_grow 52 = .ok (.iload_n 2, 1) := by decide +kernel
theorem dX2_grow_53 : decode cX2_grow 53 = .ok (.iload 4, 2) := by decide +kernel
theorem dX2_grow_55 : decode cX2_grow 55 = .ok (.invokevirtual 84, 3) := by decide +kernel
theorem dX2_grow_58 : decode cX2_grow 58 = .ok (.ifCond .ne 13, 3) := by decide +kernel
theorem dX2_grow_61 : decode cX2_grow 61 = .ok (.aload_n 0, 1) := by decide +kernel
theorem dX2_grow_62 : decode cX2_grow 62 = .ok (.iload_n 2, 1) := by decide +kernel
theorem dX2_grow_63 : decode cX2_grow 63 = .ok (.iload 4, 2) := by decide +kernel
theorem dX2_grow_65 : decode cX2_grow 65 = .ok (.invokevirtual 97, 3) := by decide +kernel
theorem dX2_grow_68 : decode cX2_grow 68 = .ok (.ifCond .le 7, 3) := by decide +kernel
theorem dX2_grow_71 : decode cX2_grow 71 = .ok (.iconst 1, 1) := by decide +kernel
theorem dX2_grow_72 : decode cX2_grow 72 = .ok (.goto 34, 3) := by decide +kernel
theorem dX2_grow_75 : decode cX2_grow 75 = .ok (.iconst 0, 1) := by decide +kernel
theorem dX2_grow_76 : decode cX2_grow 76 = .ok (.goto 30, 3) := by decide +kernel
theorem dX2_grow_79 : decode cX2_grow 79 = .ok (.aload_n 0, 1) := by decide +kernel
theorem dX2_grow_80 : decode cX2_grow 80 = .ok (.iload_n 2, 1) := by decide +kernel
theorem dX2_grow_81 : decode cX2_grow 81 = .ok (.iload 4, 2) := by decide +kernel
theorem dX2_grow_83 : decode cX2_grow 83 = .ok (.invokevirtual 84, 3) := by decide +kernel
theorem dX2_grow_86 : decode cX2_grow 86 = .ok (.ifCond .eq 19, 3) := by decide +kernel
theorem dX2_grow_89 : decode cX2_grow 89 = .ok (.aload_n 0, 1) := by decide +kernel
theorem dX2_grow_90 : decode cX2_grow 90 = .ok (.iload_n 2, 1) := by decide +kernel
theorem dX2_grow_91 : decode cX2_grow 91 = .ok (.iload 4, 2) := by decide +kernel
theorem dX2_grow_93 : decode cX2_grow 93 = .ok (.invokevirtual 97, 3) := by decide +kernel
theorem dX2_grow_96 : decode cX2_grow 96 = .ok (.bipush 6, 2) := by decide +kernel
theorem dX2_grow_98 : decode cX2_grow 98 = .ok (.if_icmp .ne 7, 3) := by decide +kernel
theorem dX2_grow_101 : decode cX2_grow 101 = .ok (.iconst 1, 1) := by decide +kernel
theorem dX2_grow_102 : decode cX2_grow 102 = .ok (.goto 4, 3) := by decide +kernel
theorem dX2_grow_105 : decode cX2_grow 105 = .ok (.iconst 0, 1) := by decide +kernel
theorem dX2_grow_106 : decode cX2_grow 106 = .ok (.bastore, 1) := by decide +kernel
theorem dX2_grow_107 : decode cX2_grow 107 = .ok (.iinc 4 1, 3) := by decide +kernel
theorem dX2_grow_110 : decode cX2_grow 110 = .ok (.goto (-78), 3) := by decide +kernel
theorem dX2_grow_113 : decode cX2_grow 113 = .ok (.aload_n 0, 1) := by decide +kernel
theorem dX2_grow_114 : decode cX2_grow 114 = .ok (.iload_n 1, 1) := by decide +kernel
theorem dX2_grow_115 : decode cX2_grow 115 = .ok (.invokevirtual 94, 3) := by decide +kernel
theorem dX2_grow_118 : decode cX2_grow 118 = .ok (.ireturn, 1) := by decide +kernel
set_option maxRecDepth 20000 in
theorem ggX2_has_X2_isSlot : GoodIn wsX2_has wsX2_isSlot := goodIn_r _ [4, 5, 6, 3, 7] (by decide +kernel) (by decide +kernel)
set_option maxRecDepth 20000 in
theorem gX2_has_X2_isSlot : GoodIn wsX2_has (va_wsS RX2 88 yX2_isSlot wsX2_isSlot) := goodIn_app (goodIn_of _ (by decide +kernel)) ggX2_has_X2_isSlot
set_option maxRecDepth 20000 in
theorem ggX2_has_X2_isKey : GoodIn wsX2_has wsX2_isKey := goodIn_r _ [10, 5, 6, 3, 7] (by decide +kernel) (by decide +kernel)
set_option maxRecDepth 20000 in
theorem gX2_has_X2_isKey : GoodIn wsX2_has (va_wsS RX2 58 yX2_isKey wsX2_isKey) := goodIn_app (goodIn_of _ (by decide +kernel)) ggX2_has_X2_isKey
set_option maxRecDepth 20000 in
theorem ggX2_has_X2_isIn : GoodIn wsX2_has wsX2_isIn := goodIn_r _ [14, 15, 16, 17, 18, 19, 20, 21, 22, 23, 24, 25, 26, 27, 28, 29, 30] (by decide +kernel) (by decide +kernel)
set_option maxRecDepth 20000 in
theorem gX2_has_X2_isIn : GoodIn wsX2_has (wsV RX2 84 RX2 yX2_isIn wsX2_isIn) := goodIn_app (goodIn_of _ (by decide +kernel)) ggX2_has_X2_isIn
theorem dX2_has_0 : decode cX2_has 0 = .ok (.iload_n 1, 1) := by decide +kernel
theorem dX2_has_1 : decode cX2_has 1 = .ok (.invokestatic 88, 3) := by decide +kernel
theorem dX2_has_4 : decode cX2_has 4 = .ok (.ifCond .ne 5, 3) := by decide +kernel
theorem dX2_has_7 : decode cX2_has 7 = .ok (.iconst (-1), 1) := by decide +kernel
theorem dX2_has_8 : decode cX2_has 8 = .ok (.ireturn, 1) := by decide +kernel
theorem dX2_has_9 : decode cX2_has 9 = .ok (.iload_n 2, 1) := by decide +kernel
theorem dX2_has_10 : decode cX2_has 10 = .ok (.invokestatic 58, 3) := by decide +kernel
theorem dX2_has_13 : decode cX2_has 13 = .ok (.ifCond .ne 8, 3) := by decide +kernel
theorem dX2_has_16 : decode cX2_has 16 = .ok (.bipush (-2), 2) := by decide +kernel
theorem dX2_has_18 : decode cX2_has 18 = .ok (.goto 17, 3) := by decide +kernel
theorem dX2_has_21 : decode cX2_has 21 = .ok (.aload_n 0, 1) := by decide +kernel
theorem dX2_has_22 : decode cX2_has 22 = .ok (.iload_n 1, 1) := by decide +kernel
theorem dX2_has_23 : decode cX2_has 23 = .ok (.iload_n 2, 1) := by decide +kernel
theorem dX2_has_24 : decode cX2_has 24 = .ok (.invokevirtual 84, 3) := by decide +kernel
theorem dX2_has_27 : decode cX2_has 27 = .ok (.ifCond .eq 7, 3) := by decide +kernel
theorem dX2_has_30 : decode cX2_has 30 = .ok (.iconst 1, 1) := by decide +kernel
theorem dX2_has_31 : decode cX2_has 31 = .ok (.goto 4, 3) := by decide +kernel
theorem dX2_has_34 : decode cX2_has 34 = .ok (.iconst 0, 1) := by decide +kernel
theorem dX2_has_35 : decode cX2_has 35 = .ok (.ireturn, 1) := by decide +kernel
set_option maxRecDepth 20000 in
theorem ggX2_isWhole_X2_hexes : GoodIn wsX2_isWhole wsX2_hexes := goodIn_r _ [4] (by decide +kernel) (by decide +kernel)
set_option maxRecDepth 20000 in
theorem gX2_isWhole_X2_hexes : GoodIn wsX2_isWhole (va_wsS RX2 75 yX2_hexes wsX2_hexes) := goodIn_app (goodIn_of _ (by decide +kernel)) ggX2_isWhole_X2_hexes
set_option maxRecDepth 20000 in
theorem ggX2_isWhole_X2_isIn : GoodIn wsX2_isWhole wsX2_isIn := goodIn_r _ [8, 9, 10, 11, 12, 13, 14, 15, 16, 17, 18, 19, 20, 21, 22, 23, 24] (by decide +kernel) (by decide +kernel)
set_option maxRecDepth 20000 in
theorem gX2_isWhole_X2_isIn : GoodIn wsX2_isWhole (wsV RX2 84 RX2 yX2_isIn wsX2_isIn) := goodIn_app (goodIn_of _ (by decide +kernel)) ggX2_isWhole_X2_isIn
theorem dX2_isWhole_0 : decode cX2_isWhole 0 = .ok (.iconst 1, 1) := by decide +kernel
theorem dX2_isWhole_1 : decode cX2_isWhole 1 = .ok (.istore 4, 2) := by decide +kernel
theorem dX2_isWhole_3 : decode cX2_isWhole 3 = .ok (.iload_n 2, 1) := by decide +kernel
theorem dX2_isWhole_4 : decode cX2_isWhole 4 = .ok (.istore 5, 2) := by decide +kernel
theorem dX2_isWhole_6 : decode cX2_isWhole 6 = .ok (.iload 5, 2) := by decide +kernel
theorem dX2_isWhole_8 : decode cX2_isWhole 8 = .ok (.iload_n 2, 1) := by decide +kernel
theorem dX2_isWhole_9 : decode cX2_isWhole 9 = .ok (.iload_n 3, 1) := by decide +kernel
theorem dX2_isWhole_10 : decode cX2_isWhole 10 = .ok (.invokestatic 75, 3) := by decide +kernel
theorem dX2_isWhole_13 : decode cX2_isWhole 13 = .ok (.iadd, 1) := by decide +kernel
theorem dX2_isWhole_14 : decode cX2_isWhole 14 = .ok (.if_icmp .ge 23, 3) := by decide +kernel
theorem dX2_isWhole_17 : decode cX2_isWhole 17 = .ok (.iload 4, 2) := by decide +kernel
theorem dX2_isWhole_19 : decode cX2_isWhole 19 = .ok (.ifCond .eq 18, 3) := by decide +kernel
theorem dX2_isWhole_22 : decode cX2_isWhole 22 = .ok (.aload_n 0, 1) := by decide +kernel
theorem dX2_isWhole_23 : decode cX2_isWhole 23 = .ok (.iload_n 1, 1) := by decide +kernel
theorem dX2_isWhole_24 : decode cX2_isWhole 24 = .ok (.iload 5, 2) := by decide +kernel
theorem dX2_isWhole_26 : decode cX2_isWhole 26 = .ok (.invokevirtual 84, 3) := by decide +kernel
theorem dX2_isWhole_29 : decode cX2_isWhole 29 = .ok (.istore 4, 2) := by decide +kernel
theorem dX2_isWhole_31 : decode cX2_isWhole 31 = .ok (.iinc 5 1, 3) := by decide +kernel
theorem dX2_isWhole_34 : decode cX2_isWhole 34 = .ok (.goto (-28), 3) := by decide +kernel
theorem dX2_isWhole_37 : decode cX2_isWhole 37 = .ok (.iload 4, 2) := by decide +kernel
theorem dX2_isWhole_39 : decode cX2_isWhole 39 = .ok (.ireturn, 1) := by decide +kernel
set_option maxRecDepth 20000 in
theorem ggX2_pack_X2_patchOf : GoodIn wsX2_pack wsX2_patchOf := goodIn_r _ [7, 8, 9, 6, 10] (by decide +kernel) (by decide +kernel)
set_option maxRecDepth 20000 in
theorem gX2_pack_X2_patchOf : GoodIn wsX2_pack (va_wsS RX2 81 yX2_patchOf wsX2_patchOf) := goodIn_app (goodIn_of _ (by decide +kernel)) ggX2_pack_X2_patchOf
set_option maxRecDepth 20000 in
theorem ggX2_pack_X2_isWhole : GoodIn wsX2_pack wsX2_isWhole := goodIn_r _ [14, 8, 9, 6, 10, 15, 16, 17, 18, 19, 20, 21, 22, 23, 24, 25, 26, 27, 28, 29, 30, 31, 32, 33, 34] (by decide +kernel) (by decide +kernel)
set_option maxRecDepth 20000 in
theorem gX2_pack_X2_isWhole : GoodIn wsX2_pack (wsV RX2 104 RX2 yX2_isWhole wsX2_isWhole) := goodIn_app (goodIn_of _ (by decide +kernel)) ggX2_pack_X2_isWhole
set_option maxRecDepth 20000 in
theorem ggX2_pack_X2_hexes : GoodIn wsX2_pack wsX2_hexes := goodIn_r _ [10] (by decide +kernel) (by decide +kernel)
set_option maxRecDepth 20000 in
theorem gX2_pack_X2_hexes : GoodIn wsX2_pack (va_wsS RX2 75 yX2_hexes wsX2_hexes) := goodIn_app (goodIn_of _ (by decide +kernel)) ggX2_pack_X2_hexes
theorem dX2_pack_0 : decode cX2_pack 0 = .ok (.aload_n 0, 1) := by decide +kernel
theorem dX2_pack_1 : decode cX2_pack 1 = .ok (.iconst 0, 1) := by decide +kernel
theorem dX2_pack_2 : decode cX2_pack 2 = .ok (.putfield 100, 3) := by decide +kernel
theorem dX2_pack_5 : decode cX2_pack 5 = .ok (.iconst 0, 1) := by decide +kernel
theorem dX2_pack_6 : decode cX2_pack 6 = .ok (.istore_n 2, 1) := by decide +kernel
theorem dX2_pack_7 : decode cX2_pack 7 = .ok (.iload_n 2, 1) := by decide +kernel
theorem dX2_pack_8 : decode cX2_pack 8 = .ok (.sipush 2401, 3) := by decide +kernel
theorem dX2_pack_11 : decode cX2_pack 11 = .ok (.if_icmp .ge 86, 3) := by decide +kernel
theorem dX2_pack_14 : decode cX2_pack 14 = .ok (.iconst 4, 1) := by decide +kernel
theorem dX2_pack_15 : decode cX2_pack 15 = .ok (.istore_n 3, 1) := by decide +kernel
theorem dX2_pack_16 : decode cX2_pack 16 = .ok (.iload_n 3, 1) := by decide +kernel
theorem dX2_pack_17 : decode cX2_pack 17 = .ok (.ifCond .lt 28, 3) := by decide +kernel
theorem dX2_pack_20 : decode cX2_pack 20 = .ok (.iload_n 2, 1) := by decide +kernel
theorem dX2_pack_21 : decode cX2_pack 21 = .ok (.iload_n 3, 1) := by decide +kernel
theorem dX2_pack_22 : decode cX2_pack 22 = .ok (.invokestatic 81, 3) := by decide +kernel
theorem dX2_pack_25 : decode cX2_pack 25 = .ok (.iload_n 2, 1) := by decide +kernel
theorem dX2_pack_26 : decode cX2_pack 26 = .ok (.if_icmp .ne 13, 3) := by decide +kernel
theorem dX2_pack_29 : decode cX2_pack 29 = .ok (.aload_n 0, 1) := by decide +kernel
theorem dX2_pack_30 : decode cX2_pack 30 = .ok (.iload_n 1, 1) := by decide +kernel
theorem dX2_pack_31 : decode cX2_pack 31 = .ok (.iload_n 2, 1) := by decide +kernel
theorem dX2_pack_32 : decode cX2_pack 32 = .ok (.iload_n 3, 1) := by decide +kernel
theorem dX2_pack_33 : decode cX2_pack 33 = .ok (.invokevirtual 104, 3) := by decide +kernel
theorem dX2_pack_36 : decode cX2_pack 36 = .ok (.ifCond .ne 9, 3) := by decide +kernel
theorem dX2_pack_39 : decode cX2_pack 39 = .ok (.iinc 3 (-1), 3) := by decide +kernel
theorem dX2_pack_42 : decode cX2_pack 42 = .ok (.goto (-26), 3) := by decide +kernel
theorem dX2_pack_45 : decode cX2_pack 45 = .ok (.iload_n 3, 1) := by decide +kernel
theorem dX2_pack_46 : decode cX2_pack 46 = .ok (.ifCond .lt 33, 3) := by decide +kernel
theorem dX2_pack_49 : decode cX2_pack 49 = .ok (.aload_n 0, 1) := by decide +kernel
theorem dX2_pack_50 : decode cX2_pack 50 = .ok (.getfield 32, 3) := by decide +kernel
theorem dX2_pack_53 : decode cX2_pack 53 = .ok (.aload_n 0, 1) := by decide +kernel
theorem dX2_pack_54 : decode cX2_pack 54 = .ok (.getfield 100, 3) := by decide +kernel
theorem dX2_pack_57 : decode cX2_pack 57 = .ok (.iload_n 2, 1) := by decide +kernel
theorem dX2_pack_58 : decode cX2_pack 58 = .ok (.iastore, 1) := by decide +kernel
theorem dX2_pack_59 : decode cX2_pack 59 = .ok (.aload_n 0, 1) := by decide +kernel
theorem dX2_pack_60 : decode cX2_pack 60 = .ok (.getfield 35, 3) := by decide +kernel
theorem dX2_pack_63 : decode cX2_pack 63 = .ok (.aload_n 0, 1) := by decide +kernel
theorem dX2_pack_64 : decode cX2_pack 64 = .ok (.getfield 100, 3) := by decide +kernel
theorem dX2_pack_67 : decode cX2_pack 67 = .ok (.iload_n 3, 1) := by decide +kernel
theorem dX2_pack_68 : decode cX2_pack 68 = .ok (.iastore, 1) := by decide +kernel
theorem dX2_pack_69 : decode cX2_pack 69 = .ok (.aload_n 0, 1) := by decide +kernel
theorem dX2_pack_70 : decode cX2_pack 70 = .ok (.dup, 1) := by decide +kernel
theorem dX2_pack_71 : decode cX2_pack 71 = .ok (.getfield 100, 3) := by decide +kernel
theorem dX2_pack_74 : decode cX2_pack 74 = .ok (.iconst 1, 1) := by decide +kernel
theorem dX2_pack_75 : decode cX2_pack 75 = .ok (.iadd, 1) := by decide +kernel
theorem dX2_pack_76 : decode cX2_pack 76 = .ok (.putfield 100, 3) := by decide +kernel
theorem dX2_pack_79 : decode cX2_pack 79 = .ok (.iload_n 2, 1) := by decide +kernel
theorem dX2_pack_80 : decode cX2_pack 80 = .ok (.iload_n 3, 1) := by decide +kernel
theorem dX2_pack_81 : decode cX2_pack 81 = .ok (.ifCond .le 10, 3) := by decide +kernel
theorem dX2_pack_84 : decode cX2_pack 84 = .ok (.iload_n 3, 1) := by decide +kernel
theorem dX2_pack_85 : decode cX2_pack 85 = .ok (.invokestatic 75, 3) := by decide +kernel
theorem dX2_pack_88 : decode cX2_pack 88 = .ok (.goto 4, 3) := by decide +kernel
theorem dX2_pack_91 : decode cX2_pack 91 = .ok (.iconst 1, 1) := by decide +kernel
theorem dX2_pack_92 : decode cX2_pack 92 = .ok (.iadd, 1) := by decide +kernel
theorem dX2_pack_93 : decode cX2_pack 93 = .ok (.istore_n 2, 1) := by decide +kernel
theorem dX2_pack_94 : decode cX2_pack 94 = .ok (.goto (-87), 3) := by decide +kernel
theorem dX2_pack_97 : decode cX2_pack 97 = .ok (.return_, 1) := by decide +kernel
set_option maxRecDepth 20000 in
theorem ggX2_border_X2_isIn : GoodIn wsX2_border wsX2_isIn := goodIn_r _ [5, 6, 31, 32, 33, 34, 35, 36, 37, 38, 39, 40, 41, 42, 43, 44, 45] (by decide +kernel) (by decide +kernel)
set_option maxRecDepth 20000 in
theorem gX2_border_X2_isIn : GoodIn wsX2_border (wsV RX2 84 RX2 yX2_isIn wsX2_isIn) := goodIn_app (goodIn_of _ (by decide +kernel)) ggX2_border_X2_isIn
set_option maxRecDepth 20000 in
theorem ggX2_border_X2_nextIn : GoodIn wsX2_border wsX2_nextIn := goodIn_r _ [10, 11, 12, 13, 4, 14, 15, 16, 17, 18, 19, 20, 21, 22, 23, 24, 25, 26, 27, 28, 29, 30, 1, 2, 3, 5, 6, 31, 32, 33, 34, 35, 36, 37, 38, 39, 40, 41, 42, 43, 44, 45] (by decide +kernel) (by decide +kernel)
set_option maxRecDepth 20000 in
theorem gX2_border_X2_nextIn : GoodIn wsX2_border (wsV RX2 97 RX2 yX2_nextIn wsX2_nextIn) := goodIn_app (goodIn_of _ (by decide +kernel)) ggX2_border_X2_nextIn
theorem dX2_border_0 : decode cX2_border 0 = .ok (.iconst 0, 1) := by decide +kernel
theorem dX2_border_1 : decode cX2_border 1 = .ok (.istore_n 2, 1) := by decide +kernel
theorem dX2_border_2 : decode cX2_border 2 = .ok (.iconst 0, 1) := by decide +kernel
theorem dX2_border_3 : decode cX2_border 3 = .ok (.istore_n 3, 1) := by decide +kernel
theorem dX2_border_4 : decode cX2_border 4 = .ok (.iload_n 3, 1) := by decide +kernel
theorem dX2_border_5 : decode cX2_border 5 = .ok (.sipush 2401, 3) := by decide +kernel
theorem dX2_border_8 : decode cX2_border 8 = .ok (.if_icmp .ge 34, 3) := by decide +kernel
theorem dX2_border_11 : decode cX2_border 11 = .ok (.iload_n 2, 1) := by decide +kernel
theorem dX2_border_12 : decode cX2_border 12 = .ok (.aload_n 0, 1) := by decide +kernel
theorem dX2_border_13 : decode cX2_border 13 = .ok (.iload_n 1, 1) := by decide +kernel
theorem dX2_border_14 : decode cX2_border 14 = .ok (.iload_n 3, 1) := by decide +kernel
theorem dX2_border_15 : decode cX2_border 15 = .ok (.invokevirtual 84, 3) := by decide +kernel
theorem dX2_border_18 : decode cX2_border 18 = .ok (.ifCond .eq 15, 3) := by decide +kernel
theorem dX2_border_21 : decode cX2_border 21 = .ok (.bipush 6, 2) := by decide +kernel
theorem dX2_border_23 : decode cX2_border 23 = .ok (.aload_n 0, 1) := by decide +kernel
theorem dX2_border_24 : decode cX2_border 24 = .ok (.iload_n 1, 1) := by decide +kernel
theorem dX2_border_25 : decode cX2_border 25 = .ok (.iload_n 3, 1) := by decide +kernel
theorem dX2_border_26 : decode cX2_border 26 = .ok (.invokevirtual 97, 3) := by decide +kernel
theorem dX2_border_29 : decode cX2_border 29 = .ok (.isub, 1) := by decide +kernel
theorem dX2_border_30 : decode cX2_border 30 = .ok (.goto 4, 3) := by decide +kernel
theorem dX2_border_33 : decode cX2_border 33 = .ok (.iconst 0, 1) := by decide +kernel
theorem dX2_border_34 : decode cX2_border 34 = .ok (.iadd, 1) := by decide +kernel
theorem dX2_border_35 : decode cX2_border 35 = .ok (.istore_n 2, 1) := by decide +kernel
theorem dX2_border_36 : decode cX2_border 36 = .ok (.iinc 3 1, 3) := by decide +kernel
theorem dX2_border_39 : decode cX2_border 39 = .ok (.goto (-35), 3) := by decide +kernel
theorem dX2_border_42 : decode cX2_border 42 = .ok (.iload_n 2, 1) := by decide +kernel
theorem dX2_border_43 : decode cX2_border 43 = .ok (.ireturn, 1) := by decide +kernel
set_option maxRecDepth 20000 in
theorem ggX2_spread_X2_nextOf : GoodIn wsX2_spread wsX2_nextOf := goodIn_r _ [9, 10, 11, 12, 13, 8, 14, 15, 16, 17, 18, 19, 20, 21, 22, 23, 24, 25, 31, 32, 33, 34, 35, 36, 37, 38, 39, 40, 41, 42, 43, 44, 45] (by decide +kernel) (by decide +kernel)
set_option maxRecDepth 20000 in
theorem gX2_spread_X2_nextOf : GoodIn wsX2_spread (wsV RX2 66 RX2 yX2_nextOf wsX2_nextOf) := goodIn_app (goodIn_of _ (by decide +kernel)) ggX2_spread_X2_nextOf
set_option maxRecDepth 20000 in
theorem ggX2_spread_X2_isIn : GoodIn wsX2_spread wsX2_isIn := goodIn_r _ [29, 30, 31, 32, 33, 34, 35, 36, 37, 38, 39, 40, 41, 42, 43, 44, 45] (by decide +kernel) (by decide +kernel)
set_option maxRecDepth 20000 in
theorem gX2_spread_X2_isIn : GoodIn wsX2_spread (wsV RX2 84 RX2 yX2_isIn wsX2_isIn) := goodIn_app (goodIn_of _ (by decide +kernel)) ggX2_spread_X2_isIn
theorem dX2_spread_0 : decode cX2_spread 0 = .ok (.aload_n 0, 1) := by decide +kernel
theorem dX2_spread_1 : decode cX2_spread 1 = .ok (.iconst 1, 1) := by decide +kernel
theorem dX2_spread_2 : decode cX2_spread 2 = .ok (.putfield 107, 3) := by decide +kernel
theorem dX2_spread_5 : decode cX2_spread 5 = .ok (.aload_n 0, 1) := by decide +kernel
theorem dX2_spread_6 : decode cX2_spread 6 = .ok (.getfield 44, 3) := by decide +kernel
theorem dX2_spread_9 : decode cX2_spread 9 = .ok (.iconst 0, 1) := by decide +kernel
theorem dX2_spread_10 : decode cX2_spread 10 = .ok (.iload_n 2, 1) := by decide +kernel
theorem dX2_spread_11 : decode cX2_spread 11 = .ok (.iastore, 1) := by decide +kernel
theorem dX2_spread_12 : decode cX2_spread 12 = .ok (.aload_n 0, 1) := by decide +kernel
theorem dX2_spread_13 : decode cX2_spread 13 = .ok (.getfield 38, 3) := by decide +kernel
theorem dX2_spread_16 : decode cX2_spread 16 = .ok (.iload_n 2, 1) := by decide +kernel
theorem dX2_spread_17 : decode cX2_spread 17 = .ok (.iload_n 3, 1) := by decide +kernel
theorem dX2_spread_18 : decode cX2_spread 18 = .ok (.iastore, 1) := by decide +kernel
theorem dX2_spread_19 : decode cX2_spread 19 = .ok (.aload_n 0, 1) := by decide +kernel
theorem dX2_spread_20 : decode cX2_spread 20 = .ok (.getfield 41, 3) := by decide +kernel
theorem dX2_spread_23 : decode cX2_spread 23 = .ok (.iload_n 2, 1) := by decide +kernel
theorem dX2_spread_24 : decode cX2_spread 24 = .ok (.iconst 0, 1) := by decide +kernel
theorem dX2_spread_25 : decode cX2_spread 25 = .ok (.iastore, 1) := by decide +kernel
theorem dX2_spread_26 : decode cX2_spread 26 = .ok (.iconst 0, 1) := by decide +kernel
theorem dX2_spread_27 : decode cX2_spread 27 = .ok (.istore 4, 2) := by decide +kernel
theorem dX2_spread_29 : decode cX2_spread 29 = .ok (.iload 4, 2) := by decide +kernel
theorem dX2_spread_31 : decode cX2_spread 31 = .ok (.aload_n 0, 1) := by decide +kernel
theorem dX2_spread_32 : decode cX2_spread 32 = .ok (.getfield 107, 3) := by decide +kernel
theorem dX2_spread_35 : decode cX2_spread 35 = .ok (.if_icmp .ge 115, 3) := by decide +kernel
theorem dX2_spread_38 : decode cX2_spread 38 = .ok (.iconst 1, 1) := by decide +kernel
theorem dX2_spread_39 : decode cX2_spread 39 = .ok (.istore 5, 2) := by decide +kernel
theorem dX2_spread_41 : decode cX2_spread 41 = .ok (.iload 5, 2) := by decide +kernel
theorem dX2_spread_43 : decode cX2_spread 43 = .ok (.bipush 6, 2) := by decide +kernel
theorem dX2_spread_45 : decode cX2_spread 45 = .ok (.if_icmp .gt 99, 3) := by decide +kernel
theorem dX2_spread_48 : decode cX2_spread 48 = .ok (.aload_n 0, 1) := by decide +kernel
theorem dX2_spread_49 : decode cX2_spread 49 = .ok (.aload_n 0, 1) := by decide +kernel
theorem dX2_spread_50 : decode cX2_spread 50 = .ok (.getfield 44, 3) := by decide +kernel
theorem dX2_spread_53 : decode cX2_spread 53 = .ok (.iload 4, 2) := by decide +kernel
theorem dX2_spread_55 : decode cX2_spread 55 = .ok (.iaload, 1) := by decide +kernel
theorem dX2_spread_56 : decode cX2_spread 56 = .ok (.iload 5, 2) := by decide +kernel
theorem dX2_spread_58 : decode cX2_spread 58 = .ok (.invokevirtual 66, 3) := by decide +kernel
theorem dX2_spread_61 : decode cX2_spread 61 = .ok (.istore 6, 2) := by decide +kernel
theorem dX2_spread_63 : decode cX2_spread 63 = .ok (.iload 6, 2) := by decide +kernel
theorem dX2_spread_65 : decode cX2_spread 65 = .ok (.ifCond .lt 73, 3) := by decide +kernel
theorem dX2_spread_68 : decode cX2_spread 68 = .ok (.aload_n 0, 1) := by decide +kernel
theorem dX2_spread_69 : decode cX2_spread 69 = .ok (.iload_n 1, 1) := by decide +kernel
theorem dX2_spread_70 : decode cX2_spread 70 = .ok (.iload 6, 2) := by decide +kernel
theorem dX2_spread_72 : decode cX2_spread 72 = .ok (.invokevirtual 84, 3) := by decide +kernel
theorem dX2_spread_75 : decode cX2_spread 75 = .ok (.ifCond .eq 63, 3) := by decide +kernel
theorem dX2_spread_78 : decode cX2_spread 78 = .ok (.aload_n 0, 1) := by decide +kernel
theorem dX2_spread_79 : decode cX2_spread 79 = .ok (.getfield 38, 3) := by decide +kernel
theorem dX2_spread_82 : decode cX2_spread 82 = .ok (.iload 6, 2) := by decide +kernel
theorem dX2_spread_84 : decode cX2_spread 84 = .ok (.iaload, 1) := by decide +kernel
theorem dX2_spread_85 : decode cX2_spread 85 = .ok (.ifCond .ge 53, 3) := by decide +kernel
theorem dX2_spread_88 : decode cX2_spread 88 = .ok (.aload_n 0, 1) := by decide +kernel
theorem dX2_spread_89 : decode cX2_spread 89 = .ok (.getfield 38, 3) := by decide +kernel
theorem dX2_spread_92 : decode cX2_spread 92 = .ok (.iload 6, 2) := by decide +kernel
theorem dX2_spread_94 : decode cX2_spread 94 = .ok (.iload_n 3, 1) := by decide +kernel
theorem dX2_spread_95 : decode cX2_spread 95 = .ok (.iastore, 1) := by decide +kernel
theorem dX2_spread_96 : decode cX2_spread 96 = .ok (.aload_n 0, 1) := by decide +kernel
theorem dX2_spread_97 : decode cX2_spread 97 = .ok (.getfield 41, 3) := by decide +kernel
theorem dX2_spread_100 : decode cX2_spread 100 = .ok (.iload 6, 2) := by decide +kernel
theorem dX2_spread_102 : decode cX2_spread 102 = .ok (.aload_n 0, 1) := by decide +kernel
theorem dX2_spread_103 : decode cX2_spread 103 = .ok (.getfield 41, 3) := by decide +kernel
theorem dX2_spread_106 : decode cX2_spread 106 = .ok (.aload_n 0, 1) := by decide +kernel
theorem dX2_spread_107 : decode cX2_spread 107 = .ok (.getfield 44, 3) := by decide +kernel
theorem dX2_spread_110 : decode cX2_spread 110 = .ok (.iload 4, 2) := by decide +kernel
theorem dX2_spread_112 : decode cX2_spread 112 = .ok (.iaload, 1) := by decide +kernel
theorem dX2_spread_113 : decode cX2_spread 113 = .ok (.iaload, 1) := by decide +kernel
theorem dX2_spread_114 : decode cX2_spread 114 = .ok (.iconst 1, 1) := by decide +kernel
theorem dX2_spread_115 : decode cX2_spread 115 = .ok (.iadd, 1) := by decide +kernel
theorem dX2_spread_116 : decode cX2_spread 116 = .ok (.iastore, 1) := by decide +kernel
theorem dX2_spread_117 : decode cX2_spread 117 = .ok (.aload_n 0, 1) := by decide +kernel
theorem dX2_spread_118 : decode cX2_spread 118 = .ok (.getfield 44, 3) := by decide +kernel
theorem dX2_spread_121 : decode cX2_spread 121 = .ok (.aload_n 0, 1) := by decide +kernel
theorem dX2_spread_122 : decode cX2_spread 122 = .ok (.getfield 107, 3) := by decide +kernel
theorem dX2_spread_125 : decode cX2_spread 125 = .ok (.iload 6, 2) := by decide +kernel
theorem dX2_spread_127 : decode cX2_spread 127 = .ok (.iastore, 1) := by decide +kernel
theorem dX2_spread_128 : decode cX2_spread 128 = .ok (.aload_n 0, 1) := by decide +kernel
theorem dX2_spread_129 : decode cX2_spread 129 = .ok (.dup, 1) := by decide +kernel
theorem dX2_spread_130 : decode cX2_spread 130 = .ok (.getfield 107, 3) := by decide +kernel
theorem dX2_spread_133 : decode cX2_spread 133 = .ok (.iconst 1, 1) := by decide +kernel
theorem dX2_spread_134 : decode cX2_spread 134 = .ok (.iadd, 1) := by decide +kernel
theorem dX2_spread_135 : decode cX2_spread 135 = .ok (.putfield 107, 3) := by decide +kernel
theorem dX2_spread_138 : decode cX2_spread 138 = .ok (.iinc 5 1, 3) := by decide +kernel
theorem dX2_spread_141 : decode cX2_spread 141 = .ok (.goto (-100), 3) := by decide +kernel
theorem dX2_spread_144 : decode cX2_spread 144 = .ok (.iinc 4 1, 3) := by decide +kernel
theorem dX2_spread_147 : decode cX2_spread 147 = .ok (.goto (-118), 3) := by decide +kernel
theorem dX2_spread_150 : decode cX2_spread 150 = .ok (.aload_n 0, 1) := by decide +kernel
theorem dX2_spread_151 : decode cX2_spread 151 = .ok (.getfield 107, 3) := by decide +kernel
theorem dX2_spread_154 : decode cX2_spread 154 = .ok (.ireturn, 1) := by decide +kernel
theorem dX2_clearPieces_0 : decode cX2_clearPieces 0 = .ok (.iconst 0, 1) := by decide +kernel
theorem dX2_clearPieces_1 : decode cX2_clearPieces 1 = .ok (.istore_n 1, 1) := by decide +kernel
theorem dX2_clearPieces_2 : decode cX2_clearPieces 2 = .ok (.iload_n 1, 1) := by decide +kernel
theorem dX2_clearPieces_3 : decode cX2_clearPieces 3 = .ok (.sipush 2401, 3) := by decide +kernel
theorem dX2_clearPieces_6 : decode cX2_clearPieces 6 = .ok (.if_icmp .ge 17, 3) := by decide +kernel
theorem dX2_clearPieces_9 : decode cX2_clearPieces 9 = .ok (.aload_n 0, 1) := by decide +kernel
theorem dX2_clearPieces_10 : decode cX2_clearPieces 10 = .ok (.getfield 38, 3) := by decide +kernel
theorem dX2_clearPieces_13 : decode cX2_clearPieces 13 = .ok (.iload_n 1, 1) := by decide +kernel
theorem dX2_clearPieces_14 : decode cX2_clearPieces 14 = .ok (.bipush (-6), 2) := by decide +kernel
theorem dX2_clearPieces_16 : decode cX2_clearPieces 16 = .ok (.iastore, 1) := by decide +kernel
theorem dX2_clearPieces_17 : decode cX2_clearPieces 17 = .ok (.iinc 1 1, 3) := by decide +kernel
theorem dX2_clearPieces_20 : decode cX2_clearPieces 20 = .ok (.goto (-18), 3) := by decide +kernel
theorem dX2_clearPieces_23 : decode cX2_clearPieces 23 = .ok (.return_, 1) := by decide +kernel
set_option maxRecDepth 20000 in
theorem ggX2_layPieces_X2_clearPieces : GoodIn wsX2_layPieces wsX2_clearPieces := goodIn_r _ [7, 2, 40, 41, 42, 43, 44, 45, 46, 47, 48, 49, 50, 51, 52, 53, 54] (by decide +kernel) (by decide +kernel)
set_option maxRecDepth 20000 in
theorem gX2_layPieces_X2_clearPieces : GoodIn wsX2_layPieces (wsV RX2 110 RX2 yX2_clearPieces wsX2_clearPieces) := goodIn_app (goodIn_of _ (by decide +kernel)) ggX2_layPieces_X2_clearPieces
set_option maxRecDepth 20000 in
theorem ggX2_layPieces_X2_isIn : GoodIn wsX2_layPieces wsX2_isIn := goodIn_r _ [11, 12, 40, 41, 42, 43, 44, 45, 46, 47, 48, 49, 50, 51, 52, 53, 54] (by decide +kernel) (by decide +kernel)
set_option maxRecDepth 20000 in
theorem gX2_layPieces_X2_isIn : GoodIn wsX2_layPieces (wsV RX2 84 RX2 yX2_isIn wsX2_isIn) := goodIn_app (goodIn_of _ (by decide +kernel)) ggX2_layPieces_X2_isIn
set_option maxRecDepth 20000 in
theorem ggX2_layPieces_X2_spread : GoodIn wsX2_layPieces wsX2_spread := goodIn_r _ [16, 17, 18, 2, 19, 20, 21, 22, 6, 23, 24, 25, 26, 27, 28, 29, 30, 31, 32, 33, 34, 35, 36, 37, 38, 39, 8, 9, 10, 11, 12, 40, 41, 42, 43, 44, 45, 46, 47, 48, 49, 50, 51, 52, 53, 54] (by decide +kernel) (by decide +kernel)
set_option maxRecDepth 20000 in
theorem gX2_layPieces_X2_spread : GoodIn wsX2_layPieces (wsV RX2 116 RX2 yX2_spread wsX2_spread) := goodIn_app (goodIn_of _ (by decide +kernel)) ggX2_layPieces_X2_spread
theorem dX2_layPieces_0 : decode cX2_layPieces 0 = .ok (.aload_n 0, 1) := by decide +kernel
theorem dX2_layPieces_1 : decode cX2_layPieces 1 = .ok (.invokevirtual 110, 3) := by decide +kernel
theorem dX2_layPieces_4 : decode cX2_layPieces 4 = .ok (.aload_n 0, 1) := by decide +kernel
theorem dX2_layPieces_5 : decode cX2_layPieces 5 = .ok (.iconst 0, 1) := by decide +kernel
theorem dX2_layPieces_6 : decode cX2_layPieces 6 = .ok (.putfield 113, 3) := by decide +kernel
theorem dX2_layPieces_9 : decode cX2_layPieces 9 = .ok (.iconst 0, 1) := by decide +kernel
theorem dX2_layPieces_10 : decode cX2_layPieces 10 = .ok (.istore_n 2, 1) := by decide +kernel
theorem dX2_layPieces_11 : decode cX2_layPieces 11 = .ok (.iconst 0, 1) := by decide +kernel
theorem dX2_layPieces_12 : decode cX2_layPieces 12 = .ok (.istore_n 3, 1) := by decide +kernel
theorem dX2_layPieces_13 : decode cX2_layPieces 13 = .ok (.iload_n 3, 1) := by decide +kernel
theorem dX2_layPieces_14 : decode cX2_layPieces 14 = .ok (.sipush 2401, 3) := by decide +kernel
theorem dX2_layPieces_17 : decode cX2_layPieces 17 = .ok (.if_icmp .ge 61, 3) := by decide +kernel
theorem dX2_layPieces_20 : decode cX2_layPieces 20 = .ok (.aload_n 0, 1) := by decide +kernel
theorem dX2_layPieces_21 : decode cX2_layPieces 21 = .ok (.iload_n 1, 1) := by decide +kernel
theorem dX2_layPieces_22 : decode cX2_layPieces 22 = .ok (.iload_n 3, 1) := by decide +kernel
theorem dX2_layPieces_23 : decode cX2_layPieces 23 = .ok (.invokevirtual 84, 3) := by decide +kernel
theorem dX2_layPieces_26 : decode cX2_layPieces 26 = .ok (.ifCond .eq 46, 3) := by decide +kernel
theorem dX2_layPieces_29 : decode cX2_layPieces 29 = .ok (.aload_n 0, 1) := by decide +kernel
theorem dX2_layPieces_30 : decode cX2_layPieces 30 = .ok (.getfield 38, 3) := by decide +kernel
theorem dX2_layPieces_33 : decode cX2_layPieces 33 = .ok (.iload_n 3, 1) := by decide +kernel
theorem dX2_layPieces_34 : decode cX2_layPieces 34 = .ok (.iaload, 1) := by decide +kernel
theorem dX2_layPieces_35 : decode cX2_layPieces 35 = .ok (.ifCond .ge 37, 3) := by decide +kernel
theorem dX2_layPieces_38 : decode cX2_layPieces 38 = .ok (.aload_n 0, 1) := by decide +kernel
theorem dX2_layPieces_39 : decode cX2_layPieces 39 = .ok (.iload_n 1, 1) := by decide +kernel
theorem dX2_layPieces_40 : decode cX2_layPieces 40 = .ok (.iload_n 3, 1) := by decide +kernel
theorem dX2_layPieces_41 : decode cX2_layPieces 41 = .ok (.iload_n 2, 1) := by decide +kernel
theorem dX2_layPieces_42 : decode cX2_layPieces 42 = .ok (.invokevirtual 116, 3) := by decide +kernel
theorem dX2_layPieces_45 : decode cX2_layPieces 45 = .ok (.istore 4, 2) := by decide +kernel
theorem dX2_layPieces_47 : decode cX2_layPieces 47 = .ok (.aload_n 0, 1) := by decide +kernel
theorem dX2_layPieces_48 : decode cX2_layPieces 48 = .ok (.iload 4, 2) := by decide +kernel
theorem dX2_layPieces_50 : decode cX2_layPieces 50 = .ok (.aload_n 0, 1) := by decide +kernel
theorem dX2_layPieces_51 : decode cX2_layPieces 51 = .ok (.getfield 113, 3) := by decide +kernel
theorem dX2_layPieces_54 : decode cX2_layPieces 54 = .ok (.if_icmp .le 8, 3) := by decide +kernel
theorem dX2_layPieces_57 : decode cX2_layPieces 57 = .ok (.iload 4, 2) := by decide +kernel
theorem dX2_layPieces_59 : decode cX2_layPieces 59 = .ok (.goto 7, 3) := by decide +kernel
theorem dX2_layPieces_62 : decode cX2_layPieces 62 = .ok (.aload_n 0, 1) := by decide +kernel
theorem dX2_layPieces_63 : decode cX2_layPieces 63 = .ok (.getfield 113, 3) := by decide +kernel
theorem dX2_layPieces_66 : decode cX2_layPieces 66 = .ok (.putfield 113, 3) := by decide +kernel
theorem dX2_layPieces_69 : decode cX2_layPieces 69 = .ok (.iinc 2 1, 3) := by decide +kernel
theorem dX2_layPieces_72 : decode cX2_layPieces 72 = .ok (.iinc 3 1, 3) := by decide +kernel
theorem dX2_layPieces_75 : decode cX2_layPieces 75 = .ok (.goto (-62), 3) := by decide +kernel
theorem dX2_layPieces_78 : decode cX2_layPieces 78 = .ok (.iload_n 2, 1) := by decide +kernel
theorem dX2_layPieces_79 : decode cX2_layPieces 79 = .ok (.ireturn, 1) := by decide +kernel
set_option maxRecDepth 20000 in
theorem ggX2_endOf_X2_isIn : GoodIn wsX2_endOf wsX2_isIn := goodIn_r _ [5, 6, 7, 8, 9, 10, 11, 12, 13, 14, 15, 16, 17, 18, 19, 20, 21] (by decide +kernel) (by decide +kernel)
set_option maxRecDepth 20000 in
theorem gX2_endOf_X2_isIn : GoodIn wsX2_endOf (wsV RX2 84 RX2 yX2_isIn wsX2_isIn) := goodIn_app (goodIn_of _ (by decide +kernel)) ggX2_endOf_X2_isIn
theorem dX2_endOf_0 : decode cX2_endOf 0 = .ok (.bipush (-6), 2) := by decide +kernel
theorem dX2_endOf_2 : decode cX2_endOf 2 = .ok (.istore_n 3, 1) := by decide +kernel
theorem dX2_endOf_3 : decode cX2_endOf 3 = .ok (.iconst 0, 1) := by decide +kernel
theorem dX2_endOf_4 : decode cX2_endOf 4 = .ok (.istore 4, 2) := by decide +kernel
theorem dX2_endOf_6 : decode cX2_endOf 6 = .ok (.iload 4, 2) := by decide +kernel
theorem dX2_endOf_8 : decode cX2_endOf 8 = .ok (.sipush 2401, 3) := by decide +kernel
theorem dX2_endOf_11 : decode cX2_endOf 11 = .ok (.if_icmp .ge 43, 3) := by decide +kernel
theorem dX2_endOf_14 : decode cX2_endOf 14 = .ok (.iload_n 2, 1) := by decide +kernel
theorem dX2_endOf_15 : decode cX2_endOf 15 = .ok (.ifCond .eq 8, 3) := by decide +kernel
theorem dX2_endOf_18 : decode cX2_endOf 18 = .ok (.iload 4, 2) := by decide +kernel
theorem dX2_endOf_20 : decode cX2_endOf 20 = .ok (.goto 9, 3) := by decide +kernel
theorem dX2_endOf_23 : decode cX2_endOf 23 = .ok (.sipush 2400, 3) := by decide +kernel
theorem dX2_endOf_26 : decode cX2_endOf 26 = .ok (.iload 4, 2) := by decide +kernel
theorem dX2_endOf_28 : decode cX2_endOf 28 = .ok (.isub, 1) := by decide +kernel
theorem dX2_endOf_29 : decode cX2_endOf 29 = .ok (.istore 5, 2) := by decide +kernel
theorem dX2_endOf_31 : decode cX2_endOf 31 = .ok (.aload_n 0, 1) := by decide +kernel
theorem dX2_endOf_32 : decode cX2_endOf 32 = .ok (.iload_n 1, 1) := by decide +kernel
theorem dX2_endOf_33 : decode cX2_endOf 33 = .ok (.iload 5, 2) := by decide +kernel
theorem dX2_endOf_35 : decode cX2_endOf 35 = .ok (.invokevirtual 84, 3) := by decide +kernel
theorem dX2_endOf_38 : decode cX2_endOf 38 = .ok (.ifCond .eq 8, 3) := by decide +kernel
theorem dX2_endOf_41 : decode cX2_endOf 41 = .ok (.iload 5, 2) := by decide +kernel
theorem dX2_endOf_43 : decode cX2_endOf 43 = .ok (.goto 4, 3) := by decide +kernel
theorem dX2_endOf_46 : decode cX2_endOf 46 = .ok (.iload_n 3, 1) := by decide +kernel
theorem dX2_endOf_47 : decode cX2_endOf 47 = .ok (.istore_n 3, 1) := by decide +kernel
theorem dX2_endOf_48 : decode cX2_endOf 48 = .ok (.iinc 4 1, 3) := by decide +kernel
theorem dX2_endOf_51 : decode cX2_endOf 51 = .ok (.goto (-45), 3) := by decide +kernel
theorem dX2_endOf_54 : decode cX2_endOf 54 = .ok (.iload_n 3, 1) := by decide +kernel
theorem dX2_endOf_55 : decode cX2_endOf 55 = .ok (.ireturn, 1) := by decide +kernel
set_option maxRecDepth 20000 in
theorem ggX2_about_X2_isSlot : GoodIn wsX2_about wsX2_isSlot := goodIn_r _ [6, 7, 8, 5, 9] (by decide +kernel) (by decide +kernel)
set_option maxRecDepth 20000 in
theorem gX2_about_X2_isSlot : GoodIn wsX2_about (va_wsS RX2 88 yX2_isSlot wsX2_isSlot) := goodIn_app (goodIn_of _ (by decide +kernel)) ggX2_about_X2_isSlot
set_option maxRecDepth 20000 in
theorem ggX2_about_X2_many : GoodIn wsX2_about wsX2_many := goodIn_r _ [13, 14, 15, 16, 5, 17, 18, 80, 81, 82, 83, 84, 85, 86, 87, 88, 89, 90, 91, 92, 93, 94] (by decide +kernel) (by decide +kernel)
set_option maxRecDepth 20000 in
theorem gX2_about_X2_many : GoodIn wsX2_about (wsV RX2 91 RX2 yX2_many wsX2_many) := goodIn_app (goodIn_of _ (by decide +kernel)) ggX2_about_X2_many
set_option maxRecDepth 20000 in
theorem ggX2_about_X2_pack : GoodIn wsX2_about wsX2_pack := goodIn_r _ [22, 1, 23, 24, 25, 26, 5, 27, 28, 29, 30, 31, 32, 33, 34, 14, 15, 16, 17, 18, 80, 81, 82, 83, 84, 85, 86, 87, 88, 89, 90, 91, 92, 93, 94] (by decide +kernel) (by decide +kernel)
set_option maxRecDepth 20000 in
theorem gX2_about_X2_pack : GoodIn wsX2_about (wsV RX2 120 RX2 yX2_pack wsX2_pack) := goodIn_app (goodIn_of _ (by decide +kernel)) ggX2_about_X2_pack
set_option maxRecDepth 20000 in
theorem ggX2_about_X2_border : GoodIn wsX2_about wsX2_border := goodIn_r _ [38, 14, 15, 16, 5, 17, 18, 39, 40, 41, 42, 43, 44, 45, 46, 47, 48, 49, 50, 51, 52, 53, 54, 55, 56, 57, 58, 59, 7, 8, 9, 80, 81, 82, 83, 84, 85, 86, 87, 88, 89, 90, 91, 92, 93, 94] (by decide +kernel) (by decide +kernel)
set_option maxRecDepth 20000 in
theorem gX2_about_X2_border : GoodIn wsX2_about (wsV RX2 124 RX2 yX2_border wsX2_border) := goodIn_app (goodIn_of _ (by decide +kernel)) ggX2_about_X2_border
set_option maxRecDepth 20000 in
theorem ggX2_about_X2_layPieces : GoodIn wsX2_about wsX2_layPieces := goodIn_r _ [63, 2, 64, 65, 66, 67, 5, 68, 14, 15, 16, 17, 18, 69, 70, 71, 72, 73, 74, 75, 43, 44, 45, 46, 47, 48, 49, 50, 51, 52, 53, 54, 55, 56, 57, 58, 59, 7, 8, 9, 80, 81, 82, 83, 84, 85, 86, 87, 88, 89, 90, 91, 92, 93, 94] (by decide +kernel) (by decide +kernel)
set_option maxRecDepth 20000 in
theorem gX2_about_X2_layPieces : GoodIn wsX2_about (wsV RX2 127 RX2 yX2_layPieces wsX2_layPieces) := goodIn_app (goodIn_of _ (by decide +kernel)) ggX2_about_X2_layPieces
set_option maxRecDepth 20000 in
theorem ggX2_about_X2_endOf : GoodIn wsX2_about wsX2_endOf := goodIn_r _ [79, 14, 15, 16, 5, 17, 18, 80, 81, 82, 83, 84, 85, 86, 87, 88, 89, 90, 91, 92, 93, 94] (by decide +kernel) (by decide +kernel)
set_option maxRecDepth 20000 in
theorem gX2_about_X2_endOf : GoodIn wsX2_about (wsV RX2 130 RX2 yX2_endOf wsX2_endOf) := goodIn_app (goodIn_of _ (by decide +kernel)) ggX2_about_X2_endOf
theorem dX2_about_0 : decode cX2_about 0 = .ok (.iload_n 1, 1) := by decide +kernel
theorem dX2_about_1 : decode cX2_about 1 = .ok (.invokestatic 88, 3) := by decide +kernel
theorem dX2_about_4 : decode cX2_about 4 = .ok (.ifCond .ne 5, 3) := by decide +kernel
theorem dX2_about_7 : decode cX2_about 7 = .ok (.iconst (-1), 1) := by decide +kernel
theorem dX2_about_8 : decode cX2_about 8 = .ok (.ireturn, 1) := by decide +kernel
theorem dX2_about_9 : decode cX2_about 9 = .ok (.iload_n 2, 1) := by decide +kernel
theorem dX2_about_10 : decode cX2_about 10 = .ok (.tableswitch 95 0 6 #[42, 48, 58, 64, 70, 81, 88], 42) := by decide +kernel
theorem dX2_about_52 : decode cX2_about 52 = .ok (.aload_n 0, 1) := by decide +kernel
theorem dX2_about_53 : decode cX2_about 53 = .ok (.iload_n 1, 1) := by decide +kernel
theorem dX2_about_54 : decode cX2_about 54 = .ok (.invokevirtual 91, 3) := by decide +kernel
theorem dX2_about_57 : decode cX2_about 57 = .ok (.ireturn, 1) := by decide +kernel
theorem dX2_about_58 : decode cX2_about 58 = .ok (.aload_n 0, 1) := by decide +kernel
theorem dX2_about_59 : decode cX2_about 59 = .ok (.iload_n 1, 1) := by decide +kernel
theorem dX2_about_60 : decode cX2_about 60 = .ok (.invokevirtual 120, 3) := by decide +kernel
theorem dX2_about_63 : decode cX2_about 63 = .ok (.aload_n 0, 1) := by decide +kernel
theorem dX2_about_64 : decode cX2_about 64 = .ok (.getfield 100, 3) := by decide +kernel
theorem dX2_about_67 : decode cX2_about 67 = .ok (.ireturn, 1) := by decide +kernel
theorem dX2_about_68 : decode cX2_about 68 = .ok (.aload_n 0, 1) := by decide +kernel
theorem dX2_about_69 : decode cX2_about 69 = .ok (.iload_n 1, 1) := by decide +kernel
theorem dX2_about_70 : decode cX2_about 70 = .ok (.invokevirtual 124, 3) := by decide +kernel
theorem dX2_about_73 : decode cX2_about 73 = .ok (.ireturn, 1) := by decide +kernel
theorem dX2_about_74 : decode cX2_about 74 = .ok (.aload_n 0, 1) := by decide +kernel
theorem dX2_about_75 : decode cX2_about 75 = .ok (.iload_n 1, 1) := by decide +kernel
theorem dX2_about_76 : decode cX2_about 76 = .ok (.invokevirtual 127, 3) := by decide +kernel
theorem dX2_about_79 : decode cX2_about 79 = .ok (.ireturn, 1) := by decide +kernel
theorem dX2_about_80 : decode cX2_about 80 = .ok (.aload_n 0, 1) := by decide +kernel
theorem dX2_about_81 : decode cX2_about 81 = .ok (.iload_n 1, 1) := by decide +kernel
theorem dX2_about_82 : decode cX2_about 82 = .ok (.invokevirtual 127, 3) := by decide +kernel
theorem dX2_about_85 : decode cX2_about 85 = .ok (.pop, 1) := by decide +kernel
theorem dX2_about_86 : decode cX2_about 86 = .ok (.aload_n 0, 1) := by decide +kernel
theorem dX2_about_87 : decode cX2_about 87 = .ok (.getfield 113, 3) := by decide +kernel
theorem dX2_about_90 : decode cX2_about 90 = .ok (.ireturn, 1) := by decide +kernel
theorem dX2_about_91 : decode cX2_about 91 = .ok (.aload_n 0, 1) := by decide +kernel
theorem dX2_about_92 : decode cX2_about 92 = .ok (.iload_n 1, 1) := by decide +kernel
theorem dX2_about_93 : decode cX2_about 93 = .ok (.iconst 0, 1) := by decide +kernel
theorem dX2_about_94 : decode cX2_about 94 = .ok (.invokevirtual 130, 3) := by decide +kernel
theorem dX2_about_97 : decode cX2_about 97 = .ok (.ireturn, 1) := by decide +kernel
theorem dX2_about_98 : decode cX2_about 98 = .ok (.aload_n 0, 1) := by decide +kernel
theorem dX2_about_99 : decode cX2_about 99 = .ok (.iload_n 1, 1) := by decide +kernel
theorem dX2_about_100 : decode cX2_about 100 = .ok (.iconst 1, 1) := by decide +kernel
theorem dX2_about_101 : decode cX2_about 101 = .ok (.invokevirtual 130, 3) := by decide +kernel
theorem dX2_about_104 : decode cX2_about 104 = .ok (.ireturn, 1) := by decide +kernel
theorem dX2_about_105 : decode cX2_about 105 = .ok (.bipush (-2), 2) := by decide +kernel
theorem dX2_about_107 : decode cX2_about 107 = .ok (.ireturn, 1) := by decide +kernel
set_option maxRecDepth 20000 in
theorem ggX2_packed_X2_isSlot : GoodIn wsX2_packed wsX2_isSlot := goodIn_r _ [7, 8, 9, 6, 10] (by decide +kernel) (by decide +kernel)
set_option maxRecDepth 20000 in
theorem gX2_packed_X2_isSlot : GoodIn wsX2_packed (va_wsS RX2 88 yX2_isSlot wsX2_isSlot) := goodIn_app (goodIn_of _ (by decide +kernel)) ggX2_packed_X2_isSlot
set_option maxRecDepth 20000 in
theorem ggX2_packed_X2_in : GoodIn wsX2_packed wsX2_in := goodIn_r _ [10] (by decide +kernel) (by decide +kernel)
set_option maxRecDepth 20000 in
theorem gX2_packed_X2_in : GoodIn wsX2_packed (va_wsS RX2 54 yX2_in wsX2_in) := goodIn_app (goodIn_of _ (by decide +kernel)) ggX2_packed_X2_in
set_option maxRecDepth 20000 in
theorem ggX2_packed_X2_pack : GoodIn wsX2_packed wsX2_pack := goodIn_r _ [14, 1, 2, 3, 15, 16, 6, 17, 18, 19, 20, 21, 22, 23, 24, 25, 26, 27, 28, 29, 30, 31, 32, 33, 34, 35, 36, 37, 38, 39, 40, 41, 42, 43, 44] (by decide +kernel) (by decide +kernel)
set_option maxRecDepth 20000 in
theorem gX2_packed_X2_pack : GoodIn wsX2_packed (wsV RX2 120 RX2 yX2_pack wsX2_pack) := goodIn_app (goodIn_of _ (by decide +kernel)) ggX2_packed_X2_pack
theorem dX2_packed_0 : decode cX2_packed 0 = .ok (.iload_n 1, 1) := by decide +kernel
theorem dX2_packed_1 : decode cX2_packed 1 = .ok (.invokestatic 88, 3) := by decide +kernel
theorem dX2_packed_4 : decode cX2_packed 4 = .ok (.ifCond .ne 5, 3) := by decide +kernel
theorem dX2_packed_7 : decode cX2_packed 7 = .ok (.iconst (-1), 1) := by decide +kernel
theorem dX2_packed_8 : decode cX2_packed 8 = .ok (.ireturn, 1) := by decide +kernel
theorem dX2_packed_9 : decode cX2_packed 9 = .ok (.iload_n 3, 1) := by decide +kernel
theorem dX2_packed_10 : decode cX2_packed 10 = .ok (.iconst 0, 1) := by decide +kernel
theorem dX2_packed_11 : decode cX2_packed 11 = .ok (.iconst 1, 1) := by decide +kernel
theorem dX2_packed_12 : decode cX2_packed 12 = .ok (.invokestatic 54, 3) := by decide +kernel
theorem dX2_packed_15 : decode cX2_packed 15 = .ok (.ifCond .ne 6, 3) := by decide +kernel
theorem dX2_packed_18 : decode cX2_packed 18 = .ok (.bipush (-2), 2) := by decide +kernel
theorem dX2_packed_20 : decode cX2_packed 20 = .ok (.ireturn, 1) := by decide +kernel
theorem dX2_packed_21 : decode cX2_packed 21 = .ok (.aload_n 0, 1) := by decide +kernel
theorem dX2_packed_22 : decode cX2_packed 22 = .ok (.iload_n 1, 1) := by decide +kernel
theorem dX2_packed_23 : decode cX2_packed 23 = .ok (.invokevirtual 120, 3) := by decide +kernel
theorem dX2_packed_26 : decode cX2_packed 26 = .ok (.iload_n 2, 1) := by decide +kernel
theorem dX2_packed_27 : decode cX2_packed 27 = .ok (.iconst 0, 1) := by decide +kernel
theorem dX2_packed_28 : decode cX2_packed 28 = .ok (.aload_n 0, 1) := by decide +kernel
theorem dX2_packed_29 : decode cX2_packed 29 = .ok (.getfield 100, 3) := by decide +kernel
theorem dX2_packed_32 : decode cX2_packed 32 = .ok (.iconst 1, 1) := by decide +kernel
theorem dX2_packed_33 : decode cX2_packed 33 = .ok (.isub, 1) := by decide +kernel
theorem dX2_packed_34 : decode cX2_packed 34 = .ok (.invokestatic 54, 3) := by decide +kernel
theorem dX2_packed_37 : decode cX2_packed 37 = .ok (.ifCond .ne 8, 3) := by decide +kernel
theorem dX2_packed_40 : decode cX2_packed 40 = .ok (.bipush (-6), 2) := by decide +kernel
theorem dX2_packed_42 : decode cX2_packed 42 = .ok (.goto 22, 3) := by decide +kernel
theorem dX2_packed_45 : decode cX2_packed 45 = .ok (.iload_n 3, 1) := by decide +kernel
theorem dX2_packed_46 : decode cX2_packed 46 = .ok (.ifCond .ne 12, 3) := by decide +kernel
theorem dX2_packed_49 : decode cX2_packed 49 = .ok (.aload_n 0, 1) := by decide +kernel
theorem dX2_packed_50 : decode cX2_packed 50 = .ok (.getfield 32, 3) := by decide +kernel
theorem dX2_packed_53 : decode cX2_packed 53 = .ok (.iload_n 2, 1) := by decide +kernel
theorem dX2_packed_54 : decode cX2_packed 54 = .ok (.iaload, 1) := by decide +kernel
theorem dX2_packed_55 : decode cX2_packed 55 = .ok (.goto 9, 3) := by decide +kernel
theorem dX2_packed_58 : decode cX2_packed 58 = .ok (.aload_n 0, 1) := by decide +kernel
theorem dX2_packed_59 : decode cX2_packed 59 = .ok (.getfield 35, 3) := by decide +kernel
theorem dX2_packed_62 : decode cX2_packed 62 = .ok (.iload_n 2, 1) := by decide +kernel
theorem dX2_packed_63 : decode cX2_packed 63 = .ok (.iaload, 1) := by decide +kernel
theorem dX2_packed_64 : decode cX2_packed 64 = .ok (.ireturn, 1) := by decide +kernel
set_option maxRecDepth 20000 in
theorem ggX2_piece_X2_isSlot : GoodIn wsX2_piece wsX2_isSlot := goodIn_r _ [5, 6, 7, 4, 8] (by decide +kernel) (by decide +kernel)
set_option maxRecDepth 20000 in
theorem gX2_piece_X2_isSlot : GoodIn wsX2_piece (va_wsS RX2 88 yX2_isSlot wsX2_isSlot) := goodIn_app (goodIn_of _ (by decide +kernel)) ggX2_piece_X2_isSlot
set_option maxRecDepth 20000 in
theorem ggX2_piece_X2_isKey : GoodIn wsX2_piece wsX2_isKey := goodIn_r _ [11, 6, 7, 4, 8] (by decide +kernel) (by decide +kernel)
set_option maxRecDepth 20000 in
theorem gX2_piece_X2_isKey : GoodIn wsX2_piece (va_wsS RX2 58 yX2_isKey wsX2_isKey) := goodIn_app (goodIn_of _ (by decide +kernel)) ggX2_piece_X2_isKey
set_option maxRecDepth 20000 in
theorem ggX2_piece_X2_layPieces : GoodIn wsX2_piece wsX2_layPieces := goodIn_r _ [15, 16, 1, 17, 18, 19, 4, 20, 21, 22, 23, 24, 25, 26, 27, 28, 29, 30, 31, 32, 33, 34, 35, 36, 37, 38, 39, 40, 41, 42, 43, 44, 45, 46, 47, 48, 49, 6, 7, 8, 50, 51, 52, 53, 54, 55, 56, 57, 58, 59, 60, 61, 62, 63, 64] (by decide +kernel) (by decide +kernel)
set_option maxRecDepth 20000 in
theorem gX2_piece_X2_layPieces : GoodIn wsX2_piece (wsV RX2 127 RX2 yX2_layPieces wsX2_layPieces) := goodIn_app (goodIn_of _ (by decide +kernel)) ggX2_piece_X2_layPieces
theorem dX2_piece_0 : decode cX2_piece 0 = .ok (.iload_n 1, 1) := by decide +kernel
theorem dX2_piece_1 : decode cX2_piece 1 = .ok (.invokestatic 88, 3) := by decide +kernel
theorem dX2_piece_4 : decode cX2_piece 4 = .ok (.ifCond .ne 5, 3) := by decide +kernel
theorem dX2_piece_7 : decode cX2_piece 7 = .ok (.iconst (-1), 1) := by decide +kernel
theorem dX2_piece_8 : decode cX2_piece 8 = .ok (.ireturn, 1) := by decide +kernel
theorem dX2_piece_9 : decode cX2_piece 9 = .ok (.iload_n 2, 1) := by decide +kernel
theorem dX2_piece_10 : decode cX2_piece 10 = .ok (.invokestatic 58, 3) := by decide +kernel
theorem dX2_piece_13 : decode cX2_piece 13 = .ok (.ifCond .ne 6, 3) := by decide +kernel
theorem dX2_piece_16 : decode cX2_piece 16 = .ok (.bipush (-2), 2) := by decide +kernel
theorem dX2_piece_18 : decode cX2_piece 18 = .ok (.ireturn, 1) := by decide +kernel
theorem dX2_piece_19 : decode cX2_piece 19 = .ok (.aload_n 0, 1) := by decide +kernel
theorem dX2_piece_20 : decode cX2_piece 20 = .ok (.iload_n 1, 1) := by decide +kernel
theorem dX2_piece_21 : decode cX2_piece 21 = .ok (.invokevirtual 127, 3) := by decide +kernel
theorem dX2_piece_24 : decode cX2_piece 24 = .ok (.pop, 1) := by decide +kernel
theorem dX2_piece_25 : decode cX2_piece 25 = .ok (.aload_n 0, 1) := by decide +kernel
theorem dX2_piece_26 : decode cX2_piece 26 = .ok (.getfield 38, 3) := by decide +kernel
theorem dX2_piece_29 : decode cX2_piece 29 = .ok (.iload_n 2, 1) := by decide +kernel
theorem dX2_piece_30 : decode cX2_piece 30 = .ok (.iaload, 1) := by decide +kernel
theorem dX2_piece_31 : decode cX2_piece 31 = .ok (.ireturn, 1) := by decide +kernel
set_option maxRecDepth 20000 in
theorem ggX2_way_X2_isSlot : GoodIn wsX2_way wsX2_isSlot := goodIn_r _ [6, 7, 8, 5, 9] (by decide +kernel) (by decide +kernel)
set_option maxRecDepth 20000 in
theorem gX2_way_X2_isSlot : GoodIn wsX2_way (va_wsS RX2 88 yX2_isSlot wsX2_isSlot) := goodIn_app (goodIn_of _ (by decide +kernel)) ggX2_way_X2_isSlot
set_option maxRecDepth 20000 in
theorem ggX2_way_X2_isKey : GoodIn wsX2_way wsX2_isKey := goodIn_r _ [12, 7, 8, 5, 9] (by decide +kernel) (by decide +kernel)
set_option maxRecDepth 20000 in
theorem gX2_way_X2_isKey : GoodIn wsX2_way (va_wsS RX2 58 yX2_isKey wsX2_isKey) := goodIn_app (goodIn_of _ (by decide +kernel)) ggX2_way_X2_isKey
set_option maxRecDepth 20000 in
theorem ggX2_way_X2_isIn : GoodIn wsX2_way wsX2_isIn := goodIn_r _ [16, 17, 45, 46, 47, 48, 49, 50, 51, 52, 53, 54, 55, 56, 57, 58, 59] (by decide +kernel) (by decide +kernel)
set_option maxRecDepth 20000 in
theorem gX2_way_X2_isIn : GoodIn wsX2_way (wsV RX2 84 RX2 yX2_isIn wsX2_isIn) := goodIn_app (goodIn_of _ (by decide +kernel)) ggX2_way_X2_isIn
set_option maxRecDepth 20000 in
theorem ggX2_way_X2_clearPieces : GoodIn wsX2_way wsX2_clearPieces := goodIn_r _ [21, 1, 45, 46, 47, 48, 49, 50, 51, 52, 53, 54, 55, 56, 57, 58, 59] (by decide +kernel) (by decide +kernel)
set_option maxRecDepth 20000 in
theorem gX2_way_X2_clearPieces : GoodIn wsX2_way (wsV RX2 110 RX2 yX2_clearPieces wsX2_clearPieces) := goodIn_app (goodIn_of _ (by decide +kernel)) ggX2_way_X2_clearPieces
set_option maxRecDepth 20000 in
theorem ggX2_way_X2_spread : GoodIn wsX2_way wsX2_spread := goodIn_r _ [25, 26, 27, 1, 2, 28, 29, 30, 5, 31, 32, 33, 34, 35, 36, 37, 38, 39, 40, 41, 42, 43, 44, 7, 8, 9, 13, 14, 15, 16, 17, 45, 46, 47, 48, 49, 50, 51, 52, 53, 54, 55, 56, 57, 58, 59] (by decide +kernel) (by decide +kernel)
set_option maxRecDepth 20000 in
theorem gX2_way_X2_spread : GoodIn wsX2_way (wsV RX2 116 RX2 yX2_spread wsX2_spread) := goodIn_app (goodIn_of _ (by decide +kernel)) ggX2_way_X2_spread
theorem dX2_way_0 : decode cX2_way 0 = .ok (.iload_n 1, 1) := by decide +kernel
theorem dX2_way_1 : decode cX2_way 1 = .ok (.invokestatic 88, 3) := by decide +kernel
theorem dX2_way_4 : decode cX2_way 4 = .ok (.ifCond .ne 5, 3) := by decide +kernel
theorem dX2_way_7 : decode cX2_way 7 = .ok (.iconst (-1), 1) := by decide +kernel
theorem dX2_way_8 : decode cX2_way 8 = .ok (.ireturn, 1) := by decide +kernel
theorem dX2_way_9 : decode cX2_way 9 = .ok (.iload_n 2, 1) := by decide +kernel
theorem dX2_way_10 : decode cX2_way 10 = .ok (.invokestatic 58, 3) := by decide +kernel
theorem dX2_way_13 : decode cX2_way 13 = .ok (.ifCond .eq 10, 3) := by decide +kernel
theorem dX2_way_16 : decode cX2_way 16 = .ok (.iload_n 3, 1) := by decide +kernel
theorem dX2_way_17 : decode cX2_way 17 = .ok (.invokestatic 58, 3) := by decide +kernel
theorem dX2_way_20 : decode cX2_way 20 = .ok (.ifCond .ne 6, 3) := by decide +kernel
theorem dX2_way_23 : decode cX2_way 23 = .ok (.bipush (-2), 2) := by decide +kernel
theorem dX2_way_25 : decode cX2_way 25 = .ok (.ireturn, 1) := by decide +kernel
theorem dX2_way_26 : decode cX2_way 26 = .ok (.aload_n 0, 1) := by decide +kernel
theorem dX2_way_27 : decode cX2_way 27 = .ok (.iload_n 1, 1) := by decide +kernel
theorem dX2_way_28 : decode cX2_way 28 = .ok (.iload_n 2, 1) := by decide +kernel
theorem dX2_way_29 : decode cX2_way 29 = .ok (.invokevirtual 84, 3) := by decide +kernel
theorem dX2_way_32 : decode cX2_way 32 = .ok (.ifCond .eq 12, 3) := by decide +kernel
theorem dX2_way_35 : decode cX2_way 35 = .ok (.aload_n 0, 1) := by decide +kernel
theorem dX2_way_36 : decode cX2_way 36 = .ok (.iload_n 1, 1) := by decide +kernel
theorem dX2_way_37 : decode cX2_way 37 = .ok (.iload_n 3, 1) := by decide +kernel
theorem dX2_way_38 : decode cX2_way 38 = .ok (.invokevirtual 84, 3) := by decide +kernel
theorem dX2_way_41 : decode cX2_way 41 = .ok (.ifCond .ne 6, 3) := by decide +kernel
theorem dX2_way_44 : decode cX2_way 44 = .ok (.bipush (-6), 2) := by decide +kernel
theorem dX2_way_46 : decode cX2_way 46 = .ok (.ireturn, 1) := by decide +kernel
theorem dX2_way_47 : decode cX2_way 47 = .ok (.aload_n 0, 1) := by decide +kernel
theorem dX2_way_48 : decode cX2_way 48 = .ok (.invokevirtual 110, 3) := by decide +kernel
theorem dX2_way_51 : decode cX2_way 51 = .ok (.aload_n 0, 1) := by decide +kernel
theorem dX2_way_52 : decode cX2_way 52 = .ok (.iload_n 1, 1) := by decide +kernel
theorem dX2_way_53 : decode cX2_way 53 = .ok (.iload_n 2, 1) := by decide +kernel
theorem dX2_way_54 : decode cX2_way 54 = .ok (.iconst 0, 1) := by decide +kernel
theorem dX2_way_55 : decode cX2_way 55 = .ok (.invokevirtual 116, 3) := by decide +kernel
theorem dX2_way_58 : decode cX2_way 58 = .ok (.pop, 1) := by decide +kernel
theorem dX2_way_59 : decode cX2_way 59 = .ok (.aload_n 0, 1) := by decide +kernel
theorem dX2_way_60 : decode cX2_way 60 = .ok (.getfield 38, 3) := by decide +kernel
theorem dX2_way_63 : decode cX2_way 63 = .ok (.iload_n 3, 1) := by decide +kernel
theorem dX2_way_64 : decode cX2_way 64 = .ok (.iaload, 1) := by decide +kernel
theorem dX2_way_65 : decode cX2_way 65 = .ok (.ifCond .ge 8, 3) := by decide +kernel
theorem dX2_way_68 : decode cX2_way 68 = .ok (.bipush (-6), 2) := by decide +kernel
theorem dX2_way_70 : decode cX2_way 70 = .ok (.goto 9, 3) := by decide +kernel
theorem dX2_way_73 : decode cX2_way 73 = .ok (.aload_n 0, 1) := by decide +kernel
theorem dX2_way_74 : decode cX2_way 74 = .ok (.getfield 41, 3) := by decide +kernel
theorem dX2_way_77 : decode cX2_way 77 = .ok (.iload_n 3, 1) := by decide +kernel
theorem dX2_way_78 : decode cX2_way 78 = .ok (.iaload, 1) := by decide +kernel
theorem dX2_way_79 : decode cX2_way 79 = .ok (.ireturn, 1) := by decide +kernel
set_option maxRecDepth 20000 in
theorem ggX2_alike_X2_isSlot : GoodIn wsX2_alike wsX2_isSlot := goodIn_r _ [4, 5, 6, 3, 7] (by decide +kernel) (by decide +kernel)
set_option maxRecDepth 20000 in
theorem gX2_alike_X2_isSlot : GoodIn wsX2_alike (va_wsS RX2 88 yX2_isSlot wsX2_isSlot) := goodIn_app (goodIn_of _ (by decide +kernel)) ggX2_alike_X2_isSlot
set_option maxRecDepth 20000 in
theorem ggX2_alike_X2_isIn : GoodIn wsX2_alike wsX2_isIn := goodIn_r _ [11, 12, 17, 18, 19, 20, 21, 22, 23, 24, 25, 26, 27, 28, 29, 30, 31] (by decide +kernel) (by decide +kernel)
set_option maxRecDepth 20000 in
theorem gX2_alike_X2_isIn : GoodIn wsX2_alike (wsV RX2 84 RX2 yX2_isIn wsX2_isIn) := goodIn_app (goodIn_of _ (by decide +kernel)) ggX2_alike_X2_isIn
set_option maxRecDepth 20000 in
theorem ggX2_alike_X2_many : GoodIn wsX2_alike wsX2_many := goodIn_r _ [16, 8, 9, 10, 3, 11, 12, 17, 18, 19, 20, 21, 22, 23, 24, 25, 26, 27, 28, 29, 30, 31] (by decide +kernel) (by decide +kernel)
set_option maxRecDepth 20000 in
theorem gX2_alike_X2_many : GoodIn wsX2_alike (wsV RX2 91 RX2 yX2_many wsX2_many) := goodIn_app (goodIn_of _ (by decide +kernel)) ggX2_alike_X2_many
theorem dX2_alike_0 : decode cX2_alike 0 = .ok (.iload_n 1, 1) := by decide +kernel
theorem dX2_alike_1 : decode cX2_alike 1 = .ok (.invokestatic 88, 3) := by decide +kernel
theorem dX2_alike_4 : decode cX2_alike 4 = .ok (.ifCond .eq 10, 3) := by decide +kernel
theorem dX2_alike_7 : decode cX2_alike 7 = .ok (.iload_n 2, 1) := by decide +kernel
theorem dX2_alike_8 : decode cX2_alike 8 = .ok (.invokestatic 88, 3) := by decide +kernel
theorem dX2_alike_11 : decode cX2_alike 11 = .ok (.ifCond .ne 5, 3) := by decide +kernel
theorem dX2_alike_14 : decode cX2_alike 14 = .ok (.iconst (-1), 1) := by decide +kernel
theorem dX2_alike_15 : decode cX2_alike 15 = .ok (.ireturn, 1) := by decide +kernel
theorem dX2_alike_16 : decode cX2_alike 16 = .ok (.iconst 0, 1) := by decide +kernel
theorem dX2_alike_17 : decode cX2_alike 17 = .ok (.istore_n 3, 1) := by decide +kernel
theorem dX2_alike_18 : decode cX2_alike 18 = .ok (.iconst 0, 1) := by decide +kernel
theorem dX2_alike_19 : decode cX2_alike 19 = .ok (.istore 4, 2) := by decide +kernel
theorem dX2_alike_21 : decode cX2_alike 21 = .ok (.iload 4, 2) := by decide +kernel
theorem dX2_alike_23 : decode cX2_alike 23 = .ok (.sipush 2401, 3) := by decide +kernel
theorem dX2_alike_26 : decode cX2_alike 26 = .ok (.if_icmp .ge 37, 3) := by decide +kernel
theorem dX2_alike_29 : decode cX2_alike 29 = .ok (.iload_n 3, 1) := by decide +kernel
theorem dX2_alike_30 : decode cX2_alike 30 = .ok (.aload_n 0, 1) := by decide +kernel
theorem dX2_alike_31 : decode cX2_alike 31 = .ok (.iload_n 1, 1) := by decide +kernel
theorem dX2_alike_32 : decode cX2_alike 32 = .ok (.iload 4, 2) := by decide +kernel
theorem dX2_alike_34 : decode cX2_alike 34 = .ok (.invokevirtual 84, 3) := by decide +kernel
theorem dX2_alike_37 : decode cX2_alike 37 = .ok (.ifCond .eq 17, 3) := by decide +kernel
theorem dX2_alike_40 : decode cX2_alike 40 = .ok (.aload_n 0, 1) := by decide +kernel
theorem dX2_alike_41 : decode cX2_alike 41 = .ok (.iload_n 2, 1) := by decide +kernel
theorem dX2_alike_42 : decode cX2_alike 42 = .ok (.iload 4, 2) := by decide +kernel
theorem dX2_alike_44 : decode cX2_alike 44 = .ok (.invokevirtual 84, 3) := by decide +kernel
theorem dX2_alike_47 : decode cX2_alike 47 = .ok (.ifCond .eq 7, 3) := by decide +kernel
theorem dX2_alike_50 : decode cX2_alike 50 = .ok (.iconst 1, 1) := by decide +kernel
theorem dX2_alike_51 : decode cX2_alike 51 = .ok (.goto 4, 3) := by decide +kernel
theorem dX2_alike_54 : decode cX2_alike 54 = .ok (.iconst 0, 1) := by decide +kernel
theorem dX2_alike_55 : decode cX2_alike 55 = .ok (.iadd, 1) := by decide +kernel
theorem dX2_alike_56 : decode cX2_alike 56 = .ok (.istore_n 3, 1) := by decide +kernel
theorem dX2_alike_57 : decode cX2_alike 57 = .ok (.iinc 4 1, 3) := by decide +kernel
theorem dX2_alike_60 : decode cX2_alike 60 = .ok (.goto (-39), 3) := by decide +kernel
theorem dX2_alike_63 : decode cX2_alike 63 = .ok (.aload_n 0, 1) := by decide +kernel
theorem dX2_alike_64 : decode cX2_alike 64 = .ok (.iload_n 1, 1) := by decide +kernel
theorem dX2_alike_65 : decode cX2_alike 65 = .ok (.invokevirtual 91, 3) := by decide +kernel
theorem dX2_alike_68 : decode cX2_alike 68 = .ok (.istore 4, 2) := by decide +kernel
theorem dX2_alike_70 : decode cX2_alike 70 = .ok (.aload_n 0, 1) := by decide +kernel
theorem dX2_alike_71 : decode cX2_alike 71 = .ok (.iload_n 2, 1) := by decide +kernel
theorem dX2_alike_72 : decode cX2_alike 72 = .ok (.invokevirtual 91, 3) := by decide +kernel
theorem dX2_alike_75 : decode cX2_alike 75 = .ok (.istore 5, 2) := by decide +kernel
theorem dX2_alike_77 : decode cX2_alike 77 = .ok (.iload_n 3, 1) := by decide +kernel
theorem dX2_alike_78 : decode cX2_alike 78 = .ok (.iload 4, 2) := by decide +kernel
theorem dX2_alike_80 : decode cX2_alike 80 = .ok (.if_icmp .eq 9, 3) := by decide +kernel
theorem dX2_alike_83 : decode cX2_alike 83 = .ok (.iload_n 3, 1) := by decide +kernel
theorem dX2_alike_84 : decode cX2_alike 84 = .ok (.iload 5, 2) := by decide +kernel
theorem dX2_alike_86 : decode cX2_alike 86 = .ok (.if_icmp .ne 25, 3) := by decide +kernel
theorem dX2_alike_89 : decode cX2_alike 89 = .ok (.iload_n 3, 1) := by decide +kernel
theorem dX2_alike_90 : decode cX2_alike 90 = .ok (.iload 5, 2) := by decide +kernel
theorem dX2_alike_92 : decode cX2_alike 92 = .ok (.if_icmp .eq 7, 3) := by decide +kernel
theorem dX2_alike_95 : decode cX2_alike 95 = .ok (.iconst 1, 1) := by decide +kernel
theorem dX2_alike_96 : decode cX2_alike 96 = .ok (.goto 14, 3) := by decide +kernel
theorem dX2_alike_99 : decode cX2_alike 99 = .ok (.iload_n 3, 1) := by decide +kernel
theorem dX2_alike_100 : decode cX2_alike 100 = .ok (.iload 4, 2) := by decide +kernel
theorem dX2_alike_102 : decode cX2_alike 102 = .ok (.if_icmp .eq 7, 3) := by decide +kernel
theorem dX2_alike_105 : decode cX2_alike 105 = .ok (.iconst 2, 1) := by decide +kernel
theorem dX2_alike_106 : decode cX2_alike 106 = .ok (.goto 4, 3) := by decide +kernel
theorem dX2_alike_109 : decode cX2_alike 109 = .ok (.iconst 0, 1) := by decide +kernel
theorem dX2_alike_110 : decode cX2_alike 110 = .ok (.ireturn, 1) := by decide +kernel
theorem dX2_alike_111 : decode cX2_alike 111 = .ok (.iload_n 3, 1) := by decide +kernel
theorem dX2_alike_112 : decode cX2_alike 112 = .ok (.ifCond .ne 7, 3) := by decide +kernel
theorem dX2_alike_115 : decode cX2_alike 115 = .ok (.iconst 3, 1) := by decide +kernel
theorem dX2_alike_116 : decode cX2_alike 116 = .ok (.goto 4, 3) := by decide +kernel
theorem dX2_alike_119 : decode cX2_alike 119 = .ok (.iconst 4, 1) := by decide +kernel
theorem dX2_alike_120 : decode cX2_alike 120 = .ok (.ireturn, 1) := by decide +kernel
set_option maxRecDepth 20000 in
theorem ggX2_copy_X2_isIn : GoodIn wsX2_copy wsX2_isIn := goodIn_r _ [6, 1, 7, 8, 9, 10, 11, 12, 13, 14, 15, 16, 17, 18, 19, 20, 21] (by decide +kernel) (by decide +kernel)
set_option maxRecDepth 20000 in
theorem gX2_copy_X2_isIn : GoodIn wsX2_copy (wsV RX2 84 RX2 yX2_isIn wsX2_isIn) := goodIn_app (goodIn_of _ (by decide +kernel)) ggX2_copy_X2_isIn
theorem dX2_copy_0 : decode cX2_copy 0 = .ok (.iconst 0, 1) := by decide +kernel
theorem dX2_copy_1 : decode cX2_copy 1 = .ok (.istore_n 3, 1) := by decide +kernel
theorem dX2_copy_2 : decode cX2_copy 2 = .ok (.iload_n 3, 1) := by decide +kernel
theorem dX2_copy_3 : decode cX2_copy 3 = .ok (.sipush 2401, 3) := by decide +kernel
theorem dX2_copy_6 : decode cX2_copy 6 = .ok (.if_icmp .ge 27, 3) := by decide +kernel
theorem dX2_copy_9 : decode cX2_copy 9 = .ok (.aload_n 0, 1) := by decide +kernel
theorem dX2_copy_10 : decode cX2_copy 10 = .ok (.getfield 19, 3) := by decide +kernel
theorem dX2_copy_13 : decode cX2_copy 13 = .ok (.sipush 2401, 3) := by decide +kernel
theorem dX2_copy_16 : decode cX2_copy 16 = .ok (.iload_n 2, 1) := by decide +kernel
theorem dX2_copy_17 : decode cX2_copy 17 = .ok (.imul, 1) := by decide +kernel
theorem dX2_copy_18 : decode cX2_copy 18 = .ok (.iload_n 3, 1) := by decide +kernel
theorem dX2_copy_19 : decode cX2_copy 19 = .ok (.iadd, 1) := by decide +kernel
theorem dX2_copy_20 : decode cX2_copy 20 = .ok (.aload_n 0, 1) := by decide +kernel
theorem dX2_copy_21 : decode cX2_copy 21 = .ok (.iload_n 1, 1) := by decide +kernel
theorem dX2_copy_22 : decode cX2_copy 22 = .ok (.iload_n 3, 1) := by decide +kernel
theorem dX2_copy_23 : decode cX2_copy 23 = .ok (.invokevirtual 84, 3) := by decide +kernel
theorem dX2_copy_26 : decode cX2_copy 26 = .ok (.bastore, 1) := by decide +kernel
theorem dX2_copy_27 : decode cX2_copy 27 = .ok (.iinc 3 1, 3) := by decide +kernel
theorem dX2_copy_30 : decode cX2_copy 30 = .ok (.goto (-28), 3) := by decide +kernel
theorem dX2_copy_33 : decode cX2_copy 33 = .ok (.return_, 1) := by decide +kernel
set_option maxRecDepth 20000 in
theorem ggX2_image_X2_in : GoodIn wsX2_image wsX2_in := goodIn_r _ [5] (by decide +kernel) (by decide +kernel)
set_option maxRecDepth 20000 in
theorem gX2_image_X2_in : GoodIn wsX2_image (va_wsS RX2 54 yX2_in wsX2_in) := goodIn_app (goodIn_of _ (by decide +kernel)) ggX2_image_X2_in
set_option maxRecDepth 20000 in
theorem ggX2_image_X2_copy : GoodIn wsX2_image wsX2_copy := goodIn_r _ [9, 10, 11, 12, 13, 4, 14, 15, 16, 17, 18, 19, 20, 21, 22, 23, 24, 25, 26, 27, 28, 29] (by decide +kernel) (by decide +kernel)
set_option maxRecDepth 20000 in
theorem gX2_image_X2_copy : GoodIn wsX2_image (wsV RX2 134 RX2 yX2_copy wsX2_copy) := goodIn_app (goodIn_of _ (by decide +kernel)) ggX2_image_X2_copy
theorem dX2_image_0 : decode cX2_image 0 = .ok (.iload_n 1, 1) := by decide +kernel
theorem dX2_image_1 : decode cX2_image 1 = .ok (.iconst 0, 1) := by decide +kernel
theorem dX2_image_2 : decode cX2_image 2 = .ok (.iconst 1, 1) := by decide +kernel
theorem dX2_image_3 : decode cX2_image 3 = .ok (.invokestatic 54, 3) := by decide +kernel
theorem dX2_image_6 : decode cX2_image 6 = .ok (.ifCond .ne 6, 3) := by decide +kernel
theorem dX2_image_9 : decode cX2_image 9 = .ok (.bipush (-2), 2) := by decide +kernel
theorem dX2_image_11 : decode cX2_image 11 = .ok (.ireturn, 1) := by decide +kernel
theorem dX2_image_12 : decode cX2_image 12 = .ok (.iconst 0, 1) := by decide +kernel
theorem dX2_image_13 : decode cX2_image 13 = .ok (.istore_n 2, 1) := by decide +kernel
theorem dX2_image_14 : decode cX2_image 14 = .ok (.iload_n 2, 1) := by decide +kernel
theorem dX2_image_15 : decode cX2_image 15 = .ok (.iconst 4, 1) := by decide +kernel
theorem dX2_image_16 : decode cX2_image 16 = .ok (.if_icmp .ge 21, 3) := by decide +kernel
theorem dX2_image_19 : decode cX2_image 19 = .ok (.aload_n 0, 1) := by decide +kernel
theorem dX2_image_20 : decode cX2_image 20 = .ok (.iload_n 2, 1) := by decide +kernel
theorem dX2_image_21 : decode cX2_image 21 = .ok (.iconst 4, 1) := by decide +kernel
theorem dX2_image_22 : decode cX2_image 22 = .ok (.iconst 4, 1) := by decide +kernel
theorem dX2_image_23 : decode cX2_image 23 = .ok (.iload_n 1, 1) := by decide +kernel
theorem dX2_image_24 : decode cX2_image 24 = .ok (.imul, 1) := by decide +kernel
theorem dX2_image_25 : decode cX2_image 25 = .ok (.iadd, 1) := by decide +kernel
theorem dX2_image_26 : decode cX2_image 26 = .ok (.iload_n 2, 1) := by decide +kernel
theorem dX2_image_27 : decode cX2_image 27 = .ok (.iadd, 1) := by decide +kernel
theorem dX2_image_28 : decode cX2_image 28 = .ok (.invokevirtual 134, 3) := by decide +kernel
theorem dX2_image_31 : decode cX2_image 31 = .ok (.iinc 2 1, 3) := by decide +kernel
theorem dX2_image_34 : decode cX2_image 34 = .ok (.goto (-20), 3) := by decide +kernel
theorem dX2_image_37 : decode cX2_image 37 = .ok (.aload_n 0, 1) := by decide +kernel
theorem dX2_image_38 : decode cX2_image 38 = .ok (.getfield 23, 3) := by decide +kernel
theorem dX2_image_41 : decode cX2_image 41 = .ok (.iload_n 1, 1) := by decide +kernel
theorem dX2_image_42 : decode cX2_image 42 = .ok (.iconst 1, 1) := by decide +kernel
theorem dX2_image_43 : decode cX2_image 43 = .ok (.bastore, 1) := by decide +kernel
theorem dX2_image_44 : decode cX2_image 44 = .ok (.iconst 1, 1) := by decide +kernel
theorem dX2_image_45 : decode cX2_image 45 = .ok (.ireturn, 1) := by decide +kernel
set_option maxRecDepth 20000 in
theorem ggX2_restore_X2_in : GoodIn wsX2_restore wsX2_in := goodIn_r _ [5] (by decide +kernel) (by decide +kernel)
set_option maxRecDepth 20000 in
theorem gX2_restore_X2_in : GoodIn wsX2_restore (va_wsS RX2 54 yX2_in wsX2_in) := goodIn_app (goodIn_of _ (by decide +kernel)) ggX2_restore_X2_in
set_option maxRecDepth 20000 in
theorem ggX2_restore_X2_copy : GoodIn wsX2_restore wsX2_copy := goodIn_r _ [9, 10, 11, 12, 13, 4, 14, 15, 16, 17, 18, 19, 20, 21, 22, 23, 24, 25, 26, 27, 28, 29] (by decide +kernel) (by decide +kernel)
set_option maxRecDepth 20000 in
theorem gX2_restore_X2_copy : GoodIn wsX2_restore (wsV RX2 134 RX2 yX2_copy wsX2_copy) := goodIn_app (goodIn_of _ (by decide +kernel)) ggX2_restore_X2_copy
theorem dX2_restore_0 : decode cX2_restore 0 = .ok (.iload_n 1, 1) := by decide +kernel
theorem dX2_restore_1 : decode cX2_restore 1 = .ok (.iconst 0, 1) := by decide +kernel
theorem dX2_restore_2 : decode cX2_restore 2 = .ok (.iconst 1, 1) := by decide +kernel
theorem dX2_restore_3 : decode cX2_restore 3 = .ok (.invokestatic 54, 3) := by decide +kernel
theorem dX2_restore_6 : decode cX2_restore 6 = .ok (.ifCond .ne 6, 3) := by decide +kernel
theorem dX2_restore_9 : decode cX2_restore 9 = .ok (.bipush (-2), 2) := by decide +kernel
theorem dX2_restore_11 : decode cX2_restore 11 = .ok (.ireturn, 1) := by decide +kernel
theorem dX2_restore_12 : decode cX2_restore 12 = .ok (.aload_n 0, 1) := by decide +kernel
theorem dX2_restore_13 : decode cX2_restore 13 = .ok (.getfield 23, 3) := by decide +kernel
theorem dX2_restore_16 : decode cX2_restore 16 = .ok (.iload_n 1, 1) := by decide +kernel
theorem dX2_restore_17 : decode cX2_restore 17 = .ok (.baload, 1) := by decide +kernel
theorem dX2_restore_18 : decode cX2_restore 18 = .ok (.ifCond .ne 6, 3) := by decide +kernel
theorem dX2_restore_21 : decode cX2_restore 21 = .ok (.bipush (-3), 2) := by decide +kernel
theorem dX2_restore_23 : decode cX2_restore 23 = .ok (.ireturn, 1) := by decide +kernel
theorem dX2_restore_24 : decode cX2_restore 24 = .ok (.iconst 0, 1) := by decide +kernel
theorem dX2_restore_25 : decode cX2_restore 25 = .ok (.istore_n 2, 1) := by decide +kernel
theorem dX2_restore_26 : decode cX2_restore 26 = .ok (.iload_n 2, 1) := by decide +kernel
theorem dX2_restore_27 : decode cX2_restore 27 = .ok (.iconst 4, 1) := by decide +kernel
theorem dX2_restore_28 : decode cX2_restore 28 = .ok (.if_icmp .ge 21, 3) := by decide +kernel
theorem dX2_restore_31 : decode cX2_restore 31 = .ok (.aload_n 0, 1) := by decide +kernel
theorem dX2_restore_32 : decode cX2_restore 32 = .ok (.iconst 4, 1) := by decide +kernel
theorem dX2_restore_33 : decode cX2_restore 33 = .ok (.iconst 4, 1) := by decide +kernel
theorem dX2_restore_34 : decode cX2_restore 34 = .ok (.iload_n 1, 1) := by decide +kernel
theorem dX2_restore_35 : decode cX2_restore 35 = .ok (.imul, 1) := by decide +kernel
theorem dX2_restore_36 : decode cX2_restore 36 = .ok (.iadd, 1) := by decide +kernel
theorem dX2_restore_37 : decode cX2_restore 37 = .ok (.iload_n 2, 1) := by decide +kernel
theorem dX2_restore_38 : decode cX2_restore 38 = .ok (.iadd, 1) := by decide +kernel
theorem dX2_restore_39 : decode cX2_restore 39 = .ok (.iload_n 2, 1) := by decide +kernel
theorem dX2_restore_40 : decode cX2_restore 40 = .ok (.invokevirtual 134, 3) := by decide +kernel
theorem dX2_restore_43 : decode cX2_restore 43 = .ok (.iinc 2 1, 3) := by decide +kernel
theorem dX2_restore_46 : decode cX2_restore 46 = .ok (.goto (-20), 3) := by decide +kernel
theorem dX2_restore_49 : decode cX2_restore 49 = .ok (.iconst 1, 1) := by decide +kernel
theorem dX2_restore_50 : decode cX2_restore 50 = .ok (.ireturn, 1) := by decide +kernel
set_option maxRecDepth 20000 in
theorem ggX2_all_X2_isIn : GoodIn wsX2_all wsX2_isIn := goodIn_r _ [5, 6, 7, 8, 9, 10, 11, 12, 13, 14, 15, 16, 17, 18, 19, 20, 21] (by decide +kernel) (by decide +kernel)
set_option maxRecDepth 20000 in
theorem gX2_all_X2_isIn : GoodIn wsX2_all (wsV RX2 84 RX2 yX2_isIn wsX2_isIn) := goodIn_app (goodIn_of _ (by decide +kernel)) ggX2_all_X2_isIn
theorem dX2_all_0 : decode cX2_all 0 = .ok (.iconst 0, 1) := by decide +kernel
theorem dX2_all_1 : decode cX2_all 1 = .ok (.istore_n 1, 1) := by decide +kernel
theorem dX2_all_2 : decode cX2_all 2 = .ok (.iconst 0, 1) := by decide +kernel
theorem dX2_all_3 : decode cX2_all 3 = .ok (.istore_n 2, 1) := by decide +kernel
theorem dX2_all_4 : decode cX2_all 4 = .ok (.iload_n 2, 1) := by decide +kernel
theorem dX2_all_5 : decode cX2_all 5 = .ok (.sipush 2401, 3) := by decide +kernel
theorem dX2_all_8 : decode cX2_all 8 = .ok (.if_icmp .ge 53, 3) := by decide +kernel
theorem dX2_all_11 : decode cX2_all 11 = .ok (.iload_n 1, 1) := by decide +kernel
theorem dX2_all_12 : decode cX2_all 12 = .ok (.aload_n 0, 1) := by decide +kernel
theorem dX2_all_13 : decode cX2_all 13 = .ok (.iconst 0, 1) := by decide +kernel
theorem dX2_all_14 : decode cX2_all 14 = .ok (.iload_n 2, 1) := by decide +kernel
theorem dX2_all_15 : decode cX2_all 15 = .ok (.invokevirtual 84, 3) := by decide +kernel
theorem dX2_all_18 : decode cX2_all 18 = .ok (.ifCond .ne 30, 3) := by decide +kernel
theorem dX2_all_21 : decode cX2_all 21 = .ok (.aload_n 0, 1) := by decide +kernel
theorem dX2_all_22 : decode cX2_all 22 = .ok (.iconst 1, 1) := by decide +kernel
theorem dX2_all_23 : decode cX2_all 23 = .ok (.iload_n 2, 1) := by decide +kernel
theorem dX2_all_24 : decode cX2_all 24 = .ok (.invokevirtual 84, 3) := by decide +kernel
theorem dX2_all_27 : decode cX2_all 27 = .ok (.ifCond .ne 21, 3) := by decide +kernel
theorem dX2_all_30 : decode cX2_all 30 = .ok (.aload_n 0, 1) := by decide +kernel
theorem dX2_all_31 : decode cX2_all 31 = .ok (.iconst 2, 1) := by decide +kernel
theorem dX2_all_32 : decode cX2_all 32 = .ok (.iload_n 2, 1) := by decide +kernel
theorem dX2_all_33 : decode cX2_all 33 = .ok (.invokevirtual 84, 3) := by decide +kernel
theorem dX2_all_36 : decode cX2_all 36 = .ok (.ifCond .ne 12, 3) := by decide +kernel
theorem dX2_all_39 : decode cX2_all 39 = .ok (.aload_n 0, 1) := by decide +kernel
theorem dX2_all_40 : decode cX2_all 40 = .ok (.iconst 3, 1) := by decide +kernel
theorem dX2_all_41 : decode cX2_all 41 = .ok (.iload_n 2, 1) := by decide +kernel
theorem dX2_all_42 : decode cX2_all 42 = .ok (.invokevirtual 84, 3) := by decide +kernel
theorem dX2_all_45 : decode cX2_all 45 = .ok (.ifCond .eq 7, 3) := by decide +kernel
theorem dX2_all_48 : decode cX2_all 48 = .ok (.iconst 1, 1) := by decide +kernel
theorem dX2_all_49 : decode cX2_all 49 = .ok (.goto 4, 3) := by decide +kernel
theorem dX2_all_52 : decode cX2_all 52 = .ok (.iconst 0, 1) := by decide +kernel
theorem dX2_all_53 : decode cX2_all 53 = .ok (.iadd, 1) := by decide +kernel
theorem dX2_all_54 : decode cX2_all 54 = .ok (.istore_n 1, 1) := by decide +kernel
theorem dX2_all_55 : decode cX2_all 55 = .ok (.iinc 2 1, 3) := by decide +kernel
theorem dX2_all_58 : decode cX2_all 58 = .ok (.goto (-54), 3) := by decide +kernel
theorem dX2_all_61 : decode cX2_all 61 = .ok (.iload_n 1, 1) := by decide +kernel
theorem dX2_all_62 : decode cX2_all 62 = .ok (.ireturn, 1) := by decide +kernel
set_option maxRecDepth 20000 in
theorem ggX2_allPacked_X2_pack : GoodIn wsX2_allPacked wsX2_pack := goodIn_r _ [6, 1, 7, 8, 9, 10, 5, 11, 12, 13, 14, 15, 16, 17, 18, 19, 20, 21, 22, 23, 24, 25, 26, 27, 28, 29, 30, 31, 32, 33, 34, 35, 36, 37, 38] (by decide +kernel) (by decide +kernel)
set_option maxRecDepth 20000 in
theorem gX2_allPacked_X2_pack : GoodIn wsX2_allPacked (wsV RX2 120 RX2 yX2_pack wsX2_pack) := goodIn_app (goodIn_of _ (by decide +kernel)) ggX2_allPacked_X2_pack
theorem dX2_allPacked_0 : decode cX2_allPacked 0 = .ok (.iconst 0, 1) := by decide +kernel
theorem dX2_allPacked_1 : decode cX2_allPacked 1 = .ok (.istore_n 1, 1) := by decide +kernel
theorem dX2_allPacked_2 : decode cX2_allPacked 2 = .ok (.iconst 0, 1) := by decide +kernel
theorem dX2_allPacked_3 : decode cX2_allPacked 3 = .ok (.istore_n 2, 1) := by decide +kernel
theorem dX2_allPacked_4 : decode cX2_allPacked 4 = .ok (.iload_n 2, 1) := by decide +kernel
theorem dX2_allPacked_5 : decode cX2_allPacked 5 = .ok (.iconst 4, 1) := by decide +kernel
theorem dX2_allPacked_6 : decode cX2_allPacked 6 = .ok (.if_icmp .ge 21, 3) := by decide +kernel
theorem dX2_allPacked_9 : decode cX2_allPacked 9 = .ok (.aload_n 0, 1) := by decide +kernel
theorem dX2_allPacked_10 : decode cX2_allPacked 10 = .ok (.iload_n 2, 1) := by decide +kernel
theorem dX2_allPacked_11 : decode cX2_allPacked 11 = .ok (.invokevirtual 120, 3) := by decide +kernel
theorem dX2_allPacked_14 : decode cX2_allPacked 14 = .ok (.iload_n 1, 1) := by decide +kernel
theorem dX2_allPacked_15 : decode cX2_allPacked 15 = .ok (.aload_n 0, 1) := by decide +kernel
theorem dX2_allPacked_16 : decode cX2_allPacked 16 = .ok (.getfield 100, 3) := by decide +kernel
theorem dX2_allPacked_19 : decode cX2_allPacked 19 = .ok (.iadd, 1) := by decide +kernel
theorem dX2_allPacked_20 : decode cX2_allPacked 20 = .ok (.istore_n 1, 1) := by decide +kernel
theorem dX2_allPacked_21 : decode cX2_allPacked 21 = .ok (.iinc 2 1, 3) := by decide +kernel
theorem dX2_allPacked_24 : decode cX2_allPacked 24 = .ok (.goto (-20), 3) := by decide +kernel
theorem dX2_allPacked_27 : decode cX2_allPacked 27 = .ok (.iload_n 1, 1) := by decide +kernel
theorem dX2_allPacked_28 : decode cX2_allPacked 28 = .ok (.ireturn, 1) := by decide +kernel
set_option maxRecDepth 20000 in
theorem ggX2_count_X2_all : GoodIn wsX2_count wsX2_all := goodIn_r _ [6, 7, 8, 9, 5, 10, 11, 33, 34, 35, 36, 37, 38, 39, 40, 41, 42, 43, 44, 45, 46, 47] (by decide +kernel) (by decide +kernel)
set_option maxRecDepth 20000 in
theorem gX2_count_X2_all : GoodIn wsX2_count (wsV RX2 138 RX2 yX2_all wsX2_all) := goodIn_app (goodIn_of _ (by decide +kernel)) ggX2_count_X2_all
set_option maxRecDepth 20000 in
theorem ggX2_count_X2_allPacked : GoodIn wsX2_count wsX2_allPacked := goodIn_r _ [15, 16, 17, 18, 19, 5, 20, 21, 22, 23, 24, 25, 26, 27, 28, 29, 30, 31, 32, 7, 8, 9, 10, 11, 33, 34, 35, 36, 37, 38, 39, 40, 41, 42, 43, 44, 45, 46, 47] (by decide +kernel) (by decide +kernel)
set_option maxRecDepth 20000 in
theorem gX2_count_X2_allPacked : GoodIn wsX2_count (wsV RX2 142 RX2 yX2_allPacked wsX2_allPacked) := goodIn_app (goodIn_of _ (by decide +kernel)) ggX2_count_X2_allPacked
theorem dX2_count_0 : decode cX2_count 0 = .ok (.iload_n 1, 1) := by decide +kernel
theorem dX2_count_1 : decode cX2_count 1 = .ok (.ifCond .ne 10, 3) := by decide +kernel
theorem dX2_count_4 : decode cX2_count 4 = .ok (.aload_n 0, 1) := by decide +kernel
theorem dX2_count_5 : decode cX2_count 5 = .ok (.invokevirtual 138, 3) := by decide +kernel
theorem dX2_count_8 : decode cX2_count 8 = .ok (.goto 54, 3) := by decide +kernel
theorem dX2_count_11 : decode cX2_count 11 = .ok (.iload_n 1, 1) := by decide +kernel
theorem dX2_count_12 : decode cX2_count 12 = .ok (.iconst 1, 1) := by decide +kernel
theorem dX2_count_13 : decode cX2_count 13 = .ok (.if_icmp .ne 10, 3) := by decide +kernel
theorem dX2_count_16 : decode cX2_count 16 = .ok (.aload_n 0, 1) := by decide +kernel
theorem dX2_count_17 : decode cX2_count 17 = .ok (.invokevirtual 142, 3) := by decide +kernel
theorem dX2_count_20 : decode cX2_count 20 = .ok (.goto 42, 3) := by decide +kernel
theorem dX2_count_23 : decode cX2_count 23 = .ok (.iload_n 1, 1) := by decide +kernel
theorem dX2_count_24 : decode cX2_count 24 = .ok (.iconst 2, 1) := by decide +kernel
theorem dX2_count_25 : decode cX2_count 25 = .ok (.if_icmp .ne 35, 3) := by decide +kernel
theorem dX2_count_28 : decode cX2_count 28 = .ok (.aload_n 0, 1) := by decide +kernel
theorem dX2_count_29 : decode cX2_count 29 = .ok (.getfield 23, 3) := by decide +kernel
theorem dX2_count_32 : decode cX2_count 32 = .ok (.iconst 0, 1) := by decide +kernel
theorem dX2_count_33 : decode cX2_count 33 = .ok (.baload, 1) := by decide +kernel
theorem dX2_count_34 : decode cX2_count 34 = .ok (.ifCond .eq 7, 3) := by decide +kernel
theorem dX2_count_37 : decode cX2_count 37 = .ok (.iconst 1, 1) := by decide +kernel
theorem dX2_count_38 : decode cX2_count 38 = .ok (.goto 4, 3) := by decide +kernel
theorem dX2_count_41 : decode cX2_count 41 = .ok (.iconst 0, 1) := by decide +kernel
theorem dX2_count_42 : decode cX2_count 42 = .ok (.aload_n 0, 1) := by decide +kernel
theorem dX2_count_43 : decode cX2_count 43 = .ok (.getfield 23, 3) := by decide +kernel
theorem dX2_count_46 : decode cX2_count 46 = .ok (.iconst 1, 1) := by decide +kernel
theorem dX2_count_47 : decode cX2_count 47 = .ok (.baload, 1) := by decide +kernel
theorem dX2_count_48 : decode cX2_count 48 = .ok (.ifCond .eq 7, 3) := by decide +kernel
theorem dX2_count_51 : decode cX2_count 51 = .ok (.iconst 2, 1) := by decide +kernel
theorem dX2_count_52 : decode cX2_count 52 = .ok (.goto 4, 3) := by decide +kernel
theorem dX2_count_55 : decode cX2_count 55 = .ok (.iconst 0, 1) := by decide +kernel
theorem dX2_count_56 : decode cX2_count 56 = .ok (.iadd, 1) := by decide +kernel
theorem dX2_count_57 : decode cX2_count 57 = .ok (.goto 5, 3) := by decide +kernel
theorem dX2_count_60 : decode cX2_count 60 = .ok (.bipush (-2), 2) := by decide +kernel
theorem dX2_count_62 : decode cX2_count 62 = .ok (.ireturn, 1) := by decide +kernel
