set_option maxRecDepth 20000 in
theorem ggX6_init_X6_firstVoltage : GoodIn wsX6_init wsX6_firstVoltage := goodIn_r _ [29, 30, 31, 32, 33, 34, 35, 36, 37, 38, 39, 40] rfl (by decide +kernel)
set_option maxRecDepth 20000 in
theorem gX6_init_X6_firstVoltage : GoodIn wsX6_init (va_wsS RX6 50 yX6_firstVoltage wsX6_firstVoltage) := goodIn_app (goodIn_of _ (by decide +kernel)) ggX6_init_X6_firstVoltage
set_option maxRecDepth 20000 in
theorem ggX6_init_X6_begins : GoodIn wsX6_init wsX6_begins := goodIn_r _ [44, 5, 35, 25, 16, 45, 46, 47, 28, 48, 49, 50, 51, 52, 53, 54, 55, 56, 57, 58] rfl (by decide +kernel)
set_option maxRecDepth 20000 in
theorem gX6_init_X6_begins : GoodIn wsX6_init (wsV RX6 60 RX6 yX6_begins wsX6_begins) := goodIn_app (goodIn_of _ (by decide +kernel)) ggX6_init_X6_begins
theorem dX6_init_0 : decode cX6_init 0 = .ok (.aload_n 0, 1) := by decide +kernel
theorem dX6_init_1 : decode cX6_init 1 = .ok (.invokespecial 1, 3) := by decide +kernel
theorem dX6_init_4 : decode cX6_init 4 = .ok (.aload_n 0, 1) := by decide +kernel
theorem dX6_init_5 : decode cX6_init 5 = .ok (.sipush 213, 3) := by decide +kernel
theorem dX6_init_8 : decode cX6_init 8 = .ok (.newarray .long, 2) := by decide +kernel
theorem dX6_init_10 : decode cX6_init 10 = .ok (.putfield 7, 3) := by decide +kernel
theorem dX6_init_13 : decode cX6_init 13 = .ok (.aload_n 0, 1) := by decide +kernel
theorem dX6_init_14 : decode cX6_init 14 = .ok (.sipush 852, 3) := by decide +kernel
theorem dX6_init_17 : decode cX6_init 17 = .ok (.newarray .long, 2) := by decide +kernel
theorem dX6_init_19 : decode cX6_init 19 = .ok (.putfield 13, 3) := by decide +kernel
theorem dX6_init_22 : decode cX6_init 22 = .ok (.aload_n 0, 1) := by decide +kernel
theorem dX6_init_23 : decode cX6_init 23 = .ok (.sipush 213, 3) := by decide +kernel
theorem dX6_init_26 : decode cX6_init 26 = .ok (.newarray .long, 2) := by decide +kernel
theorem dX6_init_28 : decode cX6_init 28 = .ok (.putfield 16, 3) := by decide +kernel
theorem dX6_init_31 : decode cX6_init 31 = .ok (.aload_n 0, 1) := by decide +kernel
theorem dX6_init_32 : decode cX6_init 32 = .ok (.bipush 120, 2) := by decide +kernel
theorem dX6_init_34 : decode cX6_init 34 = .ok (.newarray .int, 2) := by decide +kernel
theorem dX6_init_36 : decode cX6_init 36 = .ok (.putfield 19, 3) := by decide +kernel
theorem dX6_init_39 : decode cX6_init 39 = .ok (.aload_n 0, 1) := by decide +kernel
theorem dX6_init_40 : decode cX6_init 40 = .ok (.bipush 63, 2) := by decide +kernel
theorem dX6_init_42 : decode cX6_init 42 = .ok (.newarray .int, 2) := by decide +kernel
theorem dX6_init_44 : decode cX6_init 44 = .ok (.putfield 23, 3) := by decide +kernel
theorem dX6_init_47 : decode cX6_init 47 = .ok (.aload_n 0, 1) := by decide +kernel
theorem dX6_init_48 : decode cX6_init 48 = .ok (.getfield 7, 3) := by decide +kernel
theorem dX6_init_51 : decode cX6_init 51 = .ok (.iconst 0, 1) := by decide +kernel
theorem dX6_init_52 : decode cX6_init 52 = .ok (.ldc2_w 26, 3) := by decide +kernel
theorem dX6_init_55 : decode cX6_init 55 = .ok (.lastore, 1) := by decide +kernel
theorem dX6_init_56 : decode cX6_init 56 = .ok (.aload_n 0, 1) := by decide +kernel
theorem dX6_init_57 : decode cX6_init 57 = .ok (.getfield 7, 3) := by decide +kernel
theorem dX6_init_60 : decode cX6_init 60 = .ok (.iconst 1, 1) := by decide +kernel
theorem dX6_init_61 : decode cX6_init 61 = .ok (.ldc2_w 28, 3) := by decide +kernel
theorem dX6_init_64 : decode cX6_init 64 = .ok (.lastore, 1) := by decide +kernel
theorem dX6_init_65 : decode cX6_init 65 = .ok (.aload_n 0, 1) := by decide +kernel
theorem dX6_init_66 : decode cX6_init 66 = .ok (.getfield 7, 3) := by decide +kernel
theorem dX6_init_69 : decode cX6_init 69 = .ok (.iconst 2, 1) := by decide +kernel
theorem dX6_init_70 : decode cX6_init 70 = .ok (.ldc2_w 30, 3) := by decide +kernel
theorem dX6_init_73 : decode cX6_init 73 = .ok (.lastore, 1) := by decide +kernel
theorem dX6_init_74 : decode cX6_init 74 = .ok (.aload_n 0, 1) := by decide +kernel
theorem dX6_init_75 : decode cX6_init 75 = .ok (.getfield 7, 3) := by decide +kernel
theorem dX6_init_78 : decode cX6_init 78 = .ok (.iconst 3, 1) := by decide +kernel
theorem dX6_init_79 : decode cX6_init 79 = .ok (.ldc2_w 32, 3) := by decide +kernel
theorem dX6_init_82 : decode cX6_init 82 = .ok (.lastore, 1) := by decide +kernel
theorem dX6_init_83 : decode cX6_init 83 = .ok (.aload_n 0, 1) := by decide +kernel
theorem dX6_init_84 : decode cX6_init 84 = .ok (.getfield 7, 3) := by decide +kernel
theorem dX6_init_87 : decode cX6_init 87 = .ok (.iconst 4, 1) := by decide +kernel
theorem dX6_init_88 : decode cX6_init 88 = .ok (.ldc2_w 34, 3) := by decide +kernel
theorem dX6_init_91 : decode cX6_init 91 = .ok (.lastore, 1) := by decide +kernel
theorem dX6_init_92 : decode cX6_init 92 = .ok (.aload_n 0, 1) := by decide +kernel
theorem dX6_init_93 : decode cX6_init 93 = .ok (.getfield 7, 3) := by decide +kernel
theorem dX6_init_96 : decode cX6_init 96 = .ok (.iconst 5, 1) := by decide +kernel
theorem dX6_init_97 : decode cX6_init 97 = .ok (.ldc2_w 36, 3) := by decide +kernel
theorem dX6_init_100 : decode cX6_init 100 = .ok (.lastore, 1) := by decide +kernel
theorem dX6_init_101 : decode cX6_init 101 = .ok (.aload_n 0, 1) := by decide +kernel
theorem dX6_init_102 : decode cX6_init 102 = .ok (.getfield 7, 3) := by decide +kernel
theorem dX6_init_105 : decode cX6_init 105 = .ok (.bipush 6, 2) := by decide +kernel
theorem dX6_init_107 : decode cX6_init 107 = .ok (.ldc2_w 38, 3) := by decide +kernel
theorem dX6_init_110 : decode cX6_init 110 = .ok (.lastore, 1) := by decide +kernel
theorem dX6_init_111 : decode cX6_init 111 = .ok (.aload_n 0, 1) := by decide +kernel
theorem dX6_init_112 : decode cX6_init 112 = .ok (.getfield 7, 3) := by decide +kernel
theorem dX6_init_115 : decode cX6_init 115 = .ok (.bipush 7, 2) := by decide +kernel
theorem dX6_init_117 : decode cX6_init 117 = .ok (.ldc2_w 40, 3) := by decide +kernel
theorem dX6_init_120 : decode cX6_init 120 = .ok (.lastore, 1) := by decide +kernel
theorem dX6_init_121 : decode cX6_init 121 = .ok (.aload_n 0, 1) := by decide +kernel
theorem dX6_init_122 : decode cX6_init 122 = .ok (.getfield 7, 3) := by decide +kernel
theorem dX6_init_125 : decode cX6_init 125 = .ok (.bipush 8, 2) := by decide +kernel
theorem dX6_init_127 : decode cX6_init 127 = .ok (.ldc2_w 42, 3) := by decide +kernel
theorem dX6_init_130 : decode cX6_init 130 = .ok (.lastore, 1) := by decide +kernel
theorem dX6_init_131 : decode cX6_init 131 = .ok (.aload_n 0, 1) := by decide +kernel
theorem dX6_init_132 : decode cX6_init 132 = .ok (.getfield 7, 3) := by decide +kernel
theorem dX6_init_135 : decode cX6_init 135 = .ok (.bipush 9, 2) := by decide +kernel
theorem dX6_init_137 : decode cX6_init 137 = .ok (.ldc2_w 44, 3) := by decide +kernel
theorem dX6_init_140 : decode cX6_init 140 = .ok (.lastore, 1) := by decide +kernel
theorem dX6_init_141 : decode cX6_init 141 = .ok (.aload_n 0, 1) := by decide +kernel
theorem dX6_init_142 : decode cX6_init 142 = .ok (.getfield 7, 3) := by decide +kernel
theorem dX6_init_145 : decode cX6_init 145 = .ok (.bipush 10, 2) := by decide +kernel
theorem dX6_init_147 : decode cX6_init 147 = .ok (.ldc2_w 46, 3) := by decide +kernel
theorem dX6_init_150 : decode cX6_init 150 = .ok (.lastore, 1) := by decide +kernel
theorem dX6_init_151 : decode cX6_init 151 = .ok (.aload_n 0, 1) := by decide +kernel
theorem dX6_init_152 : decode cX6_init 152 = .ok (.getfield 7, 3) := by decide +kernel
theorem dX6_init_155 : decode cX6_init 155 = .ok (.bipush 11, 2) := by decide +kernel
theorem dX6_init_157 : decode cX6_init 157 = .ok (.ldc2_w 48, 3) := by decide +kernel
theorem dX6_init_160 : decode cX6_init 160 = .ok (.lastore, 1) := by decide +kernel
theorem dX6_init_161 : decode cX6_init 161 = .ok (.iconst 0, 1) := by decide +kernel
theorem dX6_init_162 : decode cX6_init 162 = .ok (.istore_n 1, 1) := by decide +kernel
theorem dX6_init_163 : decode cX6_init 163 = .ok (.iload_n 1, 1) := by decide +kernel
theorem dX6_init_164 : decode cX6_init 164 = .ok (.bipush 11, 2) := by decide +kernel
theorem dX6_init_166 : decode cX6_init 166 = .ok (.if_icmp .ge 39, 3) := by decide +kernel
theorem dX6_init_169 : decode cX6_init 169 = .ok (.aload_n 0, 1) := by decide +kernel
theorem dX6_init_170 : decode cX6_init 170 = .ok (.getfield 7, 3) := by decide +kernel
theorem dX6_init_173 : decode cX6_init 173 = .ok (.bipush 12, 2) := by decide +kernel
theorem dX6_init_175 : decode cX6_init 175 = .ok (.iload_n 1, 1) := by decide +kernel
theorem dX6_init_176 : decode cX6_init 176 = .ok (.iadd, 1) := by decide +kernel
theorem dX6_init_177 : decode cX6_init 177 = .ok (.iload_n 1, 1) := by decide +kernel
theorem dX6_init_178 : decode cX6_init 178 = .ok (.invokestatic 50, 3) := by decide +kernel
theorem dX6_init_181 : decode cX6_init 181 = .ok (.lastore, 1) := by decide +kernel
theorem dX6_init_182 : decode cX6_init 182 = .ok (.aload_n 0, 1) := by decide +kernel
theorem dX6_init_183 : decode cX6_init 183 = .ok (.getfield 7, 3) := by decide +kernel
theorem dX6_init_186 : decode cX6_init 186 = .ok (.bipush 23, 2) := by decide +kernel
theorem dX6_init_188 : decode cX6_init 188 = .ok (.iload_n 1, 1) := by decide +kernel
theorem dX6_init_189 : decode cX6_init 189 = .ok (.iadd, 1) := by decide +kernel
theorem dX6_init_190 : decode cX6_init 190 = .ok (.iload_n 1, 1) := by decide +kernel
theorem dX6_init_191 : decode cX6_init 191 = .ok (.invokestatic 50, 3) := by decide +kernel
theorem dX6_init_194 : decode cX6_init 194 = .ok (.ldc2_w 54, 3) := by decide +kernel
theorem dX6_init_197 : decode cX6_init 197 = .ok (.ladd, 1) := by decide +kernel
theorem dX6_init_198 : decode cX6_init 198 = .ok (.lastore, 1) := by decide +kernel
theorem dX6_init_199 : decode cX6_init 199 = .ok (.iinc 1 1, 3) := by decide +kernel
theorem dX6_init_202 : decode cX6_init 202 = .ok (.goto (-39), 3) := by decide +kernel
theorem dX6_init_205 : decode cX6_init 205 = .ok (.aload_n 0, 1) := by decide +kernel
theorem dX6_init_206 : decode cX6_init 206 = .ok (.ldc2_w 56, 3) := by decide +kernel
theorem dX6_init_209 : decode cX6_init 209 = .ok (.ldc2_w 58, 3) := by decide +kernel
theorem dX6_init_212 : decode cX6_init 212 = .ok (.invokevirtual 60, 3) := by decide +kernel
theorem dX6_init_215 : decode cX6_init 215 = .ok (.return_, 1) := by decide +kernel
theorem dX6_firstVoltage_0 : decode cX6_firstVoltage 0 = .ok (.iload_n 0, 1) := by decide +kernel
theorem dX6_firstVoltage_1 : decode cX6_firstVoltage 1 = .ok (.tableswitch 95 0 9 #[55, 59, 63, 67, 71, 75, 79, 83, 87, 91], 55) := by decide +kernel
theorem dX6_firstVoltage_56 : decode cX6_firstVoltage 56 = .ok (.ldc2_w 64, 3) := by decide +kernel
theorem dX6_firstVoltage_59 : decode cX6_firstVoltage 59 = .ok (.lreturn, 1) := by decide +kernel
theorem dX6_firstVoltage_60 : decode cX6_firstVoltage 60 = .ok (.ldc2_w 66, 3) := by decide +kernel
theorem dX6_firstVoltage_63 : decode cX6_firstVoltage 63 = .ok (.lreturn, 1) := by decide +kernel
theorem dX6_firstVoltage_64 : decode cX6_firstVoltage 64 = .ok (.ldc2_w 68, 3) := by decide +kernel
theorem dX6_firstVoltage_67 : decode cX6_firstVoltage 67 = .ok (.lreturn, 1) := by decide +kernel
theorem dX6_firstVoltage_68 : decode cX6_firstVoltage 68 = .ok (.ldc2_w 70, 3) := by decide +kernel
theorem dX6_firstVoltage_71 : decode cX6_firstVoltage 71 = .ok (.lreturn, 1) := by decide +kernel
theorem dX6_firstVoltage_72 : decode cX6_firstVoltage 72 = .ok (.ldc2_w 72, 3) := by decide +kernel
theorem dX6_firstVoltage_75 : decode cX6_firstVoltage 75 = .ok (.lreturn, 1) := by decide +kernel
theorem dX6_firstVoltage_76 : decode cX6_firstVoltage 76 = .ok (.ldc2_w 74, 3) := by decide +kernel
theorem dX6_firstVoltage_79 : decode cX6_firstVoltage 79 = .ok (.lreturn, 1) := by decide +kernel
theorem dX6_firstVoltage_80 : decode cX6_firstVoltage 80 = .ok (.ldc2_w 76, 3) := by decide +kernel
theorem dX6_firstVoltage_83 : decode cX6_firstVoltage 83 = .ok (.lreturn, 1) := by decide +kernel
theorem dX6_firstVoltage_84 : decode cX6_firstVoltage 84 = .ok (.ldc2_w 78, 3) := by decide +kernel
theorem dX6_firstVoltage_87 : decode cX6_firstVoltage 87 = .ok (.lreturn, 1) := by decide +kernel
theorem dX6_firstVoltage_88 : decode cX6_firstVoltage 88 = .ok (.ldc2_w 80, 3) := by decide +kernel
theorem dX6_firstVoltage_91 : decode cX6_firstVoltage 91 = .ok (.lreturn, 1) := by decide +kernel
theorem dX6_firstVoltage_92 : decode cX6_firstVoltage 92 = .ok (.ldc2_w 82, 3) := by decide +kernel
theorem dX6_firstVoltage_95 : decode cX6_firstVoltage 95 = .ok (.lreturn, 1) := by decide +kernel
theorem dX6_firstVoltage_96 : decode cX6_firstVoltage 96 = .ok (.ldc2_w 84, 3) := by decide +kernel
theorem dX6_firstVoltage_99 : decode cX6_firstVoltage 99 = .ok (.lreturn, 1) := by decide +kernel
theorem dX6_thrown_0 : decode cX6_thrown 0 = .ok (.aload_n 0, 1) := by decide +kernel
theorem dX6_thrown_1 : decode cX6_thrown 1 = .ok (.getfield 86, 3) := by decide +kernel
theorem dX6_thrown_4 : decode cX6_thrown 4 = .ok (.ireturn, 1) := by decide +kernel
theorem dX6_in_0 : decode cX6_in 0 = .ok (.lload_n 0, 1) := by decide +kernel
theorem dX6_in_1 : decode cX6_in 1 = .ok (.lload_n 2, 1) := by decide +kernel
theorem dX6_in_2 : decode cX6_in 2 = .ok (.lcmp, 1) := by decide +kernel
theorem dX6_in_3 : decode cX6_in 3 = .ok (.ifCond .lt 14, 3) := by decide +kernel
theorem dX6_in_6 : decode cX6_in 6 = .ok (.lload_n 0, 1) := by decide +kernel
theorem dX6_in_7 : decode cX6_in 7 = .ok (.lload 4, 2) := by decide +kernel
theorem dX6_in_9 : decode cX6_in 9 = .ok (.lcmp, 1) := by decide +kernel
theorem dX6_in_10 : decode cX6_in 10 = .ok (.ifCond .gt 7, 3) := by decide +kernel
theorem dX6_in_13 : decode cX6_in 13 = .ok (.iconst 1, 1) := by decide +kernel
theorem dX6_in_14 : decode cX6_in 14 = .ok (.goto 4, 3) := by decide +kernel
theorem dX6_in_17 : decode cX6_in 17 = .ok (.iconst 0, 1) := by decide +kernel
theorem dX6_in_18 : decode cX6_in 18 = .ok (.ireturn, 1) := by decide +kernel
theorem dX6_goes_0 : decode cX6_goes 0 = .ok (.aload_n 0, 1) := by decide +kernel
theorem dX6_goes_1 : decode cX6_goes 1 = .ok (.iload_n 1, 1) := by decide +kernel
theorem dX6_goes_2 : decode cX6_goes 2 = .ok (.ifCond .ne 7, 3) := by decide +kernel
theorem dX6_goes_5 : decode cX6_goes 5 = .ok (.iconst 1, 1) := by decide +kernel
theorem dX6_goes_6 : decode cX6_goes 6 = .ok (.goto 12, 3) := by decide +kernel
theorem dX6_goes_9 : decode cX6_goes 9 = .ok (.iload_n 2, 1) := by decide +kernel
theorem dX6_goes_10 : decode cX6_goes 10 = .ok (.ifCond .ne 7, 3) := by decide +kernel
theorem dX6_goes_13 : decode cX6_goes 13 = .ok (.iconst 2, 1) := by decide +kernel
theorem dX6_goes_14 : decode cX6_goes 14 = .ok (.goto 4, 3) := by decide +kernel
theorem dX6_goes_17 : decode cX6_goes 17 = .ok (.iconst 0, 1) := by decide +kernel
theorem dX6_goes_18 : decode cX6_goes 18 = .ok (.putfield 86, 3) := by decide +kernel
theorem dX6_goes_21 : decode cX6_goes 21 = .ok (.aload_n 0, 1) := by decide +kernel
theorem dX6_goes_22 : decode cX6_goes 22 = .ok (.getfield 86, 3) := by decide +kernel
theorem dX6_goes_25 : decode cX6_goes 25 = .ok (.ifCond .ne 7, 3) := by decide +kernel
theorem dX6_goes_28 : decode cX6_goes 28 = .ok (.iconst 1, 1) := by decide +kernel
theorem dX6_goes_29 : decode cX6_goes 29 = .ok (.goto 4, 3) := by decide +kernel
theorem dX6_goes_32 : decode cX6_goes 32 = .ok (.iconst 0, 1) := by decide +kernel
theorem dX6_goes_33 : decode cX6_goes 33 = .ok (.ireturn, 1) := by decide +kernel
theorem dX6_save_0 : decode cX6_save 0 = .ok (.aload_n 0, 1) := by decide +kernel
theorem dX6_save_1 : decode cX6_save 1 = .ok (.getfield 90, 3) := by decide +kernel
theorem dX6_save_4 : decode cX6_save 4 = .ok (.iconst 4, 1) := by decide +kernel
theorem dX6_save_5 : decode cX6_save 5 = .ok (.if_icmp .ne 44, 3) := by decide +kernel
theorem dX6_save_8 : decode cX6_save 8 = .ok (.iconst 0, 1) := by decide +kernel
theorem dX6_save_9 : decode cX6_save 9 = .ok (.istore_n 1, 1) := by decide +kernel
theorem dX6_save_10 : decode cX6_save 10 = .ok (.iload_n 1, 1) := by decide +kernel
theorem dX6_save_11 : decode cX6_save 11 = .ok (.sipush 639, 3) := by decide +kernel
theorem dX6_save_14 : decode cX6_save 14 = .ok (.if_icmp .ge 25, 3) := by decide +kernel
theorem dX6_save_17 : decode cX6_save 17 = .ok (.aload_n 0, 1) := by decide +kernel
theorem dX6_save_18 : decode cX6_save 18 = .ok (.getfield 13, 3) := by decide +kernel
theorem dX6_save_21 : decode cX6_save 21 = .ok (.iload_n 1, 1) := by decide +kernel
theorem dX6_save_22 : decode cX6_save 22 = .ok (.aload_n 0, 1) := by decide +kernel
theorem dX6_save_23 : decode cX6_save 23 = .ok (.getfield 13, 3) := by decide +kernel
theorem dX6_save_26 : decode cX6_save 26 = .ok (.iload_n 1, 1) := by decide +kernel
theorem dX6_save_27 : decode cX6_save 27 = .ok (.sipush 213, 3) := by decide +kernel
theorem dX6_save_30 : decode cX6_save 30 = .ok (.iadd, 1) := by decide +kernel
theorem dX6_save_31 : decode cX6_save 31 = .ok (.laload, 1) := by decide +kernel
theorem dX6_save_32 : decode cX6_save 32 = .ok (.lastore, 1) := by decide +kernel
theorem dX6_save_33 : decode cX6_save 33 = .ok (.iinc 1 1, 3) := by decide +kernel
theorem dX6_save_36 : decode cX6_save 36 = .ok (.goto (-26), 3) := by decide +kernel
theorem dX6_save_39 : decode cX6_save 39 = .ok (.aload_n 0, 1) := by decide +kernel
theorem dX6_save_40 : decode cX6_save 40 = .ok (.dup, 1) := by decide +kernel
theorem dX6_save_41 : decode cX6_save 41 = .ok (.getfield 90, 3) := by decide +kernel
theorem dX6_save_44 : decode cX6_save 44 = .ok (.iconst 1, 1) := by decide +kernel
theorem dX6_save_45 : decode cX6_save 45 = .ok (.isub, 1) := by decide +kernel
theorem dX6_save_46 : decode cX6_save 46 = .ok (.putfield 90, 3) := by decide +kernel
theorem dX6_save_49 : decode cX6_save 49 = .ok (.iconst 0, 1) := by decide +kernel
theorem dX6_save_50 : decode cX6_save 50 = .ok (.istore_n 1, 1) := by decide +kernel
theorem dX6_save_51 : decode cX6_save 51 = .ok (.iload_n 1, 1) := by decide +kernel
theorem dX6_save_52 : decode cX6_save 52 = .ok (.sipush 213, 3) := by decide +kernel
theorem dX6_save_55 : decode cX6_save 55 = .ok (.if_icmp .ge 30, 3) := by decide +kernel
theorem dX6_save_58 : decode cX6_save 58 = .ok (.aload_n 0, 1) := by decide +kernel
theorem dX6_save_59 : decode cX6_save 59 = .ok (.getfield 13, 3) := by decide +kernel
theorem dX6_save_62 : decode cX6_save 62 = .ok (.sipush 213, 3) := by decide +kernel
theorem dX6_save_65 : decode cX6_save 65 = .ok (.aload_n 0, 1) := by decide +kernel
theorem dX6_save_66 : decode cX6_save 66 = .ok (.getfield 90, 3) := by decide +kernel
theorem dX6_save_69 : decode cX6_save 69 = .ok (.imul, 1) := by decide +kernel
theorem dX6_save_70 : decode cX6_save 70 = .ok (.iload_n 1, 1) := by decide +kernel
theorem dX6_save_71 : decode cX6_save 71 = .ok (.iadd, 1) := by decide +kernel
theorem dX6_save_72 : decode cX6_save 72 = .ok (.aload_n 0, 1) := by decide +kernel
theorem dX6_save_73 : decode cX6_save 73 = .ok (.getfield 7, 3) := by decide +kernel
theorem dX6_save_76 : decode cX6_save 76 = .ok (.iload_n 1, 1) := by decide +kernel
theorem dX6_save_77 : decode cX6_save 77 = .ok (.laload, 1) := by decide +kernel
theorem dX6_save_78 : decode cX6_save 78 = .ok (.lastore, 1) := by decide +kernel
theorem dX6_save_79 : decode cX6_save 79 = .ok (.iinc 1 1, 3) := by decide +kernel
theorem dX6_save_82 : decode cX6_save 82 = .ok (.goto (-31), 3) := by decide +kernel
theorem dX6_save_85 : decode cX6_save 85 = .ok (.aload_n 0, 1) := by decide +kernel
theorem dX6_save_86 : decode cX6_save 86 = .ok (.dup, 1) := by decide +kernel
theorem dX6_save_87 : decode cX6_save 87 = .ok (.getfield 90, 3) := by decide +kernel
theorem dX6_save_90 : decode cX6_save 90 = .ok (.iconst 1, 1) := by decide +kernel
theorem dX6_save_91 : decode cX6_save 91 = .ok (.iadd, 1) := by decide +kernel
theorem dX6_save_92 : decode cX6_save 92 = .ok (.putfield 90, 3) := by decide +kernel
theorem dX6_save_95 : decode cX6_save 95 = .ok (.return_, 1) := by decide +kernel
theorem dX6_floor_0 : decode cX6_floor 0 = .ok (.lload_n 0, 1) := by decide +kernel
theorem dX6_floor_1 : decode cX6_floor 1 = .ok (.lconst 0, 1) := by decide +kernel
theorem dX6_floor_2 : decode cX6_floor 2 = .ok (.lcmp, 1) := by decide +kernel
theorem dX6_floor_3 : decode cX6_floor 3 = .ok (.ifCond .lt 9, 3) := by decide +kernel
theorem dX6_floor_6 : decode cX6_floor 6 = .ok (.lload_n 0, 1) := by decide +kernel
theorem dX6_floor_7 : decode cX6_floor 7 = .ok (.lload_n 2, 1) := by decide +kernel
theorem dX6_floor_8 : decode cX6_floor 8 = .ok (.ldiv, 1) := by decide +kernel
theorem dX6_floor_9 : decode cX6_floor 9 = .ok (.goto 12, 3) := by decide +kernel
theorem dX6_floor_12 : decode cX6_floor 12 = .ok (.lload_n 0, 1) := by decide +kernel
theorem dX6_floor_13 : decode cX6_floor 13 = .ok (.lneg, 1) := by decide +kernel
theorem dX6_floor_14 : decode cX6_floor 14 = .ok (.lload_n 2, 1) := by decide +kernel
theorem dX6_floor_15 : decode cX6_floor 15 = .ok (.ladd, 1) := by decide +kernel
theorem dX6_floor_16 : decode cX6_floor 16 = .ok (.lconst 1, 1) := by decide +kernel
theorem dX6_floor_17 : decode cX6_floor 17 = .ok (.lsub, 1) := by decide +kernel
theorem dX6_floor_18 : decode cX6_floor 18 = .ok (.lload_n 2, 1) := by decide +kernel
theorem dX6_floor_19 : decode cX6_floor 19 = .ok (.ldiv, 1) := by decide +kernel
theorem dX6_floor_20 : decode cX6_floor 20 = .ok (.lneg, 1) := by decide +kernel
theorem dX6_floor_21 : decode cX6_floor 21 = .ok (.lreturn, 1) := by decide +kernel
theorem dX6_clamp_0 : decode cX6_clamp 0 = .ok (.lload_n 0, 1) := by decide +kernel
theorem dX6_clamp_1 : decode cX6_clamp 1 = .ok (.lload_n 2, 1) := by decide +kernel
theorem dX6_clamp_2 : decode cX6_clamp 2 = .ok (.lcmp, 1) := by decide +kernel
theorem dX6_clamp_3 : decode cX6_clamp 3 = .ok (.ifCond .ge 7, 3) := by decide +kernel
theorem dX6_clamp_6 : decode cX6_clamp 6 = .ok (.lload_n 2, 1) := by decide +kernel
theorem dX6_clamp_7 : decode cX6_clamp 7 = .ok (.goto 16, 3) := by decide +kernel
theorem dX6_clamp_10 : decode cX6_clamp 10 = .ok (.lload_n 0, 1) := by decide +kernel
theorem dX6_clamp_11 : decode cX6_clamp 11 = .ok (.lload 4, 2) := by decide +kernel
theorem dX6_clamp_13 : decode cX6_clamp 13 = .ok (.lcmp, 1) := by decide +kernel
theorem dX6_clamp_14 : decode cX6_clamp 14 = .ok (.ifCond .le 8, 3) := by decide +kernel
theorem dX6_clamp_17 : decode cX6_clamp 17 = .ok (.lload 4, 2) := by decide +kernel
theorem dX6_clamp_19 : decode cX6_clamp 19 = .ok (.goto 4, 3) := by decide +kernel
theorem dX6_clamp_22 : decode cX6_clamp 22 = .ok (.lload_n 0, 1) := by decide +kernel
theorem dX6_clamp_23 : decode cX6_clamp 23 = .ok (.lreturn, 1) := by decide +kernel
theorem dX6_size_0 : decode cX6_size 0 = .ok (.lload_n 0, 1) := by decide +kernel
theorem dX6_size_1 : decode cX6_size 1 = .ok (.lconst 0, 1) := by decide +kernel
theorem dX6_size_2 : decode cX6_size 2 = .ok (.lcmp, 1) := by decide +kernel
theorem dX6_size_3 : decode cX6_size 3 = .ok (.ifCond .ge 8, 3) := by decide +kernel
theorem dX6_size_6 : decode cX6_size 6 = .ok (.lload_n 0, 1) := by decide +kernel
theorem dX6_size_7 : decode cX6_size 7 = .ok (.lneg, 1) := by decide +kernel
theorem dX6_size_8 : decode cX6_size 8 = .ok (.goto 4, 3) := by decide +kernel
theorem dX6_size_11 : decode cX6_size 11 = .ok (.lload_n 0, 1) := by decide +kernel
theorem dX6_size_12 : decode cX6_size 12 = .ok (.lreturn, 1) := by decide +kernel
set_option maxRecDepth 20000 in
theorem ggX6_begins_X6_floor : GoodIn wsX6_begins wsX6_floor := goodIn_r _ [9] rfl (by decide +kernel)
set_option maxRecDepth 20000 in
theorem gX6_begins_X6_floor : GoodIn wsX6_begins (va_wsS RX6 95 yX6_floor wsX6_floor) := goodIn_app (goodIn_of _ (by decide +kernel)) ggX6_begins_X6_floor
theorem dX6_begins_0 : decode cX6_begins 0 = .ok (.bipush 34, 2) := by decide +kernel
theorem dX6_begins_2 : decode cX6_begins 2 = .ok (.istore 5, 2) := by decide +kernel
theorem dX6_begins_4 : decode cX6_begins 4 = .ok (.iload 5, 2) := by decide +kernel
theorem dX6_begins_6 : decode cX6_begins 6 = .ok (.bipush 52, 2) := by decide +kernel
theorem dX6_begins_8 : decode cX6_begins 8 = .ok (.if_icmp .gt 17, 3) := by decide +kernel
theorem dX6_begins_11 : decode cX6_begins 11 = .ok (.aload_n 0, 1) := by decide +kernel
theorem dX6_begins_12 : decode cX6_begins 12 = .ok (.getfield 7, 3) := by decide +kernel
theorem dX6_begins_15 : decode cX6_begins 15 = .ok (.iload 5, 2) := by decide +kernel
theorem dX6_begins_17 : decode cX6_begins 17 = .ok (.lconst 0, 1) := by decide +kernel
theorem dX6_begins_18 : decode cX6_begins 18 = .ok (.lastore, 1) := by decide +kernel
theorem dX6_begins_19 : decode cX6_begins 19 = .ok (.iinc 5 1, 3) := by decide +kernel
theorem dX6_begins_22 : decode cX6_begins 22 = .ok (.goto (-18), 3) := by decide +kernel
theorem dX6_begins_25 : decode cX6_begins 25 = .ok (.aload_n 0, 1) := by decide +kernel
theorem dX6_begins_26 : decode cX6_begins 26 = .ok (.getfield 7, 3) := by decide +kernel
theorem dX6_begins_29 : decode cX6_begins 29 = .ok (.bipush 38, 2) := by decide +kernel
theorem dX6_begins_31 : decode cX6_begins 31 = .ok (.ldc2_w 74, 3) := by decide +kernel
theorem dX6_begins_34 : decode cX6_begins 34 = .ok (.lload_n 1, 1) := by decide +kernel
theorem dX6_begins_35 : decode cX6_begins 35 = .ok (.lmul, 1) := by decide +kernel
theorem dX6_begins_36 : decode cX6_begins 36 = .ok (.lastore, 1) := by decide +kernel
theorem dX6_begins_37 : decode cX6_begins 37 = .ok (.aload_n 0, 1) := by decide +kernel
theorem dX6_begins_38 : decode cX6_begins 38 = .ok (.getfield 7, 3) := by decide +kernel
theorem dX6_begins_41 : decode cX6_begins 41 = .ok (.bipush 37, 2) := by decide +kernel
theorem dX6_begins_43 : decode cX6_begins 43 = .ok (.aload_n 0, 1) := by decide +kernel
theorem dX6_begins_44 : decode cX6_begins 44 = .ok (.getfield 7, 3) := by decide +kernel
theorem dX6_begins_47 : decode cX6_begins 47 = .ok (.bipush 38, 2) := by decide +kernel
theorem dX6_begins_49 : decode cX6_begins 49 = .ok (.laload, 1) := by decide +kernel
theorem dX6_begins_50 : decode cX6_begins 50 = .ok (.lastore, 1) := by decide +kernel
theorem dX6_begins_51 : decode cX6_begins 51 = .ok (.aload_n 0, 1) := by decide +kernel
theorem dX6_begins_52 : decode cX6_begins 52 = .ok (.getfield 7, 3) := by decide +kernel
theorem dX6_begins_55 : decode cX6_begins 55 = .ok (.bipush 34, 2) := by decide +kernel
theorem dX6_begins_57 : decode cX6_begins 57 = .ok (.lload_n 3, 1) := by decide +kernel
theorem dX6_begins_58 : decode cX6_begins 58 = .ok (.ldc2_w 58, 3) := by decide +kernel
theorem dX6_begins_61 : decode cX6_begins 61 = .ok (.lcmp, 1) := by decide +kernel
theorem dX6_begins_62 : decode cX6_begins 62 = .ok (.ifCond .ne 17, 3) := by decide +kernel
theorem dX6_begins_65 : decode cX6_begins 65 = .ok (.aload_n 0, 1) := by decide +kernel
theorem dX6_begins_66 : decode cX6_begins 66 = .ok (.getfield 7, 3) := by decide +kernel
theorem dX6_begins_69 : decode cX6_begins 69 = .ok (.bipush 38, 2) := by decide +kernel
theorem dX6_begins_71 : decode cX6_begins 71 = .ok (.laload, 1) := by decide +kernel
theorem dX6_begins_72 : decode cX6_begins 72 = .ok (.ldc2_w 36, 3) := by decide +kernel
theorem dX6_begins_75 : decode cX6_begins 75 = .ok (.ldiv, 1) := by decide +kernel
theorem dX6_begins_76 : decode cX6_begins 76 = .ok (.goto 18, 3) := by decide +kernel
theorem dX6_begins_79 : decode cX6_begins 79 = .ok (.aload_n 0, 1) := by decide +kernel
theorem dX6_begins_80 : decode cX6_begins 80 = .ok (.getfield 7, 3) := by decide +kernel
theorem dX6_begins_83 : decode cX6_begins 83 = .ok (.bipush 38, 2) := by decide +kernel
theorem dX6_begins_85 : decode cX6_begins 85 = .ok (.laload, 1) := by decide +kernel
theorem dX6_begins_86 : decode cX6_begins 86 = .ok (.lload_n 3, 1) := by decide +kernel
theorem dX6_begins_87 : decode cX6_begins 87 = .ok (.lmul, 1) := by decide +kernel
theorem dX6_begins_88 : decode cX6_begins 88 = .ok (.ldc2_w 93, 3) := by decide +kernel
theorem dX6_begins_91 : decode cX6_begins 91 = .ok (.invokestatic 95, 3) := by decide +kernel
theorem dX6_begins_94 : decode cX6_begins 94 = .ok (.lastore, 1) := by decide +kernel
theorem dX6_begins_95 : decode cX6_begins 95 = .ok (.aload_n 0, 1) := by decide +kernel
theorem dX6_begins_96 : decode cX6_begins 96 = .ok (.getfield 7, 3) := by decide +kernel
theorem dX6_begins_99 : decode cX6_begins 99 = .ok (.bipush 35, 2) := by decide +kernel
theorem dX6_begins_101 : decode cX6_begins 101 = .ok (.lload_n 3, 1) := by decide +kernel
theorem dX6_begins_102 : decode cX6_begins 102 = .ok (.ldc2_w 58, 3) := by decide +kernel
theorem dX6_begins_105 : decode cX6_begins 105 = .ok (.lcmp, 1) := by decide +kernel
theorem dX6_begins_106 : decode cX6_begins 106 = .ok (.ifCond .ne 7, 3) := by decide +kernel
theorem dX6_begins_109 : decode cX6_begins 109 = .ok (.lconst 0, 1) := by decide +kernel
theorem dX6_begins_110 : decode cX6_begins 110 = .ok (.goto 10, 3) := by decide +kernel
theorem dX6_begins_113 : decode cX6_begins 113 = .ok (.aload_n 0, 1) := by decide +kernel
theorem dX6_begins_114 : decode cX6_begins 114 = .ok (.getfield 7, 3) := by decide +kernel
theorem dX6_begins_117 : decode cX6_begins 117 = .ok (.bipush 34, 2) := by decide +kernel
theorem dX6_begins_119 : decode cX6_begins 119 = .ok (.laload, 1) := by decide +kernel
theorem dX6_begins_120 : decode cX6_begins 120 = .ok (.lastore, 1) := by decide +kernel
theorem dX6_begins_121 : decode cX6_begins 121 = .ok (.aload_n 0, 1) := by decide +kernel
theorem dX6_begins_122 : decode cX6_begins 122 = .ok (.getfield 7, 3) := by decide +kernel
theorem dX6_begins_125 : decode cX6_begins 125 = .ok (.bipush 36, 2) := by decide +kernel
theorem dX6_begins_127 : decode cX6_begins 127 = .ok (.lload_n 3, 1) := by decide +kernel
theorem dX6_begins_128 : decode cX6_begins 128 = .ok (.ldc2_w 58, 3) := by decide +kernel
theorem dX6_begins_131 : decode cX6_begins 131 = .ok (.lcmp, 1) := by decide +kernel
theorem dX6_begins_132 : decode cX6_begins 132 = .ok (.ifCond .ne 13, 3) := by decide +kernel
theorem dX6_begins_135 : decode cX6_begins 135 = .ok (.aload_n 0, 1) := by decide +kernel
theorem dX6_begins_136 : decode cX6_begins 136 = .ok (.getfield 7, 3) := by decide +kernel
theorem dX6_begins_139 : decode cX6_begins 139 = .ok (.bipush 38, 2) := by decide +kernel
theorem dX6_begins_141 : decode cX6_begins 141 = .ok (.laload, 1) := by decide +kernel
theorem dX6_begins_142 : decode cX6_begins 142 = .ok (.goto 10, 3) := by decide +kernel
theorem dX6_begins_145 : decode cX6_begins 145 = .ok (.aload_n 0, 1) := by decide +kernel
theorem dX6_begins_146 : decode cX6_begins 146 = .ok (.getfield 7, 3) := by decide +kernel
theorem dX6_begins_149 : decode cX6_begins 149 = .ok (.bipush 34, 2) := by decide +kernel
theorem dX6_begins_151 : decode cX6_begins 151 = .ok (.laload, 1) := by decide +kernel
theorem dX6_begins_152 : decode cX6_begins 152 = .ok (.lastore, 1) := by decide +kernel
theorem dX6_begins_153 : decode cX6_begins 153 = .ok (.return_, 1) := by decide +kernel
set_option maxRecDepth 20000 in
theorem ggX6_begin_X6_in : GoodIn wsX6_begin wsX6_in := goodIn_r _ [9] rfl (by decide +kernel)
set_option maxRecDepth 20000 in
theorem gX6_begin_X6_in : GoodIn wsX6_begin (va_wsS RX6 101 yX6_in wsX6_in) := goodIn_app (goodIn_of _ (by decide +kernel)) ggX6_begin_X6_in
set_option maxRecDepth 20000 in
theorem ggX6_begin_X6_goes : GoodIn wsX6_begin wsX6_goes := goodIn_r _ [13, 14, 30, 31, 32, 33, 34, 35, 36, 37, 38, 39] rfl (by decide +kernel)
set_option maxRecDepth 20000 in
theorem gX6_begin_X6_goes : GoodIn wsX6_begin (wsV RX6 105 RX6 yX6_goes wsX6_goes) := goodIn_app (goodIn_of _ (by decide +kernel)) ggX6_begin_X6_goes
set_option maxRecDepth 20000 in
theorem ggX6_begin_X6_save : GoodIn wsX6_begin wsX6_save := goodIn_r _ [18, 19, 20, 5, 30, 31, 32, 33, 34, 35, 36, 37, 38, 39] rfl (by decide +kernel)
set_option maxRecDepth 20000 in
theorem gX6_begin_X6_save : GoodIn wsX6_begin (wsV RX6 109 RX6 yX6_save wsX6_save) := goodIn_app (goodIn_of _ (by decide +kernel)) ggX6_begin_X6_save
set_option maxRecDepth 20000 in
theorem ggX6_begin_X6_begins : GoodIn wsX6_begin wsX6_begins := goodIn_r _ [24, 5, 25, 3, 26, 4, 27, 28, 8, 29, 30, 31, 32, 33, 34, 35, 36, 37, 38, 39] rfl (by decide +kernel)
set_option maxRecDepth 20000 in
theorem gX6_begin_X6_begins : GoodIn wsX6_begin (wsV RX6 60 RX6 yX6_begins wsX6_begins) := goodIn_app (goodIn_of _ (by decide +kernel)) ggX6_begin_X6_begins
theorem dX6_begin_0 : decode cX6_begin 0 = .ok (.aload_n 0, 1) := by decide +kernel
theorem dX6_begin_1 : decode cX6_begin 1 = .ok (.iload_n 1, 1) := by decide +kernel
theorem dX6_begin_2 : decode cX6_begin 2 = .ok (.i2l, 1) := by decide +kernel
theorem dX6_begin_3 : decode cX6_begin 3 = .ok (.ldc2_w 44, 3) := by decide +kernel
theorem dX6_begin_6 : decode cX6_begin 6 = .ok (.ldc2_w 99, 3) := by decide +kernel
theorem dX6_begin_9 : decode cX6_begin 9 = .ok (.invokestatic 101, 3) := by decide +kernel
theorem dX6_begin_12 : decode cX6_begin 12 = .ok (.ifCond .eq 21, 3) := by decide +kernel
theorem dX6_begin_15 : decode cX6_begin 15 = .ok (.iload_n 2, 1) := by decide +kernel
theorem dX6_begin_16 : decode cX6_begin 16 = .ok (.i2l, 1) := by decide +kernel
theorem dX6_begin_17 : decode cX6_begin 17 = .ok (.ldc2_w 58, 3) := by decide +kernel
theorem dX6_begin_20 : decode cX6_begin 20 = .ok (.ldc2_w 93, 3) := by decide +kernel
theorem dX6_begin_23 : decode cX6_begin 23 = .ok (.invokestatic 101, 3) := by decide +kernel
theorem dX6_begin_26 : decode cX6_begin 26 = .ok (.ifCond .eq 7, 3) := by decide +kernel
theorem dX6_begin_29 : decode cX6_begin 29 = .ok (.iconst 1, 1) := by decide +kernel
theorem dX6_begin_30 : decode cX6_begin 30 = .ok (.goto 4, 3) := by decide +kernel
theorem dX6_begin_33 : decode cX6_begin 33 = .ok (.iconst 0, 1) := by decide +kernel
theorem dX6_begin_34 : decode cX6_begin 34 = .ok (.iconst 1, 1) := by decide +kernel
theorem dX6_begin_35 : decode cX6_begin 35 = .ok (.invokevirtual 105, 3) := by decide +kernel
theorem dX6_begin_38 : decode cX6_begin 38 = .ok (.ifCond .ne 5, 3) := by decide +kernel
theorem dX6_begin_41 : decode cX6_begin 41 = .ok (.iconst 0, 1) := by decide +kernel
theorem dX6_begin_42 : decode cX6_begin 42 = .ok (.ireturn, 1) := by decide +kernel
theorem dX6_begin_43 : decode cX6_begin 43 = .ok (.aload_n 0, 1) := by decide +kernel
theorem dX6_begin_44 : decode cX6_begin 44 = .ok (.invokevirtual 109, 3) := by decide +kernel
theorem dX6_begin_47 : decode cX6_begin 47 = .ok (.aload_n 0, 1) := by decide +kernel
theorem dX6_begin_48 : decode cX6_begin 48 = .ok (.getfield 7, 3) := by decide +kernel
theorem dX6_begin_51 : decode cX6_begin 51 = .ok (.bipush 52, 2) := by decide +kernel
theorem dX6_begin_53 : decode cX6_begin 53 = .ok (.laload, 1) := by decide +kernel
theorem dX6_begin_54 : decode cX6_begin 54 = .ok (.l2i, 1) := by decide +kernel
theorem dX6_begin_55 : decode cX6_begin 55 = .ok (.istore_n 3, 1) := by decide +kernel
theorem dX6_begin_56 : decode cX6_begin 56 = .ok (.aload_n 0, 1) := by decide +kernel
theorem dX6_begin_57 : decode cX6_begin 57 = .ok (.iload_n 1, 1) := by decide +kernel
theorem dX6_begin_58 : decode cX6_begin 58 = .ok (.i2l, 1) := by decide +kernel
theorem dX6_begin_59 : decode cX6_begin 59 = .ok (.iload_n 2, 1) := by decide +kernel
theorem dX6_begin_60 : decode cX6_begin 60 = .ok (.i2l, 1) := by decide +kernel
theorem dX6_begin_61 : decode cX6_begin 61 = .ok (.invokevirtual 60, 3) := by decide +kernel
theorem dX6_begin_64 : decode cX6_begin 64 = .ok (.iload_n 3, 1) := by decide +kernel
theorem dX6_begin_65 : decode cX6_begin 65 = .ok (.ireturn, 1) := by decide +kernel
set_option maxRecDepth 20000 in
theorem ggX6_isValue_X6_in : GoodIn wsX6_isValue wsX6_in := goodIn_r _ [14] rfl (by decide +kernel)
set_option maxRecDepth 20000 in
theorem gX6_isValue_X6_in : GoodIn wsX6_isValue (va_wsS RX6 101 yX6_in wsX6_in) := goodIn_app (goodIn_of _ (by decide +kernel)) ggX6_isValue_X6_in
theorem dX6_isValue_0 : decode cX6_isValue 0 = .ok (.iload_n 0, 1) := by decide +kernel
theorem dX6_isValue_1 : decode cX6_isValue 1 = .ok (.tableswitch 175 0 10 #[59, 71, 81, 91, 101, 111, 121, 131, 141, 153, 163], 59) := by decide +kernel
theorem dX6_isValue_60 : decode cX6_isValue 60 = .ok (.iload_n 1, 1) := by decide +kernel
theorem dX6_isValue_61 : decode cX6_isValue 61 = .ok (.i2l, 1) := by decide +kernel
theorem dX6_isValue_62 : decode cX6_isValue 62 = .ok (.ldc2_w 112, 3) := by decide +kernel
theorem dX6_isValue_65 : decode cX6_isValue 65 = .ok (.ldc2_w 114, 3) := by decide +kernel
theorem dX6_isValue_68 : decode cX6_isValue 68 = .ok (.invokestatic 101, 3) := by decide +kernel
theorem dX6_isValue_71 : decode cX6_isValue 71 = .ok (.ireturn, 1) := by decide +kernel
theorem dX6_isValue_72 : decode cX6_isValue 72 = .ok (.iload_n 1, 1) := by decide +kernel
theorem dX6_isValue_73 : decode cX6_isValue 73 = .ok (.i2l, 1) := by decide +kernel
theorem dX6_isValue_74 : decode cX6_isValue 74 = .ok (.lconst 0, 1) := by decide +kernel
theorem dX6_isValue_75 : decode cX6_isValue 75 = .ok (.ldc2_w 93, 3) := by decide +kernel
theorem dX6_isValue_78 : decode cX6_isValue 78 = .ok (.invokestatic 101, 3) := by decide +kernel
theorem dX6_isValue_81 : decode cX6_isValue 81 = .ok (.ireturn, 1) := by decide +kernel
theorem dX6_isValue_82 : decode cX6_isValue 82 = .ok (.iload_n 1, 1) := by decide +kernel
theorem dX6_isValue_83 : decode cX6_isValue 83 = .ok (.i2l, 1) := by decide +kernel
theorem dX6_isValue_84 : decode cX6_isValue 84 = .ok (.lconst 0, 1) := by decide +kernel
theorem dX6_isValue_85 : decode cX6_isValue 85 = .ok (.ldc2_w 99, 3) := by decide +kernel
theorem dX6_isValue_88 : decode cX6_isValue 88 = .ok (.invokestatic 101, 3) := by decide +kernel
theorem dX6_isValue_91 : decode cX6_isValue 91 = .ok (.ireturn, 1) := by decide +kernel
theorem dX6_isValue_92 : decode cX6_isValue 92 = .ok (.iload_n 1, 1) := by decide +kernel
theorem dX6_isValue_93 : decode cX6_isValue 93 = .ok (.i2l, 1) := by decide +kernel
theorem dX6_isValue_94 : decode cX6_isValue 94 = .ok (.lconst 1, 1) := by decide +kernel
theorem dX6_isValue_95 : decode cX6_isValue 95 = .ok (.ldc2_w 116, 3) := by decide +kernel
theorem dX6_isValue_98 : decode cX6_isValue 98 = .ok (.invokestatic 101, 3) := by decide +kernel
theorem dX6_isValue_101 : decode cX6_isValue 101 = .ok (.ireturn, 1) := by decide +kernel
theorem dX6_isValue_102 : decode cX6_isValue 102 = .ok (.iload_n 1, 1) := by decide +kernel
theorem dX6_isValue_103 : decode cX6_isValue 103 = .ok (.i2l, 1) := by decide +kernel
theorem dX6_isValue_104 : decode cX6_isValue 104 = .ok (.lconst 0, 1) := by decide +kernel
theorem dX6_isValue_105 : decode cX6_isValue 105 = .ok (.ldc2_w 114, 3) := by decide +kernel
theorem dX6_isValue_108 : decode cX6_isValue 108 = .ok (.invokestatic 101, 3) := by decide +kernel
theorem dX6_isValue_111 : decode cX6_isValue 111 = .ok (.ireturn, 1) := by decide +kernel
theorem dX6_isValue_112 : decode cX6_isValue 112 = .ok (.iload_n 1, 1) := by decide +kernel
theorem dX6_isValue_113 : decode cX6_isValue 113 = .ok (.i2l, 1) := by decide +kernel
theorem dX6_isValue_114 : decode cX6_isValue 114 = .ok (.lconst 0, 1) := by decide +kernel
theorem dX6_isValue_115 : decode cX6_isValue 115 = .ok (.ldc2_w 44, 3) := by decide +kernel
theorem dX6_isValue_118 : decode cX6_isValue 118 = .ok (.invokestatic 101, 3) := by decide +kernel
theorem dX6_isValue_121 : decode cX6_isValue 121 = .ok (.ireturn, 1) := by decide +kernel
theorem dX6_isValue_122 : decode cX6_isValue 122 = .ok (.iload_n 1, 1) := by decide +kernel
theorem dX6_isValue_123 : decode cX6_isValue 123 = .ok (.i2l, 1) := by decide +kernel
theorem dX6_isValue_124 : decode cX6_isValue 124 = .ok (.lconst 1, 1) := by decide +kernel
theorem dX6_isValue_125 : decode cX6_isValue 125 = .ok (.ldc2_w 93, 3) := by decide +kernel
theorem dX6_isValue_128 : decode cX6_isValue 128 = .ok (.invokestatic 101, 3) := by decide +kernel
theorem dX6_isValue_131 : decode cX6_isValue 131 = .ok (.ireturn, 1) := by decide +kernel
theorem dX6_isValue_132 : decode cX6_isValue 132 = .ok (.iload_n 1, 1) := by decide +kernel
theorem dX6_isValue_133 : decode cX6_isValue 133 = .ok (.i2l, 1) := by decide +kernel
theorem dX6_isValue_134 : decode cX6_isValue 134 = .ok (.lconst 0, 1) := by decide +kernel
theorem dX6_isValue_135 : decode cX6_isValue 135 = .ok (.ldc2_w 116, 3) := by decide +kernel
theorem dX6_isValue_138 : decode cX6_isValue 138 = .ok (.invokestatic 101, 3) := by decide +kernel
theorem dX6_isValue_141 : decode cX6_isValue 141 = .ok (.ireturn, 1) := by decide +kernel
theorem dX6_isValue_142 : decode cX6_isValue 142 = .ok (.iload_n 1, 1) := by decide +kernel
theorem dX6_isValue_143 : decode cX6_isValue 143 = .ok (.i2l, 1) := by decide +kernel
theorem dX6_isValue_144 : decode cX6_isValue 144 = .ok (.ldc2_w 56, 3) := by decide +kernel
theorem dX6_isValue_147 : decode cX6_isValue 147 = .ok (.ldc2_w 30, 3) := by decide +kernel
theorem dX6_isValue_150 : decode cX6_isValue 150 = .ok (.invokestatic 101, 3) := by decide +kernel
theorem dX6_isValue_153 : decode cX6_isValue 153 = .ok (.ireturn, 1) := by decide +kernel
theorem dX6_isValue_154 : decode cX6_isValue 154 = .ok (.iload_n 1, 1) := by decide +kernel
theorem dX6_isValue_155 : decode cX6_isValue 155 = .ok (.i2l, 1) := by decide +kernel
theorem dX6_isValue_156 : decode cX6_isValue 156 = .ok (.lconst 0, 1) := by decide +kernel
theorem dX6_isValue_157 : decode cX6_isValue 157 = .ok (.ldc2_w 93, 3) := by decide +kernel
theorem dX6_isValue_160 : decode cX6_isValue 160 = .ok (.invokestatic 101, 3) := by decide +kernel
theorem dX6_isValue_163 : decode cX6_isValue 163 = .ok (.ireturn, 1) := by decide +kernel
theorem dX6_isValue_164 : decode cX6_isValue 164 = .ok (.iload_n 1, 1) := by decide +kernel
theorem dX6_isValue_165 : decode cX6_isValue 165 = .ok (.i2l, 1) := by decide +kernel
theorem dX6_isValue_166 : decode cX6_isValue 166 = .ok (.ldc2_w 114, 3) := by decide +kernel
theorem dX6_isValue_169 : decode cX6_isValue 169 = .ok (.ldc2_w 48, 3) := by decide +kernel
theorem dX6_isValue_172 : decode cX6_isValue 172 = .ok (.invokestatic 101, 3) := by decide +kernel
theorem dX6_isValue_175 : decode cX6_isValue 175 = .ok (.ireturn, 1) := by decide +kernel
theorem dX6_isValue_176 : decode cX6_isValue 176 = .ok (.iload_n 1, 1) := by decide +kernel
theorem dX6_isValue_177 : decode cX6_isValue 177 = .ok (.i2l, 1) := by decide +kernel
theorem dX6_isValue_178 : decode cX6_isValue 178 = .ok (.ldc2_w 28, 3) := by decide +kernel
theorem dX6_isValue_181 : decode cX6_isValue 181 = .ok (.ldc2_w 93, 3) := by decide +kernel
theorem dX6_isValue_184 : decode cX6_isValue 184 = .ok (.invokestatic 101, 3) := by decide +kernel
theorem dX6_isValue_187 : decode cX6_isValue 187 = .ok (.ireturn, 1) := by decide +kernel
theorem dX6_range_0 : decode cX6_range 0 = .ok (.aload_n 0, 1) := by decide +kernel
theorem dX6_range_1 : decode cX6_range 1 = .ok (.getfield 7, 3) := by decide +kernel
theorem dX6_range_4 : decode cX6_range 4 = .ok (.bipush 37, 2) := by decide +kernel
theorem dX6_range_6 : decode cX6_range 6 = .ok (.laload, 1) := by decide +kernel
theorem dX6_range_7 : decode cX6_range 7 = .ok (.aload_n 0, 1) := by decide +kernel
theorem dX6_range_8 : decode cX6_range 8 = .ok (.getfield 7, 3) := by decide +kernel
theorem dX6_range_11 : decode cX6_range 11 = .ok (.iconst 3, 1) := by decide +kernel
theorem dX6_range_12 : decode cX6_range 12 = .ok (.laload, 1) := by decide +kernel
theorem dX6_range_13 : decode cX6_range 13 = .ok (.lmul, 1) := by decide +kernel
theorem dX6_range_14 : decode cX6_range 14 = .ok (.ldc2_w 44, 3) := by decide +kernel
theorem dX6_range_17 : decode cX6_range 17 = .ok (.ldiv, 1) := by decide +kernel
theorem dX6_range_18 : decode cX6_range 18 = .ok (.lreturn, 1) := by decide +kernel
set_option maxRecDepth 20000 in
theorem ggX6_lowersHysteresis_X6_range : GoodIn wsX6_lowersHysteresis wsX6_range := goodIn_r _ [6, 1, 7, 8, 9, 10, 11, 12, 13, 14, 15, 16, 17] rfl (by decide +kernel)
set_option maxRecDepth 20000 in
theorem gX6_lowersHysteresis_X6_range : GoodIn wsX6_lowersHysteresis (wsV RX6 118 RX6 yX6_range wsX6_range) := goodIn_app (goodIn_of _ (by decide +kernel)) ggX6_lowersHysteresis_X6_range
theorem dX6_lowersHysteresis_0 : decode cX6_lowersHysteresis 0 = .ok (.aload_n 0, 1) := by decide +kernel
theorem dX6_lowersHysteresis_1 : decode cX6_lowersHysteresis 1 = .ok (.getfield 7, 3) := by decide +kernel
theorem dX6_lowersHysteresis_4 : decode cX6_lowersHysteresis 4 = .ok (.bipush 39, 2) := by decide +kernel
theorem dX6_lowersHysteresis_6 : decode cX6_lowersHysteresis 6 = .ok (.aload_n 0, 1) := by decide +kernel
theorem dX6_lowersHysteresis_7 : decode cX6_lowersHysteresis 7 = .ok (.getfield 7, 3) := by decide +kernel
theorem dX6_lowersHysteresis_10 : decode cX6_lowersHysteresis 10 = .ok (.bipush 39, 2) := by decide +kernel
theorem dX6_lowersHysteresis_12 : decode cX6_lowersHysteresis 12 = .ok (.laload, 1) := by decide +kernel
theorem dX6_lowersHysteresis_13 : decode cX6_lowersHysteresis 13 = .ok (.aload_n 0, 1) := by decide +kernel
theorem dX6_lowersHysteresis_14 : decode cX6_lowersHysteresis 14 = .ok (.invokevirtual 118, 3) := by decide +kernel
theorem dX6_lowersHysteresis_17 : decode cX6_lowersHysteresis 17 = .ok (.lcmp, 1) := by decide +kernel
theorem dX6_lowersHysteresis_18 : decode cX6_lowersHysteresis 18 = .ok (.ifCond .le 10, 3) := by decide +kernel
theorem dX6_lowersHysteresis_21 : decode cX6_lowersHysteresis 21 = .ok (.aload_n 0, 1) := by decide +kernel
theorem dX6_lowersHysteresis_22 : decode cX6_lowersHysteresis 22 = .ok (.invokevirtual 118, 3) := by decide +kernel
theorem dX6_lowersHysteresis_25 : decode cX6_lowersHysteresis 25 = .ok (.goto 10, 3) := by decide +kernel
theorem dX6_lowersHysteresis_28 : decode cX6_lowersHysteresis 28 = .ok (.aload_n 0, 1) := by decide +kernel
theorem dX6_lowersHysteresis_29 : decode cX6_lowersHysteresis 29 = .ok (.getfield 7, 3) := by decide +kernel
theorem dX6_lowersHysteresis_32 : decode cX6_lowersHysteresis 32 = .ok (.bipush 39, 2) := by decide +kernel
theorem dX6_lowersHysteresis_34 : decode cX6_lowersHysteresis 34 = .ok (.laload, 1) := by decide +kernel
theorem dX6_lowersHysteresis_35 : decode cX6_lowersHysteresis 35 = .ok (.lastore, 1) := by decide +kernel
theorem dX6_lowersHysteresis_36 : decode cX6_lowersHysteresis 36 = .ok (.return_, 1) := by decide +kernel
set_option maxRecDepth 20000 in
theorem ggX6_set_X6_in : GoodIn wsX6_set wsX6_in := goodIn_r _ [6] rfl (by decide +kernel)
set_option maxRecDepth 20000 in
theorem gX6_set_X6_in : GoodIn wsX6_set (va_wsS RX6 101 yX6_in wsX6_in) := goodIn_app (goodIn_of _ (by decide +kernel)) ggX6_set_X6_in
set_option maxRecDepth 20000 in
theorem ggX6_set_X6_isValue : GoodIn wsX6_set wsX6_isValue := goodIn_r _ [9, 10, 11, 12, 13, 14, 15, 16, 17, 18, 19, 3, 4, 5, 6] rfl (by decide +kernel)
set_option maxRecDepth 20000 in
theorem gX6_set_X6_isValue : GoodIn wsX6_set (va_wsS RX6 124 yX6_isValue wsX6_isValue) := goodIn_app (goodIn_of _ (by decide +kernel)) ggX6_set_X6_isValue
set_option maxRecDepth 20000 in
theorem ggX6_set_X6_goes : GoodIn wsX6_set wsX6_goes := goodIn_r _ [23, 24, 39, 40, 41, 42, 43, 44, 45, 46, 47, 48] rfl (by decide +kernel)
set_option maxRecDepth 20000 in
theorem gX6_set_X6_goes : GoodIn wsX6_set (wsV RX6 105 RX6 yX6_goes wsX6_goes) := goodIn_app (goodIn_of _ (by decide +kernel)) ggX6_set_X6_goes
set_option maxRecDepth 20000 in
theorem ggX6_set_X6_save : GoodIn wsX6_set wsX6_save := goodIn_r _ [28, 29, 30, 2, 39, 40, 41, 42, 43, 44, 45, 46, 47, 48] rfl (by decide +kernel)
set_option maxRecDepth 20000 in
theorem gX6_set_X6_save : GoodIn wsX6_set (wsV RX6 109 RX6 yX6_save wsX6_save) := goodIn_app (goodIn_of _ (by decide +kernel)) ggX6_set_X6_save
set_option maxRecDepth 20000 in
theorem ggX6_set_X6_lowersHysteresis : GoodIn wsX6_set wsX6_lowersHysteresis := goodIn_r _ [34, 2, 35, 36, 37, 5, 38, 15, 39, 40, 41, 42, 43, 44, 45, 46, 47, 48] rfl (by decide +kernel)
set_option maxRecDepth 20000 in
theorem gX6_set_X6_lowersHysteresis : GoodIn wsX6_set (wsV RX6 128 RX6 yX6_lowersHysteresis wsX6_lowersHysteresis) := goodIn_app (goodIn_of _ (by decide +kernel)) ggX6_set_X6_lowersHysteresis
theorem dX6_set_0 : decode cX6_set 0 = .ok (.aload_n 0, 1) := by decide +kernel
theorem dX6_set_1 : decode cX6_set 1 = .ok (.iload_n 1, 1) := by decide +kernel
theorem dX6_set_2 : decode cX6_set 2 = .ok (.i2l, 1) := by decide +kernel
theorem dX6_set_3 : decode cX6_set 3 = .ok (.lconst 0, 1) := by decide +kernel
theorem dX6_set_4 : decode cX6_set 4 = .ok (.ldc2_w 122, 3) := by decide +kernel
theorem dX6_set_7 : decode cX6_set 7 = .ok (.invokestatic 101, 3) := by decide +kernel
theorem dX6_set_10 : decode cX6_set 10 = .ok (.ifCond .eq 15, 3) := by decide +kernel
theorem dX6_set_13 : decode cX6_set 13 = .ok (.iload_n 1, 1) := by decide +kernel
theorem dX6_set_14 : decode cX6_set 14 = .ok (.iload_n 2, 1) := by decide +kernel
theorem dX6_set_15 : decode cX6_set 15 = .ok (.invokestatic 124, 3) := by decide +kernel
theorem dX6_set_18 : decode cX6_set 18 = .ok (.ifCond .eq 7, 3) := by decide +kernel
theorem dX6_set_21 : decode cX6_set 21 = .ok (.iconst 1, 1) := by decide +kernel
theorem dX6_set_22 : decode cX6_set 22 = .ok (.goto 4, 3) := by decide +kernel
theorem dX6_set_25 : decode cX6_set 25 = .ok (.iconst 0, 1) := by decide +kernel
theorem dX6_set_26 : decode cX6_set 26 = .ok (.iconst 1, 1) := by decide +kernel
theorem dX6_set_27 : decode cX6_set 27 = .ok (.invokevirtual 105, 3) := by decide +kernel
theorem dX6_set_30 : decode cX6_set 30 = .ok (.ifCond .ne 5, 3) := by decide +kernel
theorem dX6_set_33 : decode cX6_set 33 = .ok (.iconst 0, 1) := by decide +kernel
theorem dX6_set_34 : decode cX6_set 34 = .ok (.ireturn, 1) := by decide +kernel
theorem dX6_set_35 : decode cX6_set 35 = .ok (.aload_n 0, 1) := by decide +kernel
theorem dX6_set_36 : decode cX6_set 36 = .ok (.invokevirtual 109, 3) := by decide +kernel
theorem dX6_set_39 : decode cX6_set 39 = .ok (.aload_n 0, 1) := by decide +kernel
theorem dX6_set_40 : decode cX6_set 40 = .ok (.getfield 7, 3) := by decide +kernel
theorem dX6_set_43 : decode cX6_set 43 = .ok (.iconst 0, 1) := by decide +kernel
theorem dX6_set_44 : decode cX6_set 44 = .ok (.iload_n 1, 1) := by decide +kernel
theorem dX6_set_45 : decode cX6_set 45 = .ok (.iadd, 1) := by decide +kernel
theorem dX6_set_46 : decode cX6_set 46 = .ok (.laload, 1) := by decide +kernel
theorem dX6_set_47 : decode cX6_set 47 = .ok (.l2i, 1) := by decide +kernel
theorem dX6_set_48 : decode cX6_set 48 = .ok (.istore_n 3, 1) := by decide +kernel
theorem dX6_set_49 : decode cX6_set 49 = .ok (.aload_n 0, 1) := by decide +kernel
theorem dX6_set_50 : decode cX6_set 50 = .ok (.getfield 7, 3) := by decide +kernel
theorem dX6_set_53 : decode cX6_set 53 = .ok (.iconst 0, 1) := by decide +kernel
theorem dX6_set_54 : decode cX6_set 54 = .ok (.iload_n 1, 1) := by decide +kernel
theorem dX6_set_55 : decode cX6_set 55 = .ok (.iadd, 1) := by decide +kernel
theorem dX6_set_56 : decode cX6_set 56 = .ok (.iload_n 2, 1) := by decide +kernel
theorem dX6_set_57 : decode cX6_set 57 = .ok (.i2l, 1) := by decide +kernel
theorem dX6_set_58 : decode cX6_set 58 = .ok (.lastore, 1) := by decide +kernel
theorem dX6_set_59 : decode cX6_set 59 = .ok (.aload_n 0, 1) := by decide +kernel
theorem dX6_set_60 : decode cX6_set 60 = .ok (.invokevirtual 128, 3) := by decide +kernel
theorem dX6_set_63 : decode cX6_set 63 = .ok (.iload_n 3, 1) := by decide +kernel
theorem dX6_set_64 : decode cX6_set 64 = .ok (.ireturn, 1) := by decide +kernel
set_option maxRecDepth 20000 in
theorem ggX6_value_X6_in : GoodIn wsX6_value wsX6_in := goodIn_r _ [6] rfl (by decide +kernel)
set_option maxRecDepth 20000 in
theorem gX6_value_X6_in : GoodIn wsX6_value (va_wsS RX6 101 yX6_in wsX6_in) := goodIn_app (goodIn_of _ (by decide +kernel)) ggX6_value_X6_in
set_option maxRecDepth 20000 in
theorem ggX6_value_X6_goes : GoodIn wsX6_value wsX6_goes := goodIn_r _ [10, 11, 12, 13, 14, 15, 16, 17, 18, 19, 20, 21] rfl (by decide +kernel)
set_option maxRecDepth 20000 in
theorem gX6_value_X6_goes : GoodIn wsX6_value (wsV RX6 105 RX6 yX6_goes wsX6_goes) := goodIn_app (goodIn_of _ (by decide +kernel)) ggX6_value_X6_goes
theorem dX6_value_0 : decode cX6_value 0 = .ok (.aload_n 0, 1) := by decide +kernel
theorem dX6_value_1 : decode cX6_value 1 = .ok (.iload_n 1, 1) := by decide +kernel
theorem dX6_value_2 : decode cX6_value 2 = .ok (.i2l, 1) := by decide +kernel
theorem dX6_value_3 : decode cX6_value 3 = .ok (.lconst 0, 1) := by decide +kernel
theorem dX6_value_4 : decode cX6_value 4 = .ok (.ldc2_w 122, 3) := by decide +kernel
theorem dX6_value_7 : decode cX6_value 7 = .ok (.invokestatic 101, 3) := by decide +kernel
theorem dX6_value_10 : decode cX6_value 10 = .ok (.iconst 1, 1) := by decide +kernel
theorem dX6_value_11 : decode cX6_value 11 = .ok (.invokevirtual 105, 3) := by decide +kernel
theorem dX6_value_14 : decode cX6_value 14 = .ok (.ifCond .eq 15, 3) := by decide +kernel
theorem dX6_value_17 : decode cX6_value 17 = .ok (.aload_n 0, 1) := by decide +kernel
theorem dX6_value_18 : decode cX6_value 18 = .ok (.getfield 7, 3) := by decide +kernel
theorem dX6_value_21 : decode cX6_value 21 = .ok (.iconst 0, 1) := by decide +kernel
theorem dX6_value_22 : decode cX6_value 22 = .ok (.iload_n 1, 1) := by decide +kernel
theorem dX6_value_23 : decode cX6_value 23 = .ok (.iadd, 1) := by decide +kernel
theorem dX6_value_24 : decode cX6_value 24 = .ok (.laload, 1) := by decide +kernel
theorem dX6_value_25 : decode cX6_value 25 = .ok (.l2i, 1) := by decide +kernel
theorem dX6_value_26 : decode cX6_value 26 = .ok (.goto 4, 3) := by decide +kernel
theorem dX6_value_29 : decode cX6_value 29 = .ok (.iconst 0, 1) := by decide +kernel
theorem dX6_value_30 : decode cX6_value 30 = .ok (.ireturn, 1) := by decide +kernel
theorem dX6_ascends_0 : decode cX6_ascends 0 = .ok (.iload_n 2, 1) := by decide +kernel
theorem dX6_ascends_1 : decode cX6_ascends 1 = .ok (.ifCond .eq 19, 3) := by decide +kernel
theorem dX6_ascends_4 : decode cX6_ascends 4 = .ok (.iload_n 3, 1) := by decide +kernel
theorem dX6_ascends_5 : decode cX6_ascends 5 = .ok (.i2l, 1) := by decide +kernel
theorem dX6_ascends_6 : decode cX6_ascends 6 = .ok (.aload_n 0, 1) := by decide +kernel
theorem dX6_ascends_7 : decode cX6_ascends 7 = .ok (.getfield 7, 3) := by decide +kernel
theorem dX6_ascends_10 : decode cX6_ascends 10 = .ok (.iload_n 1, 1) := by decide +kernel
theorem dX6_ascends_11 : decode cX6_ascends 11 = .ok (.iload_n 2, 1) := by decide +kernel
theorem dX6_ascends_12 : decode cX6_ascends 12 = .ok (.iadd, 1) := by decide +kernel
theorem dX6_ascends_13 : decode cX6_ascends 13 = .ok (.iconst 1, 1) := by decide +kernel
theorem dX6_ascends_14 : decode cX6_ascends 14 = .ok (.isub, 1) := by decide +kernel
theorem dX6_ascends_15 : decode cX6_ascends 15 = .ok (.laload, 1) := by decide +kernel
theorem dX6_ascends_16 : decode cX6_ascends 16 = .ok (.lcmp, 1) := by decide +kernel
theorem dX6_ascends_17 : decode cX6_ascends 17 = .ok (.ifCond .le 29, 3) := by decide +kernel
theorem dX6_ascends_20 : decode cX6_ascends 20 = .ok (.iload_n 2, 1) := by decide +kernel
theorem dX6_ascends_21 : decode cX6_ascends 21 = .ok (.bipush 10, 2) := by decide +kernel
theorem dX6_ascends_23 : decode cX6_ascends 23 = .ok (.if_icmp .eq 19, 3) := by decide +kernel
theorem dX6_ascends_26 : decode cX6_ascends 26 = .ok (.iload_n 3, 1) := by decide +kernel
theorem dX6_ascends_27 : decode cX6_ascends 27 = .ok (.i2l, 1) := by decide +kernel
theorem dX6_ascends_28 : decode cX6_ascends 28 = .ok (.aload_n 0, 1) := by decide +kernel
theorem dX6_ascends_29 : decode cX6_ascends 29 = .ok (.getfield 7, 3) := by decide +kernel
theorem dX6_ascends_32 : decode cX6_ascends 32 = .ok (.iload_n 1, 1) := by decide +kernel
theorem dX6_ascends_33 : decode cX6_ascends 33 = .ok (.iload_n 2, 1) := by decide +kernel
theorem dX6_ascends_34 : decode cX6_ascends 34 = .ok (.iadd, 1) := by decide +kernel
theorem dX6_ascends_35 : decode cX6_ascends 35 = .ok (.iconst 1, 1) := by decide +kernel
theorem dX6_ascends_36 : decode cX6_ascends 36 = .ok (.iadd, 1) := by decide +kernel
theorem dX6_ascends_37 : decode cX6_ascends 37 = .ok (.laload, 1) := by decide +kernel
theorem dX6_ascends_38 : decode cX6_ascends 38 = .ok (.lcmp, 1) := by decide +kernel
theorem dX6_ascends_39 : decode cX6_ascends 39 = .ok (.ifCond .ge 7, 3) := by decide +kernel
theorem dX6_ascends_42 : decode cX6_ascends 42 = .ok (.iconst 1, 1) := by decide +kernel
theorem dX6_ascends_43 : decode cX6_ascends 43 = .ok (.goto 4, 3) := by decide +kernel
theorem dX6_ascends_46 : decode cX6_ascends 46 = .ok (.iconst 0, 1) := by decide +kernel
theorem dX6_ascends_47 : decode cX6_ascends 47 = .ok (.ireturn, 1) := by decide +kernel
set_option maxRecDepth 20000 in
theorem ggX6_setCurve_X6_in : GoodIn wsX6_setCurve wsX6_in := goodIn_r _ [8] rfl (by decide +kernel)
set_option maxRecDepth 20000 in
theorem gX6_setCurve_X6_in : GoodIn wsX6_setCurve (va_wsS RX6 101 yX6_in wsX6_in) := goodIn_app (goodIn_of _ (by decide +kernel)) ggX6_setCurve_X6_in
set_option maxRecDepth 20000 in
theorem ggX6_setCurve_X6_ascends : GoodIn wsX6_setCurve wsX6_ascends := goodIn_r _ [12, 4, 24, 25, 26, 27, 28, 29, 30, 31, 32, 33] rfl (by decide +kernel)
set_option maxRecDepth 20000 in
theorem gX6_setCurve_X6_ascends : GoodIn wsX6_setCurve (wsV RX6 131 RX6 yX6_ascends wsX6_ascends) := goodIn_app (goodIn_of _ (by decide +kernel)) ggX6_setCurve_X6_ascends
set_option maxRecDepth 20000 in
theorem ggX6_setCurve_X6_goes : GoodIn wsX6_setCurve wsX6_goes := goodIn_r _ [16, 17, 24, 25, 26, 27, 28, 29, 30, 31, 32, 33] rfl (by decide +kernel)
set_option maxRecDepth 20000 in
theorem gX6_setCurve_X6_goes : GoodIn wsX6_setCurve (wsV RX6 105 RX6 yX6_goes wsX6_goes) := goodIn_app (goodIn_of _ (by decide +kernel)) ggX6_setCurve_X6_goes
set_option maxRecDepth 20000 in
theorem ggX6_setCurve_X6_save : GoodIn wsX6_setCurve wsX6_save := goodIn_r _ [21, 22, 23, 4, 24, 25, 26, 27, 28, 29, 30, 31, 32, 33] rfl (by decide +kernel)
set_option maxRecDepth 20000 in
theorem gX6_setCurve_X6_save : GoodIn wsX6_setCurve (wsV RX6 109 RX6 yX6_save wsX6_save) := goodIn_app (goodIn_of _ (by decide +kernel)) ggX6_setCurve_X6_save
theorem dX6_setCurve_0 : decode cX6_setCurve 0 = .ok (.iload_n 1, 1) := by decide +kernel
theorem dX6_setCurve_1 : decode cX6_setCurve 1 = .ok (.i2l, 1) := by decide +kernel
theorem dX6_setCurve_2 : decode cX6_setCurve 2 = .ok (.lconst 0, 1) := by decide +kernel
theorem dX6_setCurve_3 : decode cX6_setCurve 3 = .ok (.ldc2_w 32, 3) := by decide +kernel
theorem dX6_setCurve_6 : decode cX6_setCurve 6 = .ok (.invokestatic 101, 3) := by decide +kernel
theorem dX6_setCurve_9 : decode cX6_setCurve 9 = .ok (.istore 4, 2) := by decide +kernel
theorem dX6_setCurve_11 : decode cX6_setCurve 11 = .ok (.iload 4, 2) := by decide +kernel
theorem dX6_setCurve_13 : decode cX6_setCurve 13 = .ok (.ifCond .eq 56, 3) := by decide +kernel
theorem dX6_setCurve_16 : decode cX6_setCurve 16 = .ok (.iload_n 2, 1) := by decide +kernel
theorem dX6_setCurve_17 : decode cX6_setCurve 17 = .ok (.i2l, 1) := by decide +kernel
theorem dX6_setCurve_18 : decode cX6_setCurve 18 = .ok (.ldc2_w 56, 3) := by decide +kernel
theorem dX6_setCurve_21 : decode cX6_setCurve 21 = .ok (.ldc2_w 30, 3) := by decide +kernel
theorem dX6_setCurve_24 : decode cX6_setCurve 24 = .ok (.invokestatic 101, 3) := by decide +kernel
theorem dX6_setCurve_27 : decode cX6_setCurve 27 = .ok (.ifCond .eq 42, 3) := by decide +kernel
theorem dX6_setCurve_30 : decode cX6_setCurve 30 = .ok (.iload_n 3, 1) := by decide +kernel
theorem dX6_setCurve_31 : decode cX6_setCurve 31 = .ok (.i2l, 1) := by decide +kernel
theorem dX6_setCurve_32 : decode cX6_setCurve 32 = .ok (.iload_n 2, 1) := by decide +kernel
theorem dX6_setCurve_33 : decode cX6_setCurve 33 = .ok (.i2l, 1) := by decide +kernel
theorem dX6_setCurve_34 : decode cX6_setCurve 34 = .ok (.ldc2_w 30, 3) := by decide +kernel
theorem dX6_setCurve_37 : decode cX6_setCurve 37 = .ok (.invokestatic 101, 3) := by decide +kernel
theorem dX6_setCurve_40 : decode cX6_setCurve 40 = .ok (.ifCond .eq 29, 3) := by decide +kernel
theorem dX6_setCurve_43 : decode cX6_setCurve 43 = .ok (.aload_n 0, 1) := by decide +kernel
theorem dX6_setCurve_44 : decode cX6_setCurve 44 = .ok (.bipush 12, 2) := by decide +kernel
theorem dX6_setCurve_46 : decode cX6_setCurve 46 = .ok (.iload_n 1, 1) := by decide +kernel
theorem dX6_setCurve_47 : decode cX6_setCurve 47 = .ok (.iload_n 2, 1) := by decide +kernel
theorem dX6_setCurve_48 : decode cX6_setCurve 48 = .ok (.invokevirtual 131, 3) := by decide +kernel
theorem dX6_setCurve_51 : decode cX6_setCurve 51 = .ok (.ifCond .eq 18, 3) := by decide +kernel
theorem dX6_setCurve_54 : decode cX6_setCurve 54 = .ok (.aload_n 0, 1) := by decide +kernel
theorem dX6_setCurve_55 : decode cX6_setCurve 55 = .ok (.bipush 23, 2) := by decide +kernel
theorem dX6_setCurve_57 : decode cX6_setCurve 57 = .ok (.iload_n 1, 1) := by decide +kernel
theorem dX6_setCurve_58 : decode cX6_setCurve 58 = .ok (.iload_n 3, 1) := by decide +kernel
theorem dX6_setCurve_59 : decode cX6_setCurve 59 = .ok (.invokevirtual 131, 3) := by decide +kernel
theorem dX6_setCurve_62 : decode cX6_setCurve 62 = .ok (.ifCond .eq 7, 3) := by decide +kernel
theorem dX6_setCurve_65 : decode cX6_setCurve 65 = .ok (.iconst 1, 1) := by decide +kernel
theorem dX6_setCurve_66 : decode cX6_setCurve 66 = .ok (.goto 4, 3) := by decide +kernel
theorem dX6_setCurve_69 : decode cX6_setCurve 69 = .ok (.iconst 0, 1) := by decide +kernel
theorem dX6_setCurve_70 : decode cX6_setCurve 70 = .ok (.istore 5, 2) := by decide +kernel
theorem dX6_setCurve_72 : decode cX6_setCurve 72 = .ok (.aload_n 0, 1) := by decide +kernel
theorem dX6_setCurve_73 : decode cX6_setCurve 73 = .ok (.iload 4, 2) := by decide +kernel
theorem dX6_setCurve_75 : decode cX6_setCurve 75 = .ok (.iload 5, 2) := by decide +kernel
theorem dX6_setCurve_77 : decode cX6_setCurve 77 = .ok (.invokevirtual 105, 3) := by decide +kernel
theorem dX6_setCurve_80 : decode cX6_setCurve 80 = .ok (.ifCond .ne 5, 3) := by decide +kernel
theorem dX6_setCurve_83 : decode cX6_setCurve 83 = .ok (.iconst 0, 1) := by decide +kernel
theorem dX6_setCurve_84 : decode cX6_setCurve 84 = .ok (.ireturn, 1) := by decide +kernel
theorem dX6_setCurve_85 : decode cX6_setCurve 85 = .ok (.aload_n 0, 1) := by decide +kernel
theorem dX6_setCurve_86 : decode cX6_setCurve 86 = .ok (.invokevirtual 109, 3) := by decide +kernel
theorem dX6_setCurve_89 : decode cX6_setCurve 89 = .ok (.aload_n 0, 1) := by decide +kernel
theorem dX6_setCurve_90 : decode cX6_setCurve 90 = .ok (.getfield 7, 3) := by decide +kernel
theorem dX6_setCurve_93 : decode cX6_setCurve 93 = .ok (.bipush 12, 2) := by decide +kernel
theorem dX6_setCurve_95 : decode cX6_setCurve 95 = .ok (.iload_n 1, 1) := by decide +kernel
theorem dX6_setCurve_96 : decode cX6_setCurve 96 = .ok (.iadd, 1) := by decide +kernel
theorem dX6_setCurve_97 : decode cX6_setCurve 97 = .ok (.laload, 1) := by decide +kernel
theorem dX6_setCurve_98 : decode cX6_setCurve 98 = .ok (.l2i, 1) := by decide +kernel
theorem dX6_setCurve_99 : decode cX6_setCurve 99 = .ok (.istore 6, 2) := by decide +kernel
theorem dX6_setCurve_101 : decode cX6_setCurve 101 = .ok (.aload_n 0, 1) := by decide +kernel
theorem dX6_setCurve_102 : decode cX6_setCurve 102 = .ok (.getfield 7, 3) := by decide +kernel
theorem dX6_setCurve_105 : decode cX6_setCurve 105 = .ok (.bipush 12, 2) := by decide +kernel
theorem dX6_setCurve_107 : decode cX6_setCurve 107 = .ok (.iload_n 1, 1) := by decide +kernel
theorem dX6_setCurve_108 : decode cX6_setCurve 108 = .ok (.iadd, 1) := by decide +kernel
theorem dX6_setCurve_109 : decode cX6_setCurve 109 = .ok (.iload_n 2, 1) := by decide +kernel
theorem dX6_setCurve_110 : decode cX6_setCurve 110 = .ok (.i2l, 1) := by decide +kernel
theorem dX6_setCurve_111 : decode cX6_setCurve 111 = .ok (.lastore, 1) := by decide +kernel
theorem dX6_setCurve_112 : decode cX6_setCurve 112 = .ok (.aload_n 0, 1) := by decide +kernel
theorem dX6_setCurve_113 : decode cX6_setCurve 113 = .ok (.getfield 7, 3) := by decide +kernel
theorem dX6_setCurve_116 : decode cX6_setCurve 116 = .ok (.bipush 23, 2) := by decide +kernel
theorem dX6_setCurve_118 : decode cX6_setCurve 118 = .ok (.iload_n 1, 1) := by decide +kernel
theorem dX6_setCurve_119 : decode cX6_setCurve 119 = .ok (.iadd, 1) := by decide +kernel
theorem dX6_setCurve_120 : decode cX6_setCurve 120 = .ok (.iload_n 3, 1) := by decide +kernel
theorem dX6_setCurve_121 : decode cX6_setCurve 121 = .ok (.i2l, 1) := by decide +kernel
theorem dX6_setCurve_122 : decode cX6_setCurve 122 = .ok (.lastore, 1) := by decide +kernel
theorem dX6_setCurve_123 : decode cX6_setCurve 123 = .ok (.iload 6, 2) := by decide +kernel
theorem dX6_setCurve_125 : decode cX6_setCurve 125 = .ok (.ireturn, 1) := by decide +kernel
set_option maxRecDepth 20000 in
theorem ggX6_curve_X6_in : GoodIn wsX6_curve wsX6_in := goodIn_r _ [6] rfl (by decide +kernel)
set_option maxRecDepth 20000 in
theorem gX6_curve_X6_in : GoodIn wsX6_curve (va_wsS RX6 101 yX6_in wsX6_in) := goodIn_app (goodIn_of _ (by decide +kernel)) ggX6_curve_X6_in
set_option maxRecDepth 20000 in
theorem ggX6_curve_X6_goes : GoodIn wsX6_curve wsX6_goes := goodIn_r _ [10, 11, 12, 13, 14, 15, 16, 17, 18, 19, 20, 21] rfl (by decide +kernel)
set_option maxRecDepth 20000 in
theorem gX6_curve_X6_goes : GoodIn wsX6_curve (wsV RX6 105 RX6 yX6_goes wsX6_goes) := goodIn_app (goodIn_of _ (by decide +kernel)) ggX6_curve_X6_goes
theorem dX6_curve_0 : decode cX6_curve 0 = .ok (.aload_n 0, 1) := by decide +kernel
theorem dX6_curve_1 : decode cX6_curve 1 = .ok (.iload_n 1, 1) := by decide +kernel
theorem dX6_curve_2 : decode cX6_curve 2 = .ok (.i2l, 1) := by decide +kernel
theorem dX6_curve_3 : decode cX6_curve 3 = .ok (.lconst 0, 1) := by decide +kernel
theorem dX6_curve_4 : decode cX6_curve 4 = .ok (.ldc2_w 32, 3) := by decide +kernel
theorem dX6_curve_7 : decode cX6_curve 7 = .ok (.invokestatic 101, 3) := by decide +kernel
theorem dX6_curve_10 : decode cX6_curve 10 = .ok (.iconst 1, 1) := by decide +kernel
theorem dX6_curve_11 : decode cX6_curve 11 = .ok (.invokevirtual 105, 3) := by decide +kernel
theorem dX6_curve_14 : decode cX6_curve 14 = .ok (.ifCond .eq 25, 3) := by decide +kernel
theorem dX6_curve_17 : decode cX6_curve 17 = .ok (.aload_n 0, 1) := by decide +kernel
theorem dX6_curve_18 : decode cX6_curve 18 = .ok (.getfield 7, 3) := by decide +kernel
theorem dX6_curve_21 : decode cX6_curve 21 = .ok (.iload_n 2, 1) := by decide +kernel
theorem dX6_curve_22 : decode cX6_curve 22 = .ok (.ifCond .eq 8, 3) := by decide +kernel
theorem dX6_curve_25 : decode cX6_curve 25 = .ok (.bipush 23, 2) := by decide +kernel
theorem dX6_curve_27 : decode cX6_curve 27 = .ok (.goto 5, 3) := by decide +kernel
theorem dX6_curve_30 : decode cX6_curve 30 = .ok (.bipush 12, 2) := by decide +kernel
theorem dX6_curve_32 : decode cX6_curve 32 = .ok (.iload_n 1, 1) := by decide +kernel
theorem dX6_curve_33 : decode cX6_curve 33 = .ok (.iadd, 1) := by decide +kernel
theorem dX6_curve_34 : decode cX6_curve 34 = .ok (.laload, 1) := by decide +kernel
theorem dX6_curve_35 : decode cX6_curve 35 = .ok (.l2i, 1) := by decide +kernel
theorem dX6_curve_36 : decode cX6_curve 36 = .ok (.goto 4, 3) := by decide +kernel
theorem dX6_curve_39 : decode cX6_curve 39 = .ok (.iconst 0, 1) := by decide +kernel
theorem dX6_curve_40 : decode cX6_curve 40 = .ok (.ireturn, 1) := by decide +kernel
theorem dX6_branch_0 : decode cX6_branch 0 = .ok (.iload_n 2, 1) := by decide +kernel
theorem dX6_branch_1 : decode cX6_branch 1 = .ok (.sipush 1000, 3) := by decide +kernel
theorem dX6_branch_4 : decode cX6_branch 4 = .ok (.idiv, 1) := by decide +kernel
theorem dX6_branch_5 : decode cX6_branch 5 = .ok (.bipush 9, 2) := by decide +kernel
theorem dX6_branch_7 : decode cX6_branch 7 = .ok (.if_icmp .ge 11, 3) := by decide +kernel
theorem dX6_branch_10 : decode cX6_branch 10 = .ok (.iload_n 2, 1) := by decide +kernel
theorem dX6_branch_11 : decode cX6_branch 11 = .ok (.sipush 1000, 3) := by decide +kernel
theorem dX6_branch_14 : decode cX6_branch 14 = .ok (.idiv, 1) := by decide +kernel
theorem dX6_branch_15 : decode cX6_branch 15 = .ok (.goto 5, 3) := by decide +kernel
theorem dX6_branch_18 : decode cX6_branch 18 = .ok (.bipush 9, 2) := by decide +kernel
theorem dX6_branch_20 : decode cX6_branch 20 = .ok (.istore_n 3, 1) := by decide +kernel
theorem dX6_branch_21 : decode cX6_branch 21 = .ok (.aload_n 0, 1) := by decide +kernel
theorem dX6_branch_22 : decode cX6_branch 22 = .ok (.getfield 7, 3) := by decide +kernel
theorem dX6_branch_25 : decode cX6_branch 25 = .ok (.iload_n 1, 1) := by decide +kernel
theorem dX6_branch_26 : decode cX6_branch 26 = .ok (.iload_n 3, 1) := by decide +kernel
theorem dX6_branch_27 : decode cX6_branch 27 = .ok (.iadd, 1) := by decide +kernel
theorem dX6_branch_28 : decode cX6_branch 28 = .ok (.laload, 1) := by decide +kernel
theorem dX6_branch_29 : decode cX6_branch 29 = .ok (.lstore 4, 2) := by decide +kernel
theorem dX6_branch_31 : decode cX6_branch 31 = .ok (.lload 4, 2) := by decide +kernel
theorem dX6_branch_33 : decode cX6_branch 33 = .ok (.aload_n 0, 1) := by decide +kernel
theorem dX6_branch_34 : decode cX6_branch 34 = .ok (.getfield 7, 3) := by decide +kernel
theorem dX6_branch_37 : decode cX6_branch 37 = .ok (.iload_n 1, 1) := by decide +kernel
theorem dX6_branch_38 : decode cX6_branch 38 = .ok (.iload_n 3, 1) := by decide +kernel
theorem dX6_branch_39 : decode cX6_branch 39 = .ok (.iadd, 1) := by decide +kernel
theorem dX6_branch_40 : decode cX6_branch 40 = .ok (.iconst 1, 1) := by decide +kernel
theorem dX6_branch_41 : decode cX6_branch 41 = .ok (.iadd, 1) := by decide +kernel
theorem dX6_branch_42 : decode cX6_branch 42 = .ok (.laload, 1) := by decide +kernel
theorem dX6_branch_43 : decode cX6_branch 43 = .ok (.lload 4, 2) := by decide +kernel
theorem dX6_branch_45 : decode cX6_branch 45 = .ok (.lsub, 1) := by decide +kernel
theorem dX6_branch_46 : decode cX6_branch 46 = .ok (.iload_n 2, 1) := by decide +kernel
theorem dX6_branch_47 : decode cX6_branch 47 = .ok (.i2l, 1) := by decide +kernel
theorem dX6_branch_48 : decode cX6_branch 48 = .ok (.ldc2_w 114, 3) := by decide +kernel
theorem dX6_branch_51 : decode cX6_branch 51 = .ok (.iload_n 3, 1) := by decide +kernel
theorem dX6_branch_52 : decode cX6_branch 52 = .ok (.i2l, 1) := by decide +kernel
theorem dX6_branch_53 : decode cX6_branch 53 = .ok (.lmul, 1) := by decide +kernel
theorem dX6_branch_54 : decode cX6_branch 54 = .ok (.lsub, 1) := by decide +kernel
theorem dX6_branch_55 : decode cX6_branch 55 = .ok (.lmul, 1) := by decide +kernel
theorem dX6_branch_56 : decode cX6_branch 56 = .ok (.ldc2_w 114, 3) := by decide +kernel
theorem dX6_branch_59 : decode cX6_branch 59 = .ok (.ldiv, 1) := by decide +kernel
theorem dX6_branch_60 : decode cX6_branch 60 = .ok (.ladd, 1) := by decide +kernel
theorem dX6_branch_61 : decode cX6_branch 61 = .ok (.lreturn, 1) := by decide +kernel
set_option maxRecDepth 20000 in
theorem ggX6_voltage_X6_branch : GoodIn wsX6_voltage wsX6_branch := goodIn_r _ [6, 7, 1, 8, 9, 10, 11, 12, 13, 14, 15, 16, 17] rfl (by decide +kernel)
set_option maxRecDepth 20000 in
theorem gX6_voltage_X6_branch : GoodIn wsX6_voltage (wsV RX6 135 RX6 yX6_branch wsX6_branch) := goodIn_app (goodIn_of _ (by decide +kernel)) ggX6_voltage_X6_branch
theorem dX6_voltage_0 : decode cX6_voltage 0 = .ok (.aload_n 0, 1) := by decide +kernel
theorem dX6_voltage_1 : decode cX6_voltage 1 = .ok (.bipush 12, 2) := by decide +kernel
theorem dX6_voltage_3 : decode cX6_voltage 3 = .ok (.iload_n 1, 1) := by decide +kernel
theorem dX6_voltage_4 : decode cX6_voltage 4 = .ok (.invokevirtual 135, 3) := by decide +kernel
theorem dX6_voltage_7 : decode cX6_voltage 7 = .ok (.lstore 4, 2) := by decide +kernel
theorem dX6_voltage_9 : decode cX6_voltage 9 = .ok (.lload 4, 2) := by decide +kernel
theorem dX6_voltage_11 : decode cX6_voltage 11 = .ok (.aload_n 0, 1) := by decide +kernel
theorem dX6_voltage_12 : decode cX6_voltage 12 = .ok (.bipush 23, 2) := by decide +kernel
theorem dX6_voltage_14 : decode cX6_voltage 14 = .ok (.iload_n 1, 1) := by decide +kernel
theorem dX6_voltage_15 : decode cX6_voltage 15 = .ok (.invokevirtual 135, 3) := by decide +kernel
theorem dX6_voltage_18 : decode cX6_voltage 18 = .ok (.lload 4, 2) := by decide +kernel
theorem dX6_voltage_20 : decode cX6_voltage 20 = .ok (.lsub, 1) := by decide +kernel
theorem dX6_voltage_21 : decode cX6_voltage 21 = .ok (.lload_n 2, 1) := by decide +kernel
theorem dX6_voltage_22 : decode cX6_voltage 22 = .ok (.lmul, 1) := by decide +kernel
theorem dX6_voltage_23 : decode cX6_voltage 23 = .ok (.ldc2_w 114, 3) := by decide +kernel
theorem dX6_voltage_26 : decode cX6_voltage 26 = .ok (.ldiv, 1) := by decide +kernel
theorem dX6_voltage_27 : decode cX6_voltage 27 = .ok (.ladd, 1) := by decide +kernel
theorem dX6_voltage_28 : decode cX6_voltage 28 = .ok (.lreturn, 1) := by decide +kernel
set_option maxRecDepth 20000 in
theorem ggX6_inverted_X6_voltage : GoodIn wsX6_inverted wsX6_voltage := goodIn_r _ [5, 6, 7, 8, 9, 4, 10, 11, 12, 13, 14, 15, 16, 17, 18, 19, 20, 21] rfl (by decide +kernel)
set_option maxRecDepth 20000 in
theorem gX6_inverted_X6_voltage : GoodIn wsX6_inverted (wsV RX6 139 RX6 yX6_voltage wsX6_voltage) := goodIn_app (goodIn_of _ (by decide +kernel)) ggX6_inverted_X6_voltage
theorem dX6_inverted_0 : decode cX6_inverted 0 = .ok (.iconst 0, 1) := by decide +kernel
theorem dX6_inverted_1 : decode cX6_inverted 1 = .ok (.istore 5, 2) := by decide +kernel
theorem dX6_inverted_3 : decode cX6_inverted 3 = .ok (.iload 5, 2) := by decide +kernel
theorem dX6_inverted_5 : decode cX6_inverted 5 = .ok (.sipush 10000, 3) := by decide +kernel
theorem dX6_inverted_8 : decode cX6_inverted 8 = .ok (.if_icmp .ge 24, 3) := by decide +kernel
theorem dX6_inverted_11 : decode cX6_inverted 11 = .ok (.aload_n 0, 1) := by decide +kernel
theorem dX6_inverted_12 : decode cX6_inverted 12 = .ok (.iload 5, 2) := by decide +kernel
theorem dX6_inverted_14 : decode cX6_inverted 14 = .ok (.lload_n 3, 1) := by decide +kernel
theorem dX6_inverted_15 : decode cX6_inverted 15 = .ok (.invokevirtual 139, 3) := by decide +kernel
theorem dX6_inverted_18 : decode cX6_inverted 18 = .ok (.lload_n 1, 1) := by decide +kernel
theorem dX6_inverted_19 : decode cX6_inverted 19 = .ok (.lcmp, 1) := by decide +kernel
theorem dX6_inverted_20 : decode cX6_inverted 20 = .ok (.ifCond .lt 6, 3) := by decide +kernel
theorem dX6_inverted_23 : decode cX6_inverted 23 = .ok (.iload 5, 2) := by decide +kernel
theorem dX6_inverted_25 : decode cX6_inverted 25 = .ok (.ireturn, 1) := by decide +kernel
theorem dX6_inverted_26 : decode cX6_inverted 26 = .ok (.iinc 5 1, 3) := by decide +kernel
theorem dX6_inverted_29 : decode cX6_inverted 29 = .ok (.goto (-26), 3) := by decide +kernel
theorem dX6_inverted_32 : decode cX6_inverted 32 = .ok (.sipush 10000, 3) := by decide +kernel
theorem dX6_inverted_35 : decode cX6_inverted 35 = .ok (.ireturn, 1) := by decide +kernel
set_option maxRecDepth 20000 in
theorem ggX6_hysteresis_X6_range : GoodIn wsX6_hysteresis wsX6_range := goodIn_r _ [7, 1, 8, 9, 10, 11, 12, 13, 14, 15, 16, 17, 18] rfl (by decide +kernel)
set_option maxRecDepth 20000 in
theorem gX6_hysteresis_X6_range : GoodIn wsX6_hysteresis (wsV RX6 118 RX6 yX6_range wsX6_range) := goodIn_app (goodIn_of _ (by decide +kernel)) ggX6_hysteresis_X6_range
theorem dX6_hysteresis_0 : decode cX6_hysteresis 0 = .ok (.aload_n 0, 1) := by decide +kernel
theorem dX6_hysteresis_1 : decode cX6_hysteresis 1 = .ok (.getfield 7, 3) := by decide +kernel
theorem dX6_hysteresis_4 : decode cX6_hysteresis 4 = .ok (.bipush 39, 2) := by decide +kernel
theorem dX6_hysteresis_6 : decode cX6_hysteresis 6 = .ok (.laload, 1) := by decide +kernel
theorem dX6_hysteresis_7 : decode cX6_hysteresis 7 = .ok (.ldc2_w 114, 3) := by decide +kernel
theorem dX6_hysteresis_10 : decode cX6_hysteresis 10 = .ok (.lmul, 1) := by decide +kernel
theorem dX6_hysteresis_11 : decode cX6_hysteresis 11 = .ok (.aload_n 0, 1) := by decide +kernel
theorem dX6_hysteresis_12 : decode cX6_hysteresis 12 = .ok (.invokevirtual 118, 3) := by decide +kernel
theorem dX6_hysteresis_15 : decode cX6_hysteresis 15 = .ok (.ldiv, 1) := by decide +kernel
theorem dX6_hysteresis_16 : decode cX6_hysteresis 16 = .ok (.lreturn, 1) := by decide +kernel
set_option maxRecDepth 20000 in
theorem ggX6_openVoltage_X6_in : GoodIn wsX6_openVoltage wsX6_in := goodIn_r _ [6] rfl (by decide +kernel)
set_option maxRecDepth 20000 in
theorem gX6_openVoltage_X6_in : GoodIn wsX6_openVoltage (va_wsS RX6 101 yX6_in wsX6_in) := goodIn_app (goodIn_of _ (by decide +kernel)) ggX6_openVoltage_X6_in
set_option maxRecDepth 20000 in
theorem ggX6_openVoltage_X6_goes : GoodIn wsX6_openVoltage wsX6_goes := goodIn_r _ [10, 11, 21, 22, 23, 24, 25, 26, 27, 28, 29, 30] rfl (by decide +kernel)
set_option maxRecDepth 20000 in
theorem gX6_openVoltage_X6_goes : GoodIn wsX6_openVoltage (wsV RX6 105 RX6 yX6_goes wsX6_goes) := goodIn_app (goodIn_of _ (by decide +kernel)) ggX6_openVoltage_X6_goes
set_option maxRecDepth 20000 in
theorem ggX6_openVoltage_X6_voltage : GoodIn wsX6_openVoltage wsX6_voltage := goodIn_r _ [15, 2, 16, 17, 18, 5, 19, 20, 21, 22, 23, 24, 25, 26, 27, 28, 29, 30] rfl (by decide +kernel)
set_option maxRecDepth 20000 in
theorem gX6_openVoltage_X6_voltage : GoodIn wsX6_openVoltage (wsV RX6 139 RX6 yX6_voltage wsX6_voltage) := goodIn_app (goodIn_of _ (by decide +kernel)) ggX6_openVoltage_X6_voltage
theorem dX6_openVoltage_0 : decode cX6_openVoltage 0 = .ok (.aload_n 0, 1) := by decide +kernel
theorem dX6_openVoltage_1 : decode cX6_openVoltage 1 = .ok (.iload_n 1, 1) := by decide +kernel
theorem dX6_openVoltage_2 : decode cX6_openVoltage 2 = .ok (.i2l, 1) := by decide +kernel
theorem dX6_openVoltage_3 : decode cX6_openVoltage 3 = .ok (.lconst 0, 1) := by decide +kernel
theorem dX6_openVoltage_4 : decode cX6_openVoltage 4 = .ok (.ldc2_w 93, 3) := by decide +kernel
theorem dX6_openVoltage_7 : decode cX6_openVoltage 7 = .ok (.invokestatic 101, 3) := by decide +kernel
theorem dX6_openVoltage_10 : decode cX6_openVoltage 10 = .ok (.ifCond .eq 19, 3) := by decide +kernel
theorem dX6_openVoltage_13 : decode cX6_openVoltage 13 = .ok (.iload_n 2, 1) := by decide +kernel
theorem dX6_openVoltage_14 : decode cX6_openVoltage 14 = .ok (.i2l, 1) := by decide +kernel
theorem dX6_openVoltage_15 : decode cX6_openVoltage 15 = .ok (.lconst 0, 1) := by decide +kernel
theorem dX6_openVoltage_16 : decode cX6_openVoltage 16 = .ok (.ldc2_w 114, 3) := by decide +kernel
theorem dX6_openVoltage_19 : decode cX6_openVoltage 19 = .ok (.invokestatic 101, 3) := by decide +kernel
theorem dX6_openVoltage_22 : decode cX6_openVoltage 22 = .ok (.ifCond .eq 7, 3) := by decide +kernel
theorem dX6_openVoltage_25 : decode cX6_openVoltage 25 = .ok (.iconst 1, 1) := by decide +kernel
theorem dX6_openVoltage_26 : decode cX6_openVoltage 26 = .ok (.goto 4, 3) := by decide +kernel
theorem dX6_openVoltage_29 : decode cX6_openVoltage 29 = .ok (.iconst 0, 1) := by decide +kernel
theorem dX6_openVoltage_30 : decode cX6_openVoltage 30 = .ok (.iconst 1, 1) := by decide +kernel
theorem dX6_openVoltage_31 : decode cX6_openVoltage 31 = .ok (.invokevirtual 105, 3) := by decide +kernel
theorem dX6_openVoltage_34 : decode cX6_openVoltage 34 = .ok (.ifCond .eq 14, 3) := by decide +kernel
theorem dX6_openVoltage_37 : decode cX6_openVoltage 37 = .ok (.aload_n 0, 1) := by decide +kernel
theorem dX6_openVoltage_38 : decode cX6_openVoltage 38 = .ok (.iload_n 1, 1) := by decide +kernel
theorem dX6_openVoltage_39 : decode cX6_openVoltage 39 = .ok (.iload_n 2, 1) := by decide +kernel
theorem dX6_openVoltage_40 : decode cX6_openVoltage 40 = .ok (.i2l, 1) := by decide +kernel
theorem dX6_openVoltage_41 : decode cX6_openVoltage 41 = .ok (.invokevirtual 139, 3) := by decide +kernel
theorem dX6_openVoltage_44 : decode cX6_openVoltage 44 = .ok (.l2i, 1) := by decide +kernel
theorem dX6_openVoltage_45 : decode cX6_openVoltage 45 = .ok (.goto 4, 3) := by decide +kernel
theorem dX6_openVoltage_48 : decode cX6_openVoltage 48 = .ok (.iconst 0, 1) := by decide +kernel
theorem dX6_openVoltage_49 : decode cX6_openVoltage 49 = .ok (.ireturn, 1) := by decide +kernel
set_option maxRecDepth 20000 in
theorem ggX6_invert_X6_in : GoodIn wsX6_invert wsX6_in := goodIn_r _ [6] rfl (by decide +kernel)
set_option maxRecDepth 20000 in
theorem gX6_invert_X6_in : GoodIn wsX6_invert (va_wsS RX6 101 yX6_in wsX6_in) := goodIn_app (goodIn_of _ (by decide +kernel)) ggX6_invert_X6_in
set_option maxRecDepth 20000 in
theorem ggX6_invert_X6_goes : GoodIn wsX6_invert wsX6_goes := goodIn_r _ [10, 11, 25, 26, 27, 28, 29, 30, 31, 32, 33, 34] rfl (by decide +kernel)
set_option maxRecDepth 20000 in
theorem gX6_invert_X6_goes : GoodIn wsX6_invert (wsV RX6 105 RX6 yX6_goes wsX6_goes) := goodIn_app (goodIn_of _ (by decide +kernel)) ggX6_invert_X6_goes
set_option maxRecDepth 20000 in
theorem ggX6_invert_X6_inverted : GoodIn wsX6_invert wsX6_inverted := goodIn_r _ [15, 16, 17, 18, 5, 19, 2, 20, 21, 22, 23, 24, 25, 26, 27, 28, 29, 30, 31, 32, 33, 34] rfl (by decide +kernel)
set_option maxRecDepth 20000 in
theorem gX6_invert_X6_inverted : GoodIn wsX6_invert (wsV RX6 145 RX6 yX6_inverted wsX6_inverted) := goodIn_app (goodIn_of _ (by decide +kernel)) ggX6_invert_X6_inverted
theorem dX6_invert_0 : decode cX6_invert 0 = .ok (.aload_n 0, 1) := by decide +kernel
theorem dX6_invert_1 : decode cX6_invert 1 = .ok (.iload_n 1, 1) := by decide +kernel
theorem dX6_invert_2 : decode cX6_invert 2 = .ok (.i2l, 1) := by decide +kernel
theorem dX6_invert_3 : decode cX6_invert 3 = .ok (.lconst 0, 1) := by decide +kernel
theorem dX6_invert_4 : decode cX6_invert 4 = .ok (.ldc2_w 143, 3) := by decide +kernel
theorem dX6_invert_7 : decode cX6_invert 7 = .ok (.invokestatic 101, 3) := by decide +kernel
theorem dX6_invert_10 : decode cX6_invert 10 = .ok (.ifCond .eq 19, 3) := by decide +kernel
theorem dX6_invert_13 : decode cX6_invert 13 = .ok (.iload_n 2, 1) := by decide +kernel
theorem dX6_invert_14 : decode cX6_invert 14 = .ok (.i2l, 1) := by decide +kernel
theorem dX6_invert_15 : decode cX6_invert 15 = .ok (.lconst 0, 1) := by decide +kernel
theorem dX6_invert_16 : decode cX6_invert 16 = .ok (.ldc2_w 114, 3) := by decide +kernel
theorem dX6_invert_19 : decode cX6_invert 19 = .ok (.invokestatic 101, 3) := by decide +kernel
theorem dX6_invert_22 : decode cX6_invert 22 = .ok (.ifCond .eq 7, 3) := by decide +kernel
theorem dX6_invert_25 : decode cX6_invert 25 = .ok (.iconst 1, 1) := by decide +kernel
theorem dX6_invert_26 : decode cX6_invert 26 = .ok (.goto 4, 3) := by decide +kernel
theorem dX6_invert_29 : decode cX6_invert 29 = .ok (.iconst 0, 1) := by decide +kernel
theorem dX6_invert_30 : decode cX6_invert 30 = .ok (.iconst 1, 1) := by decide +kernel
theorem dX6_invert_31 : decode cX6_invert 31 = .ok (.invokevirtual 105, 3) := by decide +kernel
theorem dX6_invert_34 : decode cX6_invert 34 = .ok (.ifCond .eq 14, 3) := by decide +kernel
theorem dX6_invert_37 : decode cX6_invert 37 = .ok (.aload_n 0, 1) := by decide +kernel
theorem dX6_invert_38 : decode cX6_invert 38 = .ok (.iload_n 1, 1) := by decide +kernel
theorem dX6_invert_39 : decode cX6_invert 39 = .ok (.i2l, 1) := by decide +kernel
theorem dX6_invert_40 : decode cX6_invert 40 = .ok (.iload_n 2, 1) := by decide +kernel
theorem dX6_invert_41 : decode cX6_invert 41 = .ok (.i2l, 1) := by decide +kernel
theorem dX6_invert_42 : decode cX6_invert 42 = .ok (.invokevirtual 145, 3) := by decide +kernel
theorem dX6_invert_45 : decode cX6_invert 45 = .ok (.goto 4, 3) := by decide +kernel
theorem dX6_invert_48 : decode cX6_invert 48 = .ok (.iconst 0, 1) := by decide +kernel
theorem dX6_invert_49 : decode cX6_invert 49 = .ok (.ireturn, 1) := by decide +kernel
theorem dX6_counts_0 : decode cX6_counts 0 = .ok (.lload_n 1, 1) := by decide +kernel
theorem dX6_counts_1 : decode cX6_counts 1 = .ok (.lconst 0, 1) := by decide +kernel
theorem dX6_counts_2 : decode cX6_counts 2 = .ok (.lcmp, 1) := by decide +kernel
theorem dX6_counts_3 : decode cX6_counts 3 = .ok (.ifCond .le 20, 3) := by decide +kernel
theorem dX6_counts_6 : decode cX6_counts 6 = .ok (.lload_n 1, 1) := by decide +kernel
theorem dX6_counts_7 : decode cX6_counts 7 = .ok (.lload_n 3, 1) := by decide +kernel
theorem dX6_counts_8 : decode cX6_counts 8 = .ok (.lmul, 1) := by decide +kernel
theorem dX6_counts_9 : decode cX6_counts 9 = .ok (.aload_n 0, 1) := by decide +kernel
theorem dX6_counts_10 : decode cX6_counts 10 = .ok (.getfield 7, 3) := by decide +kernel
theorem dX6_counts_13 : decode cX6_counts 13 = .ok (.iconst 0, 1) := by decide +kernel
theorem dX6_counts_14 : decode cX6_counts 14 = .ok (.laload, 1) := by decide +kernel
theorem dX6_counts_15 : decode cX6_counts 15 = .ok (.lmul, 1) := by decide +kernel
theorem dX6_counts_16 : decode cX6_counts 16 = .ok (.ldc2_w 114, 3) := by decide +kernel
theorem dX6_counts_19 : decode cX6_counts 19 = .ok (.ldiv, 1) := by decide +kernel
theorem dX6_counts_20 : decode cX6_counts 20 = .ok (.goto 6, 3) := by decide +kernel
theorem dX6_counts_23 : decode cX6_counts 23 = .ok (.lload_n 1, 1) := by decide +kernel
theorem dX6_counts_24 : decode cX6_counts 24 = .ok (.lload_n 3, 1) := by decide +kernel
theorem dX6_counts_25 : decode cX6_counts 25 = .ok (.lmul, 1) := by decide +kernel
theorem dX6_counts_26 : decode cX6_counts 26 = .ok (.lreturn, 1) := by decide +kernel
set_option maxRecDepth 20000 in
theorem ggX6_drift_X6_size : GoodIn wsX6_drift wsX6_size := goodIn_r _ [7] rfl (by decide +kernel)
set_option maxRecDepth 20000 in
theorem gX6_drift_X6_size : GoodIn wsX6_drift (va_wsS RX6 149 yX6_size wsX6_size) := goodIn_app (goodIn_of _ (by decide +kernel)) ggX6_drift_X6_size
theorem dX6_drift_0 : decode cX6_drift 0 = .ok (.aload_n 0, 1) := by decide +kernel
theorem dX6_drift_1 : decode cX6_drift 1 = .ok (.getfield 7, 3) := by decide +kernel
theorem dX6_drift_4 : decode cX6_drift 4 = .ok (.iconst 1, 1) := by decide +kernel
theorem dX6_drift_5 : decode cX6_drift 5 = .ok (.laload, 1) := by decide +kernel
theorem dX6_drift_6 : decode cX6_drift 6 = .ok (.lload_n 3, 1) := by decide +kernel
theorem dX6_drift_7 : decode cX6_drift 7 = .ok (.lmul, 1) := by decide +kernel
theorem dX6_drift_8 : decode cX6_drift 8 = .ok (.ldc2_w 114, 3) := by decide +kernel
theorem dX6_drift_11 : decode cX6_drift 11 = .ok (.ldiv, 1) := by decide +kernel
theorem dX6_drift_12 : decode cX6_drift 12 = .ok (.lload_n 1, 1) := by decide +kernel
theorem dX6_drift_13 : decode cX6_drift 13 = .ok (.invokestatic 149, 3) := by decide +kernel
theorem dX6_drift_16 : decode cX6_drift 16 = .ok (.aload_n 0, 1) := by decide +kernel
theorem dX6_drift_17 : decode cX6_drift 17 = .ok (.getfield 7, 3) := by decide +kernel
theorem dX6_drift_20 : decode cX6_drift 20 = .ok (.iconst 2, 1) := by decide +kernel
theorem dX6_drift_21 : decode cX6_drift 21 = .ok (.laload, 1) := by decide +kernel
theorem dX6_drift_22 : decode cX6_drift 22 = .ok (.lmul, 1) := by decide +kernel
theorem dX6_drift_23 : decode cX6_drift 23 = .ok (.ldc2_w 153, 3) := by decide +kernel
theorem dX6_drift_26 : decode cX6_drift 26 = .ok (.ldiv, 1) := by decide +kernel
theorem dX6_drift_27 : decode cX6_drift 27 = .ok (.ladd, 1) := by decide +kernel
theorem dX6_drift_28 : decode cX6_drift 28 = .ok (.lreturn, 1) := by decide +kernel
set_option maxRecDepth 20000 in
theorem ggX6_learns_X6_size : GoodIn wsX6_learns wsX6_size := goodIn_r _ [9] rfl (by decide +kernel)
set_option maxRecDepth 20000 in
theorem gX6_learns_X6_size : GoodIn wsX6_learns (va_wsS RX6 149 yX6_size wsX6_size) := goodIn_app (goodIn_of _ (by decide +kernel)) ggX6_learns_X6_size
set_option maxRecDepth 20000 in
theorem ggX6_learns_X6_in : GoodIn wsX6_learns wsX6_in := goodIn_r _ [12] rfl (by decide +kernel)
set_option maxRecDepth 20000 in
theorem gX6_learns_X6_in : GoodIn wsX6_learns (va_wsS RX6 101 yX6_in wsX6_in) := goodIn_app (goodIn_of _ (by decide +kernel)) ggX6_learns_X6_in
set_option maxRecDepth 20000 in
theorem ggX6_learns_X6_floor : GoodIn wsX6_learns wsX6_floor := goodIn_r _ [15] rfl (by decide +kernel)
set_option maxRecDepth 20000 in
theorem gX6_learns_X6_floor : GoodIn wsX6_learns (va_wsS RX6 95 yX6_floor wsX6_floor) := goodIn_app (goodIn_of _ (by decide +kernel)) ggX6_learns_X6_floor
set_option maxRecDepth 20000 in
theorem ggX6_learns_X6_lowersHysteresis : GoodIn wsX6_learns wsX6_lowersHysteresis := goodIn_r _ [19, 1, 20, 21, 22, 8, 23, 24, 25, 26, 27, 28, 29, 30, 31, 32, 33, 34] rfl (by decide +kernel)
set_option maxRecDepth 20000 in
theorem gX6_learns_X6_lowersHysteresis : GoodIn wsX6_learns (wsV RX6 128 RX6 yX6_lowersHysteresis wsX6_lowersHysteresis) := goodIn_app (goodIn_of _ (by decide +kernel)) ggX6_learns_X6_lowersHysteresis
theorem dX6_learns_0 : decode cX6_learns 0 = .ok (.lload_n 1, 1) := by decide +kernel
theorem dX6_learns_1 : decode cX6_learns 1 = .ok (.aload_n 0, 1) := by decide +kernel
theorem dX6_learns_2 : decode cX6_learns 2 = .ok (.getfield 7, 3) := by decide +kernel
theorem dX6_learns_5 : decode cX6_learns 5 = .ok (.bipush 49, 2) := by decide +kernel
theorem dX6_learns_7 : decode cX6_learns 7 = .ok (.laload, 1) := by decide +kernel
theorem dX6_learns_8 : decode cX6_learns 8 = .ok (.lsub, 1) := by decide +kernel
theorem dX6_learns_9 : decode cX6_learns 9 = .ok (.invokestatic 149, 3) := by decide +kernel
theorem dX6_learns_12 : decode cX6_learns 12 = .ok (.lstore_n 3, 1) := by decide +kernel
theorem dX6_learns_13 : decode cX6_learns 13 = .ok (.aload_n 0, 1) := by decide +kernel
theorem dX6_learns_14 : decode cX6_learns 14 = .ok (.getfield 7, 3) := by decide +kernel
theorem dX6_learns_17 : decode cX6_learns 17 = .ok (.bipush 40, 2) := by decide +kernel
theorem dX6_learns_19 : decode cX6_learns 19 = .ok (.laload, 1) := by decide +kernel
theorem dX6_learns_20 : decode cX6_learns 20 = .ok (.lstore 5, 2) := by decide +kernel
theorem dX6_learns_22 : decode cX6_learns 22 = .ok (.aload_n 0, 1) := by decide +kernel
theorem dX6_learns_23 : decode cX6_learns 23 = .ok (.getfield 7, 3) := by decide +kernel
theorem dX6_learns_26 : decode cX6_learns 26 = .ok (.bipush 48, 2) := by decide +kernel
theorem dX6_learns_28 : decode cX6_learns 28 = .ok (.laload, 1) := by decide +kernel
theorem dX6_learns_29 : decode cX6_learns 29 = .ok (.lconst 0, 1) := by decide +kernel
theorem dX6_learns_30 : decode cX6_learns 30 = .ok (.lcmp, 1) := by decide +kernel
theorem dX6_learns_31 : decode cX6_learns 31 = .ok (.ifCond .eq 54, 3) := by decide +kernel
theorem dX6_learns_34 : decode cX6_learns 34 = .ok (.lload_n 3, 1) := by decide +kernel
theorem dX6_learns_35 : decode cX6_learns 35 = .ok (.aload_n 0, 1) := by decide +kernel
theorem dX6_learns_36 : decode cX6_learns 36 = .ok (.getfield 7, 3) := by decide +kernel
theorem dX6_learns_39 : decode cX6_learns 39 = .ok (.bipush 11, 2) := by decide +kernel
theorem dX6_learns_41 : decode cX6_learns 41 = .ok (.laload, 1) := by decide +kernel
theorem dX6_learns_42 : decode cX6_learns 42 = .ok (.lcmp, 1) := by decide +kernel
theorem dX6_learns_43 : decode cX6_learns 43 = .ok (.ifCond .lt 42, 3) := by decide +kernel
theorem dX6_learns_46 : decode cX6_learns 46 = .ok (.lload 5, 2) := by decide +kernel
theorem dX6_learns_48 : decode cX6_learns 48 = .ok (.lconst 0, 1) := by decide +kernel
theorem dX6_learns_49 : decode cX6_learns 49 = .ok (.lcmp, 1) := by decide +kernel
theorem dX6_learns_50 : decode cX6_learns 50 = .ok (.ifCond .eq 35, 3) := by decide +kernel
theorem dX6_learns_53 : decode cX6_learns 53 = .ok (.lload 5, 2) := by decide +kernel
theorem dX6_learns_55 : decode cX6_learns 55 = .ok (.lconst 0, 1) := by decide +kernel
theorem dX6_learns_56 : decode cX6_learns 56 = .ok (.lcmp, 1) := by decide +kernel
theorem dX6_learns_57 : decode cX6_learns 57 = .ok (.ifCond .le 7, 3) := by decide +kernel
theorem dX6_learns_60 : decode cX6_learns 60 = .ok (.iconst 1, 1) := by decide +kernel
theorem dX6_learns_61 : decode cX6_learns 61 = .ok (.goto 4, 3) := by decide +kernel
theorem dX6_learns_64 : decode cX6_learns 64 = .ok (.iconst 0, 1) := by decide +kernel
theorem dX6_learns_65 : decode cX6_learns 65 = .ok (.lload_n 1, 1) := by decide +kernel
theorem dX6_learns_66 : decode cX6_learns 66 = .ok (.aload_n 0, 1) := by decide +kernel
theorem dX6_learns_67 : decode cX6_learns 67 = .ok (.getfield 7, 3) := by decide +kernel
theorem dX6_learns_70 : decode cX6_learns 70 = .ok (.bipush 49, 2) := by decide +kernel
theorem dX6_learns_72 : decode cX6_learns 72 = .ok (.laload, 1) := by decide +kernel
theorem dX6_learns_73 : decode cX6_learns 73 = .ok (.lcmp, 1) := by decide +kernel
theorem dX6_learns_74 : decode cX6_learns 74 = .ok (.ifCond .le 7, 3) := by decide +kernel
theorem dX6_learns_77 : decode cX6_learns 77 = .ok (.iconst 1, 1) := by decide +kernel
theorem dX6_learns_78 : decode cX6_learns 78 = .ok (.goto 4, 3) := by decide +kernel
theorem dX6_learns_81 : decode cX6_learns 81 = .ok (.iconst 0, 1) := by decide +kernel
theorem dX6_learns_82 : decode cX6_learns 82 = .ok (.if_icmp .eq 4, 3) := by decide +kernel
theorem dX6_learns_85 : decode cX6_learns 85 = .ok (.return_, 1) := by decide +kernel
theorem dX6_learns_86 : decode cX6_learns 86 = .ok (.lload 5, 2) := by decide +kernel
theorem dX6_learns_88 : decode cX6_learns 88 = .ok (.invokestatic 149, 3) := by decide +kernel
theorem dX6_learns_91 : decode cX6_learns 91 = .ok (.ldc2_w 93, 3) := by decide +kernel
theorem dX6_learns_94 : decode cX6_learns 94 = .ok (.lmul, 1) := by decide +kernel
theorem dX6_learns_95 : decode cX6_learns 95 = .ok (.lload_n 3, 1) := by decide +kernel
theorem dX6_learns_96 : decode cX6_learns 96 = .ok (.ldiv, 1) := by decide +kernel
theorem dX6_learns_97 : decode cX6_learns 97 = .ok (.lstore 7, 2) := by decide +kernel
theorem dX6_learns_99 : decode cX6_learns 99 = .ok (.lload 7, 2) := by decide +kernel
theorem dX6_learns_101 : decode cX6_learns 101 = .ok (.aload_n 0, 1) := by decide +kernel
theorem dX6_learns_102 : decode cX6_learns 102 = .ok (.getfield 7, 3) := by decide +kernel
theorem dX6_learns_105 : decode cX6_learns 105 = .ok (.bipush 38, 2) := by decide +kernel
theorem dX6_learns_107 : decode cX6_learns 107 = .ok (.laload, 1) := by decide +kernel
theorem dX6_learns_108 : decode cX6_learns 108 = .ok (.ldc2_w 36, 3) := by decide +kernel
theorem dX6_learns_111 : decode cX6_learns 111 = .ok (.ldiv, 1) := by decide +kernel
theorem dX6_learns_112 : decode cX6_learns 112 = .ok (.aload_n 0, 1) := by decide +kernel
theorem dX6_learns_113 : decode cX6_learns 113 = .ok (.getfield 7, 3) := by decide +kernel
theorem dX6_learns_116 : decode cX6_learns 116 = .ok (.bipush 38, 2) := by decide +kernel
theorem dX6_learns_118 : decode cX6_learns 118 = .ok (.laload, 1) := by decide +kernel
theorem dX6_learns_119 : decode cX6_learns 119 = .ok (.ldc2_w 155, 3) := by decide +kernel
theorem dX6_learns_122 : decode cX6_learns 122 = .ok (.lmul, 1) := by decide +kernel
theorem dX6_learns_123 : decode cX6_learns 123 = .ok (.ldc2_w 36, 3) := by decide +kernel
theorem dX6_learns_126 : decode cX6_learns 126 = .ok (.ldiv, 1) := by decide +kernel
theorem dX6_learns_127 : decode cX6_learns 127 = .ok (.invokestatic 101, 3) := by decide +kernel
theorem dX6_learns_130 : decode cX6_learns 130 = .ok (.ifCond .eq 103, 3) := by decide +kernel
theorem dX6_learns_133 : decode cX6_learns 133 = .ok (.aload_n 0, 1) := by decide +kernel
theorem dX6_learns_134 : decode cX6_learns 134 = .ok (.getfield 7, 3) := by decide +kernel
theorem dX6_learns_137 : decode cX6_learns 137 = .ok (.bipush 37, 2) := by decide +kernel
theorem dX6_learns_139 : decode cX6_learns 139 = .ok (.dup2, 1) := by decide +kernel
theorem dX6_learns_140 : decode cX6_learns 140 = .ok (.laload, 1) := by decide +kernel
theorem dX6_learns_141 : decode cX6_learns 141 = .ok (.lload 7, 2) := by decide +kernel
theorem dX6_learns_143 : decode cX6_learns 143 = .ok (.aload_n 0, 1) := by decide +kernel
theorem dX6_learns_144 : decode cX6_learns 144 = .ok (.getfield 7, 3) := by decide +kernel
theorem dX6_learns_147 : decode cX6_learns 147 = .ok (.bipush 37, 2) := by decide +kernel
theorem dX6_learns_149 : decode cX6_learns 149 = .ok (.laload, 1) := by decide +kernel
theorem dX6_learns_150 : decode cX6_learns 150 = .ok (.lsub, 1) := by decide +kernel
theorem dX6_learns_151 : decode cX6_learns 151 = .ok (.ldc2_w 157, 3) := by decide +kernel
theorem dX6_learns_154 : decode cX6_learns 154 = .ok (.invokestatic 95, 3) := by decide +kernel
theorem dX6_learns_157 : decode cX6_learns 157 = .ok (.ladd, 1) := by decide +kernel
theorem dX6_learns_158 : decode cX6_learns 158 = .ok (.lastore, 1) := by decide +kernel
theorem dX6_learns_159 : decode cX6_learns 159 = .ok (.aload_n 0, 1) := by decide +kernel
theorem dX6_learns_160 : decode cX6_learns 160 = .ok (.getfield 7, 3) := by decide +kernel
theorem dX6_learns_163 : decode cX6_learns 163 = .ok (.bipush 51, 2) := by decide +kernel
theorem dX6_learns_165 : decode cX6_learns 165 = .ok (.dup2, 1) := by decide +kernel
theorem dX6_learns_166 : decode cX6_learns 166 = .ok (.laload, 1) := by decide +kernel
theorem dX6_learns_167 : decode cX6_learns 167 = .ok (.lconst 1, 1) := by decide +kernel
theorem dX6_learns_168 : decode cX6_learns 168 = .ok (.ladd, 1) := by decide +kernel
theorem dX6_learns_169 : decode cX6_learns 169 = .ok (.lastore, 1) := by decide +kernel
theorem dX6_learns_170 : decode cX6_learns 170 = .ok (.bipush 34, 2) := by decide +kernel
theorem dX6_learns_172 : decode cX6_learns 172 = .ok (.istore 9, 2) := by decide +kernel
theorem dX6_learns_174 : decode cX6_learns 174 = .ok (.iload 9, 2) := by decide +kernel
theorem dX6_learns_176 : decode cX6_learns 176 = .ok (.bipush 36, 2) := by decide +kernel
theorem dX6_learns_178 : decode cX6_learns 178 = .ok (.if_icmp .gt 51, 3) := by decide +kernel
theorem dX6_learns_181 : decode cX6_learns 181 = .ok (.aload_n 0, 1) := by decide +kernel
theorem dX6_learns_182 : decode cX6_learns 182 = .ok (.getfield 7, 3) := by decide +kernel
theorem dX6_learns_185 : decode cX6_learns 185 = .ok (.iload 9, 2) := by decide +kernel
theorem dX6_learns_187 : decode cX6_learns 187 = .ok (.aload_n 0, 1) := by decide +kernel
theorem dX6_learns_188 : decode cX6_learns 188 = .ok (.getfield 7, 3) := by decide +kernel
theorem dX6_learns_191 : decode cX6_learns 191 = .ok (.iload 9, 2) := by decide +kernel
theorem dX6_learns_193 : decode cX6_learns 193 = .ok (.laload, 1) := by decide +kernel
theorem dX6_learns_194 : decode cX6_learns 194 = .ok (.aload_n 0, 1) := by decide +kernel
theorem dX6_learns_195 : decode cX6_learns 195 = .ok (.getfield 7, 3) := by decide +kernel
theorem dX6_learns_198 : decode cX6_learns 198 = .ok (.bipush 37, 2) := by decide +kernel
theorem dX6_learns_200 : decode cX6_learns 200 = .ok (.laload, 1) := by decide +kernel
theorem dX6_learns_201 : decode cX6_learns 201 = .ok (.lcmp, 1) := by decide +kernel
theorem dX6_learns_202 : decode cX6_learns 202 = .ok (.ifCond .le 13, 3) := by decide +kernel
theorem dX6_learns_205 : decode cX6_learns 205 = .ok (.aload_n 0, 1) := by decide +kernel
theorem dX6_learns_206 : decode cX6_learns 206 = .ok (.getfield 7, 3) := by decide +kernel
theorem dX6_learns_209 : decode cX6_learns 209 = .ok (.bipush 37, 2) := by decide +kernel
theorem dX6_learns_211 : decode cX6_learns 211 = .ok (.laload, 1) := by decide +kernel
theorem dX6_learns_212 : decode cX6_learns 212 = .ok (.goto 10, 3) := by decide +kernel
theorem dX6_learns_215 : decode cX6_learns 215 = .ok (.aload_n 0, 1) := by decide +kernel
theorem dX6_learns_216 : decode cX6_learns 216 = .ok (.getfield 7, 3) := by decide +kernel
theorem dX6_learns_219 : decode cX6_learns 219 = .ok (.iload 9, 2) := by decide +kernel
theorem dX6_learns_221 : decode cX6_learns 221 = .ok (.laload, 1) := by decide +kernel
theorem dX6_learns_222 : decode cX6_learns 222 = .ok (.lastore, 1) := by decide +kernel
theorem dX6_learns_223 : decode cX6_learns 223 = .ok (.iinc 9 1, 3) := by decide +kernel
theorem dX6_learns_226 : decode cX6_learns 226 = .ok (.goto (-52), 3) := by decide +kernel
theorem dX6_learns_229 : decode cX6_learns 229 = .ok (.aload_n 0, 1) := by decide +kernel
theorem dX6_learns_230 : decode cX6_learns 230 = .ok (.invokevirtual 128, 3) := by decide +kernel
theorem dX6_learns_233 : decode cX6_learns 233 = .ok (.return_, 1) := by decide +kernel
theorem dX6_logs_0 : decode cX6_logs 0 = .ok (.aload_n 0, 1) := by decide +kernel
theorem dX6_logs_1 : decode cX6_logs 1 = .ok (.getfield 7, 3) := by decide +kernel
theorem dX6_logs_4 : decode cX6_logs 4 = .ok (.bipush 52, 2) := by decide +kernel
theorem dX6_logs_6 : decode cX6_logs 6 = .ok (.laload, 1) := by decide +kernel
theorem dX6_logs_7 : decode cX6_logs 7 = .ok (.ldc2_w 54, 3) := by decide +kernel
theorem dX6_logs_10 : decode cX6_logs 10 = .ok (.lcmp, 1) := by decide +kernel
theorem dX6_logs_11 : decode cX6_logs 11 = .ok (.ifCond .ne 48, 3) := by decide +kernel
theorem dX6_logs_14 : decode cX6_logs 14 = .ok (.bipush 53, 2) := by decide +kernel
theorem dX6_logs_16 : decode cX6_logs 16 = .ok (.istore 4, 2) := by decide +kernel
theorem dX6_logs_18 : decode cX6_logs 18 = .ok (.iload 4, 2) := by decide +kernel
theorem dX6_logs_20 : decode cX6_logs 20 = .ok (.sipush 209, 3) := by decide +kernel
theorem dX6_logs_23 : decode cX6_logs 23 = .ok (.if_icmp .ge 25, 3) := by decide +kernel
theorem dX6_logs_26 : decode cX6_logs 26 = .ok (.aload_n 0, 1) := by decide +kernel
theorem dX6_logs_27 : decode cX6_logs 27 = .ok (.getfield 7, 3) := by decide +kernel
theorem dX6_logs_30 : decode cX6_logs 30 = .ok (.iload 4, 2) := by decide +kernel
theorem dX6_logs_32 : decode cX6_logs 32 = .ok (.aload_n 0, 1) := by decide +kernel
theorem dX6_logs_33 : decode cX6_logs 33 = .ok (.getfield 7, 3) := by decide +kernel
theorem dX6_logs_36 : decode cX6_logs 36 = .ok (.iload 4, 2) := by decide +kernel
theorem dX6_logs_38 : decode cX6_logs 38 = .ok (.iconst 4, 1) := by decide +kernel
theorem dX6_logs_39 : decode cX6_logs 39 = .ok (.iadd, 1) := by decide +kernel
theorem dX6_logs_40 : decode cX6_logs 40 = .ok (.laload, 1) := by decide +kernel
theorem dX6_logs_41 : decode cX6_logs 41 = .ok (.lastore, 1) := by decide +kernel
theorem dX6_logs_42 : decode cX6_logs 42 = .ok (.iinc 4 1, 3) := by decide +kernel
theorem dX6_logs_45 : decode cX6_logs 45 = .ok (.goto (-27), 3) := by decide +kernel
theorem dX6_logs_48 : decode cX6_logs 48 = .ok (.aload_n 0, 1) := by decide +kernel
theorem dX6_logs_49 : decode cX6_logs 49 = .ok (.getfield 7, 3) := by decide +kernel
theorem dX6_logs_52 : decode cX6_logs 52 = .ok (.bipush 52, 2) := by decide +kernel
theorem dX6_logs_54 : decode cX6_logs 54 = .ok (.dup2, 1) := by decide +kernel
theorem dX6_logs_55 : decode cX6_logs 55 = .ok (.laload, 1) := by decide +kernel
theorem dX6_logs_56 : decode cX6_logs 56 = .ok (.lconst 1, 1) := by decide +kernel
theorem dX6_logs_57 : decode cX6_logs 57 = .ok (.lsub, 1) := by decide +kernel
theorem dX6_logs_58 : decode cX6_logs 58 = .ok (.lastore, 1) := by decide +kernel
theorem dX6_logs_59 : decode cX6_logs 59 = .ok (.bipush 53, 2) := by decide +kernel
theorem dX6_logs_61 : decode cX6_logs 61 = .ok (.iconst 4, 1) := by decide +kernel
theorem dX6_logs_62 : decode cX6_logs 62 = .ok (.aload_n 0, 1) := by decide +kernel
theorem dX6_logs_63 : decode cX6_logs 63 = .ok (.getfield 7, 3) := by decide +kernel
theorem dX6_logs_66 : decode cX6_logs 66 = .ok (.bipush 52, 2) := by decide +kernel
theorem dX6_logs_68 : decode cX6_logs 68 = .ok (.laload, 1) := by decide +kernel
theorem dX6_logs_69 : decode cX6_logs 69 = .ok (.l2i, 1) := by decide +kernel
theorem dX6_logs_70 : decode cX6_logs 70 = .ok (.imul, 1) := by decide +kernel
theorem dX6_logs_71 : decode cX6_logs 71 = .ok (.iadd, 1) := by decide +kernel
theorem dX6_logs_72 : decode cX6_logs 72 = .ok (.istore 4, 2) := by decide +kernel
theorem dX6_logs_74 : decode cX6_logs 74 = .ok (.aload_n 0, 1) := by decide +kernel
theorem dX6_logs_75 : decode cX6_logs 75 = .ok (.getfield 7, 3) := by decide +kernel
theorem dX6_logs_78 : decode cX6_logs 78 = .ok (.iload 4, 2) := by decide +kernel
theorem dX6_logs_80 : decode cX6_logs 80 = .ok (.iload_n 1, 1) := by decide +kernel
theorem dX6_logs_81 : decode cX6_logs 81 = .ok (.i2l, 1) := by decide +kernel
theorem dX6_logs_82 : decode cX6_logs 82 = .ok (.lastore, 1) := by decide +kernel
theorem dX6_logs_83 : decode cX6_logs 83 = .ok (.aload_n 0, 1) := by decide +kernel
theorem dX6_logs_84 : decode cX6_logs 84 = .ok (.getfield 7, 3) := by decide +kernel
theorem dX6_logs_87 : decode cX6_logs 87 = .ok (.iload 4, 2) := by decide +kernel
theorem dX6_logs_89 : decode cX6_logs 89 = .ok (.iconst 1, 1) := by decide +kernel
theorem dX6_logs_90 : decode cX6_logs 90 = .ok (.iadd, 1) := by decide +kernel
theorem dX6_logs_91 : decode cX6_logs 91 = .ok (.lload_n 2, 1) := by decide +kernel
theorem dX6_logs_92 : decode cX6_logs 92 = .ok (.lastore, 1) := by decide +kernel
theorem dX6_logs_93 : decode cX6_logs 93 = .ok (.aload_n 0, 1) := by decide +kernel
theorem dX6_logs_94 : decode cX6_logs 94 = .ok (.getfield 7, 3) := by decide +kernel
theorem dX6_logs_97 : decode cX6_logs 97 = .ok (.iload 4, 2) := by decide +kernel
theorem dX6_logs_99 : decode cX6_logs 99 = .ok (.iconst 2, 1) := by decide +kernel
theorem dX6_logs_100 : decode cX6_logs 100 = .ok (.iadd, 1) := by decide +kernel
theorem dX6_logs_101 : decode cX6_logs 101 = .ok (.aload_n 0, 1) := by decide +kernel
theorem dX6_logs_102 : decode cX6_logs 102 = .ok (.getfield 7, 3) := by decide +kernel
theorem dX6_logs_105 : decode cX6_logs 105 = .ok (.bipush 42, 2) := by decide +kernel
theorem dX6_logs_107 : decode cX6_logs 107 = .ok (.laload, 1) := by decide +kernel
theorem dX6_logs_108 : decode cX6_logs 108 = .ok (.lastore, 1) := by decide +kernel
theorem dX6_logs_109 : decode cX6_logs 109 = .ok (.aload_n 0, 1) := by decide +kernel
theorem dX6_logs_110 : decode cX6_logs 110 = .ok (.getfield 7, 3) := by decide +kernel
theorem dX6_logs_113 : decode cX6_logs 113 = .ok (.iload 4, 2) := by decide +kernel
theorem dX6_logs_115 : decode cX6_logs 115 = .ok (.iconst 3, 1) := by decide +kernel
theorem dX6_logs_116 : decode cX6_logs 116 = .ok (.iadd, 1) := by decide +kernel
theorem dX6_logs_117 : decode cX6_logs 117 = .ok (.aload_n 0, 1) := by decide +kernel
theorem dX6_logs_118 : decode cX6_logs 118 = .ok (.getfield 7, 3) := by decide +kernel
theorem dX6_logs_121 : decode cX6_logs 121 = .ok (.bipush 37, 2) := by decide +kernel
theorem dX6_logs_123 : decode cX6_logs 123 = .ok (.laload, 1) := by decide +kernel
theorem dX6_logs_124 : decode cX6_logs 124 = .ok (.lastore, 1) := by decide +kernel
theorem dX6_logs_125 : decode cX6_logs 125 = .ok (.aload_n 0, 1) := by decide +kernel
theorem dX6_logs_126 : decode cX6_logs 126 = .ok (.getfield 7, 3) := by decide +kernel
theorem dX6_logs_129 : decode cX6_logs 129 = .ok (.bipush 52, 2) := by decide +kernel
theorem dX6_logs_131 : decode cX6_logs 131 = .ok (.dup2, 1) := by decide +kernel
theorem dX6_logs_132 : decode cX6_logs 132 = .ok (.laload, 1) := by decide +kernel
theorem dX6_logs_133 : decode cX6_logs 133 = .ok (.lconst 1, 1) := by decide +kernel
theorem dX6_logs_134 : decode cX6_logs 134 = .ok (.ladd, 1) := by decide +kernel
theorem dX6_logs_135 : decode cX6_logs 135 = .ok (.lastore, 1) := by decide +kernel
theorem dX6_logs_136 : decode cX6_logs 136 = .ok (.return_, 1) := by decide +kernel
set_option maxRecDepth 20000 in
theorem ggX6_anchored_X6_learns : GoodIn wsX6_anchored wsX6_learns := goodIn_r _ [8, 1, 2, 9, 10, 11, 12, 13, 7, 14, 15, 16, 17, 18, 19, 20, 21, 22, 23, 24, 25, 26, 27, 28, 29, 38, 39, 40, 41, 42, 43, 44, 45, 46, 47] rfl (by decide +kernel)
set_option maxRecDepth 20000 in
theorem gX6_anchored_X6_learns : GoodIn wsX6_anchored (wsV RX6 159 RX6 yX6_learns wsX6_learns) := goodIn_app (goodIn_of _ (by decide +kernel)) ggX6_anchored_X6_learns
set_option maxRecDepth 20000 in
theorem ggX6_anchored_X6_clamp : GoodIn wsX6_anchored wsX6_clamp := goodIn_r _ [32] rfl (by decide +kernel)
set_option maxRecDepth 20000 in
theorem gX6_anchored_X6_clamp : GoodIn wsX6_anchored (va_wsS RX6 163 yX6_clamp wsX6_clamp) := goodIn_app (goodIn_of _ (by decide +kernel)) ggX6_anchored_X6_clamp
set_option maxRecDepth 20000 in
theorem ggX6_anchored_X6_logs : GoodIn wsX6_anchored wsX6_logs := goodIn_r _ [36, 1, 37, 38, 39, 40, 41, 42, 43, 44, 45, 46, 47] rfl (by decide +kernel)
set_option maxRecDepth 20000 in
theorem gX6_anchored_X6_logs : GoodIn wsX6_anchored (wsV RX6 170 RX6 yX6_logs wsX6_logs) := goodIn_app (goodIn_of _ (by decide +kernel)) ggX6_anchored_X6_logs
theorem dX6_anchored_0 : decode cX6_anchored 0 = .ok (.aload_n 0, 1) := by decide +kernel
theorem dX6_anchored_1 : decode cX6_anchored 1 = .ok (.lload_n 2, 1) := by decide +kernel
theorem dX6_anchored_2 : decode cX6_anchored 2 = .ok (.invokevirtual 159, 3) := by decide +kernel
theorem dX6_anchored_5 : decode cX6_anchored 5 = .ok (.aload_n 0, 1) := by decide +kernel
theorem dX6_anchored_6 : decode cX6_anchored 6 = .ok (.getfield 7, 3) := by decide +kernel
theorem dX6_anchored_9 : decode cX6_anchored 9 = .ok (.bipush 37, 2) := by decide +kernel
theorem dX6_anchored_11 : decode cX6_anchored 11 = .ok (.laload, 1) := by decide +kernel
theorem dX6_anchored_12 : decode cX6_anchored 12 = .ok (.lload 4, 2) := by decide +kernel
theorem dX6_anchored_14 : decode cX6_anchored 14 = .ok (.lmul, 1) := by decide +kernel
theorem dX6_anchored_15 : decode cX6_anchored 15 = .ok (.ldc2_w 93, 3) := by decide +kernel
theorem dX6_anchored_18 : decode cX6_anchored 18 = .ok (.ldiv, 1) := by decide +kernel
theorem dX6_anchored_19 : decode cX6_anchored 19 = .ok (.lstore 8, 2) := by decide +kernel
theorem dX6_anchored_21 : decode cX6_anchored 21 = .ok (.aload_n 0, 1) := by decide +kernel
theorem dX6_anchored_22 : decode cX6_anchored 22 = .ok (.getfield 7, 3) := by decide +kernel
theorem dX6_anchored_25 : decode cX6_anchored 25 = .ok (.bipush 37, 2) := by decide +kernel
theorem dX6_anchored_27 : decode cX6_anchored 27 = .ok (.laload, 1) := by decide +kernel
theorem dX6_anchored_28 : decode cX6_anchored 28 = .ok (.lload 6, 2) := by decide +kernel
theorem dX6_anchored_30 : decode cX6_anchored 30 = .ok (.lmul, 1) := by decide +kernel
theorem dX6_anchored_31 : decode cX6_anchored 31 = .ok (.ldc2_w 93, 3) := by decide +kernel
theorem dX6_anchored_34 : decode cX6_anchored 34 = .ok (.ldiv, 1) := by decide +kernel
theorem dX6_anchored_35 : decode cX6_anchored 35 = .ok (.lstore 10, 2) := by decide +kernel
theorem dX6_anchored_37 : decode cX6_anchored 37 = .ok (.lload 10, 2) := by decide +kernel
theorem dX6_anchored_39 : decode cX6_anchored 39 = .ok (.aload_n 0, 1) := by decide +kernel
theorem dX6_anchored_40 : decode cX6_anchored 40 = .ok (.getfield 7, 3) := by decide +kernel
theorem dX6_anchored_43 : decode cX6_anchored 43 = .ok (.bipush 35, 2) := by decide +kernel
theorem dX6_anchored_45 : decode cX6_anchored 45 = .ok (.laload, 1) := by decide +kernel
theorem dX6_anchored_46 : decode cX6_anchored 46 = .ok (.lcmp, 1) := by decide +kernel
theorem dX6_anchored_47 : decode cX6_anchored 47 = .ok (.ifCond .lt 16, 3) := by decide +kernel
theorem dX6_anchored_50 : decode cX6_anchored 50 = .ok (.lload 8, 2) := by decide +kernel
theorem dX6_anchored_52 : decode cX6_anchored 52 = .ok (.aload_n 0, 1) := by decide +kernel
theorem dX6_anchored_53 : decode cX6_anchored 53 = .ok (.getfield 7, 3) := by decide +kernel
theorem dX6_anchored_56 : decode cX6_anchored 56 = .ok (.bipush 36, 2) := by decide +kernel
theorem dX6_anchored_58 : decode cX6_anchored 58 = .ok (.laload, 1) := by decide +kernel
theorem dX6_anchored_59 : decode cX6_anchored 59 = .ok (.lcmp, 1) := by decide +kernel
theorem dX6_anchored_60 : decode cX6_anchored 60 = .ok (.ifCond .le 35, 3) := by decide +kernel
theorem dX6_anchored_63 : decode cX6_anchored 63 = .ok (.aload_n 0, 1) := by decide +kernel
theorem dX6_anchored_64 : decode cX6_anchored 64 = .ok (.getfield 7, 3) := by decide +kernel
theorem dX6_anchored_67 : decode cX6_anchored 67 = .ok (.bipush 50, 2) := by decide +kernel
theorem dX6_anchored_69 : decode cX6_anchored 69 = .ok (.dup2, 1) := by decide +kernel
theorem dX6_anchored_70 : decode cX6_anchored 70 = .ok (.laload, 1) := by decide +kernel
theorem dX6_anchored_71 : decode cX6_anchored 71 = .ok (.lconst 1, 1) := by decide +kernel
theorem dX6_anchored_72 : decode cX6_anchored 72 = .ok (.ladd, 1) := by decide +kernel
theorem dX6_anchored_73 : decode cX6_anchored 73 = .ok (.lastore, 1) := by decide +kernel
theorem dX6_anchored_74 : decode cX6_anchored 74 = .ok (.aload_n 0, 1) := by decide +kernel
theorem dX6_anchored_75 : decode cX6_anchored 75 = .ok (.getfield 7, 3) := by decide +kernel
theorem dX6_anchored_78 : decode cX6_anchored 78 = .ok (.bipush 35, 2) := by decide +kernel
theorem dX6_anchored_80 : decode cX6_anchored 80 = .ok (.lload 8, 2) := by decide +kernel
theorem dX6_anchored_82 : decode cX6_anchored 82 = .ok (.lastore, 1) := by decide +kernel
theorem dX6_anchored_83 : decode cX6_anchored 83 = .ok (.aload_n 0, 1) := by decide +kernel
theorem dX6_anchored_84 : decode cX6_anchored 84 = .ok (.getfield 7, 3) := by decide +kernel
theorem dX6_anchored_87 : decode cX6_anchored 87 = .ok (.bipush 36, 2) := by decide +kernel
theorem dX6_anchored_89 : decode cX6_anchored 89 = .ok (.lload 10, 2) := by decide +kernel
theorem dX6_anchored_91 : decode cX6_anchored 91 = .ok (.lastore, 1) := by decide +kernel
theorem dX6_anchored_92 : decode cX6_anchored 92 = .ok (.goto 67, 3) := by decide +kernel
theorem dX6_anchored_95 : decode cX6_anchored 95 = .ok (.aload_n 0, 1) := by decide +kernel
theorem dX6_anchored_96 : decode cX6_anchored 96 = .ok (.getfield 7, 3) := by decide +kernel
theorem dX6_anchored_99 : decode cX6_anchored 99 = .ok (.bipush 35, 2) := by decide +kernel
theorem dX6_anchored_101 : decode cX6_anchored 101 = .ok (.lload 8, 2) := by decide +kernel
theorem dX6_anchored_103 : decode cX6_anchored 103 = .ok (.aload_n 0, 1) := by decide +kernel
theorem dX6_anchored_104 : decode cX6_anchored 104 = .ok (.getfield 7, 3) := by decide +kernel
theorem dX6_anchored_107 : decode cX6_anchored 107 = .ok (.bipush 35, 2) := by decide +kernel
theorem dX6_anchored_109 : decode cX6_anchored 109 = .ok (.laload, 1) := by decide +kernel
theorem dX6_anchored_110 : decode cX6_anchored 110 = .ok (.lcmp, 1) := by decide +kernel
theorem dX6_anchored_111 : decode cX6_anchored 111 = .ok (.ifCond .le 8, 3) := by decide +kernel
theorem dX6_anchored_114 : decode cX6_anchored 114 = .ok (.lload 8, 2) := by decide +kernel
theorem dX6_anchored_116 : decode cX6_anchored 116 = .ok (.goto 10, 3) := by decide +kernel
theorem dX6_anchored_119 : decode cX6_anchored 119 = .ok (.aload_n 0, 1) := by decide +kernel
theorem dX6_anchored_120 : decode cX6_anchored 120 = .ok (.getfield 7, 3) := by decide +kernel
theorem dX6_anchored_123 : decode cX6_anchored 123 = .ok (.bipush 35, 2) := by decide +kernel
theorem dX6_anchored_125 : decode cX6_anchored 125 = .ok (.laload, 1) := by decide +kernel
theorem dX6_anchored_126 : decode cX6_anchored 126 = .ok (.lastore, 1) := by decide +kernel
theorem dX6_anchored_127 : decode cX6_anchored 127 = .ok (.aload_n 0, 1) := by decide +kernel
theorem dX6_anchored_128 : decode cX6_anchored 128 = .ok (.getfield 7, 3) := by decide +kernel
theorem dX6_anchored_131 : decode cX6_anchored 131 = .ok (.bipush 36, 2) := by decide +kernel
theorem dX6_anchored_133 : decode cX6_anchored 133 = .ok (.lload 10, 2) := by decide +kernel
theorem dX6_anchored_135 : decode cX6_anchored 135 = .ok (.aload_n 0, 1) := by decide +kernel
theorem dX6_anchored_136 : decode cX6_anchored 136 = .ok (.getfield 7, 3) := by decide +kernel
theorem dX6_anchored_139 : decode cX6_anchored 139 = .ok (.bipush 36, 2) := by decide +kernel
theorem dX6_anchored_141 : decode cX6_anchored 141 = .ok (.laload, 1) := by decide +kernel
theorem dX6_anchored_142 : decode cX6_anchored 142 = .ok (.lcmp, 1) := by decide +kernel
theorem dX6_anchored_143 : decode cX6_anchored 143 = .ok (.ifCond .ge 8, 3) := by decide +kernel
theorem dX6_anchored_146 : decode cX6_anchored 146 = .ok (.lload 10, 2) := by decide +kernel
theorem dX6_anchored_148 : decode cX6_anchored 148 = .ok (.goto 10, 3) := by decide +kernel
theorem dX6_anchored_151 : decode cX6_anchored 151 = .ok (.aload_n 0, 1) := by decide +kernel
theorem dX6_anchored_152 : decode cX6_anchored 152 = .ok (.getfield 7, 3) := by decide +kernel
theorem dX6_anchored_155 : decode cX6_anchored 155 = .ok (.bipush 36, 2) := by decide +kernel
theorem dX6_anchored_157 : decode cX6_anchored 157 = .ok (.laload, 1) := by decide +kernel
theorem dX6_anchored_158 : decode cX6_anchored 158 = .ok (.lastore, 1) := by decide +kernel
theorem dX6_anchored_159 : decode cX6_anchored 159 = .ok (.aload_n 0, 1) := by decide +kernel
theorem dX6_anchored_160 : decode cX6_anchored 160 = .ok (.getfield 7, 3) := by decide +kernel
theorem dX6_anchored_163 : decode cX6_anchored 163 = .ok (.bipush 34, 2) := by decide +kernel
theorem dX6_anchored_165 : decode cX6_anchored 165 = .ok (.aload_n 0, 1) := by decide +kernel
theorem dX6_anchored_166 : decode cX6_anchored 166 = .ok (.getfield 7, 3) := by decide +kernel
theorem dX6_anchored_169 : decode cX6_anchored 169 = .ok (.bipush 34, 2) := by decide +kernel
theorem dX6_anchored_171 : decode cX6_anchored 171 = .ok (.laload, 1) := by decide +kernel
theorem dX6_anchored_172 : decode cX6_anchored 172 = .ok (.aload_n 0, 1) := by decide +kernel
theorem dX6_anchored_173 : decode cX6_anchored 173 = .ok (.getfield 7, 3) := by decide +kernel
theorem dX6_anchored_176 : decode cX6_anchored 176 = .ok (.bipush 35, 2) := by decide +kernel
theorem dX6_anchored_178 : decode cX6_anchored 178 = .ok (.laload, 1) := by decide +kernel
theorem dX6_anchored_179 : decode cX6_anchored 179 = .ok (.aload_n 0, 1) := by decide +kernel
theorem dX6_anchored_180 : decode cX6_anchored 180 = .ok (.getfield 7, 3) := by decide +kernel
theorem dX6_anchored_183 : decode cX6_anchored 183 = .ok (.bipush 36, 2) := by decide +kernel
theorem dX6_anchored_185 : decode cX6_anchored 185 = .ok (.laload, 1) := by decide +kernel
theorem dX6_anchored_186 : decode cX6_anchored 186 = .ok (.invokestatic 163, 3) := by decide +kernel
theorem dX6_anchored_189 : decode cX6_anchored 189 = .ok (.lastore, 1) := by decide +kernel
theorem dX6_anchored_190 : decode cX6_anchored 190 = .ok (.aload_n 0, 1) := by decide +kernel
theorem dX6_anchored_191 : decode cX6_anchored 191 = .ok (.getfield 7, 3) := by decide +kernel
theorem dX6_anchored_194 : decode cX6_anchored 194 = .ok (.bipush 40, 2) := by decide +kernel
theorem dX6_anchored_196 : decode cX6_anchored 196 = .ok (.lconst 0, 1) := by decide +kernel
theorem dX6_anchored_197 : decode cX6_anchored 197 = .ok (.lastore, 1) := by decide +kernel
theorem dX6_anchored_198 : decode cX6_anchored 198 = .ok (.aload_n 0, 1) := by decide +kernel
theorem dX6_anchored_199 : decode cX6_anchored 199 = .ok (.getfield 7, 3) := by decide +kernel
theorem dX6_anchored_202 : decode cX6_anchored 202 = .ok (.bipush 48, 2) := by decide +kernel
theorem dX6_anchored_204 : decode cX6_anchored 204 = .ok (.lconst 1, 1) := by decide +kernel
theorem dX6_anchored_205 : decode cX6_anchored 205 = .ok (.lastore, 1) := by decide +kernel
theorem dX6_anchored_206 : decode cX6_anchored 206 = .ok (.aload_n 0, 1) := by decide +kernel
theorem dX6_anchored_207 : decode cX6_anchored 207 = .ok (.getfield 7, 3) := by decide +kernel
theorem dX6_anchored_210 : decode cX6_anchored 210 = .ok (.bipush 49, 2) := by decide +kernel
theorem dX6_anchored_212 : decode cX6_anchored 212 = .ok (.lload_n 2, 1) := by decide +kernel
theorem dX6_anchored_213 : decode cX6_anchored 213 = .ok (.lastore, 1) := by decide +kernel
theorem dX6_anchored_214 : decode cX6_anchored 214 = .ok (.aload_n 0, 1) := by decide +kernel
theorem dX6_anchored_215 : decode cX6_anchored 215 = .ok (.dup, 1) := by decide +kernel
theorem dX6_anchored_216 : decode cX6_anchored 216 = .ok (.getfield 167, 3) := by decide +kernel
theorem dX6_anchored_219 : decode cX6_anchored 219 = .ok (.iconst 1, 1) := by decide +kernel
theorem dX6_anchored_220 : decode cX6_anchored 220 = .ok (.iadd, 1) := by decide +kernel
theorem dX6_anchored_221 : decode cX6_anchored 221 = .ok (.putfield 167, 3) := by decide +kernel
theorem dX6_anchored_224 : decode cX6_anchored 224 = .ok (.aload_n 0, 1) := by decide +kernel
theorem dX6_anchored_225 : decode cX6_anchored 225 = .ok (.iload_n 1, 1) := by decide +kernel
theorem dX6_anchored_226 : decode cX6_anchored 226 = .ok (.lload_n 2, 1) := by decide +kernel
theorem dX6_anchored_227 : decode cX6_anchored 227 = .ok (.invokevirtual 170, 3) := by decide +kernel
theorem dX6_anchored_230 : decode cX6_anchored 230 = .ok (.return_, 1) := by decide +kernel
set_option maxRecDepth 20000 in
theorem ggX6_treats_X6_counts : GoodIn wsX6_treats wsX6_counts := goodIn_r _ [8, 1, 9, 69, 70, 71, 72, 73, 74, 75, 76, 77, 78] rfl (by decide +kernel)
set_option maxRecDepth 20000 in
theorem gX6_treats_X6_counts : GoodIn wsX6_treats (wsV RX6 174 RX6 yX6_counts wsX6_counts) := goodIn_app (goodIn_of _ (by decide +kernel)) ggX6_treats_X6_counts
set_option maxRecDepth 20000 in
theorem ggX6_treats_X6_drift : GoodIn wsX6_treats wsX6_drift := goodIn_r _ [13, 1, 9, 14, 15, 16, 7, 17, 69, 70, 71, 72, 73, 74, 75, 76, 77, 78] rfl (by decide +kernel)
set_option maxRecDepth 20000 in
theorem gX6_treats_X6_drift : GoodIn wsX6_treats (wsV RX6 177 RX6 yX6_drift wsX6_drift) := goodIn_app (goodIn_of _ (by decide +kernel)) ggX6_treats_X6_drift
set_option maxRecDepth 20000 in
theorem ggX6_treats_X6_clamp : GoodIn wsX6_treats wsX6_clamp := goodIn_r _ [20] rfl (by decide +kernel)
set_option maxRecDepth 20000 in
theorem gX6_treats_X6_clamp : GoodIn wsX6_treats (va_wsS RX6 163 yX6_clamp wsX6_clamp) := goodIn_app (goodIn_of _ (by decide +kernel)) ggX6_treats_X6_clamp
set_option maxRecDepth 20000 in
theorem ggX6_treats_X6_range : GoodIn wsX6_treats wsX6_range := goodIn_r _ [24, 1, 25, 69, 70, 71, 72, 73, 74, 75, 76, 77, 78] rfl (by decide +kernel)
set_option maxRecDepth 20000 in
theorem gX6_treats_X6_range : GoodIn wsX6_treats (wsV RX6 118 RX6 yX6_range wsX6_range) := goodIn_app (goodIn_of _ (by decide +kernel)) ggX6_treats_X6_range
set_option maxRecDepth 20000 in
theorem ggX6_treats_X6_size : GoodIn wsX6_treats wsX6_size := goodIn_r _ [17] rfl (by decide +kernel)
set_option maxRecDepth 20000 in
theorem gX6_treats_X6_size : GoodIn wsX6_treats (va_wsS RX6 149 yX6_size wsX6_size) := goodIn_app (goodIn_of _ (by decide +kernel)) ggX6_treats_X6_size
set_option maxRecDepth 20000 in
theorem ggX6_treats_X6_in : GoodIn wsX6_treats wsX6_in := goodIn_r _ [28] rfl (by decide +kernel)
set_option maxRecDepth 20000 in
theorem gX6_treats_X6_in : GoodIn wsX6_treats (va_wsS RX6 101 yX6_in wsX6_in) := goodIn_app (goodIn_of _ (by decide +kernel)) ggX6_treats_X6_in
set_option maxRecDepth 20000 in
theorem ggX6_treats_X6_hysteresis : GoodIn wsX6_treats wsX6_hysteresis := goodIn_r _ [32, 1, 9, 21, 22, 23, 7, 24, 25, 69, 70, 71, 72, 73, 74, 75, 76, 77, 78] rfl (by decide +kernel)
set_option maxRecDepth 20000 in
theorem gX6_treats_X6_hysteresis : GoodIn wsX6_treats (wsV RX6 180 RX6 yX6_hysteresis wsX6_hysteresis) := goodIn_app (goodIn_of _ (by decide +kernel)) ggX6_treats_X6_hysteresis
set_option maxRecDepth 20000 in
theorem ggX6_treats_X6_inverted : GoodIn wsX6_treats wsX6_inverted := goodIn_r _ [36, 37, 38, 39, 7, 40, 9, 41, 42, 43, 44, 1, 69, 70, 71, 72, 73, 74, 75, 76, 77, 78] rfl (by decide +kernel)
set_option maxRecDepth 20000 in
theorem gX6_treats_X6_inverted : GoodIn wsX6_treats (wsV RX6 145 RX6 yX6_inverted wsX6_inverted) := goodIn_app (goodIn_of _ (by decide +kernel)) ggX6_treats_X6_inverted
set_option maxRecDepth 20000 in
theorem ggX6_treats_X6_anchored : GoodIn wsX6_treats wsX6_anchored := goodIn_r _ [48, 1, 3, 49, 50, 51, 52, 7, 53, 54, 55, 56, 15, 16, 17, 26, 27, 28, 57, 58, 59, 60, 61, 62, 63, 21, 22, 23, 24, 25, 18, 19, 20, 64, 65, 66, 67, 68, 69, 70, 71, 72, 73, 74, 75, 76, 77, 78] rfl (by decide +kernel)
set_option maxRecDepth 20000 in
theorem gX6_treats_X6_anchored : GoodIn wsX6_treats (wsV RX6 183 RX6 yX6_anchored wsX6_anchored) := goodIn_app (goodIn_of _ (by decide +kernel)) ggX6_treats_X6_anchored
theorem dX6_treats_0 : decode cX6_treats 0 = .ok (.aload_n 0, 1) := by decide +kernel
theorem dX6_treats_1 : decode cX6_treats 1 = .ok (.lload_n 1, 1) := by decide +kernel
theorem dX6_treats_2 : decode cX6_treats 2 = .ok (.lload 5, 2) := by decide +kernel
theorem dX6_treats_4 : decode cX6_treats 4 = .ok (.invokevirtual 174, 3) := by decide +kernel
theorem dX6_treats_7 : decode cX6_treats 7 = .ok (.lstore 7, 2) := by decide +kernel
theorem dX6_treats_9 : decode cX6_treats 9 = .ok (.aload_n 0, 1) := by decide +kernel
theorem dX6_treats_10 : decode cX6_treats 10 = .ok (.lload 7, 2) := by decide +kernel
theorem dX6_treats_12 : decode cX6_treats 12 = .ok (.lload 5, 2) := by decide +kernel
theorem dX6_treats_14 : decode cX6_treats 14 = .ok (.invokevirtual 177, 3) := by decide +kernel
theorem dX6_treats_17 : decode cX6_treats 17 = .ok (.lstore 9, 2) := by decide +kernel
theorem dX6_treats_19 : decode cX6_treats 19 = .ok (.aload_n 0, 1) := by decide +kernel
theorem dX6_treats_20 : decode cX6_treats 20 = .ok (.getfield 7, 3) := by decide +kernel
theorem dX6_treats_23 : decode cX6_treats 23 = .ok (.bipush 34, 2) := by decide +kernel
theorem dX6_treats_25 : decode cX6_treats 25 = .ok (.aload_n 0, 1) := by decide +kernel
theorem dX6_treats_26 : decode cX6_treats 26 = .ok (.getfield 7, 3) := by decide +kernel
theorem dX6_treats_29 : decode cX6_treats 29 = .ok (.bipush 34, 2) := by decide +kernel
theorem dX6_treats_31 : decode cX6_treats 31 = .ok (.laload, 1) := by decide +kernel
theorem dX6_treats_32 : decode cX6_treats 32 = .ok (.lload 7, 2) := by decide +kernel
theorem dX6_treats_34 : decode cX6_treats 34 = .ok (.ladd, 1) := by decide +kernel
theorem dX6_treats_35 : decode cX6_treats 35 = .ok (.lconst 0, 1) := by decide +kernel
theorem dX6_treats_36 : decode cX6_treats 36 = .ok (.aload_n 0, 1) := by decide +kernel
theorem dX6_treats_37 : decode cX6_treats 37 = .ok (.getfield 7, 3) := by decide +kernel
theorem dX6_treats_40 : decode cX6_treats 40 = .ok (.bipush 37, 2) := by decide +kernel
theorem dX6_treats_42 : decode cX6_treats 42 = .ok (.laload, 1) := by decide +kernel
theorem dX6_treats_43 : decode cX6_treats 43 = .ok (.invokestatic 163, 3) := by decide +kernel
theorem dX6_treats_46 : decode cX6_treats 46 = .ok (.lastore, 1) := by decide +kernel
theorem dX6_treats_47 : decode cX6_treats 47 = .ok (.aload_n 0, 1) := by decide +kernel
theorem dX6_treats_48 : decode cX6_treats 48 = .ok (.getfield 7, 3) := by decide +kernel
theorem dX6_treats_51 : decode cX6_treats 51 = .ok (.bipush 35, 2) := by decide +kernel
theorem dX6_treats_53 : decode cX6_treats 53 = .ok (.aload_n 0, 1) := by decide +kernel
theorem dX6_treats_54 : decode cX6_treats 54 = .ok (.getfield 7, 3) := by decide +kernel
theorem dX6_treats_57 : decode cX6_treats 57 = .ok (.bipush 35, 2) := by decide +kernel
theorem dX6_treats_59 : decode cX6_treats 59 = .ok (.laload, 1) := by decide +kernel
theorem dX6_treats_60 : decode cX6_treats 60 = .ok (.lload 7, 2) := by decide +kernel
theorem dX6_treats_62 : decode cX6_treats 62 = .ok (.ladd, 1) := by decide +kernel
theorem dX6_treats_63 : decode cX6_treats 63 = .ok (.lload 9, 2) := by decide +kernel
theorem dX6_treats_65 : decode cX6_treats 65 = .ok (.lsub, 1) := by decide +kernel
theorem dX6_treats_66 : decode cX6_treats 66 = .ok (.lconst 0, 1) := by decide +kernel
theorem dX6_treats_67 : decode cX6_treats 67 = .ok (.aload_n 0, 1) := by decide +kernel
theorem dX6_treats_68 : decode cX6_treats 68 = .ok (.getfield 7, 3) := by decide +kernel
theorem dX6_treats_71 : decode cX6_treats 71 = .ok (.bipush 37, 2) := by decide +kernel
theorem dX6_treats_73 : decode cX6_treats 73 = .ok (.laload, 1) := by decide +kernel
theorem dX6_treats_74 : decode cX6_treats 74 = .ok (.invokestatic 163, 3) := by decide +kernel
theorem dX6_treats_77 : decode cX6_treats 77 = .ok (.lastore, 1) := by decide +kernel
theorem dX6_treats_78 : decode cX6_treats 78 = .ok (.aload_n 0, 1) := by decide +kernel
theorem dX6_treats_79 : decode cX6_treats 79 = .ok (.getfield 7, 3) := by decide +kernel
theorem dX6_treats_82 : decode cX6_treats 82 = .ok (.bipush 36, 2) := by decide +kernel
theorem dX6_treats_84 : decode cX6_treats 84 = .ok (.aload_n 0, 1) := by decide +kernel
theorem dX6_treats_85 : decode cX6_treats 85 = .ok (.getfield 7, 3) := by decide +kernel
theorem dX6_treats_88 : decode cX6_treats 88 = .ok (.bipush 36, 2) := by decide +kernel
theorem dX6_treats_90 : decode cX6_treats 90 = .ok (.laload, 1) := by decide +kernel
theorem dX6_treats_91 : decode cX6_treats 91 = .ok (.lload 7, 2) := by decide +kernel
theorem dX6_treats_93 : decode cX6_treats 93 = .ok (.ladd, 1) := by decide +kernel
theorem dX6_treats_94 : decode cX6_treats 94 = .ok (.lload 9, 2) := by decide +kernel
theorem dX6_treats_96 : decode cX6_treats 96 = .ok (.ladd, 1) := by decide +kernel
theorem dX6_treats_97 : decode cX6_treats 97 = .ok (.lconst 0, 1) := by decide +kernel
theorem dX6_treats_98 : decode cX6_treats 98 = .ok (.aload_n 0, 1) := by decide +kernel
theorem dX6_treats_99 : decode cX6_treats 99 = .ok (.getfield 7, 3) := by decide +kernel
theorem dX6_treats_102 : decode cX6_treats 102 = .ok (.bipush 37, 2) := by decide +kernel
theorem dX6_treats_104 : decode cX6_treats 104 = .ok (.laload, 1) := by decide +kernel
theorem dX6_treats_105 : decode cX6_treats 105 = .ok (.invokestatic 163, 3) := by decide +kernel
theorem dX6_treats_108 : decode cX6_treats 108 = .ok (.lastore, 1) := by decide +kernel
theorem dX6_treats_109 : decode cX6_treats 109 = .ok (.aload_n 0, 1) := by decide +kernel
theorem dX6_treats_110 : decode cX6_treats 110 = .ok (.getfield 7, 3) := by decide +kernel
theorem dX6_treats_113 : decode cX6_treats 113 = .ok (.bipush 39, 2) := by decide +kernel
theorem dX6_treats_115 : decode cX6_treats 115 = .ok (.aload_n 0, 1) := by decide +kernel
theorem dX6_treats_116 : decode cX6_treats 116 = .ok (.getfield 7, 3) := by decide +kernel
theorem dX6_treats_119 : decode cX6_treats 119 = .ok (.bipush 39, 2) := by decide +kernel
theorem dX6_treats_121 : decode cX6_treats 121 = .ok (.laload, 1) := by decide +kernel
theorem dX6_treats_122 : decode cX6_treats 122 = .ok (.lload 7, 2) := by decide +kernel
theorem dX6_treats_124 : decode cX6_treats 124 = .ok (.ladd, 1) := by decide +kernel
theorem dX6_treats_125 : decode cX6_treats 125 = .ok (.lconst 0, 1) := by decide +kernel
theorem dX6_treats_126 : decode cX6_treats 126 = .ok (.aload_n 0, 1) := by decide +kernel
theorem dX6_treats_127 : decode cX6_treats 127 = .ok (.invokevirtual 118, 3) := by decide +kernel
theorem dX6_treats_130 : decode cX6_treats 130 = .ok (.invokestatic 163, 3) := by decide +kernel
theorem dX6_treats_133 : decode cX6_treats 133 = .ok (.lastore, 1) := by decide +kernel
theorem dX6_treats_134 : decode cX6_treats 134 = .ok (.aload_n 0, 1) := by decide +kernel
theorem dX6_treats_135 : decode cX6_treats 135 = .ok (.getfield 7, 3) := by decide +kernel
theorem dX6_treats_138 : decode cX6_treats 138 = .ok (.bipush 41, 2) := by decide +kernel
theorem dX6_treats_140 : decode cX6_treats 140 = .ok (.dup2, 1) := by decide +kernel
theorem dX6_treats_141 : decode cX6_treats 141 = .ok (.laload, 1) := by decide +kernel
theorem dX6_treats_142 : decode cX6_treats 142 = .ok (.lload 7, 2) := by decide +kernel
theorem dX6_treats_144 : decode cX6_treats 144 = .ok (.invokestatic 149, 3) := by decide +kernel
theorem dX6_treats_147 : decode cX6_treats 147 = .ok (.ladd, 1) := by decide +kernel
theorem dX6_treats_148 : decode cX6_treats 148 = .ok (.lastore, 1) := by decide +kernel
theorem dX6_treats_149 : decode cX6_treats 149 = .ok (.aload_n 0, 1) := by decide +kernel
theorem dX6_treats_150 : decode cX6_treats 150 = .ok (.getfield 7, 3) := by decide +kernel
theorem dX6_treats_153 : decode cX6_treats 153 = .ok (.bipush 40, 2) := by decide +kernel
theorem dX6_treats_155 : decode cX6_treats 155 = .ok (.dup2, 1) := by decide +kernel
theorem dX6_treats_156 : decode cX6_treats 156 = .ok (.laload, 1) := by decide +kernel
theorem dX6_treats_157 : decode cX6_treats 157 = .ok (.lload 7, 2) := by decide +kernel
theorem dX6_treats_159 : decode cX6_treats 159 = .ok (.ladd, 1) := by decide +kernel
theorem dX6_treats_160 : decode cX6_treats 160 = .ok (.lastore, 1) := by decide +kernel
theorem dX6_treats_161 : decode cX6_treats 161 = .ok (.aload_n 0, 1) := by decide +kernel
theorem dX6_treats_162 : decode cX6_treats 162 = .ok (.getfield 7, 3) := by decide +kernel
theorem dX6_treats_165 : decode cX6_treats 165 = .ok (.bipush 42, 2) := by decide +kernel
theorem dX6_treats_167 : decode cX6_treats 167 = .ok (.dup2, 1) := by decide +kernel
theorem dX6_treats_168 : decode cX6_treats 168 = .ok (.laload, 1) := by decide +kernel
theorem dX6_treats_169 : decode cX6_treats 169 = .ok (.lload 5, 2) := by decide +kernel
theorem dX6_treats_171 : decode cX6_treats 171 = .ok (.ladd, 1) := by decide +kernel
theorem dX6_treats_172 : decode cX6_treats 172 = .ok (.lastore, 1) := by decide +kernel
theorem dX6_treats_173 : decode cX6_treats 173 = .ok (.iconst 0, 1) := by decide +kernel
theorem dX6_treats_174 : decode cX6_treats 174 = .ok (.istore 11, 2) := by decide +kernel
theorem dX6_treats_176 : decode cX6_treats 176 = .ok (.lload_n 1, 1) := by decide +kernel
theorem dX6_treats_177 : decode cX6_treats 177 = .ok (.aload_n 0, 1) := by decide +kernel
theorem dX6_treats_178 : decode cX6_treats 178 = .ok (.getfield 7, 3) := by decide +kernel
theorem dX6_treats_181 : decode cX6_treats 181 = .ok (.iconst 4, 1) := by decide +kernel
theorem dX6_treats_182 : decode cX6_treats 182 = .ok (.laload, 1) := by decide +kernel
theorem dX6_treats_183 : decode cX6_treats 183 = .ok (.lneg, 1) := by decide +kernel
theorem dX6_treats_184 : decode cX6_treats 184 = .ok (.aload_n 0, 1) := by decide +kernel
theorem dX6_treats_185 : decode cX6_treats 185 = .ok (.getfield 7, 3) := by decide +kernel
theorem dX6_treats_188 : decode cX6_treats 188 = .ok (.iconst 4, 1) := by decide +kernel
theorem dX6_treats_189 : decode cX6_treats 189 = .ok (.laload, 1) := by decide +kernel
theorem dX6_treats_190 : decode cX6_treats 190 = .ok (.invokestatic 101, 3) := by decide +kernel
theorem dX6_treats_193 : decode cX6_treats 193 = .ok (.ifCond .eq 41, 3) := by decide +kernel
theorem dX6_treats_196 : decode cX6_treats 196 = .ok (.aload_n 0, 1) := by decide +kernel
theorem dX6_treats_197 : decode cX6_treats 197 = .ok (.getfield 7, 3) := by decide +kernel
theorem dX6_treats_200 : decode cX6_treats 200 = .ok (.bipush 45, 2) := by decide +kernel
theorem dX6_treats_202 : decode cX6_treats 202 = .ok (.laload, 1) := by decide +kernel
theorem dX6_treats_203 : decode cX6_treats 203 = .ok (.lconst 1, 1) := by decide +kernel
theorem dX6_treats_204 : decode cX6_treats 204 = .ok (.lcmp, 1) := by decide +kernel
theorem dX6_treats_205 : decode cX6_treats 205 = .ok (.ifCond .ne 29, 3) := by decide +kernel
theorem dX6_treats_208 : decode cX6_treats 208 = .ok (.lload_n 3, 1) := by decide +kernel
theorem dX6_treats_209 : decode cX6_treats 209 = .ok (.aload_n 0, 1) := by decide +kernel
theorem dX6_treats_210 : decode cX6_treats 210 = .ok (.getfield 7, 3) := by decide +kernel
theorem dX6_treats_213 : decode cX6_treats 213 = .ok (.bipush 46, 2) := by decide +kernel
theorem dX6_treats_215 : decode cX6_treats 215 = .ok (.laload, 1) := by decide +kernel
theorem dX6_treats_216 : decode cX6_treats 216 = .ok (.lsub, 1) := by decide +kernel
theorem dX6_treats_217 : decode cX6_treats 217 = .ok (.invokestatic 149, 3) := by decide +kernel
theorem dX6_treats_220 : decode cX6_treats 220 = .ok (.aload_n 0, 1) := by decide +kernel
theorem dX6_treats_221 : decode cX6_treats 221 = .ok (.getfield 7, 3) := by decide +kernel
theorem dX6_treats_224 : decode cX6_treats 224 = .ok (.iconst 5, 1) := by decide +kernel
theorem dX6_treats_225 : decode cX6_treats 225 = .ok (.laload, 1) := by decide +kernel
theorem dX6_treats_226 : decode cX6_treats 226 = .ok (.lcmp, 1) := by decide +kernel
theorem dX6_treats_227 : decode cX6_treats 227 = .ok (.ifCond .gt 7, 3) := by decide +kernel
theorem dX6_treats_230 : decode cX6_treats 230 = .ok (.iconst 1, 1) := by decide +kernel
theorem dX6_treats_231 : decode cX6_treats 231 = .ok (.goto 4, 3) := by decide +kernel
theorem dX6_treats_234 : decode cX6_treats 234 = .ok (.iconst 0, 1) := by decide +kernel
theorem dX6_treats_235 : decode cX6_treats 235 = .ok (.istore 12, 2) := by decide +kernel
theorem dX6_treats_237 : decode cX6_treats 237 = .ok (.aload_n 0, 1) := by decide +kernel
theorem dX6_treats_238 : decode cX6_treats 238 = .ok (.getfield 7, 3) := by decide +kernel
theorem dX6_treats_241 : decode cX6_treats 241 = .ok (.bipush 43, 2) := by decide +kernel
theorem dX6_treats_243 : decode cX6_treats 243 = .ok (.laload, 1) := by decide +kernel
theorem dX6_treats_244 : decode cX6_treats 244 = .ok (.lstore 13, 2) := by decide +kernel
theorem dX6_treats_246 : decode cX6_treats 246 = .ok (.aload_n 0, 1) := by decide +kernel
theorem dX6_treats_247 : decode cX6_treats 247 = .ok (.getfield 7, 3) := by decide +kernel
theorem dX6_treats_250 : decode cX6_treats 250 = .ok (.bipush 43, 2) := by decide +kernel
theorem dX6_treats_252 : decode cX6_treats 252 = .ok (.iload 12, 2) := by decide +kernel
theorem dX6_treats_254 : decode cX6_treats 254 = .ok (.ifCond .eq 11, 3) := by decide +kernel
theorem dX6_treats_257 : decode cX6_treats 257 = .ok (.lload 13, 2) := by decide +kernel
theorem dX6_treats_259 : decode cX6_treats 259 = .ok (.lload 5, 2) := by decide +kernel
theorem dX6_treats_261 : decode cX6_treats 261 = .ok (.ladd, 1) := by decide +kernel
theorem dX6_treats_262 : decode cX6_treats 262 = .ok (.goto 4, 3) := by decide +kernel
theorem dX6_treats_265 : decode cX6_treats 265 = .ok (.lconst 0, 1) := by decide +kernel
theorem dX6_treats_266 : decode cX6_treats 266 = .ok (.lastore, 1) := by decide +kernel
theorem dX6_treats_267 : decode cX6_treats 267 = .ok (.lload 13, 2) := by decide +kernel
theorem dX6_treats_269 : decode cX6_treats 269 = .ok (.aload_n 0, 1) := by decide +kernel
theorem dX6_treats_270 : decode cX6_treats 270 = .ok (.getfield 7, 3) := by decide +kernel
theorem dX6_treats_273 : decode cX6_treats 273 = .ok (.bipush 6, 2) := by decide +kernel
theorem dX6_treats_275 : decode cX6_treats 275 = .ok (.laload, 1) := by decide +kernel
theorem dX6_treats_276 : decode cX6_treats 276 = .ok (.lcmp, 1) := by decide +kernel
theorem dX6_treats_277 : decode cX6_treats 277 = .ok (.ifCond .ge 75, 3) := by decide +kernel
theorem dX6_treats_280 : decode cX6_treats 280 = .ok (.aload_n 0, 1) := by decide +kernel
theorem dX6_treats_281 : decode cX6_treats 281 = .ok (.getfield 7, 3) := by decide +kernel
theorem dX6_treats_284 : decode cX6_treats 284 = .ok (.bipush 43, 2) := by decide +kernel
theorem dX6_treats_286 : decode cX6_treats 286 = .ok (.laload, 1) := by decide +kernel
theorem dX6_treats_287 : decode cX6_treats 287 = .ok (.aload_n 0, 1) := by decide +kernel
theorem dX6_treats_288 : decode cX6_treats 288 = .ok (.getfield 7, 3) := by decide +kernel
theorem dX6_treats_291 : decode cX6_treats 291 = .ok (.bipush 6, 2) := by decide +kernel
theorem dX6_treats_293 : decode cX6_treats 293 = .ok (.laload, 1) := by decide +kernel
theorem dX6_treats_294 : decode cX6_treats 294 = .ok (.lcmp, 1) := by decide +kernel
theorem dX6_treats_295 : decode cX6_treats 295 = .ok (.ifCond .lt 57, 3) := by decide +kernel
theorem dX6_treats_298 : decode cX6_treats 298 = .ok (.iconst 1, 1) := by decide +kernel
theorem dX6_treats_299 : decode cX6_treats 299 = .ok (.istore 11, 2) := by decide +kernel
theorem dX6_treats_301 : decode cX6_treats 301 = .ok (.aload_n 0, 1) := by decide +kernel
theorem dX6_treats_302 : decode cX6_treats 302 = .ok (.invokevirtual 180, 3) := by decide +kernel
theorem dX6_treats_305 : decode cX6_treats 305 = .ok (.lstore 15, 2) := by decide +kernel
theorem dX6_treats_307 : decode cX6_treats 307 = .ok (.aload_n 0, 1) := by decide +kernel
theorem dX6_treats_308 : decode cX6_treats 308 = .ok (.iconst 0, 1) := by decide +kernel
theorem dX6_treats_309 : decode cX6_treats 309 = .ok (.aload_n 0, 1) := by decide +kernel
theorem dX6_treats_310 : decode cX6_treats 310 = .ok (.lload_n 3, 1) := by decide +kernel
theorem dX6_treats_311 : decode cX6_treats 311 = .ok (.lload 15, 2) := by decide +kernel
theorem dX6_treats_313 : decode cX6_treats 313 = .ok (.invokevirtual 145, 3) := by decide +kernel
theorem dX6_treats_316 : decode cX6_treats 316 = .ok (.i2l, 1) := by decide +kernel
theorem dX6_treats_317 : decode cX6_treats 317 = .ok (.aload_n 0, 1) := by decide +kernel
theorem dX6_treats_318 : decode cX6_treats 318 = .ok (.lload_n 3, 1) := by decide +kernel
theorem dX6_treats_319 : decode cX6_treats 319 = .ok (.aload_n 0, 1) := by decide +kernel
theorem dX6_treats_320 : decode cX6_treats 320 = .ok (.getfield 7, 3) := by decide +kernel
theorem dX6_treats_323 : decode cX6_treats 323 = .ok (.bipush 7, 2) := by decide +kernel
theorem dX6_treats_325 : decode cX6_treats 325 = .ok (.laload, 1) := by decide +kernel
theorem dX6_treats_326 : decode cX6_treats 326 = .ok (.lsub, 1) := by decide +kernel
theorem dX6_treats_327 : decode cX6_treats 327 = .ok (.lload 15, 2) := by decide +kernel
theorem dX6_treats_329 : decode cX6_treats 329 = .ok (.invokevirtual 145, 3) := by decide +kernel
theorem dX6_treats_332 : decode cX6_treats 332 = .ok (.i2l, 1) := by decide +kernel
theorem dX6_treats_333 : decode cX6_treats 333 = .ok (.aload_n 0, 1) := by decide +kernel
theorem dX6_treats_334 : decode cX6_treats 334 = .ok (.lload_n 3, 1) := by decide +kernel
theorem dX6_treats_335 : decode cX6_treats 335 = .ok (.aload_n 0, 1) := by decide +kernel
theorem dX6_treats_336 : decode cX6_treats 336 = .ok (.getfield 7, 3) := by decide +kernel
theorem dX6_treats_339 : decode cX6_treats 339 = .ok (.bipush 7, 2) := by decide +kernel
theorem dX6_treats_341 : decode cX6_treats 341 = .ok (.laload, 1) := by decide +kernel
theorem dX6_treats_342 : decode cX6_treats 342 = .ok (.ladd, 1) := by decide +kernel
theorem dX6_treats_343 : decode cX6_treats 343 = .ok (.lload 15, 2) := by decide +kernel
theorem dX6_treats_345 : decode cX6_treats 345 = .ok (.invokevirtual 145, 3) := by decide +kernel
theorem dX6_treats_348 : decode cX6_treats 348 = .ok (.i2l, 1) := by decide +kernel
theorem dX6_treats_349 : decode cX6_treats 349 = .ok (.invokevirtual 183, 3) := by decide +kernel
theorem dX6_treats_352 : decode cX6_treats 352 = .ok (.aload_n 0, 1) := by decide +kernel
theorem dX6_treats_353 : decode cX6_treats 353 = .ok (.getfield 7, 3) := by decide +kernel
theorem dX6_treats_356 : decode cX6_treats 356 = .ok (.bipush 44, 2) := by decide +kernel
theorem dX6_treats_358 : decode cX6_treats 358 = .ok (.laload, 1) := by decide +kernel
theorem dX6_treats_359 : decode cX6_treats 359 = .ok (.lstore 15, 2) := by decide +kernel
theorem dX6_treats_361 : decode cX6_treats 361 = .ok (.aload_n 0, 1) := by decide +kernel
theorem dX6_treats_362 : decode cX6_treats 362 = .ok (.getfield 7, 3) := by decide +kernel
theorem dX6_treats_365 : decode cX6_treats 365 = .ok (.bipush 44, 2) := by decide +kernel
theorem dX6_treats_367 : decode cX6_treats 367 = .ok (.lload_n 1, 1) := by decide +kernel
theorem dX6_treats_368 : decode cX6_treats 368 = .ok (.lconst 0, 1) := by decide +kernel
theorem dX6_treats_369 : decode cX6_treats 369 = .ok (.aload_n 0, 1) := by decide +kernel
theorem dX6_treats_370 : decode cX6_treats 370 = .ok (.getfield 7, 3) := by decide +kernel
theorem dX6_treats_373 : decode cX6_treats 373 = .ok (.bipush 9, 2) := by decide +kernel
theorem dX6_treats_375 : decode cX6_treats 375 = .ok (.laload, 1) := by decide +kernel
theorem dX6_treats_376 : decode cX6_treats 376 = .ok (.invokestatic 101, 3) := by decide +kernel
theorem dX6_treats_379 : decode cX6_treats 379 = .ok (.ifCond .eq 23, 3) := by decide +kernel
theorem dX6_treats_382 : decode cX6_treats 382 = .ok (.lload_n 3, 1) := by decide +kernel
theorem dX6_treats_383 : decode cX6_treats 383 = .ok (.aload_n 0, 1) := by decide +kernel
theorem dX6_treats_384 : decode cX6_treats 384 = .ok (.getfield 7, 3) := by decide +kernel
theorem dX6_treats_387 : decode cX6_treats 387 = .ok (.bipush 8, 2) := by decide +kernel
theorem dX6_treats_389 : decode cX6_treats 389 = .ok (.laload, 1) := by decide +kernel
theorem dX6_treats_390 : decode cX6_treats 390 = .ok (.lcmp, 1) := by decide +kernel
theorem dX6_treats_391 : decode cX6_treats 391 = .ok (.ifCond .lt 11, 3) := by decide +kernel
theorem dX6_treats_394 : decode cX6_treats 394 = .ok (.lload 15, 2) := by decide +kernel
theorem dX6_treats_396 : decode cX6_treats 396 = .ok (.lload 5, 2) := by decide +kernel
theorem dX6_treats_398 : decode cX6_treats 398 = .ok (.ladd, 1) := by decide +kernel
theorem dX6_treats_399 : decode cX6_treats 399 = .ok (.goto 4, 3) := by decide +kernel
theorem dX6_treats_402 : decode cX6_treats 402 = .ok (.lconst 0, 1) := by decide +kernel
theorem dX6_treats_403 : decode cX6_treats 403 = .ok (.lastore, 1) := by decide +kernel
theorem dX6_treats_404 : decode cX6_treats 404 = .ok (.lload 15, 2) := by decide +kernel
theorem dX6_treats_406 : decode cX6_treats 406 = .ok (.ldc2_w 187, 3) := by decide +kernel
theorem dX6_treats_409 : decode cX6_treats 409 = .ok (.lcmp, 1) := by decide +kernel
theorem dX6_treats_410 : decode cX6_treats 410 = .ok (.ifCond .ge 34, 3) := by decide +kernel
theorem dX6_treats_413 : decode cX6_treats 413 = .ok (.aload_n 0, 1) := by decide +kernel
theorem dX6_treats_414 : decode cX6_treats 414 = .ok (.getfield 7, 3) := by decide +kernel
theorem dX6_treats_417 : decode cX6_treats 417 = .ok (.bipush 44, 2) := by decide +kernel
theorem dX6_treats_419 : decode cX6_treats 419 = .ok (.laload, 1) := by decide +kernel
theorem dX6_treats_420 : decode cX6_treats 420 = .ok (.ldc2_w 187, 3) := by decide +kernel
theorem dX6_treats_423 : decode cX6_treats 423 = .ok (.lcmp, 1) := by decide +kernel
theorem dX6_treats_424 : decode cX6_treats 424 = .ok (.ifCond .lt 20, 3) := by decide +kernel
theorem dX6_treats_427 : decode cX6_treats 427 = .ok (.iinc 11 2, 3) := by decide +kernel
theorem dX6_treats_430 : decode cX6_treats 430 = .ok (.aload_n 0, 1) := by decide +kernel
theorem dX6_treats_431 : decode cX6_treats 431 = .ok (.iconst 1, 1) := by decide +kernel
theorem dX6_treats_432 : decode cX6_treats 432 = .ok (.ldc2_w 93, 3) := by decide +kernel
theorem dX6_treats_435 : decode cX6_treats 435 = .ok (.ldc2_w 93, 3) := by decide +kernel
theorem dX6_treats_438 : decode cX6_treats 438 = .ok (.ldc2_w 93, 3) := by decide +kernel
theorem dX6_treats_441 : decode cX6_treats 441 = .ok (.invokevirtual 183, 3) := by decide +kernel
theorem dX6_treats_444 : decode cX6_treats 444 = .ok (.lload_n 1, 1) := by decide +kernel
theorem dX6_treats_445 : decode cX6_treats 445 = .ok (.lconst 0, 1) := by decide +kernel
theorem dX6_treats_446 : decode cX6_treats 446 = .ok (.lcmp, 1) := by decide +kernel
theorem dX6_treats_447 : decode cX6_treats 447 = .ok (.ifCond .ge 19, 3) := by decide +kernel
theorem dX6_treats_450 : decode cX6_treats 450 = .ok (.lload_n 3, 1) := by decide +kernel
theorem dX6_treats_451 : decode cX6_treats 451 = .ok (.aload_n 0, 1) := by decide +kernel
theorem dX6_treats_452 : decode cX6_treats 452 = .ok (.getfield 7, 3) := by decide +kernel
theorem dX6_treats_455 : decode cX6_treats 455 = .ok (.bipush 10, 2) := by decide +kernel
theorem dX6_treats_457 : decode cX6_treats 457 = .ok (.laload, 1) := by decide +kernel
theorem dX6_treats_458 : decode cX6_treats 458 = .ok (.lcmp, 1) := by decide +kernel
theorem dX6_treats_459 : decode cX6_treats 459 = .ok (.ifCond .gt 7, 3) := by decide +kernel
theorem dX6_treats_462 : decode cX6_treats 462 = .ok (.iconst 1, 1) := by decide +kernel
theorem dX6_treats_463 : decode cX6_treats 463 = .ok (.goto 4, 3) := by decide +kernel
theorem dX6_treats_466 : decode cX6_treats 466 = .ok (.iconst 0, 1) := by decide +kernel
theorem dX6_treats_467 : decode cX6_treats 467 = .ok (.istore 17, 2) := by decide +kernel
theorem dX6_treats_469 : decode cX6_treats 469 = .ok (.iload 17, 2) := by decide +kernel
theorem dX6_treats_471 : decode cX6_treats 471 = .ok (.ifCond .eq 26, 3) := by decide +kernel
theorem dX6_treats_474 : decode cX6_treats 474 = .ok (.aload_n 0, 1) := by decide +kernel
theorem dX6_treats_475 : decode cX6_treats 475 = .ok (.getfield 7, 3) := by decide +kernel
theorem dX6_treats_478 : decode cX6_treats 478 = .ok (.bipush 47, 2) := by decide +kernel
theorem dX6_treats_480 : decode cX6_treats 480 = .ok (.laload, 1) := by decide +kernel
theorem dX6_treats_481 : decode cX6_treats 481 = .ok (.lconst 0, 1) := by decide +kernel
theorem dX6_treats_482 : decode cX6_treats 482 = .ok (.lcmp, 1) := by decide +kernel
theorem dX6_treats_483 : decode cX6_treats 483 = .ok (.ifCond .ne 14, 3) := by decide +kernel
theorem dX6_treats_486 : decode cX6_treats 486 = .ok (.iinc 11 4, 3) := by decide +kernel
theorem dX6_treats_489 : decode cX6_treats 489 = .ok (.aload_n 0, 1) := by decide +kernel
theorem dX6_treats_490 : decode cX6_treats 490 = .ok (.iconst 2, 1) := by decide +kernel
theorem dX6_treats_491 : decode cX6_treats 491 = .ok (.lconst 0, 1) := by decide +kernel
theorem dX6_treats_492 : decode cX6_treats 492 = .ok (.lconst 0, 1) := by decide +kernel
theorem dX6_treats_493 : decode cX6_treats 493 = .ok (.lconst 0, 1) := by decide +kernel
theorem dX6_treats_494 : decode cX6_treats 494 = .ok (.invokevirtual 183, 3) := by decide +kernel
theorem dX6_treats_497 : decode cX6_treats 497 = .ok (.aload_n 0, 1) := by decide +kernel
theorem dX6_treats_498 : decode cX6_treats 498 = .ok (.getfield 7, 3) := by decide +kernel
theorem dX6_treats_501 : decode cX6_treats 501 = .ok (.bipush 47, 2) := by decide +kernel
theorem dX6_treats_503 : decode cX6_treats 503 = .ok (.iload 17, 2) := by decide +kernel
theorem dX6_treats_505 : decode cX6_treats 505 = .ok (.ifCond .eq 7, 3) := by decide +kernel
theorem dX6_treats_508 : decode cX6_treats 508 = .ok (.lconst 1, 1) := by decide +kernel
theorem dX6_treats_509 : decode cX6_treats 509 = .ok (.goto 4, 3) := by decide +kernel
theorem dX6_treats_512 : decode cX6_treats 512 = .ok (.lconst 0, 1) := by decide +kernel
theorem dX6_treats_513 : decode cX6_treats 513 = .ok (.lastore, 1) := by decide +kernel
theorem dX6_treats_514 : decode cX6_treats 514 = .ok (.aload_n 0, 1) := by decide +kernel
theorem dX6_treats_515 : decode cX6_treats 515 = .ok (.getfield 7, 3) := by decide +kernel
theorem dX6_treats_518 : decode cX6_treats 518 = .ok (.bipush 45, 2) := by decide +kernel
theorem dX6_treats_520 : decode cX6_treats 520 = .ok (.lconst 1, 1) := by decide +kernel
theorem dX6_treats_521 : decode cX6_treats 521 = .ok (.lastore, 1) := by decide +kernel
theorem dX6_treats_522 : decode cX6_treats 522 = .ok (.aload_n 0, 1) := by decide +kernel
theorem dX6_treats_523 : decode cX6_treats 523 = .ok (.getfield 7, 3) := by decide +kernel
theorem dX6_treats_526 : decode cX6_treats 526 = .ok (.bipush 46, 2) := by decide +kernel
theorem dX6_treats_528 : decode cX6_treats 528 = .ok (.lload_n 3, 1) := by decide +kernel
theorem dX6_treats_529 : decode cX6_treats 529 = .ok (.lastore, 1) := by decide +kernel
theorem dX6_treats_530 : decode cX6_treats 530 = .ok (.iload 11, 2) := by decide +kernel
theorem dX6_treats_532 : decode cX6_treats 532 = .ok (.ireturn, 1) := by decide +kernel
set_option maxRecDepth 20000 in
theorem ggX6_isMeasurement_X6_in : GoodIn wsX6_isMeasurement wsX6_in := goodIn_r _ [8] rfl (by decide +kernel)
set_option maxRecDepth 20000 in
theorem gX6_isMeasurement_X6_in : GoodIn wsX6_isMeasurement (va_wsS RX6 101 yX6_in wsX6_in) := goodIn_app (goodIn_of _ (by decide +kernel)) ggX6_isMeasurement_X6_in
theorem dX6_isMeasurement_0 : decode cX6_isMeasurement 0 = .ok (.iload_n 0, 1) := by decide +kernel
theorem dX6_isMeasurement_1 : decode cX6_isMeasurement 1 = .ok (.i2l, 1) := by decide +kernel
theorem dX6_isMeasurement_2 : decode cX6_isMeasurement 2 = .ok (.ldc2_w 189, 3) := by decide +kernel
theorem dX6_isMeasurement_5 : decode cX6_isMeasurement 5 = .ok (.ldc2_w 191, 3) := by decide +kernel
theorem dX6_isMeasurement_8 : decode cX6_isMeasurement 8 = .ok (.invokestatic 101, 3) := by decide +kernel
theorem dX6_isMeasurement_11 : decode cX6_isMeasurement 11 = .ok (.ifCond .eq 31, 3) := by decide +kernel
theorem dX6_isMeasurement_14 : decode cX6_isMeasurement 14 = .ok (.iload_n 1, 1) := by decide +kernel
theorem dX6_isMeasurement_15 : decode cX6_isMeasurement 15 = .ok (.i2l, 1) := by decide +kernel
theorem dX6_isMeasurement_16 : decode cX6_isMeasurement 16 = .ok (.lconst 0, 1) := by decide +kernel
theorem dX6_isMeasurement_17 : decode cX6_isMeasurement 17 = .ok (.ldc2_w 143, 3) := by decide +kernel
theorem dX6_isMeasurement_20 : decode cX6_isMeasurement 20 = .ok (.invokestatic 101, 3) := by decide +kernel
theorem dX6_isMeasurement_23 : decode cX6_isMeasurement 23 = .ok (.ifCond .eq 19, 3) := by decide +kernel
theorem dX6_isMeasurement_26 : decode cX6_isMeasurement 26 = .ok (.iload_n 2, 1) := by decide +kernel
theorem dX6_isMeasurement_27 : decode cX6_isMeasurement 27 = .ok (.i2l, 1) := by decide +kernel
theorem dX6_isMeasurement_28 : decode cX6_isMeasurement 28 = .ok (.lconst 1, 1) := by decide +kernel
theorem dX6_isMeasurement_29 : decode cX6_isMeasurement 29 = .ok (.ldc2_w 193, 3) := by decide +kernel
theorem dX6_isMeasurement_32 : decode cX6_isMeasurement 32 = .ok (.invokestatic 101, 3) := by decide +kernel
theorem dX6_isMeasurement_35 : decode cX6_isMeasurement 35 = .ok (.ifCond .eq 7, 3) := by decide +kernel
theorem dX6_isMeasurement_38 : decode cX6_isMeasurement 38 = .ok (.iconst 1, 1) := by decide +kernel
theorem dX6_isMeasurement_39 : decode cX6_isMeasurement 39 = .ok (.goto 4, 3) := by decide +kernel
theorem dX6_isMeasurement_42 : decode cX6_isMeasurement 42 = .ok (.iconst 0, 1) := by decide +kernel
theorem dX6_isMeasurement_43 : decode cX6_isMeasurement 43 = .ok (.ireturn, 1) := by decide +kernel
set_option maxRecDepth 20000 in
theorem ggX6_measure_X6_isMeasurement : GoodIn wsX6_measure wsX6_isMeasurement := goodIn_r _ [4, 5, 6, 7, 8, 9, 10, 3, 11] rfl (by decide +kernel)
set_option maxRecDepth 20000 in
theorem gX6_measure_X6_isMeasurement : GoodIn wsX6_measure (va_wsS RX6 195 yX6_isMeasurement wsX6_isMeasurement) := goodIn_app (goodIn_of _ (by decide +kernel)) ggX6_measure_X6_isMeasurement
set_option maxRecDepth 20000 in
theorem ggX6_measure_X6_goes : GoodIn wsX6_measure wsX6_goes := goodIn_r _ [15, 16, 91, 92, 93, 94, 95, 96, 97, 98, 99, 100] rfl (by decide +kernel)
set_option maxRecDepth 20000 in
theorem gX6_measure_X6_goes : GoodIn wsX6_measure (wsV RX6 105 RX6 yX6_goes wsX6_goes) := goodIn_app (goodIn_of _ (by decide +kernel)) ggX6_measure_X6_goes
set_option maxRecDepth 20000 in
theorem ggX6_measure_X6_save : GoodIn wsX6_measure wsX6_save := goodIn_r _ [20, 21, 22, 23, 91, 92, 93, 94, 95, 96, 97, 98, 99, 100] rfl (by decide +kernel)
set_option maxRecDepth 20000 in
theorem gX6_measure_X6_save : GoodIn wsX6_measure (wsV RX6 109 RX6 yX6_save wsX6_save) := goodIn_app (goodIn_of _ (by decide +kernel)) ggX6_measure_X6_save
set_option maxRecDepth 20000 in
theorem ggX6_measure_X6_treats : GoodIn wsX6_measure wsX6_treats := goodIn_r _ [27, 23, 28, 29, 30, 31, 32, 3, 33, 34, 35, 36, 37, 38, 39, 40, 41, 42, 43, 44, 45, 46, 47, 48, 49, 50, 9, 10, 11, 51, 52, 53, 54, 55, 56, 57, 58, 59, 60, 61, 62, 63, 64, 65, 66, 67, 68, 69, 70, 71, 72, 73, 74, 75, 76, 77, 78, 79, 80, 81, 82, 83, 84, 85, 86, 87, 88, 89, 90, 91, 92, 93, 94, 95, 96, 97, 98, 99, 100] rfl (by decide +kernel)
set_option maxRecDepth 20000 in
theorem gX6_measure_X6_treats : GoodIn wsX6_measure (wsV RX6 198 RX6 yX6_treats wsX6_treats) := goodIn_app (goodIn_of _ (by decide +kernel)) ggX6_measure_X6_treats
theorem dX6_measure_0 : decode cX6_measure 0 = .ok (.aload_n 0, 1) := by decide +kernel
theorem dX6_measure_1 : decode cX6_measure 1 = .ok (.iload_n 1, 1) := by decide +kernel
theorem dX6_measure_2 : decode cX6_measure 2 = .ok (.iload_n 2, 1) := by decide +kernel
theorem dX6_measure_3 : decode cX6_measure 3 = .ok (.iload_n 3, 1) := by decide +kernel
theorem dX6_measure_4 : decode cX6_measure 4 = .ok (.invokestatic 195, 3) := by decide +kernel
theorem dX6_measure_7 : decode cX6_measure 7 = .ok (.iconst 1, 1) := by decide +kernel
theorem dX6_measure_8 : decode cX6_measure 8 = .ok (.invokevirtual 105, 3) := by decide +kernel
theorem dX6_measure_11 : decode cX6_measure 11 = .ok (.ifCond .ne 5, 3) := by decide +kernel
theorem dX6_measure_14 : decode cX6_measure 14 = .ok (.iconst 0, 1) := by decide +kernel
theorem dX6_measure_15 : decode cX6_measure 15 = .ok (.ireturn, 1) := by decide +kernel
theorem dX6_measure_16 : decode cX6_measure 16 = .ok (.aload_n 0, 1) := by decide +kernel
theorem dX6_measure_17 : decode cX6_measure 17 = .ok (.invokevirtual 109, 3) := by decide +kernel
theorem dX6_measure_20 : decode cX6_measure 20 = .ok (.aload_n 0, 1) := by decide +kernel
theorem dX6_measure_21 : decode cX6_measure 21 = .ok (.iload_n 1, 1) := by decide +kernel
theorem dX6_measure_22 : decode cX6_measure 22 = .ok (.i2l, 1) := by decide +kernel
theorem dX6_measure_23 : decode cX6_measure 23 = .ok (.iload_n 2, 1) := by decide +kernel
theorem dX6_measure_24 : decode cX6_measure 24 = .ok (.i2l, 1) := by decide +kernel
theorem dX6_measure_25 : decode cX6_measure 25 = .ok (.iload_n 3, 1) := by decide +kernel
theorem dX6_measure_26 : decode cX6_measure 26 = .ok (.i2l, 1) := by decide +kernel
theorem dX6_measure_27 : decode cX6_measure 27 = .ok (.invokevirtual 198, 3) := by decide +kernel
theorem dX6_measure_30 : decode cX6_measure 30 = .ok (.ireturn, 1) := by decide +kernel
set_option maxRecDepth 20000 in
theorem ggX6_repeat_X6_isMeasurement : GoodIn wsX6_repeat wsX6_isMeasurement := goodIn_r _ [6, 7, 8, 9, 10, 11, 12, 5, 13] rfl (by decide +kernel)
set_option maxRecDepth 20000 in
theorem gX6_repeat_X6_isMeasurement : GoodIn wsX6_repeat (va_wsS RX6 195 yX6_isMeasurement wsX6_isMeasurement) := goodIn_app (goodIn_of _ (by decide +kernel)) ggX6_repeat_X6_isMeasurement
set_option maxRecDepth 20000 in
theorem ggX6_repeat_X6_in : GoodIn wsX6_repeat wsX6_in := goodIn_r _ [13] rfl (by decide +kernel)
set_option maxRecDepth 20000 in
theorem gX6_repeat_X6_in : GoodIn wsX6_repeat (va_wsS RX6 101 yX6_in wsX6_in) := goodIn_app (goodIn_of _ (by decide +kernel)) ggX6_repeat_X6_in
set_option maxRecDepth 20000 in
theorem ggX6_repeat_X6_goes : GoodIn wsX6_repeat wsX6_goes := goodIn_r _ [17, 18, 92, 93, 94, 95, 96, 97, 98, 99, 100, 101] rfl (by decide +kernel)
set_option maxRecDepth 20000 in
theorem gX6_repeat_X6_goes : GoodIn wsX6_repeat (wsV RX6 105 RX6 yX6_goes wsX6_goes) := goodIn_app (goodIn_of _ (by decide +kernel)) ggX6_repeat_X6_goes
set_option maxRecDepth 20000 in
theorem ggX6_repeat_X6_save : GoodIn wsX6_repeat wsX6_save := goodIn_r _ [22, 23, 24, 25, 92, 93, 94, 95, 96, 97, 98, 99, 100, 101] rfl (by decide +kernel)
set_option maxRecDepth 20000 in
theorem gX6_repeat_X6_save : GoodIn wsX6_repeat (wsV RX6 109 RX6 yX6_save wsX6_save) := goodIn_app (goodIn_of _ (by decide +kernel)) ggX6_repeat_X6_save
set_option maxRecDepth 20000 in
theorem ggX6_repeat_X6_treats : GoodIn wsX6_repeat wsX6_treats := goodIn_r _ [29, 25, 30, 31, 32, 33, 34, 5, 35, 36, 37, 38, 39, 40, 41, 42, 43, 44, 45, 46, 47, 48, 49, 50, 51, 52, 11, 12, 13, 53, 54, 55, 56, 57, 58, 59, 60, 61, 62, 63, 64, 65, 66, 67, 68, 69, 70, 71, 72, 2, 73, 74, 75, 76, 77, 78, 79, 80, 81, 82, 83, 84, 85, 86, 87, 88, 89, 90, 91, 92, 93, 94, 95, 96, 97, 98, 99, 100, 101] rfl (by decide +kernel)
set_option maxRecDepth 20000 in
theorem gX6_repeat_X6_treats : GoodIn wsX6_repeat (wsV RX6 198 RX6 yX6_treats wsX6_treats) := goodIn_app (goodIn_of _ (by decide +kernel)) ggX6_repeat_X6_treats
theorem dX6_repeat_0 : decode cX6_repeat 0 = .ok (.aload_n 0, 1) := by decide +kernel
theorem dX6_repeat_1 : decode cX6_repeat 1 = .ok (.iload_n 1, 1) := by decide +kernel
theorem dX6_repeat_2 : decode cX6_repeat 2 = .ok (.iload_n 2, 1) := by decide +kernel
theorem dX6_repeat_3 : decode cX6_repeat 3 = .ok (.iload_n 3, 1) := by decide +kernel
theorem dX6_repeat_4 : decode cX6_repeat 4 = .ok (.invokestatic 195, 3) := by decide +kernel
theorem dX6_repeat_7 : decode cX6_repeat 7 = .ok (.ifCond .eq 20, 3) := by decide +kernel
theorem dX6_repeat_10 : decode cX6_repeat 10 = .ok (.iload 4, 2) := by decide +kernel
theorem dX6_repeat_12 : decode cX6_repeat 12 = .ok (.i2l, 1) := by decide +kernel
theorem dX6_repeat_13 : decode cX6_repeat 13 = .ok (.lconst 0, 1) := by decide +kernel
theorem dX6_repeat_14 : decode cX6_repeat 14 = .ok (.ldc2_w 28, 3) := by decide +kernel
theorem dX6_repeat_17 : decode cX6_repeat 17 = .ok (.invokestatic 101, 3) := by decide +kernel
theorem dX6_repeat_20 : decode cX6_repeat 20 = .ok (.ifCond .eq 7, 3) := by decide +kernel
theorem dX6_repeat_23 : decode cX6_repeat 23 = .ok (.iconst 1, 1) := by decide +kernel
theorem dX6_repeat_24 : decode cX6_repeat 24 = .ok (.goto 4, 3) := by decide +kernel
theorem dX6_repeat_27 : decode cX6_repeat 27 = .ok (.iconst 0, 1) := by decide +kernel
theorem dX6_repeat_28 : decode cX6_repeat 28 = .ok (.iconst 1, 1) := by decide +kernel
theorem dX6_repeat_29 : decode cX6_repeat 29 = .ok (.invokevirtual 105, 3) := by decide +kernel
theorem dX6_repeat_32 : decode cX6_repeat 32 = .ok (.ifCond .ne 5, 3) := by decide +kernel
theorem dX6_repeat_35 : decode cX6_repeat 35 = .ok (.iconst 0, 1) := by decide +kernel
theorem dX6_repeat_36 : decode cX6_repeat 36 = .ok (.ireturn, 1) := by decide +kernel
theorem dX6_repeat_37 : decode cX6_repeat 37 = .ok (.aload_n 0, 1) := by decide +kernel
theorem dX6_repeat_38 : decode cX6_repeat 38 = .ok (.invokevirtual 109, 3) := by decide +kernel
theorem dX6_repeat_41 : decode cX6_repeat 41 = .ok (.aload_n 0, 1) := by decide +kernel
theorem dX6_repeat_42 : decode cX6_repeat 42 = .ok (.iconst 0, 1) := by decide +kernel
theorem dX6_repeat_43 : decode cX6_repeat 43 = .ok (.putfield 167, 3) := by decide +kernel
theorem dX6_repeat_46 : decode cX6_repeat 46 = .ok (.iconst 0, 1) := by decide +kernel
theorem dX6_repeat_47 : decode cX6_repeat 47 = .ok (.istore 5, 2) := by decide +kernel
theorem dX6_repeat_49 : decode cX6_repeat 49 = .ok (.iconst 0, 1) := by decide +kernel
theorem dX6_repeat_50 : decode cX6_repeat 50 = .ok (.istore 6, 2) := by decide +kernel
theorem dX6_repeat_52 : decode cX6_repeat 52 = .ok (.iload 6, 2) := by decide +kernel
theorem dX6_repeat_54 : decode cX6_repeat 54 = .ok (.iload 4, 2) := by decide +kernel
theorem dX6_repeat_56 : decode cX6_repeat 56 = .ok (.if_icmp .ge 24, 3) := by decide +kernel
theorem dX6_repeat_59 : decode cX6_repeat 59 = .ok (.iload 5, 2) := by decide +kernel
theorem dX6_repeat_61 : decode cX6_repeat 61 = .ok (.aload_n 0, 1) := by decide +kernel
theorem dX6_repeat_62 : decode cX6_repeat 62 = .ok (.iload_n 1, 1) := by decide +kernel
theorem dX6_repeat_63 : decode cX6_repeat 63 = .ok (.i2l, 1) := by decide +kernel
theorem dX6_repeat_64 : decode cX6_repeat 64 = .ok (.iload_n 2, 1) := by decide +kernel
theorem dX6_repeat_65 : decode cX6_repeat 65 = .ok (.i2l, 1) := by decide +kernel
theorem dX6_repeat_66 : decode cX6_repeat 66 = .ok (.iload_n 3, 1) := by decide +kernel
theorem dX6_repeat_67 : decode cX6_repeat 67 = .ok (.i2l, 1) := by decide +kernel
theorem dX6_repeat_68 : decode cX6_repeat 68 = .ok (.invokevirtual 198, 3) := by decide +kernel
theorem dX6_repeat_71 : decode cX6_repeat 71 = .ok (.ior, 1) := by decide +kernel
theorem dX6_repeat_72 : decode cX6_repeat 72 = .ok (.istore 5, 2) := by decide +kernel
theorem dX6_repeat_74 : decode cX6_repeat 74 = .ok (.iinc 6 1, 3) := by decide +kernel
theorem dX6_repeat_77 : decode cX6_repeat 77 = .ok (.goto (-25), 3) := by decide +kernel
theorem dX6_repeat_80 : decode cX6_repeat 80 = .ok (.aload_n 0, 1) := by decide +kernel
theorem dX6_repeat_81 : decode cX6_repeat 81 = .ok (.getfield 167, 3) := by decide +kernel
theorem dX6_repeat_84 : decode cX6_repeat 84 = .ok (.ireturn, 1) := by decide +kernel
theorem dX6_socOf_0 : decode cX6_socOf 0 = .ok (.aload_n 0, 1) := by decide +kernel
theorem dX6_socOf_1 : decode cX6_socOf 1 = .ok (.getfield 7, 3) := by decide +kernel
theorem dX6_socOf_4 : decode cX6_socOf 4 = .ok (.bipush 34, 2) := by decide +kernel
theorem dX6_socOf_6 : decode cX6_socOf 6 = .ok (.iload_n 1, 1) := by decide +kernel
theorem dX6_socOf_7 : decode cX6_socOf 7 = .ok (.iadd, 1) := by decide +kernel
theorem dX6_socOf_8 : decode cX6_socOf 8 = .ok (.laload, 1) := by decide +kernel
theorem dX6_socOf_9 : decode cX6_socOf 9 = .ok (.ldc2_w 93, 3) := by decide +kernel
theorem dX6_socOf_12 : decode cX6_socOf 12 = .ok (.lmul, 1) := by decide +kernel
theorem dX6_socOf_13 : decode cX6_socOf 13 = .ok (.aload_n 0, 1) := by decide +kernel
theorem dX6_socOf_14 : decode cX6_socOf 14 = .ok (.getfield 7, 3) := by decide +kernel
theorem dX6_socOf_17 : decode cX6_socOf 17 = .ok (.bipush 37, 2) := by decide +kernel
theorem dX6_socOf_19 : decode cX6_socOf 19 = .ok (.laload, 1) := by decide +kernel
theorem dX6_socOf_20 : decode cX6_socOf 20 = .ok (.ldiv, 1) := by decide +kernel
theorem dX6_socOf_21 : decode cX6_socOf 21 = .ok (.l2i, 1) := by decide +kernel
theorem dX6_socOf_22 : decode cX6_socOf 22 = .ok (.ireturn, 1) := by decide +kernel
set_option maxRecDepth 20000 in
theorem ggX6_models_X6_socOf : GoodIn wsX6_models wsX6_socOf := goodIn_r _ [8, 9, 10, 78, 79, 80, 81, 82, 83, 84, 85, 86, 87] rfl (by decide +kernel)
set_option maxRecDepth 20000 in
theorem gX6_models_X6_socOf : GoodIn wsX6_models (wsV RX6 202 RX6 yX6_socOf wsX6_socOf) := goodIn_app (goodIn_of _ (by decide +kernel)) ggX6_models_X6_socOf
set_option maxRecDepth 20000 in
theorem ggX6_models_X6_hysteresis : GoodIn wsX6_models wsX6_hysteresis := goodIn_r _ [14, 9, 2, 15, 16, 17, 7, 18, 19, 78, 79, 80, 81, 82, 83, 84, 85, 86, 87] rfl (by decide +kernel)
set_option maxRecDepth 20000 in
theorem gX6_models_X6_hysteresis : GoodIn wsX6_models (wsV RX6 180 RX6 yX6_hysteresis wsX6_hysteresis) := goodIn_app (goodIn_of _ (by decide +kernel)) ggX6_models_X6_hysteresis
set_option maxRecDepth 20000 in
theorem ggX6_models_X6_voltage : GoodIn wsX6_models wsX6_voltage := goodIn_r _ [23, 2, 24, 25, 26, 7, 27, 9, 78, 79, 80, 81, 82, 83, 84, 85, 86, 87] rfl (by decide +kernel)
set_option maxRecDepth 20000 in
theorem gX6_models_X6_voltage : GoodIn wsX6_models (wsV RX6 139 RX6 yX6_voltage wsX6_voltage) := goodIn_app (goodIn_of _ (by decide +kernel)) ggX6_models_X6_voltage
set_option maxRecDepth 20000 in
theorem ggX6_models_X6_floor : GoodIn wsX6_models wsX6_floor := goodIn_r _ [30] rfl (by decide +kernel)
set_option maxRecDepth 20000 in
theorem gX6_models_X6_floor : GoodIn wsX6_models (va_wsS RX6 95 yX6_floor wsX6_floor) := goodIn_app (goodIn_of _ (by decide +kernel)) ggX6_models_X6_floor
set_option maxRecDepth 20000 in
theorem ggX6_models_X6_clamp : GoodIn wsX6_models wsX6_clamp := goodIn_r _ [33] rfl (by decide +kernel)
set_option maxRecDepth 20000 in
theorem gX6_models_X6_clamp : GoodIn wsX6_models (va_wsS RX6 163 yX6_clamp wsX6_clamp) := goodIn_app (goodIn_of _ (by decide +kernel)) ggX6_models_X6_clamp
set_option maxRecDepth 20000 in
theorem ggX6_models_X6_treats : GoodIn wsX6_models wsX6_treats := goodIn_r _ [37, 9, 38, 10, 39, 40, 41, 7, 42, 2, 43, 44, 45, 46, 47, 48, 49, 50, 31, 32, 33, 15, 16, 17, 18, 19, 51, 52, 53, 11, 12, 13, 14, 54, 55, 56, 57, 20, 21, 22, 23, 24, 25, 26, 27, 58, 59, 60, 61, 1, 62, 63, 64, 65, 66, 67, 68, 28, 29, 30, 69, 70, 71, 72, 73, 74, 75, 76, 77, 78, 79, 80, 81, 82, 83, 84, 85, 86, 87] rfl (by decide +kernel)
set_option maxRecDepth 20000 in
theorem gX6_models_X6_treats : GoodIn wsX6_models (wsV RX6 198 RX6 yX6_treats wsX6_treats) := goodIn_app (goodIn_of _ (by decide +kernel)) ggX6_models_X6_treats
theorem dX6_models_0 : decode cX6_models 0 = .ok (.aload_n 0, 1) := by decide +kernel
theorem dX6_models_1 : decode cX6_models 1 = .ok (.iconst 0, 1) := by decide +kernel
theorem dX6_models_2 : decode cX6_models 2 = .ok (.putfield 167, 3) := by decide +kernel
theorem dX6_models_5 : decode cX6_models 5 = .ok (.iconst 0, 1) := by decide +kernel
theorem dX6_models_6 : decode cX6_models 6 = .ok (.istore 8, 2) := by decide +kernel
theorem dX6_models_8 : decode cX6_models 8 = .ok (.iconst 0, 1) := by decide +kernel
theorem dX6_models_9 : decode cX6_models 9 = .ok (.istore 9, 2) := by decide +kernel
theorem dX6_models_11 : decode cX6_models 11 = .ok (.iload 9, 2) := by decide +kernel
theorem dX6_models_13 : decode cX6_models 13 = .ok (.iload 7, 2) := by decide +kernel
theorem dX6_models_15 : decode cX6_models 15 = .ok (.if_icmp .ge 55, 3) := by decide +kernel
theorem dX6_models_18 : decode cX6_models 18 = .ok (.aload_n 0, 1) := by decide +kernel
theorem dX6_models_19 : decode cX6_models 19 = .ok (.aload_n 0, 1) := by decide +kernel
theorem dX6_models_20 : decode cX6_models 20 = .ok (.iconst 0, 1) := by decide +kernel
theorem dX6_models_21 : decode cX6_models 21 = .ok (.invokevirtual 202, 3) := by decide +kernel
theorem dX6_models_24 : decode cX6_models 24 = .ok (.aload_n 0, 1) := by decide +kernel
theorem dX6_models_25 : decode cX6_models 25 = .ok (.invokevirtual 180, 3) := by decide +kernel
theorem dX6_models_28 : decode cX6_models 28 = .ok (.invokevirtual 139, 3) := by decide +kernel
theorem dX6_models_31 : decode cX6_models 31 = .ok (.lload_n 1, 1) := by decide +kernel
theorem dX6_models_32 : decode cX6_models 32 = .ok (.lload 5, 2) := by decide +kernel
theorem dX6_models_34 : decode cX6_models 34 = .ok (.lmul, 1) := by decide +kernel
theorem dX6_models_35 : decode cX6_models 35 = .ok (.ldc2_w 114, 3) := by decide +kernel
theorem dX6_models_38 : decode cX6_models 38 = .ok (.invokestatic 95, 3) := by decide +kernel
theorem dX6_models_41 : decode cX6_models 41 = .ok (.ladd, 1) := by decide +kernel
theorem dX6_models_42 : decode cX6_models 42 = .ok (.lstore 10, 2) := by decide +kernel
theorem dX6_models_44 : decode cX6_models 44 = .ok (.iload 8, 2) := by decide +kernel
theorem dX6_models_46 : decode cX6_models 46 = .ok (.aload_n 0, 1) := by decide +kernel
theorem dX6_models_47 : decode cX6_models 47 = .ok (.lload_n 1, 1) := by decide +kernel
theorem dX6_models_48 : decode cX6_models 48 = .ok (.lload 10, 2) := by decide +kernel
theorem dX6_models_50 : decode cX6_models 50 = .ok (.lconst 0, 1) := by decide +kernel
theorem dX6_models_51 : decode cX6_models 51 = .ok (.ldc2_w 143, 3) := by decide +kernel
theorem dX6_models_54 : decode cX6_models 54 = .ok (.invokestatic 163, 3) := by decide +kernel
theorem dX6_models_57 : decode cX6_models 57 = .ok (.lload_n 3, 1) := by decide +kernel
theorem dX6_models_58 : decode cX6_models 58 = .ok (.invokevirtual 198, 3) := by decide +kernel
theorem dX6_models_61 : decode cX6_models 61 = .ok (.ior, 1) := by decide +kernel
theorem dX6_models_62 : decode cX6_models 62 = .ok (.istore 8, 2) := by decide +kernel
theorem dX6_models_64 : decode cX6_models 64 = .ok (.iinc 9 1, 3) := by decide +kernel
theorem dX6_models_67 : decode cX6_models 67 = .ok (.goto (-56), 3) := by decide +kernel
theorem dX6_models_70 : decode cX6_models 70 = .ok (.iload 8, 2) := by decide +kernel
theorem dX6_models_72 : decode cX6_models 72 = .ok (.ireturn, 1) := by decide +kernel
set_option maxRecDepth 20000 in
theorem ggX6_isModel_X6_isMeasurement : GoodIn wsX6_isModel wsX6_isMeasurement := goodIn_r _ [6, 7, 8, 9, 10, 11, 12, 5, 13] rfl (by decide +kernel)
set_option maxRecDepth 20000 in
theorem gX6_isModel_X6_isMeasurement : GoodIn wsX6_isModel (va_wsS RX6 195 yX6_isMeasurement wsX6_isMeasurement) := goodIn_app (goodIn_of _ (by decide +kernel)) ggX6_isModel_X6_isMeasurement
set_option maxRecDepth 20000 in
theorem ggX6_isModel_X6_in : GoodIn wsX6_isModel wsX6_in := goodIn_r _ [13] rfl (by decide +kernel)
set_option maxRecDepth 20000 in
theorem gX6_isModel_X6_in : GoodIn wsX6_isModel (va_wsS RX6 101 yX6_in wsX6_in) := goodIn_app (goodIn_of _ (by decide +kernel)) ggX6_isModel_X6_in
theorem dX6_isModel_0 : decode cX6_isModel 0 = .ok (.iload_n 0, 1) := by decide +kernel
theorem dX6_isModel_1 : decode cX6_isModel 1 = .ok (.iconst 0, 1) := by decide +kernel
theorem dX6_isModel_2 : decode cX6_isModel 2 = .ok (.iload_n 1, 1) := by decide +kernel
theorem dX6_isModel_3 : decode cX6_isModel 3 = .ok (.invokestatic 195, 3) := by decide +kernel
theorem dX6_isModel_6 : decode cX6_isModel 6 = .ok (.ifCond .eq 31, 3) := by decide +kernel
theorem dX6_isModel_9 : decode cX6_isModel 9 = .ok (.iload_n 2, 1) := by decide +kernel
theorem dX6_isModel_10 : decode cX6_isModel 10 = .ok (.i2l, 1) := by decide +kernel
theorem dX6_isModel_11 : decode cX6_isModel 11 = .ok (.lconst 0, 1) := by decide +kernel
theorem dX6_isModel_12 : decode cX6_isModel 12 = .ok (.ldc2_w 114, 3) := by decide +kernel
theorem dX6_isModel_15 : decode cX6_isModel 15 = .ok (.invokestatic 101, 3) := by decide +kernel
theorem dX6_isModel_18 : decode cX6_isModel 18 = .ok (.ifCond .eq 19, 3) := by decide +kernel
theorem dX6_isModel_21 : decode cX6_isModel 21 = .ok (.iload_n 3, 1) := by decide +kernel
theorem dX6_isModel_22 : decode cX6_isModel 22 = .ok (.i2l, 1) := by decide +kernel
theorem dX6_isModel_23 : decode cX6_isModel 23 = .ok (.lconst 0, 1) := by decide +kernel
theorem dX6_isModel_24 : decode cX6_isModel 24 = .ok (.ldc2_w 28, 3) := by decide +kernel
theorem dX6_isModel_27 : decode cX6_isModel 27 = .ok (.invokestatic 101, 3) := by decide +kernel
theorem dX6_isModel_30 : decode cX6_isModel 30 = .ok (.ifCond .eq 7, 3) := by decide +kernel
theorem dX6_isModel_33 : decode cX6_isModel 33 = .ok (.iconst 1, 1) := by decide +kernel
theorem dX6_isModel_34 : decode cX6_isModel 34 = .ok (.goto 4, 3) := by decide +kernel
theorem dX6_isModel_37 : decode cX6_isModel 37 = .ok (.iconst 0, 1) := by decide +kernel
theorem dX6_isModel_38 : decode cX6_isModel 38 = .ok (.ireturn, 1) := by decide +kernel
set_option maxRecDepth 20000 in
theorem ggX6_simulate_X6_isModel : GoodIn wsX6_simulate wsX6_isModel := goodIn_r _ [5, 6, 7, 8, 9, 4, 10, 11, 12, 13, 14, 15, 16, 17] rfl (by decide +kernel)
set_option maxRecDepth 20000 in
theorem gX6_simulate_X6_isModel : GoodIn wsX6_simulate (va_wsS RX6 206 yX6_isModel wsX6_isModel) := goodIn_app (goodIn_of _ (by decide +kernel)) ggX6_simulate_X6_isModel
set_option maxRecDepth 20000 in
theorem ggX6_simulate_X6_goes : GoodIn wsX6_simulate wsX6_goes := goodIn_r _ [21, 22, 103, 104, 105, 106, 107, 108, 109, 110, 111, 112] rfl (by decide +kernel)
set_option maxRecDepth 20000 in
theorem gX6_simulate_X6_goes : GoodIn wsX6_simulate (wsV RX6 105 RX6 yX6_goes wsX6_goes) := goodIn_app (goodIn_of _ (by decide +kernel)) ggX6_simulate_X6_goes
set_option maxRecDepth 20000 in
theorem ggX6_simulate_X6_save : GoodIn wsX6_simulate wsX6_save := goodIn_r _ [26, 27, 28, 29, 103, 104, 105, 106, 107, 108, 109, 110, 111, 112] rfl (by decide +kernel)
set_option maxRecDepth 20000 in
theorem gX6_simulate_X6_save : GoodIn wsX6_simulate (wsV RX6 109 RX6 yX6_save wsX6_save) := goodIn_app (goodIn_of _ (by decide +kernel)) ggX6_simulate_X6_save
set_option maxRecDepth 20000 in
theorem ggX6_simulate_X6_models : GoodIn wsX6_simulate wsX6_models := goodIn_r _ [33, 1, 6, 13, 34, 35, 36, 4, 37, 29, 38, 39, 40, 41, 42, 43, 44, 45, 46, 47, 48, 49, 50, 51, 52, 53, 54, 55, 56, 57, 58, 59, 60, 61, 62, 63, 64, 65, 66, 67, 68, 69, 70, 71, 72, 73, 74, 75, 76, 77, 78, 15, 16, 17, 79, 80, 81, 82, 83, 84, 85, 86, 87, 88, 89, 90, 91, 92, 93, 94, 95, 96, 97, 98, 99, 100, 101, 102, 103, 104, 105, 106, 107, 108, 109, 110, 111, 112] rfl (by decide +kernel)
set_option maxRecDepth 20000 in
theorem gX6_simulate_X6_models : GoodIn wsX6_simulate (wsV RX6 210 RX6 yX6_models wsX6_models) := goodIn_app (goodIn_of _ (by decide +kernel)) ggX6_simulate_X6_models
theorem dX6_simulate_0 : decode cX6_simulate 0 = .ok (.aload_n 0, 1) := by decide +kernel
theorem dX6_simulate_1 : decode cX6_simulate 1 = .ok (.iload_n 1, 1) := by decide +kernel
theorem dX6_simulate_2 : decode cX6_simulate 2 = .ok (.iload_n 2, 1) := by decide +kernel
theorem dX6_simulate_3 : decode cX6_simulate 3 = .ok (.iload_n 3, 1) := by decide +kernel
theorem dX6_simulate_4 : decode cX6_simulate 4 = .ok (.iload 4, 2) := by decide +kernel
theorem dX6_simulate_6 : decode cX6_simulate 6 = .ok (.invokestatic 206, 3) := by decide +kernel
theorem dX6_simulate_9 : decode cX6_simulate 9 = .ok (.iconst 1, 1) := by decide +kernel
theorem dX6_simulate_10 : decode cX6_simulate 10 = .ok (.invokevirtual 105, 3) := by decide +kernel
theorem dX6_simulate_13 : decode cX6_simulate 13 = .ok (.ifCond .ne 5, 3) := by decide +kernel
theorem dX6_simulate_16 : decode cX6_simulate 16 = .ok (.iconst 0, 1) := by decide +kernel
theorem dX6_simulate_17 : decode cX6_simulate 17 = .ok (.ireturn, 1) := by decide +kernel
theorem dX6_simulate_18 : decode cX6_simulate 18 = .ok (.aload_n 0, 1) := by decide +kernel
theorem dX6_simulate_19 : decode cX6_simulate 19 = .ok (.invokevirtual 109, 3) := by decide +kernel
theorem dX6_simulate_22 : decode cX6_simulate 22 = .ok (.aload_n 0, 1) := by decide +kernel
theorem dX6_simulate_23 : decode cX6_simulate 23 = .ok (.iload_n 1, 1) := by decide +kernel
theorem dX6_simulate_24 : decode cX6_simulate 24 = .ok (.i2l, 1) := by decide +kernel
theorem dX6_simulate_25 : decode cX6_simulate 25 = .ok (.iload_n 2, 1) := by decide +kernel
theorem dX6_simulate_26 : decode cX6_simulate 26 = .ok (.i2l, 1) := by decide +kernel
theorem dX6_simulate_27 : decode cX6_simulate 27 = .ok (.iload_n 3, 1) := by decide +kernel
theorem dX6_simulate_28 : decode cX6_simulate 28 = .ok (.i2l, 1) := by decide +kernel
theorem dX6_simulate_29 : decode cX6_simulate 29 = .ok (.iload 4, 2) := by decide +kernel
theorem dX6_simulate_31 : decode cX6_simulate 31 = .ok (.invokevirtual 210, 3) := by decide +kernel
theorem dX6_simulate_34 : decode cX6_simulate 34 = .ok (.istore 5, 2) := by decide +kernel
theorem dX6_simulate_36 : decode cX6_simulate 36 = .ok (.aload_n 0, 1) := by decide +kernel
theorem dX6_simulate_37 : decode cX6_simulate 37 = .ok (.getfield 167, 3) := by decide +kernel
theorem dX6_simulate_40 : decode cX6_simulate 40 = .ok (.ireturn, 1) := by decide +kernel
set_option maxRecDepth 20000 in
theorem ggX6_wouldAnchor_X6_isModel : GoodIn wsX6_wouldAnchor wsX6_isModel := goodIn_r _ [6, 7, 8, 9, 10, 5, 11, 12, 13, 14, 15, 16, 17, 18] rfl (by decide +kernel)
set_option maxRecDepth 20000 in
theorem gX6_wouldAnchor_X6_isModel : GoodIn wsX6_wouldAnchor (va_wsS RX6 206 yX6_isModel wsX6_isModel) := goodIn_app (goodIn_of _ (by decide +kernel)) ggX6_wouldAnchor_X6_isModel
set_option maxRecDepth 20000 in
theorem ggX6_wouldAnchor_X6_goes : GoodIn wsX6_wouldAnchor wsX6_goes := goodIn_r _ [22, 23, 98, 99, 100, 101, 102, 103, 104, 105, 106, 107] rfl (by decide +kernel)
set_option maxRecDepth 20000 in
theorem gX6_wouldAnchor_X6_goes : GoodIn wsX6_wouldAnchor (wsV RX6 105 RX6 yX6_goes wsX6_goes) := goodIn_app (goodIn_of _ (by decide +kernel)) ggX6_wouldAnchor_X6_goes
set_option maxRecDepth 20000 in
theorem ggX6_wouldAnchor_X6_models : GoodIn wsX6_wouldAnchor wsX6_models := goodIn_r _ [27, 28, 7, 14, 29, 30, 31, 5, 32, 2, 33, 34, 35, 36, 37, 38, 39, 40, 41, 42, 43, 44, 45, 46, 47, 48, 49, 50, 51, 52, 53, 54, 55, 56, 57, 58, 59, 60, 61, 62, 63, 64, 65, 66, 67, 68, 69, 70, 71, 72, 73, 16, 17, 18, 74, 75, 76, 77, 78, 79, 80, 81, 82, 83, 84, 85, 86, 87, 88, 89, 90, 91, 92, 93, 94, 95, 96, 97, 98, 99, 100, 101, 102, 103, 104, 105, 106, 107] rfl (by decide +kernel)
set_option maxRecDepth 20000 in
theorem gX6_wouldAnchor_X6_models : GoodIn wsX6_wouldAnchor (wsV RX6 210 RX6 yX6_models wsX6_models) := goodIn_app (goodIn_of _ (by decide +kernel)) ggX6_wouldAnchor_X6_models
theorem dX6_wouldAnchor_0 : decode cX6_wouldAnchor 0 = .ok (.aload_n 0, 1) := by decide +kernel
theorem dX6_wouldAnchor_1 : decode cX6_wouldAnchor 1 = .ok (.iload_n 1, 1) := by decide +kernel
theorem dX6_wouldAnchor_2 : decode cX6_wouldAnchor 2 = .ok (.iload_n 2, 1) := by decide +kernel
theorem dX6_wouldAnchor_3 : decode cX6_wouldAnchor 3 = .ok (.iload_n 3, 1) := by decide +kernel
theorem dX6_wouldAnchor_4 : decode cX6_wouldAnchor 4 = .ok (.iload 4, 2) := by decide +kernel
theorem dX6_wouldAnchor_6 : decode cX6_wouldAnchor 6 = .ok (.invokestatic 206, 3) := by decide +kernel
theorem dX6_wouldAnchor_9 : decode cX6_wouldAnchor 9 = .ok (.iconst 1, 1) := by decide +kernel
theorem dX6_wouldAnchor_10 : decode cX6_wouldAnchor 10 = .ok (.invokevirtual 105, 3) := by decide +kernel
theorem dX6_wouldAnchor_13 : decode cX6_wouldAnchor 13 = .ok (.ifCond .ne 5, 3) := by decide +kernel
theorem dX6_wouldAnchor_16 : decode cX6_wouldAnchor 16 = .ok (.iconst 0, 1) := by decide +kernel
theorem dX6_wouldAnchor_17 : decode cX6_wouldAnchor 17 = .ok (.ireturn, 1) := by decide +kernel
theorem dX6_wouldAnchor_18 : decode cX6_wouldAnchor 18 = .ok (.iconst 0, 1) := by decide +kernel
theorem dX6_wouldAnchor_19 : decode cX6_wouldAnchor 19 = .ok (.istore 5, 2) := by decide +kernel
theorem dX6_wouldAnchor_21 : decode cX6_wouldAnchor 21 = .ok (.iload 5, 2) := by decide +kernel
theorem dX6_wouldAnchor_23 : decode cX6_wouldAnchor 23 = .ok (.sipush 213, 3) := by decide +kernel
theorem dX6_wouldAnchor_26 : decode cX6_wouldAnchor 26 = .ok (.if_icmp .ge 23, 3) := by decide +kernel
theorem dX6_wouldAnchor_29 : decode cX6_wouldAnchor 29 = .ok (.aload_n 0, 1) := by decide +kernel
theorem dX6_wouldAnchor_30 : decode cX6_wouldAnchor 30 = .ok (.getfield 16, 3) := by decide +kernel
theorem dX6_wouldAnchor_33 : decode cX6_wouldAnchor 33 = .ok (.iload 5, 2) := by decide +kernel
theorem dX6_wouldAnchor_35 : decode cX6_wouldAnchor 35 = .ok (.aload_n 0, 1) := by decide +kernel
theorem dX6_wouldAnchor_36 : decode cX6_wouldAnchor 36 = .ok (.getfield 7, 3) := by decide +kernel
theorem dX6_wouldAnchor_39 : decode cX6_wouldAnchor 39 = .ok (.iload 5, 2) := by decide +kernel
theorem dX6_wouldAnchor_41 : decode cX6_wouldAnchor 41 = .ok (.laload, 1) := by decide +kernel
theorem dX6_wouldAnchor_42 : decode cX6_wouldAnchor 42 = .ok (.lastore, 1) := by decide +kernel
theorem dX6_wouldAnchor_43 : decode cX6_wouldAnchor 43 = .ok (.iinc 5 1, 3) := by decide +kernel
theorem dX6_wouldAnchor_46 : decode cX6_wouldAnchor 46 = .ok (.goto (-25), 3) := by decide +kernel
theorem dX6_wouldAnchor_49 : decode cX6_wouldAnchor 49 = .ok (.aload_n 0, 1) := by decide +kernel
theorem dX6_wouldAnchor_50 : decode cX6_wouldAnchor 50 = .ok (.iload_n 1, 1) := by decide +kernel
theorem dX6_wouldAnchor_51 : decode cX6_wouldAnchor 51 = .ok (.i2l, 1) := by decide +kernel
theorem dX6_wouldAnchor_52 : decode cX6_wouldAnchor 52 = .ok (.iload_n 2, 1) := by decide +kernel
theorem dX6_wouldAnchor_53 : decode cX6_wouldAnchor 53 = .ok (.i2l, 1) := by decide +kernel
theorem dX6_wouldAnchor_54 : decode cX6_wouldAnchor 54 = .ok (.iload_n 3, 1) := by decide +kernel
theorem dX6_wouldAnchor_55 : decode cX6_wouldAnchor 55 = .ok (.i2l, 1) := by decide +kernel
theorem dX6_wouldAnchor_56 : decode cX6_wouldAnchor 56 = .ok (.iload 4, 2) := by decide +kernel
theorem dX6_wouldAnchor_58 : decode cX6_wouldAnchor 58 = .ok (.invokevirtual 210, 3) := by decide +kernel
theorem dX6_wouldAnchor_61 : decode cX6_wouldAnchor 61 = .ok (.istore 5, 2) := by decide +kernel
theorem dX6_wouldAnchor_63 : decode cX6_wouldAnchor 63 = .ok (.iconst 0, 1) := by decide +kernel
theorem dX6_wouldAnchor_64 : decode cX6_wouldAnchor 64 = .ok (.istore 6, 2) := by decide +kernel
theorem dX6_wouldAnchor_66 : decode cX6_wouldAnchor 66 = .ok (.iload 6, 2) := by decide +kernel
theorem dX6_wouldAnchor_68 : decode cX6_wouldAnchor 68 = .ok (.sipush 213, 3) := by decide +kernel
theorem dX6_wouldAnchor_71 : decode cX6_wouldAnchor 71 = .ok (.if_icmp .ge 23, 3) := by decide +kernel
theorem dX6_wouldAnchor_74 : decode cX6_wouldAnchor 74 = .ok (.aload_n 0, 1) := by decide +kernel
theorem dX6_wouldAnchor_75 : decode cX6_wouldAnchor 75 = .ok (.getfield 7, 3) := by decide +kernel
theorem dX6_wouldAnchor_78 : decode cX6_wouldAnchor 78 = .ok (.iload 6, 2) := by decide +kernel
theorem dX6_wouldAnchor_80 : decode cX6_wouldAnchor 80 = .ok (.aload_n 0, 1) := by decide +kernel
theorem dX6_wouldAnchor_81 : decode cX6_wouldAnchor 81 = .ok (.getfield 16, 3) := by decide +kernel
theorem dX6_wouldAnchor_84 : decode cX6_wouldAnchor 84 = .ok (.iload 6, 2) := by decide +kernel
theorem dX6_wouldAnchor_86 : decode cX6_wouldAnchor 86 = .ok (.laload, 1) := by decide +kernel
theorem dX6_wouldAnchor_87 : decode cX6_wouldAnchor 87 = .ok (.lastore, 1) := by decide +kernel
theorem dX6_wouldAnchor_88 : decode cX6_wouldAnchor 88 = .ok (.iinc 6 1, 3) := by decide +kernel
theorem dX6_wouldAnchor_91 : decode cX6_wouldAnchor 91 = .ok (.goto (-25), 3) := by decide +kernel
theorem dX6_wouldAnchor_94 : decode cX6_wouldAnchor 94 = .ok (.iload 5, 2) := by decide +kernel
theorem dX6_wouldAnchor_96 : decode cX6_wouldAnchor 96 = .ok (.ireturn, 1) := by decide +kernel
set_option maxRecDepth 20000 in
theorem ggX6_charge_X6_in : GoodIn wsX6_charge wsX6_in := goodIn_r _ [6] rfl (by decide +kernel)
set_option maxRecDepth 20000 in
theorem gX6_charge_X6_in : GoodIn wsX6_charge (va_wsS RX6 101 yX6_in wsX6_in) := goodIn_app (goodIn_of _ (by decide +kernel)) ggX6_charge_X6_in
set_option maxRecDepth 20000 in
theorem ggX6_charge_X6_goes : GoodIn wsX6_charge wsX6_goes := goodIn_r _ [10, 11, 12, 13, 14, 15, 16, 17, 18, 19, 20, 21] rfl (by decide +kernel)
set_option maxRecDepth 20000 in
theorem gX6_charge_X6_goes : GoodIn wsX6_charge (wsV RX6 105 RX6 yX6_goes wsX6_goes) := goodIn_app (goodIn_of _ (by decide +kernel)) ggX6_charge_X6_goes
theorem dX6_charge_0 : decode cX6_charge 0 = .ok (.aload_n 0, 1) := by decide +kernel
theorem dX6_charge_1 : decode cX6_charge 1 = .ok (.iload_n 1, 1) := by decide +kernel
theorem dX6_charge_2 : decode cX6_charge 2 = .ok (.i2l, 1) := by decide +kernel
theorem dX6_charge_3 : decode cX6_charge 3 = .ok (.lconst 0, 1) := by decide +kernel
theorem dX6_charge_4 : decode cX6_charge 4 = .ok (.ldc2_w 214, 3) := by decide +kernel
theorem dX6_charge_7 : decode cX6_charge 7 = .ok (.invokestatic 101, 3) := by decide +kernel
theorem dX6_charge_10 : decode cX6_charge 10 = .ok (.iconst 1, 1) := by decide +kernel
theorem dX6_charge_11 : decode cX6_charge 11 = .ok (.invokevirtual 105, 3) := by decide +kernel
theorem dX6_charge_14 : decode cX6_charge 14 = .ok (.ifCond .eq 15, 3) := by decide +kernel
theorem dX6_charge_17 : decode cX6_charge 17 = .ok (.aload_n 0, 1) := by decide +kernel
theorem dX6_charge_18 : decode cX6_charge 18 = .ok (.getfield 7, 3) := by decide +kernel
theorem dX6_charge_21 : decode cX6_charge 21 = .ok (.bipush 34, 2) := by decide +kernel
theorem dX6_charge_23 : decode cX6_charge 23 = .ok (.iload_n 1, 1) := by decide +kernel
theorem dX6_charge_24 : decode cX6_charge 24 = .ok (.iadd, 1) := by decide +kernel
theorem dX6_charge_25 : decode cX6_charge 25 = .ok (.laload, 1) := by decide +kernel
theorem dX6_charge_26 : decode cX6_charge 26 = .ok (.goto 4, 3) := by decide +kernel
theorem dX6_charge_29 : decode cX6_charge 29 = .ok (.lconst 0, 1) := by decide +kernel
theorem dX6_charge_30 : decode cX6_charge 30 = .ok (.lreturn, 1) := by decide +kernel
set_option maxRecDepth 20000 in
theorem ggX6_soc_X6_in : GoodIn wsX6_soc wsX6_in := goodIn_r _ [5] rfl (by decide +kernel)
set_option maxRecDepth 20000 in
theorem gX6_soc_X6_in : GoodIn wsX6_soc (va_wsS RX6 101 yX6_in wsX6_in) := goodIn_app (goodIn_of _ (by decide +kernel)) ggX6_soc_X6_in
set_option maxRecDepth 20000 in
theorem ggX6_soc_X6_goes : GoodIn wsX6_soc wsX6_goes := goodIn_r _ [9, 10, 17, 18, 19, 20, 21, 22, 23, 24, 25, 26] rfl (by decide +kernel)
set_option maxRecDepth 20000 in
theorem gX6_soc_X6_goes : GoodIn wsX6_soc (wsV RX6 105 RX6 yX6_goes wsX6_goes) := goodIn_app (goodIn_of _ (by decide +kernel)) ggX6_soc_X6_goes
set_option maxRecDepth 20000 in
theorem ggX6_soc_X6_socOf : GoodIn wsX6_soc wsX6_socOf := goodIn_r _ [14, 15, 16, 17, 18, 19, 20, 21, 22, 23, 24, 25, 26] rfl (by decide +kernel)
set_option maxRecDepth 20000 in
theorem gX6_soc_X6_socOf : GoodIn wsX6_soc (wsV RX6 202 RX6 yX6_socOf wsX6_socOf) := goodIn_app (goodIn_of _ (by decide +kernel)) ggX6_soc_X6_socOf
theorem dX6_soc_0 : decode cX6_soc 0 = .ok (.aload_n 0, 1) := by decide +kernel
theorem dX6_soc_1 : decode cX6_soc 1 = .ok (.iload_n 1, 1) := by decide +kernel
theorem dX6_soc_2 : decode cX6_soc 2 = .ok (.i2l, 1) := by decide +kernel
theorem dX6_soc_3 : decode cX6_soc 3 = .ok (.lconst 0, 1) := by decide +kernel
theorem dX6_soc_4 : decode cX6_soc 4 = .ok (.ldc2_w 36, 3) := by decide +kernel
theorem dX6_soc_7 : decode cX6_soc 7 = .ok (.invokestatic 101, 3) := by decide +kernel
theorem dX6_soc_10 : decode cX6_soc 10 = .ok (.iconst 1, 1) := by decide +kernel
theorem dX6_soc_11 : decode cX6_soc 11 = .ok (.invokevirtual 105, 3) := by decide +kernel
theorem dX6_soc_14 : decode cX6_soc 14 = .ok (.ifCond .eq 11, 3) := by decide +kernel
theorem dX6_soc_17 : decode cX6_soc 17 = .ok (.aload_n 0, 1) := by decide +kernel
theorem dX6_soc_18 : decode cX6_soc 18 = .ok (.iload_n 1, 1) := by decide +kernel
theorem dX6_soc_19 : decode cX6_soc 19 = .ok (.invokevirtual 202, 3) := by decide +kernel
theorem dX6_soc_22 : decode cX6_soc 22 = .ok (.goto 4, 3) := by decide +kernel
theorem dX6_soc_25 : decode cX6_soc 25 = .ok (.iconst 0, 1) := by decide +kernel
theorem dX6_soc_26 : decode cX6_soc 26 = .ok (.ireturn, 1) := by decide +kernel
set_option maxRecDepth 20000 in
theorem ggX6_statusNow_X6_hysteresis : GoodIn wsX6_statusNow wsX6_hysteresis := goodIn_r _ [6, 1, 7, 8, 9, 10, 5, 11, 12, 13, 14, 15, 16, 17, 18, 19, 20, 21, 22] rfl (by decide +kernel)
set_option maxRecDepth 20000 in
theorem gX6_statusNow_X6_hysteresis : GoodIn wsX6_statusNow (wsV RX6 180 RX6 yX6_hysteresis wsX6_hysteresis) := goodIn_app (goodIn_of _ (by decide +kernel)) ggX6_statusNow_X6_hysteresis
theorem dX6_statusNow_0 : decode cX6_statusNow 0 = .ok (.iload_n 1, 1) := by decide +kernel
theorem dX6_statusNow_1 : decode cX6_statusNow 1 = .ok (.tableswitch 77 0 4 #[35, 44, 53, 59, 68], 35) := by decide +kernel
theorem dX6_statusNow_36 : decode cX6_statusNow 36 = .ok (.aload_n 0, 1) := by decide +kernel
theorem dX6_statusNow_37 : decode cX6_statusNow 37 = .ok (.getfield 7, 3) := by decide +kernel
theorem dX6_statusNow_40 : decode cX6_statusNow 40 = .ok (.bipush 43, 2) := by decide +kernel
theorem dX6_statusNow_42 : decode cX6_statusNow 42 = .ok (.laload, 1) := by decide +kernel
theorem dX6_statusNow_43 : decode cX6_statusNow 43 = .ok (.l2i, 1) := by decide +kernel
theorem dX6_statusNow_44 : decode cX6_statusNow 44 = .ok (.ireturn, 1) := by decide +kernel
theorem dX6_statusNow_45 : decode cX6_statusNow 45 = .ok (.aload_n 0, 1) := by decide +kernel
theorem dX6_statusNow_46 : decode cX6_statusNow 46 = .ok (.getfield 7, 3) := by decide +kernel
theorem dX6_statusNow_49 : decode cX6_statusNow 49 = .ok (.bipush 44, 2) := by decide +kernel
theorem dX6_statusNow_51 : decode cX6_statusNow 51 = .ok (.laload, 1) := by decide +kernel
theorem dX6_statusNow_52 : decode cX6_statusNow 52 = .ok (.l2i, 1) := by decide +kernel
theorem dX6_statusNow_53 : decode cX6_statusNow 53 = .ok (.ireturn, 1) := by decide +kernel
theorem dX6_statusNow_54 : decode cX6_statusNow 54 = .ok (.aload_n 0, 1) := by decide +kernel
theorem dX6_statusNow_55 : decode cX6_statusNow 55 = .ok (.invokevirtual 180, 3) := by decide +kernel
theorem dX6_statusNow_58 : decode cX6_statusNow 58 = .ok (.l2i, 1) := by decide +kernel
theorem dX6_statusNow_59 : decode cX6_statusNow 59 = .ok (.ireturn, 1) := by decide +kernel
theorem dX6_statusNow_60 : decode cX6_statusNow 60 = .ok (.aload_n 0, 1) := by decide +kernel
theorem dX6_statusNow_61 : decode cX6_statusNow 61 = .ok (.getfield 7, 3) := by decide +kernel
theorem dX6_statusNow_64 : decode cX6_statusNow 64 = .ok (.bipush 50, 2) := by decide +kernel
theorem dX6_statusNow_66 : decode cX6_statusNow 66 = .ok (.laload, 1) := by decide +kernel
theorem dX6_statusNow_67 : decode cX6_statusNow 67 = .ok (.l2i, 1) := by decide +kernel
theorem dX6_statusNow_68 : decode cX6_statusNow 68 = .ok (.ireturn, 1) := by decide +kernel
theorem dX6_statusNow_69 : decode cX6_statusNow 69 = .ok (.aload_n 0, 1) := by decide +kernel
theorem dX6_statusNow_70 : decode cX6_statusNow 70 = .ok (.getfield 7, 3) := by decide +kernel
theorem dX6_statusNow_73 : decode cX6_statusNow 73 = .ok (.bipush 51, 2) := by decide +kernel
theorem dX6_statusNow_75 : decode cX6_statusNow 75 = .ok (.laload, 1) := by decide +kernel
theorem dX6_statusNow_76 : decode cX6_statusNow 76 = .ok (.l2i, 1) := by decide +kernel
theorem dX6_statusNow_77 : decode cX6_statusNow 77 = .ok (.ireturn, 1) := by decide +kernel
theorem dX6_statusNow_78 : decode cX6_statusNow 78 = .ok (.aload_n 0, 1) := by decide +kernel
theorem dX6_statusNow_79 : decode cX6_statusNow 79 = .ok (.getfield 7, 3) := by decide +kernel
theorem dX6_statusNow_82 : decode cX6_statusNow 82 = .ok (.bipush 42, 2) := by decide +kernel
theorem dX6_statusNow_84 : decode cX6_statusNow 84 = .ok (.laload, 1) := by decide +kernel
theorem dX6_statusNow_85 : decode cX6_statusNow 85 = .ok (.l2i, 1) := by decide +kernel
theorem dX6_statusNow_86 : decode cX6_statusNow 86 = .ok (.ireturn, 1) := by decide +kernel
set_option maxRecDepth 20000 in
theorem ggX6_status_X6_in : GoodIn wsX6_status wsX6_in := goodIn_r _ [5] rfl (by decide +kernel)
set_option maxRecDepth 20000 in
theorem gX6_status_X6_in : GoodIn wsX6_status (va_wsS RX6 101 yX6_in wsX6_in) := goodIn_app (goodIn_of _ (by decide +kernel)) ggX6_status_X6_in
set_option maxRecDepth 20000 in
theorem ggX6_status_X6_goes : GoodIn wsX6_status wsX6_goes := goodIn_r _ [9, 10, 26, 27, 28, 29, 30, 31, 32, 33, 34, 35] rfl (by decide +kernel)
set_option maxRecDepth 20000 in
theorem gX6_status_X6_goes : GoodIn wsX6_status (wsV RX6 105 RX6 yX6_goes wsX6_goes) := goodIn_app (goodIn_of _ (by decide +kernel)) ggX6_status_X6_goes
set_option maxRecDepth 20000 in
theorem ggX6_status_X6_statusNow : GoodIn wsX6_status wsX6_statusNow := goodIn_r _ [14, 15, 16, 17, 18, 4, 19, 20, 21, 22, 23, 24, 25, 26, 27, 28, 29, 30, 31, 32, 33, 34, 35] rfl (by decide +kernel)
set_option maxRecDepth 20000 in
theorem gX6_status_X6_statusNow : GoodIn wsX6_status (wsV RX6 216 RX6 yX6_statusNow wsX6_statusNow) := goodIn_app (goodIn_of _ (by decide +kernel)) ggX6_status_X6_statusNow
theorem dX6_status_0 : decode cX6_status 0 = .ok (.aload_n 0, 1) := by decide +kernel
theorem dX6_status_1 : decode cX6_status 1 = .ok (.iload_n 1, 1) := by decide +kernel
theorem dX6_status_2 : decode cX6_status 2 = .ok (.i2l, 1) := by decide +kernel
theorem dX6_status_3 : decode cX6_status 3 = .ok (.lconst 0, 1) := by decide +kernel
theorem dX6_status_4 : decode cX6_status 4 = .ok (.ldc2_w 40, 3) := by decide +kernel
theorem dX6_status_7 : decode cX6_status 7 = .ok (.invokestatic 101, 3) := by decide +kernel
theorem dX6_status_10 : decode cX6_status 10 = .ok (.iconst 1, 1) := by decide +kernel
theorem dX6_status_11 : decode cX6_status 11 = .ok (.invokevirtual 105, 3) := by decide +kernel
theorem dX6_status_14 : decode cX6_status 14 = .ok (.ifCond .eq 11, 3) := by decide +kernel
theorem dX6_status_17 : decode cX6_status 17 = .ok (.aload_n 0, 1) := by decide +kernel
theorem dX6_status_18 : decode cX6_status 18 = .ok (.iload_n 1, 1) := by decide +kernel
theorem dX6_status_19 : decode cX6_status 19 = .ok (.invokevirtual 216, 3) := by decide +kernel
theorem dX6_status_22 : decode cX6_status 22 = .ok (.goto 4, 3) := by decide +kernel
theorem dX6_status_25 : decode cX6_status 25 = .ok (.iconst 0, 1) := by decide +kernel
theorem dX6_status_26 : decode cX6_status 26 = .ok (.ireturn, 1) := by decide +kernel
theorem dX6_throughput_0 : decode cX6_throughput 0 = .ok (.aload_n 0, 1) := by decide +kernel
theorem dX6_throughput_1 : decode cX6_throughput 1 = .ok (.iconst 0, 1) := by decide +kernel
theorem dX6_throughput_2 : decode cX6_throughput 2 = .ok (.putfield 86, 3) := by decide +kernel
theorem dX6_throughput_5 : decode cX6_throughput 5 = .ok (.aload_n 0, 1) := by decide +kernel
theorem dX6_throughput_6 : decode cX6_throughput 6 = .ok (.getfield 7, 3) := by decide +kernel
theorem dX6_throughput_9 : decode cX6_throughput 9 = .ok (.bipush 41, 2) := by decide +kernel
theorem dX6_throughput_11 : decode cX6_throughput 11 = .ok (.laload, 1) := by decide +kernel
theorem dX6_throughput_12 : decode cX6_throughput 12 = .ok (.lreturn, 1) := by decide +kernel
theorem dX6_cycles_0 : decode cX6_cycles 0 = .ok (.aload_n 0, 1) := by decide +kernel
theorem dX6_cycles_1 : decode cX6_cycles 1 = .ok (.iconst 0, 1) := by decide +kernel
theorem dX6_cycles_2 : decode cX6_cycles 2 = .ok (.putfield 86, 3) := by decide +kernel
theorem dX6_cycles_5 : decode cX6_cycles 5 = .ok (.aload_n 0, 1) := by decide +kernel
theorem dX6_cycles_6 : decode cX6_cycles 6 = .ok (.getfield 7, 3) := by decide +kernel
theorem dX6_cycles_9 : decode cX6_cycles 9 = .ok (.bipush 41, 2) := by decide +kernel
theorem dX6_cycles_11 : decode cX6_cycles 11 = .ok (.laload, 1) := by decide +kernel
theorem dX6_cycles_12 : decode cX6_cycles 12 = .ok (.l2d, 1) := by decide +kernel
theorem dX6_cycles_13 : decode cX6_cycles 13 = .ok (.ldc2_w 36, 3) := by decide +kernel
theorem dX6_cycles_16 : decode cX6_cycles 16 = .ok (.aload_n 0, 1) := by decide +kernel
theorem dX6_cycles_17 : decode cX6_cycles 17 = .ok (.getfield 7, 3) := by decide +kernel
theorem dX6_cycles_20 : decode cX6_cycles 20 = .ok (.bipush 38, 2) := by decide +kernel
theorem dX6_cycles_22 : decode cX6_cycles 22 = .ok (.laload, 1) := by decide +kernel
theorem dX6_cycles_23 : decode cX6_cycles 23 = .ok (.lmul, 1) := by decide +kernel
theorem dX6_cycles_24 : decode cX6_cycles 24 = .ok (.l2d, 1) := by decide +kernel
theorem dX6_cycles_25 : decode cX6_cycles 25 = .ok (.ddiv, 1) := by decide +kernel
theorem dX6_cycles_26 : decode cX6_cycles 26 = .ok (.dreturn, 1) := by decide +kernel
set_option maxRecDepth 20000 in
theorem ggX6_healthBits_Jxf58ca_floatToIntBits_5c35a : GoodIn wsX6_healthBits wsJxf58ca_floatToIntBits_5c35a := goodIn_r _ [6, 7, 8, 9, 10, 11, 12, 13, 5, 14] rfl (by decide +kernel)
set_option maxRecDepth 20000 in
theorem gX6_healthBits_Jxf58ca_floatToIntBits_5c35a : GoodIn wsX6_healthBits (va_wsS RX6 219 yJxf58ca_floatToIntBits_5c35a wsJxf58ca_floatToIntBits_5c35a) := goodIn_app (goodIn_of _ (by decide +kernel)) ggX6_healthBits_Jxf58ca_floatToIntBits_5c35a
theorem dX6_healthBits_0 : decode cX6_healthBits 0 = .ok (.aload_n 0, 1) := by decide +kernel
theorem dX6_healthBits_1 : decode cX6_healthBits 1 = .ok (.iconst 0, 1) := by decide +kernel
theorem dX6_healthBits_2 : decode cX6_healthBits 2 = .ok (.putfield 86, 3) := by decide +kernel
theorem dX6_healthBits_5 : decode cX6_healthBits 5 = .ok (.aload_n 0, 1) := by decide +kernel
theorem dX6_healthBits_6 : decode cX6_healthBits 6 = .ok (.getfield 7, 3) := by decide +kernel
theorem dX6_healthBits_9 : decode cX6_healthBits 9 = .ok (.bipush 37, 2) := by decide +kernel
theorem dX6_healthBits_11 : decode cX6_healthBits 11 = .ok (.laload, 1) := by decide +kernel
theorem dX6_healthBits_12 : decode cX6_healthBits 12 = .ok (.l2f, 1) := by decide +kernel
theorem dX6_healthBits_13 : decode cX6_healthBits 13 = .ok (.aload_n 0, 1) := by decide +kernel
theorem dX6_healthBits_14 : decode cX6_healthBits 14 = .ok (.getfield 7, 3) := by decide +kernel
theorem dX6_healthBits_17 : decode cX6_healthBits 17 = .ok (.bipush 38, 2) := by decide +kernel
theorem dX6_healthBits_19 : decode cX6_healthBits 19 = .ok (.laload, 1) := by decide +kernel
theorem dX6_healthBits_20 : decode cX6_healthBits 20 = .ok (.l2f, 1) := by decide +kernel
theorem dX6_healthBits_21 : decode cX6_healthBits 21 = .ok (.fdiv, 1) := by decide +kernel
theorem dX6_healthBits_22 : decode cX6_healthBits 22 = .ok (.invokestatic 219, 3) := by decide +kernel
theorem dX6_healthBits_25 : decode cX6_healthBits 25 = .ok (.ireturn, 1) := by decide +kernel
theorem dX6_anchors_0 : decode cX6_anchors 0 = .ok (.aload_n 0, 1) := by decide +kernel
theorem dX6_anchors_1 : decode cX6_anchors 1 = .ok (.iconst 0, 1) := by decide +kernel
theorem dX6_anchors_2 : decode cX6_anchors 2 = .ok (.putfield 86, 3) := by decide +kernel
theorem dX6_anchors_5 : decode cX6_anchors 5 = .ok (.aload_n 0, 1) := by decide +kernel
theorem dX6_anchors_6 : decode cX6_anchors 6 = .ok (.getfield 7, 3) := by decide +kernel
theorem dX6_anchors_9 : decode cX6_anchors 9 = .ok (.bipush 52, 2) := by decide +kernel
theorem dX6_anchors_11 : decode cX6_anchors 11 = .ok (.laload, 1) := by decide +kernel
theorem dX6_anchors_12 : decode cX6_anchors 12 = .ok (.l2i, 1) := by decide +kernel
theorem dX6_anchors_13 : decode cX6_anchors 13 = .ok (.ireturn, 1) := by decide +kernel
set_option maxRecDepth 20000 in
theorem ggX6_anchor_X6_in : GoodIn wsX6_anchor wsX6_in := goodIn_r _ [6] rfl (by decide +kernel)
set_option maxRecDepth 20000 in
theorem gX6_anchor_X6_in : GoodIn wsX6_anchor (va_wsS RX6 101 yX6_in wsX6_in) := goodIn_app (goodIn_of _ (by decide +kernel)) ggX6_anchor_X6_in
set_option maxRecDepth 20000 in
theorem ggX6_anchor_X6_goes : GoodIn wsX6_anchor wsX6_goes := goodIn_r _ [10, 11, 12, 13, 14, 15, 16, 17, 18, 19, 20, 21] rfl (by decide +kernel)
set_option maxRecDepth 20000 in
theorem gX6_anchor_X6_goes : GoodIn wsX6_anchor (wsV RX6 105 RX6 yX6_goes wsX6_goes) := goodIn_app (goodIn_of _ (by decide +kernel)) ggX6_anchor_X6_goes
theorem dX6_anchor_0 : decode cX6_anchor 0 = .ok (.aload_n 0, 1) := by decide +kernel
theorem dX6_anchor_1 : decode cX6_anchor 1 = .ok (.iload_n 1, 1) := by decide +kernel
theorem dX6_anchor_2 : decode cX6_anchor 2 = .ok (.i2l, 1) := by decide +kernel
theorem dX6_anchor_3 : decode cX6_anchor 3 = .ok (.lconst 0, 1) := by decide +kernel
theorem dX6_anchor_4 : decode cX6_anchor 4 = .ok (.aload_n 0, 1) := by decide +kernel
theorem dX6_anchor_5 : decode cX6_anchor 5 = .ok (.getfield 7, 3) := by decide +kernel
theorem dX6_anchor_8 : decode cX6_anchor 8 = .ok (.bipush 52, 2) := by decide +kernel
theorem dX6_anchor_10 : decode cX6_anchor 10 = .ok (.laload, 1) := by decide +kernel
theorem dX6_anchor_11 : decode cX6_anchor 11 = .ok (.lconst 1, 1) := by decide +kernel
theorem dX6_anchor_12 : decode cX6_anchor 12 = .ok (.lsub, 1) := by decide +kernel
theorem dX6_anchor_13 : decode cX6_anchor 13 = .ok (.invokestatic 101, 3) := by decide +kernel
theorem dX6_anchor_16 : decode cX6_anchor 16 = .ok (.iload_n 2, 1) := by decide +kernel
theorem dX6_anchor_17 : decode cX6_anchor 17 = .ok (.i2l, 1) := by decide +kernel
theorem dX6_anchor_18 : decode cX6_anchor 18 = .ok (.lconst 0, 1) := by decide +kernel
theorem dX6_anchor_19 : decode cX6_anchor 19 = .ok (.ldc2_w 155, 3) := by decide +kernel
theorem dX6_anchor_22 : decode cX6_anchor 22 = .ok (.invokestatic 101, 3) := by decide +kernel
theorem dX6_anchor_25 : decode cX6_anchor 25 = .ok (.invokevirtual 105, 3) := by decide +kernel
theorem dX6_anchor_28 : decode cX6_anchor 28 = .ok (.ifCond .eq 20, 3) := by decide +kernel
theorem dX6_anchor_31 : decode cX6_anchor 31 = .ok (.aload_n 0, 1) := by decide +kernel
theorem dX6_anchor_32 : decode cX6_anchor 32 = .ok (.getfield 7, 3) := by decide +kernel
theorem dX6_anchor_35 : decode cX6_anchor 35 = .ok (.bipush 53, 2) := by decide +kernel
theorem dX6_anchor_37 : decode cX6_anchor 37 = .ok (.iconst 4, 1) := by decide +kernel
theorem dX6_anchor_38 : decode cX6_anchor 38 = .ok (.iload_n 1, 1) := by decide +kernel
theorem dX6_anchor_39 : decode cX6_anchor 39 = .ok (.imul, 1) := by decide +kernel
theorem dX6_anchor_40 : decode cX6_anchor 40 = .ok (.iadd, 1) := by decide +kernel
theorem dX6_anchor_41 : decode cX6_anchor 41 = .ok (.iload_n 2, 1) := by decide +kernel
theorem dX6_anchor_42 : decode cX6_anchor 42 = .ok (.iadd, 1) := by decide +kernel
theorem dX6_anchor_43 : decode cX6_anchor 43 = .ok (.laload, 1) := by decide +kernel
theorem dX6_anchor_44 : decode cX6_anchor 44 = .ok (.l2i, 1) := by decide +kernel
theorem dX6_anchor_45 : decode cX6_anchor 45 = .ok (.goto 4, 3) := by decide +kernel
theorem dX6_anchor_48 : decode cX6_anchor 48 = .ok (.iconst 0, 1) := by decide +kernel
theorem dX6_anchor_49 : decode cX6_anchor 49 = .ok (.ireturn, 1) := by decide +kernel
set_option maxRecDepth 20000 in
theorem ggX6_bound_X6_counts : GoodIn wsX6_bound wsX6_counts := goodIn_r _ [6, 1, 7, 19, 20, 21, 22, 23, 24, 25, 26, 27, 28] rfl (by decide +kernel)
set_option maxRecDepth 20000 in
theorem gX6_bound_X6_counts : GoodIn wsX6_bound (wsV RX6 174 RX6 yX6_counts wsX6_counts) := goodIn_app (goodIn_of _ (by decide +kernel)) ggX6_bound_X6_counts
set_option maxRecDepth 20000 in
theorem ggX6_bound_X6_drift : GoodIn wsX6_bound wsX6_drift := goodIn_r _ [11, 1, 7, 12, 13, 14, 5, 15, 19, 20, 21, 22, 23, 24, 25, 26, 27, 28] rfl (by decide +kernel)
set_option maxRecDepth 20000 in
theorem gX6_bound_X6_drift : GoodIn wsX6_bound (wsV RX6 177 RX6 yX6_drift wsX6_drift) := goodIn_app (goodIn_of _ (by decide +kernel)) ggX6_bound_X6_drift
set_option maxRecDepth 20000 in
theorem ggX6_bound_X6_clamp : GoodIn wsX6_bound wsX6_clamp := goodIn_r _ [18] rfl (by decide +kernel)
set_option maxRecDepth 20000 in
theorem gX6_bound_X6_clamp : GoodIn wsX6_bound (va_wsS RX6 163 yX6_clamp wsX6_clamp) := goodIn_app (goodIn_of _ (by decide +kernel)) ggX6_bound_X6_clamp
theorem dX6_bound_0 : decode cX6_bound 0 = .ok (.aload_n 0, 1) := by decide +kernel
theorem dX6_bound_1 : decode cX6_bound 1 = .ok (.lload_n 1, 1) := by decide +kernel
theorem dX6_bound_2 : decode cX6_bound 2 = .ok (.lload_n 3, 1) := by decide +kernel
theorem dX6_bound_3 : decode cX6_bound 3 = .ok (.invokevirtual 174, 3) := by decide +kernel
theorem dX6_bound_6 : decode cX6_bound 6 = .ok (.lstore 6, 2) := by decide +kernel
theorem dX6_bound_8 : decode cX6_bound 8 = .ok (.aload_n 0, 1) := by decide +kernel
theorem dX6_bound_9 : decode cX6_bound 9 = .ok (.lload 6, 2) := by decide +kernel
theorem dX6_bound_11 : decode cX6_bound 11 = .ok (.lload_n 3, 1) := by decide +kernel
theorem dX6_bound_12 : decode cX6_bound 12 = .ok (.invokevirtual 177, 3) := by decide +kernel
theorem dX6_bound_15 : decode cX6_bound 15 = .ok (.lstore 8, 2) := by decide +kernel
theorem dX6_bound_17 : decode cX6_bound 17 = .ok (.iload 5, 2) := by decide +kernel
theorem dX6_bound_19 : decode cX6_bound 19 = .ok (.ifCond .eq 30, 3) := by decide +kernel
theorem dX6_bound_22 : decode cX6_bound 22 = .ok (.aload_n 0, 1) := by decide +kernel
theorem dX6_bound_23 : decode cX6_bound 23 = .ok (.getfield 7, 3) := by decide +kernel
theorem dX6_bound_26 : decode cX6_bound 26 = .ok (.bipush 36, 2) := by decide +kernel
theorem dX6_bound_28 : decode cX6_bound 28 = .ok (.laload, 1) := by decide +kernel
theorem dX6_bound_29 : decode cX6_bound 29 = .ok (.lload 6, 2) := by decide +kernel
theorem dX6_bound_31 : decode cX6_bound 31 = .ok (.ladd, 1) := by decide +kernel
theorem dX6_bound_32 : decode cX6_bound 32 = .ok (.lload 8, 2) := by decide +kernel
theorem dX6_bound_34 : decode cX6_bound 34 = .ok (.ladd, 1) := by decide +kernel
theorem dX6_bound_35 : decode cX6_bound 35 = .ok (.lconst 0, 1) := by decide +kernel
theorem dX6_bound_36 : decode cX6_bound 36 = .ok (.aload_n 0, 1) := by decide +kernel
theorem dX6_bound_37 : decode cX6_bound 37 = .ok (.getfield 7, 3) := by decide +kernel
theorem dX6_bound_40 : decode cX6_bound 40 = .ok (.bipush 37, 2) := by decide +kernel
theorem dX6_bound_42 : decode cX6_bound 42 = .ok (.laload, 1) := by decide +kernel
theorem dX6_bound_43 : decode cX6_bound 43 = .ok (.invokestatic 163, 3) := by decide +kernel
theorem dX6_bound_46 : decode cX6_bound 46 = .ok (.goto 27, 3) := by decide +kernel
theorem dX6_bound_49 : decode cX6_bound 49 = .ok (.aload_n 0, 1) := by decide +kernel
theorem dX6_bound_50 : decode cX6_bound 50 = .ok (.getfield 7, 3) := by decide +kernel
theorem dX6_bound_53 : decode cX6_bound 53 = .ok (.bipush 35, 2) := by decide +kernel
theorem dX6_bound_55 : decode cX6_bound 55 = .ok (.laload, 1) := by decide +kernel
theorem dX6_bound_56 : decode cX6_bound 56 = .ok (.lload 6, 2) := by decide +kernel
theorem dX6_bound_58 : decode cX6_bound 58 = .ok (.ladd, 1) := by decide +kernel
theorem dX6_bound_59 : decode cX6_bound 59 = .ok (.lload 8, 2) := by decide +kernel
theorem dX6_bound_61 : decode cX6_bound 61 = .ok (.lsub, 1) := by decide +kernel
theorem dX6_bound_62 : decode cX6_bound 62 = .ok (.lconst 0, 1) := by decide +kernel
theorem dX6_bound_63 : decode cX6_bound 63 = .ok (.aload_n 0, 1) := by decide +kernel
theorem dX6_bound_64 : decode cX6_bound 64 = .ok (.getfield 7, 3) := by decide +kernel
theorem dX6_bound_67 : decode cX6_bound 67 = .ok (.bipush 37, 2) := by decide +kernel
theorem dX6_bound_69 : decode cX6_bound 69 = .ok (.laload, 1) := by decide +kernel
theorem dX6_bound_70 : decode cX6_bound 70 = .ok (.invokestatic 163, 3) := by decide +kernel
theorem dX6_bound_73 : decode cX6_bound 73 = .ok (.lreturn, 1) := by decide +kernel
set_option maxRecDepth 20000 in
theorem ggX6_boundAfter_X6_in : GoodIn wsX6_boundAfter wsX6_in := goodIn_r _ [7] rfl (by decide +kernel)
set_option maxRecDepth 20000 in
theorem gX6_boundAfter_X6_in : GoodIn wsX6_boundAfter (va_wsS RX6 101 yX6_in wsX6_in) := goodIn_app (goodIn_of _ (by decide +kernel)) ggX6_boundAfter_X6_in
set_option maxRecDepth 20000 in
theorem ggX6_boundAfter_X6_goes : GoodIn wsX6_boundAfter wsX6_goes := goodIn_r _ [11, 12, 33, 34, 35, 36, 37, 38, 39, 40, 41, 42] rfl (by decide +kernel)
set_option maxRecDepth 20000 in
theorem gX6_boundAfter_X6_goes : GoodIn wsX6_boundAfter (wsV RX6 105 RX6 yX6_goes wsX6_goes) := goodIn_app (goodIn_of _ (by decide +kernel)) ggX6_boundAfter_X6_goes
set_option maxRecDepth 20000 in
theorem ggX6_boundAfter_X6_bound : GoodIn wsX6_boundAfter wsX6_bound := goodIn_r _ [16, 17, 18, 19, 20, 6, 21, 22, 23, 24, 25, 26, 3, 27, 28, 29, 30, 31, 32, 33, 34, 35, 36, 37, 38, 39, 40, 41, 42] rfl (by decide +kernel)
set_option maxRecDepth 20000 in
theorem gX6_boundAfter_X6_bound : GoodIn wsX6_boundAfter (wsV RX6 225 RX6 yX6_bound wsX6_bound) := goodIn_app (goodIn_of _ (by decide +kernel)) ggX6_boundAfter_X6_bound
theorem dX6_boundAfter_0 : decode cX6_boundAfter 0 = .ok (.aload_n 0, 1) := by decide +kernel
theorem dX6_boundAfter_1 : decode cX6_boundAfter 1 = .ok (.iload_n 1, 1) := by decide +kernel
theorem dX6_boundAfter_2 : decode cX6_boundAfter 2 = .ok (.i2l, 1) := by decide +kernel
theorem dX6_boundAfter_3 : decode cX6_boundAfter 3 = .ok (.ldc2_w 189, 3) := by decide +kernel
theorem dX6_boundAfter_6 : decode cX6_boundAfter 6 = .ok (.ldc2_w 191, 3) := by decide +kernel
theorem dX6_boundAfter_9 : decode cX6_boundAfter 9 = .ok (.invokestatic 101, 3) := by decide +kernel
theorem dX6_boundAfter_12 : decode cX6_boundAfter 12 = .ok (.ifCond .eq 19, 3) := by decide +kernel
theorem dX6_boundAfter_15 : decode cX6_boundAfter 15 = .ok (.iload_n 2, 1) := by decide +kernel
theorem dX6_boundAfter_16 : decode cX6_boundAfter 16 = .ok (.i2l, 1) := by decide +kernel
theorem dX6_boundAfter_17 : decode cX6_boundAfter 17 = .ok (.lconst 0, 1) := by decide +kernel
theorem dX6_boundAfter_18 : decode cX6_boundAfter 18 = .ok (.ldc2_w 153, 3) := by decide +kernel
theorem dX6_boundAfter_21 : decode cX6_boundAfter 21 = .ok (.invokestatic 101, 3) := by decide +kernel
theorem dX6_boundAfter_24 : decode cX6_boundAfter 24 = .ok (.ifCond .eq 7, 3) := by decide +kernel
theorem dX6_boundAfter_27 : decode cX6_boundAfter 27 = .ok (.iconst 1, 1) := by decide +kernel
theorem dX6_boundAfter_28 : decode cX6_boundAfter 28 = .ok (.goto 4, 3) := by decide +kernel
theorem dX6_boundAfter_31 : decode cX6_boundAfter 31 = .ok (.iconst 0, 1) := by decide +kernel
theorem dX6_boundAfter_32 : decode cX6_boundAfter 32 = .ok (.iconst 1, 1) := by decide +kernel
theorem dX6_boundAfter_33 : decode cX6_boundAfter 33 = .ok (.invokevirtual 105, 3) := by decide +kernel
theorem dX6_boundAfter_36 : decode cX6_boundAfter 36 = .ok (.ifCond .eq 15, 3) := by decide +kernel
theorem dX6_boundAfter_39 : decode cX6_boundAfter 39 = .ok (.aload_n 0, 1) := by decide +kernel
theorem dX6_boundAfter_40 : decode cX6_boundAfter 40 = .ok (.iload_n 1, 1) := by decide +kernel
theorem dX6_boundAfter_41 : decode cX6_boundAfter 41 = .ok (.i2l, 1) := by decide +kernel
theorem dX6_boundAfter_42 : decode cX6_boundAfter 42 = .ok (.iload_n 2, 1) := by decide +kernel
theorem dX6_boundAfter_43 : decode cX6_boundAfter 43 = .ok (.i2l, 1) := by decide +kernel
theorem dX6_boundAfter_44 : decode cX6_boundAfter 44 = .ok (.iload_n 3, 1) := by decide +kernel
theorem dX6_boundAfter_45 : decode cX6_boundAfter 45 = .ok (.invokevirtual 225, 3) := by decide +kernel
theorem dX6_boundAfter_48 : decode cX6_boundAfter 48 = .ok (.goto 4, 3) := by decide +kernel
theorem dX6_boundAfter_51 : decode cX6_boundAfter 51 = .ok (.lconst 0, 1) := by decide +kernel
theorem dX6_boundAfter_52 : decode cX6_boundAfter 52 = .ok (.lreturn, 1) := by decide +kernel
set_option maxRecDepth 20000 in
theorem ggX6_isReached_X6_bound : GoodIn wsX6_isReached wsX6_bound := goodIn_r _ [6, 1, 7, 8, 9, 5, 10, 11, 12, 13, 14, 15, 16, 17, 18, 19, 20, 21, 22, 23, 24, 25, 26, 27, 28, 29, 30, 31, 32] rfl (by decide +kernel)
set_option maxRecDepth 20000 in
theorem gX6_isReached_X6_bound : GoodIn wsX6_isReached (wsV RX6 225 RX6 yX6_bound wsX6_bound) := goodIn_app (goodIn_of _ (by decide +kernel)) ggX6_isReached_X6_bound
theorem dX6_isReached_0 : decode cX6_isReached 0 = .ok (.lload_n 1, 1) := by decide +kernel
theorem dX6_isReached_1 : decode cX6_isReached 1 = .ok (.lconst 0, 1) := by decide +kernel
theorem dX6_isReached_2 : decode cX6_isReached 2 = .ok (.lcmp, 1) := by decide +kernel
theorem dX6_isReached_3 : decode cX6_isReached 3 = .ok (.ifCond .ge 23, 3) := by decide +kernel
theorem dX6_isReached_6 : decode cX6_isReached 6 = .ok (.aload_n 0, 1) := by decide +kernel
theorem dX6_isReached_7 : decode cX6_isReached 7 = .ok (.lload_n 1, 1) := by decide +kernel
theorem dX6_isReached_8 : decode cX6_isReached 8 = .ok (.lload_n 3, 1) := by decide +kernel
theorem dX6_isReached_9 : decode cX6_isReached 9 = .ok (.iconst 0, 1) := by decide +kernel
theorem dX6_isReached_10 : decode cX6_isReached 10 = .ok (.invokevirtual 225, 3) := by decide +kernel
theorem dX6_isReached_13 : decode cX6_isReached 13 = .ok (.lconst 0, 1) := by decide +kernel
theorem dX6_isReached_14 : decode cX6_isReached 14 = .ok (.lcmp, 1) := by decide +kernel
theorem dX6_isReached_15 : decode cX6_isReached 15 = .ok (.ifCond .ne 7, 3) := by decide +kernel
theorem dX6_isReached_18 : decode cX6_isReached 18 = .ok (.iconst 1, 1) := by decide +kernel
theorem dX6_isReached_19 : decode cX6_isReached 19 = .ok (.goto 30, 3) := by decide +kernel
theorem dX6_isReached_22 : decode cX6_isReached 22 = .ok (.iconst 0, 1) := by decide +kernel
theorem dX6_isReached_23 : decode cX6_isReached 23 = .ok (.goto 26, 3) := by decide +kernel
theorem dX6_isReached_26 : decode cX6_isReached 26 = .ok (.aload_n 0, 1) := by decide +kernel
theorem dX6_isReached_27 : decode cX6_isReached 27 = .ok (.lload_n 1, 1) := by decide +kernel
theorem dX6_isReached_28 : decode cX6_isReached 28 = .ok (.lload_n 3, 1) := by decide +kernel
theorem dX6_isReached_29 : decode cX6_isReached 29 = .ok (.iconst 1, 1) := by decide +kernel
theorem dX6_isReached_30 : decode cX6_isReached 30 = .ok (.invokevirtual 225, 3) := by decide +kernel
theorem dX6_isReached_33 : decode cX6_isReached 33 = .ok (.aload_n 0, 1) := by decide +kernel
theorem dX6_isReached_34 : decode cX6_isReached 34 = .ok (.getfield 7, 3) := by decide +kernel
theorem dX6_isReached_37 : decode cX6_isReached 37 = .ok (.bipush 37, 2) := by decide +kernel
theorem dX6_isReached_39 : decode cX6_isReached 39 = .ok (.laload, 1) := by decide +kernel
theorem dX6_isReached_40 : decode cX6_isReached 40 = .ok (.lcmp, 1) := by decide +kernel
theorem dX6_isReached_41 : decode cX6_isReached 41 = .ok (.ifCond .ne 7, 3) := by decide +kernel
theorem dX6_isReached_44 : decode cX6_isReached 44 = .ok (.iconst 1, 1) := by decide +kernel
theorem dX6_isReached_45 : decode cX6_isReached 45 = .ok (.goto 4, 3) := by decide +kernel
theorem dX6_isReached_48 : decode cX6_isReached 48 = .ok (.iconst 0, 1) := by decide +kernel
theorem dX6_isReached_49 : decode cX6_isReached 49 = .ok (.ireturn, 1) := by decide +kernel
set_option maxRecDepth 20000 in
theorem ggX6_reaches_X6_in : GoodIn wsX6_reaches wsX6_in := goodIn_r _ [8] rfl (by decide +kernel)
set_option maxRecDepth 20000 in
theorem gX6_reaches_X6_in : GoodIn wsX6_reaches (va_wsS RX6 101 yX6_in wsX6_in) := goodIn_app (goodIn_of _ (by decide +kernel)) ggX6_reaches_X6_in
set_option maxRecDepth 20000 in
theorem ggX6_reaches_X6_goes : GoodIn wsX6_reaches wsX6_goes := goodIn_r _ [12, 13, 38, 39, 40, 41, 42, 43, 44, 45, 46, 47] rfl (by decide +kernel)
set_option maxRecDepth 20000 in
theorem gX6_reaches_X6_goes : GoodIn wsX6_reaches (wsV RX6 105 RX6 yX6_goes wsX6_goes) := goodIn_app (goodIn_of _ (by decide +kernel)) ggX6_reaches_X6_goes
set_option maxRecDepth 20000 in
theorem ggX6_reaches_X6_isReached : GoodIn wsX6_reaches wsX6_isReached := goodIn_r _ [17, 18, 19, 20, 21, 7, 22, 23, 24, 25, 26, 27, 28, 29, 30, 31, 3, 32, 33, 34, 35, 36, 37, 38, 39, 40, 41, 42, 43, 44, 45, 46, 47] rfl (by decide +kernel)
set_option maxRecDepth 20000 in
theorem gX6_reaches_X6_isReached : GoodIn wsX6_reaches (wsV RX6 229 RX6 yX6_isReached wsX6_isReached) := goodIn_app (goodIn_of _ (by decide +kernel)) ggX6_reaches_X6_isReached
theorem dX6_reaches_0 : decode cX6_reaches 0 = .ok (.aload_n 0, 1) := by decide +kernel
theorem dX6_reaches_1 : decode cX6_reaches 1 = .ok (.iload_n 1, 1) := by decide +kernel
theorem dX6_reaches_2 : decode cX6_reaches 2 = .ok (.i2l, 1) := by decide +kernel
theorem dX6_reaches_3 : decode cX6_reaches 3 = .ok (.ldc2_w 189, 3) := by decide +kernel
theorem dX6_reaches_6 : decode cX6_reaches 6 = .ok (.ldc2_w 191, 3) := by decide +kernel
theorem dX6_reaches_9 : decode cX6_reaches 9 = .ok (.invokestatic 101, 3) := by decide +kernel
theorem dX6_reaches_12 : decode cX6_reaches 12 = .ok (.ifCond .eq 11, 3) := by decide +kernel
theorem dX6_reaches_15 : decode cX6_reaches 15 = .ok (.iload_n 1, 1) := by decide +kernel
theorem dX6_reaches_16 : decode cX6_reaches 16 = .ok (.ifCond .eq 7, 3) := by decide +kernel
theorem dX6_reaches_19 : decode cX6_reaches 19 = .ok (.iconst 1, 1) := by decide +kernel
theorem dX6_reaches_20 : decode cX6_reaches 20 = .ok (.goto 4, 3) := by decide +kernel
theorem dX6_reaches_23 : decode cX6_reaches 23 = .ok (.iconst 0, 1) := by decide +kernel
theorem dX6_reaches_24 : decode cX6_reaches 24 = .ok (.iconst 1, 1) := by decide +kernel
theorem dX6_reaches_25 : decode cX6_reaches 25 = .ok (.invokevirtual 105, 3) := by decide +kernel
theorem dX6_reaches_28 : decode cX6_reaches 28 = .ok (.ifCond .ne 5, 3) := by decide +kernel
theorem dX6_reaches_31 : decode cX6_reaches 31 = .ok (.iconst 0, 1) := by decide +kernel
theorem dX6_reaches_32 : decode cX6_reaches 32 = .ok (.ireturn, 1) := by decide +kernel
theorem dX6_reaches_33 : decode cX6_reaches 33 = .ok (.aload_n 0, 1) := by decide +kernel
theorem dX6_reaches_34 : decode cX6_reaches 34 = .ok (.iload_n 1, 1) := by decide +kernel
theorem dX6_reaches_35 : decode cX6_reaches 35 = .ok (.i2l, 1) := by decide +kernel
theorem dX6_reaches_36 : decode cX6_reaches 36 = .ok (.ldc2_w 153, 3) := by decide +kernel
theorem dX6_reaches_39 : decode cX6_reaches 39 = .ok (.invokevirtual 229, 3) := by decide +kernel
theorem dX6_reaches_42 : decode cX6_reaches 42 = .ok (.ifCond .ne 5, 3) := by decide +kernel
theorem dX6_reaches_45 : decode cX6_reaches 45 = .ok (.iconst (-1), 1) := by decide +kernel
theorem dX6_reaches_46 : decode cX6_reaches 46 = .ok (.ireturn, 1) := by decide +kernel
theorem dX6_reaches_47 : decode cX6_reaches 47 = .ok (.iconst (-1), 1) := by decide +kernel
theorem dX6_reaches_48 : decode cX6_reaches 48 = .ok (.istore_n 2, 1) := by decide +kernel
theorem dX6_reaches_49 : decode cX6_reaches 49 = .ok (.ldc 233, 2) := by decide +kernel
theorem dX6_reaches_51 : decode cX6_reaches 51 = .ok (.istore_n 3, 1) := by decide +kernel
theorem dX6_reaches_52 : decode cX6_reaches 52 = .ok (.iload_n 3, 1) := by decide +kernel
theorem dX6_reaches_53 : decode cX6_reaches 53 = .ok (.iload_n 2, 1) := by decide +kernel
theorem dX6_reaches_54 : decode cX6_reaches 54 = .ok (.isub, 1) := by decide +kernel
theorem dX6_reaches_55 : decode cX6_reaches 55 = .ok (.iconst 1, 1) := by decide +kernel
theorem dX6_reaches_56 : decode cX6_reaches 56 = .ok (.if_icmp .le 34, 3) := by decide +kernel
theorem dX6_reaches_59 : decode cX6_reaches 59 = .ok (.iload_n 3, 1) := by decide +kernel
theorem dX6_reaches_60 : decode cX6_reaches 60 = .ok (.iload_n 2, 1) := by decide +kernel
theorem dX6_reaches_61 : decode cX6_reaches 61 = .ok (.iadd, 1) := by decide +kernel
theorem dX6_reaches_62 : decode cX6_reaches 62 = .ok (.iconst 2, 1) := by decide +kernel
theorem dX6_reaches_63 : decode cX6_reaches 63 = .ok (.idiv, 1) := by decide +kernel
theorem dX6_reaches_64 : decode cX6_reaches 64 = .ok (.istore 4, 2) := by decide +kernel
theorem dX6_reaches_66 : decode cX6_reaches 66 = .ok (.aload_n 0, 1) := by decide +kernel
theorem dX6_reaches_67 : decode cX6_reaches 67 = .ok (.iload_n 1, 1) := by decide +kernel
theorem dX6_reaches_68 : decode cX6_reaches 68 = .ok (.i2l, 1) := by decide +kernel
theorem dX6_reaches_69 : decode cX6_reaches 69 = .ok (.iload 4, 2) := by decide +kernel
theorem dX6_reaches_71 : decode cX6_reaches 71 = .ok (.i2l, 1) := by decide +kernel
theorem dX6_reaches_72 : decode cX6_reaches 72 = .ok (.invokevirtual 229, 3) := by decide +kernel
theorem dX6_reaches_75 : decode cX6_reaches 75 = .ok (.ifCond .eq 9, 3) := by decide +kernel
theorem dX6_reaches_78 : decode cX6_reaches 78 = .ok (.iload 4, 2) := by decide +kernel
theorem dX6_reaches_80 : decode cX6_reaches 80 = .ok (.istore_n 3, 1) := by decide +kernel
theorem dX6_reaches_81 : decode cX6_reaches 81 = .ok (.goto 6, 3) := by decide +kernel
theorem dX6_reaches_84 : decode cX6_reaches 84 = .ok (.iload 4, 2) := by decide +kernel
theorem dX6_reaches_86 : decode cX6_reaches 86 = .ok (.istore_n 2, 1) := by decide +kernel
theorem dX6_reaches_87 : decode cX6_reaches 87 = .ok (.goto (-35), 3) := by decide +kernel
theorem dX6_reaches_90 : decode cX6_reaches 90 = .ok (.iload_n 3, 1) := by decide +kernel
theorem dX6_reaches_91 : decode cX6_reaches 91 = .ok (.ireturn, 1) := by decide +kernel
set_option maxRecDepth 20000 in
theorem ggX6_lasts_X6_in : GoodIn wsX6_lasts wsX6_in := goodIn_r _ [9] rfl (by decide +kernel)
set_option maxRecDepth 20000 in
theorem gX6_lasts_X6_in : GoodIn wsX6_lasts (va_wsS RX6 101 yX6_in wsX6_in) := goodIn_app (goodIn_of _ (by decide +kernel)) ggX6_lasts_X6_in
set_option maxRecDepth 20000 in
theorem ggX6_lasts_X6_goes : GoodIn wsX6_lasts wsX6_goes := goodIn_r _ [13, 14, 35, 36, 37, 38, 39, 40, 41, 42, 43, 44] rfl (by decide +kernel)
set_option maxRecDepth 20000 in
theorem gX6_lasts_X6_goes : GoodIn wsX6_lasts (wsV RX6 105 RX6 yX6_goes wsX6_goes) := goodIn_app (goodIn_of _ (by decide +kernel)) ggX6_lasts_X6_goes
set_option maxRecDepth 20000 in
theorem ggX6_lasts_X6_bound : GoodIn wsX6_lasts wsX6_bound := goodIn_r _ [18, 4, 19, 20, 21, 8, 22, 23, 24, 25, 26, 27, 28, 29, 30, 31, 32, 33, 34, 35, 36, 37, 38, 39, 40, 41, 42, 43, 44] rfl (by decide +kernel)
set_option maxRecDepth 20000 in
theorem gX6_lasts_X6_bound : GoodIn wsX6_lasts (wsV RX6 225 RX6 yX6_bound wsX6_bound) := goodIn_app (goodIn_of _ (by decide +kernel)) ggX6_lasts_X6_bound
theorem dX6_lasts_0 : decode cX6_lasts 0 = .ok (.aload_n 0, 1) := by decide +kernel
theorem dX6_lasts_1 : decode cX6_lasts 1 = .ok (.iload_n 1, 1) := by decide +kernel
theorem dX6_lasts_2 : decode cX6_lasts 2 = .ok (.i2l, 1) := by decide +kernel
theorem dX6_lasts_3 : decode cX6_lasts 3 = .ok (.ldc2_w 189, 3) := by decide +kernel
theorem dX6_lasts_6 : decode cX6_lasts 6 = .ok (.ldc2_w 58, 3) := by decide +kernel
theorem dX6_lasts_9 : decode cX6_lasts 9 = .ok (.invokestatic 101, 3) := by decide +kernel
theorem dX6_lasts_12 : decode cX6_lasts 12 = .ok (.ifCond .eq 19, 3) := by decide +kernel
theorem dX6_lasts_15 : decode cX6_lasts 15 = .ok (.iload_n 2, 1) := by decide +kernel
theorem dX6_lasts_16 : decode cX6_lasts 16 = .ok (.i2l, 1) := by decide +kernel
theorem dX6_lasts_17 : decode cX6_lasts 17 = .ok (.lconst 0, 1) := by decide +kernel
theorem dX6_lasts_18 : decode cX6_lasts 18 = .ok (.ldc2_w 93, 3) := by decide +kernel
theorem dX6_lasts_21 : decode cX6_lasts 21 = .ok (.invokestatic 101, 3) := by decide +kernel
theorem dX6_lasts_24 : decode cX6_lasts 24 = .ok (.ifCond .eq 7, 3) := by decide +kernel
theorem dX6_lasts_27 : decode cX6_lasts 27 = .ok (.iconst 1, 1) := by decide +kernel
theorem dX6_lasts_28 : decode cX6_lasts 28 = .ok (.goto 4, 3) := by decide +kernel
theorem dX6_lasts_31 : decode cX6_lasts 31 = .ok (.iconst 0, 1) := by decide +kernel
theorem dX6_lasts_32 : decode cX6_lasts 32 = .ok (.iconst 1, 1) := by decide +kernel
theorem dX6_lasts_33 : decode cX6_lasts 33 = .ok (.invokevirtual 105, 3) := by decide +kernel
theorem dX6_lasts_36 : decode cX6_lasts 36 = .ok (.ifCond .ne 5, 3) := by decide +kernel
theorem dX6_lasts_39 : decode cX6_lasts 39 = .ok (.iconst 0, 1) := by decide +kernel
theorem dX6_lasts_40 : decode cX6_lasts 40 = .ok (.ireturn, 1) := by decide +kernel
theorem dX6_lasts_41 : decode cX6_lasts 41 = .ok (.aload_n 0, 1) := by decide +kernel
theorem dX6_lasts_42 : decode cX6_lasts 42 = .ok (.getfield 7, 3) := by decide +kernel
theorem dX6_lasts_45 : decode cX6_lasts 45 = .ok (.bipush 37, 2) := by decide +kernel
theorem dX6_lasts_47 : decode cX6_lasts 47 = .ok (.laload, 1) := by decide +kernel
theorem dX6_lasts_48 : decode cX6_lasts 48 = .ok (.iload_n 2, 1) := by decide +kernel
theorem dX6_lasts_49 : decode cX6_lasts 49 = .ok (.i2l, 1) := by decide +kernel
theorem dX6_lasts_50 : decode cX6_lasts 50 = .ok (.lmul, 1) := by decide +kernel
theorem dX6_lasts_51 : decode cX6_lasts 51 = .ok (.ldc2_w 93, 3) := by decide +kernel
theorem dX6_lasts_54 : decode cX6_lasts 54 = .ok (.ldiv, 1) := by decide +kernel
theorem dX6_lasts_55 : decode cX6_lasts 55 = .ok (.lstore_n 3, 1) := by decide +kernel
theorem dX6_lasts_56 : decode cX6_lasts 56 = .ok (.iconst (-1), 1) := by decide +kernel
theorem dX6_lasts_57 : decode cX6_lasts 57 = .ok (.istore 5, 2) := by decide +kernel
theorem dX6_lasts_59 : decode cX6_lasts 59 = .ok (.ldc 234, 2) := by decide +kernel
theorem dX6_lasts_61 : decode cX6_lasts 61 = .ok (.istore 6, 2) := by decide +kernel
theorem dX6_lasts_63 : decode cX6_lasts 63 = .ok (.iload 6, 2) := by decide +kernel
theorem dX6_lasts_65 : decode cX6_lasts 65 = .ok (.iload 5, 2) := by decide +kernel
theorem dX6_lasts_67 : decode cX6_lasts 67 = .ok (.isub, 1) := by decide +kernel
theorem dX6_lasts_68 : decode cX6_lasts 68 = .ok (.iconst 1, 1) := by decide +kernel
theorem dX6_lasts_69 : decode cX6_lasts 69 = .ok (.if_icmp .le 41, 3) := by decide +kernel
theorem dX6_lasts_72 : decode cX6_lasts 72 = .ok (.iload 5, 2) := by decide +kernel
theorem dX6_lasts_74 : decode cX6_lasts 74 = .ok (.iload 6, 2) := by decide +kernel
theorem dX6_lasts_76 : decode cX6_lasts 76 = .ok (.iadd, 1) := by decide +kernel
theorem dX6_lasts_77 : decode cX6_lasts 77 = .ok (.iconst 2, 1) := by decide +kernel
theorem dX6_lasts_78 : decode cX6_lasts 78 = .ok (.idiv, 1) := by decide +kernel
theorem dX6_lasts_79 : decode cX6_lasts 79 = .ok (.istore 7, 2) := by decide +kernel
theorem dX6_lasts_81 : decode cX6_lasts 81 = .ok (.aload_n 0, 1) := by decide +kernel
theorem dX6_lasts_82 : decode cX6_lasts 82 = .ok (.iload_n 1, 1) := by decide +kernel
theorem dX6_lasts_83 : decode cX6_lasts 83 = .ok (.i2l, 1) := by decide +kernel
theorem dX6_lasts_84 : decode cX6_lasts 84 = .ok (.iload 7, 2) := by decide +kernel
theorem dX6_lasts_86 : decode cX6_lasts 86 = .ok (.i2l, 1) := by decide +kernel
theorem dX6_lasts_87 : decode cX6_lasts 87 = .ok (.iconst 0, 1) := by decide +kernel
theorem dX6_lasts_88 : decode cX6_lasts 88 = .ok (.invokevirtual 225, 3) := by decide +kernel
theorem dX6_lasts_91 : decode cX6_lasts 91 = .ok (.lload_n 3, 1) := by decide +kernel
theorem dX6_lasts_92 : decode cX6_lasts 92 = .ok (.lcmp, 1) := by decide +kernel
theorem dX6_lasts_93 : decode cX6_lasts 93 = .ok (.ifCond .lt 10, 3) := by decide +kernel
theorem dX6_lasts_96 : decode cX6_lasts 96 = .ok (.iload 7, 2) := by decide +kernel
theorem dX6_lasts_98 : decode cX6_lasts 98 = .ok (.istore 5, 2) := by decide +kernel
theorem dX6_lasts_100 : decode cX6_lasts 100 = .ok (.goto 7, 3) := by decide +kernel
theorem dX6_lasts_103 : decode cX6_lasts 103 = .ok (.iload 7, 2) := by decide +kernel
theorem dX6_lasts_105 : decode cX6_lasts 105 = .ok (.istore 6, 2) := by decide +kernel
theorem dX6_lasts_107 : decode cX6_lasts 107 = .ok (.goto (-44), 3) := by decide +kernel
theorem dX6_lasts_110 : decode cX6_lasts 110 = .ok (.iload 5, 2) := by decide +kernel
theorem dX6_lasts_112 : decode cX6_lasts 112 = .ok (.ireturn, 1) := by decide +kernel
set_option maxRecDepth 20000 in
theorem ggX6_append_X6_in : GoodIn wsX6_append wsX6_in := goodIn_r _ [7] rfl (by decide +kernel)
set_option maxRecDepth 20000 in
theorem gX6_append_X6_in : GoodIn wsX6_append (va_wsS RX6 101 yX6_in wsX6_in) := goodIn_app (goodIn_of _ (by decide +kernel)) ggX6_append_X6_in
set_option maxRecDepth 20000 in
theorem ggX6_append_X6_goes : GoodIn wsX6_append wsX6_goes := goodIn_r _ [11, 12, 13, 14, 15, 16, 17, 18, 19, 20, 21, 22] rfl (by decide +kernel)
set_option maxRecDepth 20000 in
theorem gX6_append_X6_goes : GoodIn wsX6_append (wsV RX6 105 RX6 yX6_goes wsX6_goes) := goodIn_app (goodIn_of _ (by decide +kernel)) ggX6_append_X6_goes
theorem dX6_append_0 : decode cX6_append 0 = .ok (.aload_n 0, 1) := by decide +kernel
theorem dX6_append_1 : decode cX6_append 1 = .ok (.iload_n 1, 1) := by decide +kernel
theorem dX6_append_2 : decode cX6_append 2 = .ok (.i2l, 1) := by decide +kernel
theorem dX6_append_3 : decode cX6_append 3 = .ok (.lconst 0, 1) := by decide +kernel
theorem dX6_append_4 : decode cX6_append 4 = .ok (.ldc2_w 235, 3) := by decide +kernel
theorem dX6_append_7 : decode cX6_append 7 = .ok (.invokestatic 101, 3) := by decide +kernel
theorem dX6_append_10 : decode cX6_append 10 = .ok (.aload_n 0, 1) := by decide +kernel
theorem dX6_append_11 : decode cX6_append 11 = .ok (.getfield 237, 3) := by decide +kernel
theorem dX6_append_14 : decode cX6_append 14 = .ok (.bipush 120, 2) := by decide +kernel
theorem dX6_append_16 : decode cX6_append 16 = .ok (.if_icmp .ge 7, 3) := by decide +kernel
theorem dX6_append_19 : decode cX6_append 19 = .ok (.iconst 1, 1) := by decide +kernel
theorem dX6_append_20 : decode cX6_append 20 = .ok (.goto 4, 3) := by decide +kernel
theorem dX6_append_23 : decode cX6_append 23 = .ok (.iconst 0, 1) := by decide +kernel
theorem dX6_append_24 : decode cX6_append 24 = .ok (.invokevirtual 105, 3) := by decide +kernel
theorem dX6_append_27 : decode cX6_append 27 = .ok (.ifCond .ne 5, 3) := by decide +kernel
theorem dX6_append_30 : decode cX6_append 30 = .ok (.iconst 0, 1) := by decide +kernel
theorem dX6_append_31 : decode cX6_append 31 = .ok (.ireturn, 1) := by decide +kernel
theorem dX6_append_32 : decode cX6_append 32 = .ok (.aload_n 0, 1) := by decide +kernel
theorem dX6_append_33 : decode cX6_append 33 = .ok (.getfield 19, 3) := by decide +kernel
theorem dX6_append_36 : decode cX6_append 36 = .ok (.aload_n 0, 1) := by decide +kernel
theorem dX6_append_37 : decode cX6_append 37 = .ok (.getfield 237, 3) := by decide +kernel
theorem dX6_append_40 : decode cX6_append 40 = .ok (.iload_n 1, 1) := by decide +kernel
theorem dX6_append_41 : decode cX6_append 41 = .ok (.iastore, 1) := by decide +kernel
theorem dX6_append_42 : decode cX6_append 42 = .ok (.aload_n 0, 1) := by decide +kernel
theorem dX6_append_43 : decode cX6_append 43 = .ok (.dup, 1) := by decide +kernel
theorem dX6_append_44 : decode cX6_append 44 = .ok (.getfield 237, 3) := by decide +kernel
theorem dX6_append_47 : decode cX6_append 47 = .ok (.iconst 1, 1) := by decide +kernel
theorem dX6_append_48 : decode cX6_append 48 = .ok (.iadd, 1) := by decide +kernel
theorem dX6_append_49 : decode cX6_append 49 = .ok (.putfield 237, 3) := by decide +kernel
theorem dX6_append_52 : decode cX6_append 52 = .ok (.aload_n 0, 1) := by decide +kernel
theorem dX6_append_53 : decode cX6_append 53 = .ok (.getfield 237, 3) := by decide +kernel
theorem dX6_append_56 : decode cX6_append 56 = .ok (.ireturn, 1) := by decide +kernel
theorem dX6_clearText_0 : decode cX6_clearText 0 = .ok (.aload_n 0, 1) := by decide +kernel
theorem dX6_clearText_1 : decode cX6_clearText 1 = .ok (.iconst 0, 1) := by decide +kernel
theorem dX6_clearText_2 : decode cX6_clearText 2 = .ok (.putfield 86, 3) := by decide +kernel
theorem dX6_clearText_5 : decode cX6_clearText 5 = .ok (.aload_n 0, 1) := by decide +kernel
theorem dX6_clearText_6 : decode cX6_clearText 6 = .ok (.getfield 237, 3) := by decide +kernel
theorem dX6_clearText_9 : decode cX6_clearText 9 = .ok (.istore_n 1, 1) := by decide +kernel
theorem dX6_clearText_10 : decode cX6_clearText 10 = .ok (.aload_n 0, 1) := by decide +kernel
theorem dX6_clearText_11 : decode cX6_clearText 11 = .ok (.iconst 0, 1) := by decide +kernel
theorem dX6_clearText_12 : decode cX6_clearText 12 = .ok (.putfield 237, 3) := by decide +kernel
theorem dX6_clearText_15 : decode cX6_clearText 15 = .ok (.iload_n 1, 1) := by decide +kernel
theorem dX6_clearText_16 : decode cX6_clearText 16 = .ok (.ireturn, 1) := by decide +kernel
set_option maxRecDepth 20000 in
theorem ggX6_isFigure_X6_in : GoodIn wsX6_isFigure wsX6_in := goodIn_r _ [9] rfl (by decide +kernel)
set_option maxRecDepth 20000 in
theorem gX6_isFigure_X6_in : GoodIn wsX6_isFigure (va_wsS RX6 101 yX6_in wsX6_in) := goodIn_app (goodIn_of _ (by decide +kernel)) ggX6_isFigure_X6_in
theorem dX6_isFigure_0 : decode cX6_isFigure 0 = .ok (.aload_n 0, 1) := by decide +kernel
theorem dX6_isFigure_1 : decode cX6_isFigure 1 = .ok (.getfield 240, 3) := by decide +kernel
theorem dX6_isFigure_4 : decode cX6_isFigure 4 = .ok (.aload_n 0, 1) := by decide +kernel
theorem dX6_isFigure_5 : decode cX6_isFigure 5 = .ok (.getfield 237, 3) := by decide +kernel
theorem dX6_isFigure_8 : decode cX6_isFigure 8 = .ok (.if_icmp .ge 29, 3) := by decide +kernel
theorem dX6_isFigure_11 : decode cX6_isFigure 11 = .ok (.aload_n 0, 1) := by decide +kernel
theorem dX6_isFigure_12 : decode cX6_isFigure 12 = .ok (.getfield 19, 3) := by decide +kernel
theorem dX6_isFigure_15 : decode cX6_isFigure 15 = .ok (.aload_n 0, 1) := by decide +kernel
theorem dX6_isFigure_16 : decode cX6_isFigure 16 = .ok (.getfield 240, 3) := by decide +kernel
theorem dX6_isFigure_19 : decode cX6_isFigure 19 = .ok (.iaload, 1) := by decide +kernel
theorem dX6_isFigure_20 : decode cX6_isFigure 20 = .ok (.i2l, 1) := by decide +kernel
theorem dX6_isFigure_21 : decode cX6_isFigure 21 = .ok (.ldc2_w 243, 3) := by decide +kernel
theorem dX6_isFigure_24 : decode cX6_isFigure 24 = .ok (.ldc2_w 245, 3) := by decide +kernel
theorem dX6_isFigure_27 : decode cX6_isFigure 27 = .ok (.invokestatic 101, 3) := by decide +kernel
theorem dX6_isFigure_30 : decode cX6_isFigure 30 = .ok (.ifCond .eq 7, 3) := by decide +kernel
theorem dX6_isFigure_33 : decode cX6_isFigure 33 = .ok (.iconst 1, 1) := by decide +kernel
theorem dX6_isFigure_34 : decode cX6_isFigure 34 = .ok (.goto 4, 3) := by decide +kernel
theorem dX6_isFigure_37 : decode cX6_isFigure 37 = .ok (.iconst 0, 1) := by decide +kernel
theorem dX6_isFigure_38 : decode cX6_isFigure 38 = .ok (.ireturn, 1) := by decide +kernel
theorem dX6_passes_0 : decode cX6_passes 0 = .ok (.aload_n 0, 1) := by decide +kernel
theorem dX6_passes_1 : decode cX6_passes 1 = .ok (.getfield 240, 3) := by decide +kernel
theorem dX6_passes_4 : decode cX6_passes 4 = .ok (.aload_n 0, 1) := by decide +kernel
theorem dX6_passes_5 : decode cX6_passes 5 = .ok (.getfield 237, 3) := by decide +kernel
theorem dX6_passes_8 : decode cX6_passes 8 = .ok (.if_icmp .ge 20, 3) := by decide +kernel
theorem dX6_passes_11 : decode cX6_passes 11 = .ok (.aload_n 0, 1) := by decide +kernel
theorem dX6_passes_12 : decode cX6_passes 12 = .ok (.getfield 19, 3) := by decide +kernel
theorem dX6_passes_15 : decode cX6_passes 15 = .ok (.aload_n 0, 1) := by decide +kernel
theorem dX6_passes_16 : decode cX6_passes 16 = .ok (.getfield 240, 3) := by decide +kernel
theorem dX6_passes_19 : decode cX6_passes 19 = .ok (.iaload, 1) := by decide +kernel
theorem dX6_passes_20 : decode cX6_passes 20 = .ok (.iload_n 1, 1) := by decide +kernel
theorem dX6_passes_21 : decode cX6_passes 21 = .ok (.if_icmp .ne 7, 3) := by decide +kernel
theorem dX6_passes_24 : decode cX6_passes 24 = .ok (.iconst 1, 1) := by decide +kernel
theorem dX6_passes_25 : decode cX6_passes 25 = .ok (.goto 4, 3) := by decide +kernel
theorem dX6_passes_28 : decode cX6_passes 28 = .ok (.iconst 0, 1) := by decide +kernel
theorem dX6_passes_29 : decode cX6_passes 29 = .ok (.istore_n 2, 1) := by decide +kernel
theorem dX6_passes_30 : decode cX6_passes 30 = .ok (.aload_n 0, 1) := by decide +kernel
theorem dX6_passes_31 : decode cX6_passes 31 = .ok (.dup, 1) := by decide +kernel
theorem dX6_passes_32 : decode cX6_passes 32 = .ok (.getfield 240, 3) := by decide +kernel
theorem dX6_passes_35 : decode cX6_passes 35 = .ok (.iload_n 2, 1) := by decide +kernel
theorem dX6_passes_36 : decode cX6_passes 36 = .ok (.ifCond .eq 7, 3) := by decide +kernel
theorem dX6_passes_39 : decode cX6_passes 39 = .ok (.iconst 1, 1) := by decide +kernel
theorem dX6_passes_40 : decode cX6_passes 40 = .ok (.goto 4, 3) := by decide +kernel
theorem dX6_passes_43 : decode cX6_passes 43 = .ok (.iconst 0, 1) := by decide +kernel
theorem dX6_passes_44 : decode cX6_passes 44 = .ok (.iadd, 1) := by decide +kernel
theorem dX6_passes_45 : decode cX6_passes 45 = .ok (.putfield 240, 3) := by decide +kernel
theorem dX6_passes_48 : decode cX6_passes 48 = .ok (.iload_n 2, 1) := by decide +kernel
theorem dX6_passes_49 : decode cX6_passes 49 = .ok (.ireturn, 1) := by decide +kernel
set_option maxRecDepth 20000 in
theorem ggX6_readsNumber_X6_passes : GoodIn wsX6_readsNumber wsX6_passes := goodIn_r _ [8, 1, 9, 2, 19, 20, 21, 22, 23, 24, 25, 26, 27, 28] rfl (by decide +kernel)
set_option maxRecDepth 20000 in
theorem gX6_readsNumber_X6_passes : GoodIn wsX6_readsNumber (wsV RX6 247 RX6 yX6_passes wsX6_passes) := goodIn_app (goodIn_of _ (by decide +kernel)) ggX6_readsNumber_X6_passes
set_option maxRecDepth 20000 in
theorem ggX6_readsNumber_X6_isFigure : GoodIn wsX6_readsNumber wsX6_isFigure := goodIn_r _ [13, 1, 9, 2, 14, 15, 16, 17, 7, 18, 19, 20, 21, 22, 23, 24, 25, 26, 27, 28] rfl (by decide +kernel)
set_option maxRecDepth 20000 in
theorem gX6_readsNumber_X6_isFigure : GoodIn wsX6_readsNumber (wsV RX6 251 RX6 yX6_isFigure wsX6_isFigure) := goodIn_app (goodIn_of _ (by decide +kernel)) ggX6_readsNumber_X6_isFigure
theorem dX6_readsNumber_0 : decode cX6_readsNumber 0 = .ok (.aload_n 0, 1) := by decide +kernel
theorem dX6_readsNumber_1 : decode cX6_readsNumber 1 = .ok (.bipush 45, 2) := by decide +kernel
theorem dX6_readsNumber_3 : decode cX6_readsNumber 3 = .ok (.invokevirtual 247, 3) := by decide +kernel
theorem dX6_readsNumber_6 : decode cX6_readsNumber 6 = .ok (.istore_n 2, 1) := by decide +kernel
theorem dX6_readsNumber_7 : decode cX6_readsNumber 7 = .ok (.aload_n 0, 1) := by decide +kernel
theorem dX6_readsNumber_8 : decode cX6_readsNumber 8 = .ok (.getfield 240, 3) := by decide +kernel
theorem dX6_readsNumber_11 : decode cX6_readsNumber 11 = .ok (.istore_n 3, 1) := by decide +kernel
theorem dX6_readsNumber_12 : decode cX6_readsNumber 12 = .ok (.iconst 0, 1) := by decide +kernel
theorem dX6_readsNumber_13 : decode cX6_readsNumber 13 = .ok (.istore 4, 2) := by decide +kernel
theorem dX6_readsNumber_15 : decode cX6_readsNumber 15 = .ok (.aload_n 0, 1) := by decide +kernel
theorem dX6_readsNumber_16 : decode cX6_readsNumber 16 = .ok (.invokevirtual 251, 3) := by decide +kernel
theorem dX6_readsNumber_19 : decode cX6_readsNumber 19 = .ok (.ifCond .eq 46, 3) := by decide +kernel
theorem dX6_readsNumber_22 : decode cX6_readsNumber 22 = .ok (.aload_n 0, 1) := by decide +kernel
theorem dX6_readsNumber_23 : decode cX6_readsNumber 23 = .ok (.getfield 240, 3) := by decide +kernel
theorem dX6_readsNumber_26 : decode cX6_readsNumber 26 = .ok (.iload_n 3, 1) := by decide +kernel
theorem dX6_readsNumber_27 : decode cX6_readsNumber 27 = .ok (.iconst 5, 1) := by decide +kernel
theorem dX6_readsNumber_28 : decode cX6_readsNumber 28 = .ok (.iadd, 1) := by decide +kernel
theorem dX6_readsNumber_29 : decode cX6_readsNumber 29 = .ok (.if_icmp .ge 36, 3) := by decide +kernel
theorem dX6_readsNumber_32 : decode cX6_readsNumber 32 = .ok (.bipush 10, 2) := by decide +kernel
theorem dX6_readsNumber_34 : decode cX6_readsNumber 34 = .ok (.iload 4, 2) := by decide +kernel
theorem dX6_readsNumber_36 : decode cX6_readsNumber 36 = .ok (.imul, 1) := by decide +kernel
theorem dX6_readsNumber_37 : decode cX6_readsNumber 37 = .ok (.aload_n 0, 1) := by decide +kernel
theorem dX6_readsNumber_38 : decode cX6_readsNumber 38 = .ok (.getfield 19, 3) := by decide +kernel
theorem dX6_readsNumber_41 : decode cX6_readsNumber 41 = .ok (.aload_n 0, 1) := by decide +kernel
theorem dX6_readsNumber_42 : decode cX6_readsNumber 42 = .ok (.getfield 240, 3) := by decide +kernel
theorem dX6_readsNumber_45 : decode cX6_readsNumber 45 = .ok (.iaload, 1) := by decide +kernel
theorem dX6_readsNumber_46 : decode cX6_readsNumber 46 = .ok (.iadd, 1) := by decide +kernel
theorem dX6_readsNumber_47 : decode cX6_readsNumber 47 = .ok (.bipush 48, 2) := by decide +kernel
theorem dX6_readsNumber_49 : decode cX6_readsNumber 49 = .ok (.isub, 1) := by decide +kernel
theorem dX6_readsNumber_50 : decode cX6_readsNumber 50 = .ok (.istore 4, 2) := by decide +kernel
theorem dX6_readsNumber_52 : decode cX6_readsNumber 52 = .ok (.aload_n 0, 1) := by decide +kernel
theorem dX6_readsNumber_53 : decode cX6_readsNumber 53 = .ok (.dup, 1) := by decide +kernel
theorem dX6_readsNumber_54 : decode cX6_readsNumber 54 = .ok (.getfield 240, 3) := by decide +kernel
theorem dX6_readsNumber_57 : decode cX6_readsNumber 57 = .ok (.iconst 1, 1) := by decide +kernel
theorem dX6_readsNumber_58 : decode cX6_readsNumber 58 = .ok (.iadd, 1) := by decide +kernel
theorem dX6_readsNumber_59 : decode cX6_readsNumber 59 = .ok (.putfield 240, 3) := by decide +kernel
theorem dX6_readsNumber_62 : decode cX6_readsNumber 62 = .ok (.goto (-47), 3) := by decide +kernel
theorem dX6_readsNumber_65 : decode cX6_readsNumber 65 = .ok (.aload_n 0, 1) := by decide +kernel
theorem dX6_readsNumber_66 : decode cX6_readsNumber 66 = .ok (.getfield 23, 3) := by decide +kernel
theorem dX6_readsNumber_69 : decode cX6_readsNumber 69 = .ok (.iload_n 1, 1) := by decide +kernel
theorem dX6_readsNumber_70 : decode cX6_readsNumber 70 = .ok (.iload_n 2, 1) := by decide +kernel
theorem dX6_readsNumber_71 : decode cX6_readsNumber 71 = .ok (.ifCond .eq 9, 3) := by decide +kernel
theorem dX6_readsNumber_74 : decode cX6_readsNumber 74 = .ok (.iload 4, 2) := by decide +kernel
theorem dX6_readsNumber_76 : decode cX6_readsNumber 76 = .ok (.ineg, 1) := by decide +kernel
theorem dX6_readsNumber_77 : decode cX6_readsNumber 77 = .ok (.goto 5, 3) := by decide +kernel
theorem dX6_readsNumber_80 : decode cX6_readsNumber 80 = .ok (.iload 4, 2) := by decide +kernel
theorem dX6_readsNumber_82 : decode cX6_readsNumber 82 = .ok (.iastore, 1) := by decide +kernel
theorem dX6_readsNumber_83 : decode cX6_readsNumber 83 = .ok (.aload_n 0, 1) := by decide +kernel
theorem dX6_readsNumber_84 : decode cX6_readsNumber 84 = .ok (.getfield 240, 3) := by decide +kernel
theorem dX6_readsNumber_87 : decode cX6_readsNumber 87 = .ok (.iload_n 3, 1) := by decide +kernel
theorem dX6_readsNumber_88 : decode cX6_readsNumber 88 = .ok (.if_icmp .le 35, 3) := by decide +kernel
theorem dX6_readsNumber_91 : decode cX6_readsNumber 91 = .ok (.aload_n 0, 1) := by decide +kernel
theorem dX6_readsNumber_92 : decode cX6_readsNumber 92 = .ok (.invokevirtual 251, 3) := by decide +kernel
theorem dX6_readsNumber_95 : decode cX6_readsNumber 95 = .ok (.ifCond .ne 28, 3) := by decide +kernel
theorem dX6_readsNumber_98 : decode cX6_readsNumber 98 = .ok (.aload_n 0, 1) := by decide +kernel
theorem dX6_readsNumber_99 : decode cX6_readsNumber 99 = .ok (.iload_n 1, 1) := by decide +kernel
theorem dX6_readsNumber_100 : decode cX6_readsNumber 100 = .ok (.iconst 3, 1) := by decide +kernel
theorem dX6_readsNumber_101 : decode cX6_readsNumber 101 = .ok (.irem, 1) := by decide +kernel
theorem dX6_readsNumber_102 : decode cX6_readsNumber 102 = .ok (.iconst 2, 1) := by decide +kernel
theorem dX6_readsNumber_103 : decode cX6_readsNumber 103 = .ok (.if_icmp .ne 8, 3) := by decide +kernel
theorem dX6_readsNumber_106 : decode cX6_readsNumber 106 = .ok (.bipush 59, 2) := by decide +kernel
theorem dX6_readsNumber_108 : decode cX6_readsNumber 108 = .ok (.goto 5, 3) := by decide +kernel
theorem dX6_readsNumber_111 : decode cX6_readsNumber 111 = .ok (.bipush 44, 2) := by decide +kernel
theorem dX6_readsNumber_113 : decode cX6_readsNumber 113 = .ok (.invokevirtual 247, 3) := by decide +kernel
theorem dX6_readsNumber_116 : decode cX6_readsNumber 116 = .ok (.ifCond .eq 7, 3) := by decide +kernel
theorem dX6_readsNumber_119 : decode cX6_readsNumber 119 = .ok (.iconst 1, 1) := by decide +kernel
theorem dX6_readsNumber_120 : decode cX6_readsNumber 120 = .ok (.goto 4, 3) := by decide +kernel
theorem dX6_readsNumber_123 : decode cX6_readsNumber 123 = .ok (.iconst 0, 1) := by decide +kernel
theorem dX6_readsNumber_124 : decode cX6_readsNumber 124 = .ok (.ireturn, 1) := by decide +kernel
set_option maxRecDepth 20000 in
theorem ggX6_replay_X6_readsNumber : GoodIn wsX6_replay wsX6_readsNumber := goodIn_r _ [9, 2, 10, 4, 11, 12, 13, 8, 14, 3, 15, 16, 17, 18, 19, 20, 21, 22, 23, 105, 106, 107, 108, 109, 110, 111, 112, 113, 114] rfl (by decide +kernel)
set_option maxRecDepth 20000 in
theorem gX6_replay_X6_readsNumber : GoodIn wsX6_replay (wsV RX6 255 RX6 yX6_readsNumber wsX6_readsNumber) := goodIn_app (goodIn_of _ (by decide +kernel)) ggX6_replay_X6_readsNumber
set_option maxRecDepth 20000 in
theorem ggX6_replay_X6_isMeasurement : GoodIn wsX6_replay wsX6_isMeasurement := goodIn_r _ [26, 27, 28, 29, 30, 21, 22, 8, 23] rfl (by decide +kernel)
set_option maxRecDepth 20000 in
theorem gX6_replay_X6_isMeasurement : GoodIn wsX6_replay (va_wsS RX6 195 yX6_isMeasurement wsX6_isMeasurement) := goodIn_app (goodIn_of _ (by decide +kernel)) ggX6_replay_X6_isMeasurement
set_option maxRecDepth 20000 in
theorem ggX6_replay_X6_save : GoodIn wsX6_replay wsX6_save := goodIn_r _ [34, 35, 36, 37, 105, 106, 107, 108, 109, 110, 111, 112, 113, 114] rfl (by decide +kernel)
set_option maxRecDepth 20000 in
theorem gX6_replay_X6_save : GoodIn wsX6_replay (wsV RX6 109 RX6 yX6_save wsX6_save) := goodIn_app (goodIn_of _ (by decide +kernel)) ggX6_replay_X6_save
set_option maxRecDepth 20000 in
theorem ggX6_replay_X6_treats : GoodIn wsX6_replay wsX6_treats := goodIn_r _ [41, 37, 42, 43, 44, 45, 46, 8, 47, 48, 49, 50, 51, 52, 53, 54, 55, 56, 57, 58, 59, 60, 61, 62, 63, 64, 21, 22, 23, 65, 66, 67, 68, 69, 70, 71, 72, 73, 74, 75, 76, 77, 78, 79, 80, 81, 82, 83, 84, 85, 86, 87, 88, 89, 90, 91, 92, 93, 94, 95, 96, 97, 98, 99, 100, 101, 102, 103, 104, 105, 106, 107, 108, 109, 110, 111, 112, 113, 114] rfl (by decide +kernel)
set_option maxRecDepth 20000 in
theorem gX6_replay_X6_treats : GoodIn wsX6_replay (wsV RX6 198 RX6 yX6_treats wsX6_treats) := goodIn_app (goodIn_of _ (by decide +kernel)) ggX6_replay_X6_treats
theorem dX6_replay_0 : decode cX6_replay 0 = .ok (.aload_n 0, 1) := by decide +kernel
theorem dX6_replay_1 : decode cX6_replay 1 = .ok (.iconst 0, 1) := by decide +kernel
theorem dX6_replay_2 : decode cX6_replay 2 = .ok (.putfield 86, 3) := by decide +kernel
theorem dX6_replay_5 : decode cX6_replay 5 = .ok (.aload_n 0, 1) := by decide +kernel
theorem dX6_replay_6 : decode cX6_replay 6 = .ok (.iconst 0, 1) := by decide +kernel
theorem dX6_replay_7 : decode cX6_replay 7 = .ok (.putfield 240, 3) := by decide +kernel
theorem dX6_replay_10 : decode cX6_replay 10 = .ok (.iconst 0, 1) := by decide +kernel
theorem dX6_replay_11 : decode cX6_replay 11 = .ok (.istore_n 1, 1) := by decide +kernel
theorem dX6_replay_12 : decode cX6_replay 12 = .ok (.aload_n 0, 1) := by decide +kernel
theorem dX6_replay_13 : decode cX6_replay 13 = .ok (.getfield 240, 3) := by decide +kernel
theorem dX6_replay_16 : decode cX6_replay 16 = .ok (.aload_n 0, 1) := by decide +kernel
theorem dX6_replay_17 : decode cX6_replay 17 = .ok (.getfield 237, 3) := by decide +kernel
theorem dX6_replay_20 : decode cX6_replay 20 = .ok (.if_icmp .lt 9, 3) := by decide +kernel
theorem dX6_replay_23 : decode cX6_replay 23 = .ok (.iload_n 1, 1) := by decide +kernel
theorem dX6_replay_24 : decode cX6_replay 24 = .ok (.iconst 3, 1) := by decide +kernel
theorem dX6_replay_25 : decode cX6_replay 25 = .ok (.irem, 1) := by decide +kernel
theorem dX6_replay_26 : decode cX6_replay 26 = .ok (.ifCond .eq 25, 3) := by decide +kernel
theorem dX6_replay_29 : decode cX6_replay 29 = .ok (.aload_n 0, 1) := by decide +kernel
theorem dX6_replay_30 : decode cX6_replay 30 = .ok (.iload_n 1, 1) := by decide +kernel
theorem dX6_replay_31 : decode cX6_replay 31 = .ok (.invokevirtual 255, 3) := by decide +kernel
theorem dX6_replay_34 : decode cX6_replay 34 = .ok (.ifCond .ne 11, 3) := by decide +kernel
theorem dX6_replay_37 : decode cX6_replay 37 = .ok (.bipush (-10), 2) := by decide +kernel
theorem dX6_replay_39 : decode cX6_replay 39 = .ok (.aload_n 0, 1) := by decide +kernel
theorem dX6_replay_40 : decode cX6_replay 40 = .ok (.getfield 240, 3) := by decide +kernel
theorem dX6_replay_43 : decode cX6_replay 43 = .ok (.isub, 1) := by decide +kernel
theorem dX6_replay_44 : decode cX6_replay 44 = .ok (.ireturn, 1) := by decide +kernel
theorem dX6_replay_45 : decode cX6_replay 45 = .ok (.iinc 1 1, 3) := by decide +kernel
theorem dX6_replay_48 : decode cX6_replay 48 = .ok (.goto (-36), 3) := by decide +kernel
theorem dX6_replay_51 : decode cX6_replay 51 = .ok (.iconst 0, 1) := by decide +kernel
theorem dX6_replay_52 : decode cX6_replay 52 = .ok (.istore_n 2, 1) := by decide +kernel
theorem dX6_replay_53 : decode cX6_replay 53 = .ok (.iload_n 2, 1) := by decide +kernel
theorem dX6_replay_54 : decode cX6_replay 54 = .ok (.iload_n 1, 1) := by decide +kernel
theorem dX6_replay_55 : decode cX6_replay 55 = .ok (.if_icmp .ge 45, 3) := by decide +kernel
theorem dX6_replay_58 : decode cX6_replay 58 = .ok (.aload_n 0, 1) := by decide +kernel
theorem dX6_replay_59 : decode cX6_replay 59 = .ok (.getfield 23, 3) := by decide +kernel
theorem dX6_replay_62 : decode cX6_replay 62 = .ok (.iload_n 2, 1) := by decide +kernel
theorem dX6_replay_63 : decode cX6_replay 63 = .ok (.iaload, 1) := by decide +kernel
theorem dX6_replay_64 : decode cX6_replay 64 = .ok (.aload_n 0, 1) := by decide +kernel
theorem dX6_replay_65 : decode cX6_replay 65 = .ok (.getfield 23, 3) := by decide +kernel
theorem dX6_replay_68 : decode cX6_replay 68 = .ok (.iload_n 2, 1) := by decide +kernel
theorem dX6_replay_69 : decode cX6_replay 69 = .ok (.iconst 1, 1) := by decide +kernel
theorem dX6_replay_70 : decode cX6_replay 70 = .ok (.iadd, 1) := by decide +kernel
theorem dX6_replay_71 : decode cX6_replay 71 = .ok (.iaload, 1) := by decide +kernel
theorem dX6_replay_72 : decode cX6_replay 72 = .ok (.aload_n 0, 1) := by decide +kernel
theorem dX6_replay_73 : decode cX6_replay 73 = .ok (.getfield 23, 3) := by decide +kernel
theorem dX6_replay_76 : decode cX6_replay 76 = .ok (.iload_n 2, 1) := by decide +kernel
theorem dX6_replay_77 : decode cX6_replay 77 = .ok (.iconst 2, 1) := by decide +kernel
theorem dX6_replay_78 : decode cX6_replay 78 = .ok (.iadd, 1) := by decide +kernel
theorem dX6_replay_79 : decode cX6_replay 79 = .ok (.iaload, 1) := by decide +kernel
theorem dX6_replay_80 : decode cX6_replay 80 = .ok (.invokestatic 195, 3) := by decide +kernel
theorem dX6_replay_83 : decode cX6_replay 83 = .ok (.ifCond .ne 11, 3) := by decide +kernel
theorem dX6_replay_86 : decode cX6_replay 86 = .ok (.sipush (-1000), 3) := by decide +kernel
theorem dX6_replay_89 : decode cX6_replay 89 = .ok (.iload_n 2, 1) := by decide +kernel
theorem dX6_replay_90 : decode cX6_replay 90 = .ok (.iconst 3, 1) := by decide +kernel
theorem dX6_replay_91 : decode cX6_replay 91 = .ok (.idiv, 1) := by decide +kernel
theorem dX6_replay_92 : decode cX6_replay 92 = .ok (.isub, 1) := by decide +kernel
theorem dX6_replay_93 : decode cX6_replay 93 = .ok (.ireturn, 1) := by decide +kernel
theorem dX6_replay_94 : decode cX6_replay 94 = .ok (.iinc 2 3, 3) := by decide +kernel
theorem dX6_replay_97 : decode cX6_replay 97 = .ok (.goto (-44), 3) := by decide +kernel
theorem dX6_replay_100 : decode cX6_replay 100 = .ok (.aload_n 0, 1) := by decide +kernel
theorem dX6_replay_101 : decode cX6_replay 101 = .ok (.invokevirtual 109, 3) := by decide +kernel
theorem dX6_replay_104 : decode cX6_replay 104 = .ok (.iconst 0, 1) := by decide +kernel
theorem dX6_replay_105 : decode cX6_replay 105 = .ok (.istore_n 2, 1) := by decide +kernel
theorem dX6_replay_106 : decode cX6_replay 106 = .ok (.iconst 0, 1) := by decide +kernel
theorem dX6_replay_107 : decode cX6_replay 107 = .ok (.istore_n 3, 1) := by decide +kernel
theorem dX6_replay_108 : decode cX6_replay 108 = .ok (.iload_n 3, 1) := by decide +kernel
theorem dX6_replay_109 : decode cX6_replay 109 = .ok (.iload_n 1, 1) := by decide +kernel
theorem dX6_replay_110 : decode cX6_replay 110 = .ok (.if_icmp .ge 41, 3) := by decide +kernel
theorem dX6_replay_113 : decode cX6_replay 113 = .ok (.iload_n 2, 1) := by decide +kernel
theorem dX6_replay_114 : decode cX6_replay 114 = .ok (.aload_n 0, 1) := by decide +kernel
theorem dX6_replay_115 : decode cX6_replay 115 = .ok (.aload_n 0, 1) := by decide +kernel
theorem dX6_replay_116 : decode cX6_replay 116 = .ok (.getfield 23, 3) := by decide +kernel
theorem dX6_replay_119 : decode cX6_replay 119 = .ok (.iload_n 3, 1) := by decide +kernel
theorem dX6_replay_120 : decode cX6_replay 120 = .ok (.iaload, 1) := by decide +kernel
theorem dX6_replay_121 : decode cX6_replay 121 = .ok (.i2l, 1) := by decide +kernel
theorem dX6_replay_122 : decode cX6_replay 122 = .ok (.aload_n 0, 1) := by decide +kernel
theorem dX6_replay_123 : decode cX6_replay 123 = .ok (.getfield 23, 3) := by decide +kernel
theorem dX6_replay_126 : decode cX6_replay 126 = .ok (.iload_n 3, 1) := by decide +kernel
theorem dX6_replay_127 : decode cX6_replay 127 = .ok (.iconst 1, 1) := by decide +kernel
theorem dX6_replay_128 : decode cX6_replay 128 = .ok (.iadd, 1) := by decide +kernel
theorem dX6_replay_129 : decode cX6_replay 129 = .ok (.iaload, 1) := by decide +kernel
theorem dX6_replay_130 : decode cX6_replay 130 = .ok (.i2l, 1) := by decide +kernel
theorem dX6_replay_131 : decode cX6_replay 131 = .ok (.aload_n 0, 1) := by decide +kernel
theorem dX6_replay_132 : decode cX6_replay 132 = .ok (.getfield 23, 3) := by decide +kernel
theorem dX6_replay_135 : decode cX6_replay 135 = .ok (.iload_n 3, 1) := by decide +kernel
theorem dX6_replay_136 : decode cX6_replay 136 = .ok (.iconst 2, 1) := by decide +kernel
theorem dX6_replay_137 : decode cX6_replay 137 = .ok (.iadd, 1) := by decide +kernel
theorem dX6_replay_138 : decode cX6_replay 138 = .ok (.iaload, 1) := by decide +kernel
theorem dX6_replay_139 : decode cX6_replay 139 = .ok (.i2l, 1) := by decide +kernel
theorem dX6_replay_140 : decode cX6_replay 140 = .ok (.invokevirtual 198, 3) := by decide +kernel
theorem dX6_replay_143 : decode cX6_replay 143 = .ok (.ior, 1) := by decide +kernel
theorem dX6_replay_144 : decode cX6_replay 144 = .ok (.istore_n 2, 1) := by decide +kernel
theorem dX6_replay_145 : decode cX6_replay 145 = .ok (.iinc 3 3, 3) := by decide +kernel
theorem dX6_replay_148 : decode cX6_replay 148 = .ok (.goto (-40), 3) := by decide +kernel
theorem dX6_replay_151 : decode cX6_replay 151 = .ok (.iload_n 1, 1) := by decide +kernel
theorem dX6_replay_152 : decode cX6_replay 152 = .ok (.iconst 3, 1) := by decide +kernel
theorem dX6_replay_153 : decode cX6_replay 153 = .ok (.idiv, 1) := by decide +kernel
theorem dX6_replay_154 : decode cX6_replay 154 = .ok (.ireturn, 1) := by decide +kernel
set_option maxRecDepth 20000 in
theorem ggX6_undo_X6_goes : GoodIn wsX6_undo wsX6_goes := goodIn_r _ [8, 9, 10, 11, 12, 13, 14, 15, 16, 17, 18, 19] rfl (by decide +kernel)
set_option maxRecDepth 20000 in
theorem gX6_undo_X6_goes : GoodIn wsX6_undo (wsV RX6 105 RX6 yX6_goes wsX6_goes) := goodIn_app (goodIn_of _ (by decide +kernel)) ggX6_undo_X6_goes
theorem dX6_undo_0 : decode cX6_undo 0 = .ok (.aload_n 0, 1) := by decide +kernel
theorem dX6_undo_1 : decode cX6_undo 1 = .ok (.aload_n 0, 1) := by decide +kernel
theorem dX6_undo_2 : decode cX6_undo 2 = .ok (.getfield 90, 3) := by decide +kernel
theorem dX6_undo_5 : decode cX6_undo 5 = .ok (.ifCond .le 7, 3) := by decide +kernel
theorem dX6_undo_8 : decode cX6_undo 8 = .ok (.iconst 1, 1) := by decide +kernel
theorem dX6_undo_9 : decode cX6_undo 9 = .ok (.goto 4, 3) := by decide +kernel
theorem dX6_undo_12 : decode cX6_undo 12 = .ok (.iconst 0, 1) := by decide +kernel
theorem dX6_undo_13 : decode cX6_undo 13 = .ok (.iconst 1, 1) := by decide +kernel
theorem dX6_undo_14 : decode cX6_undo 14 = .ok (.invokevirtual 105, 3) := by decide +kernel
theorem dX6_undo_17 : decode cX6_undo 17 = .ok (.ifCond .ne 5, 3) := by decide +kernel
theorem dX6_undo_20 : decode cX6_undo 20 = .ok (.iconst 0, 1) := by decide +kernel
theorem dX6_undo_21 : decode cX6_undo 21 = .ok (.ireturn, 1) := by decide +kernel
theorem dX6_undo_22 : decode cX6_undo 22 = .ok (.aload_n 0, 1) := by decide +kernel
theorem dX6_undo_23 : decode cX6_undo 23 = .ok (.dup, 1) := by decide +kernel
theorem dX6_undo_24 : decode cX6_undo 24 = .ok (.getfield 90, 3) := by decide +kernel
theorem dX6_undo_27 : decode cX6_undo 27 = .ok (.iconst 1, 1) := by decide +kernel
theorem dX6_undo_28 : decode cX6_undo 28 = .ok (.isub, 1) := by decide +kernel
theorem dX6_undo_29 : decode cX6_undo 29 = .ok (.putfield 90, 3) := by decide +kernel
theorem dX6_undo_32 : decode cX6_undo 32 = .ok (.iconst 0, 1) := by decide +kernel
theorem dX6_undo_33 : decode cX6_undo 33 = .ok (.istore_n 1, 1) := by decide +kernel
theorem dX6_undo_34 : decode cX6_undo 34 = .ok (.iload_n 1, 1) := by decide +kernel
theorem dX6_undo_35 : decode cX6_undo 35 = .ok (.sipush 213, 3) := by decide +kernel
theorem dX6_undo_38 : decode cX6_undo 38 = .ok (.if_icmp .ge 30, 3) := by decide +kernel
theorem dX6_undo_41 : decode cX6_undo 41 = .ok (.aload_n 0, 1) := by decide +kernel
theorem dX6_undo_42 : decode cX6_undo 42 = .ok (.getfield 7, 3) := by decide +kernel
theorem dX6_undo_45 : decode cX6_undo 45 = .ok (.iload_n 1, 1) := by decide +kernel
theorem dX6_undo_46 : decode cX6_undo 46 = .ok (.aload_n 0, 1) := by decide +kernel
theorem dX6_undo_47 : decode cX6_undo 47 = .ok (.getfield 13, 3) := by decide +kernel
theorem dX6_undo_50 : decode cX6_undo 50 = .ok (.sipush 213, 3) := by decide +kernel
theorem dX6_undo_53 : decode cX6_undo 53 = .ok (.aload_n 0, 1) := by decide +kernel
theorem dX6_undo_54 : decode cX6_undo 54 = .ok (.getfield 90, 3) := by decide +kernel
theorem dX6_undo_57 : decode cX6_undo 57 = .ok (.imul, 1) := by decide +kernel
theorem dX6_undo_58 : decode cX6_undo 58 = .ok (.iload_n 1, 1) := by decide +kernel
theorem dX6_undo_59 : decode cX6_undo 59 = .ok (.iadd, 1) := by decide +kernel
theorem dX6_undo_60 : decode cX6_undo 60 = .ok (.laload, 1) := by decide +kernel
theorem dX6_undo_61 : decode cX6_undo 61 = .ok (.lastore, 1) := by decide +kernel
theorem dX6_undo_62 : decode cX6_undo 62 = .ok (.iinc 1 1, 3) := by decide +kernel
theorem dX6_undo_65 : decode cX6_undo 65 = .ok (.goto (-31), 3) := by decide +kernel
theorem dX6_undo_68 : decode cX6_undo 68 = .ok (.aload_n 0, 1) := by decide +kernel
theorem dX6_undo_69 : decode cX6_undo 69 = .ok (.getfield 90, 3) := by decide +kernel
theorem dX6_undo_72 : decode cX6_undo 72 = .ok (.ireturn, 1) := by decide +kernel
set_option maxRecDepth 20000 in
theorem ggX6_digest_X6_statusNow : GoodIn wsX6_digest wsX6_statusNow := goodIn_r _ [12, 5, 13, 14, 15, 11, 16, 17, 18, 19, 20, 21, 22, 23, 24, 25, 26, 27, 28, 29, 30, 31, 32] rfl (by decide +kernel)
set_option maxRecDepth 20000 in
theorem gX6_digest_X6_statusNow : GoodIn wsX6_digest (wsV RX6 216 RX6 yX6_statusNow wsX6_statusNow) := goodIn_app (goodIn_of _ (by decide +kernel)) ggX6_digest_X6_statusNow
theorem dX6_digest_0 : decode cX6_digest 0 = .ok (.aload_n 0, 1) := by decide +kernel
theorem dX6_digest_1 : decode cX6_digest 1 = .ok (.iconst 0, 1) := by decide +kernel
theorem dX6_digest_2 : decode cX6_digest 2 = .ok (.putfield 86, 3) := by decide +kernel
theorem dX6_digest_5 : decode cX6_digest 5 = .ok (.ldc2_w 258, 3) := by decide +kernel
theorem dX6_digest_8 : decode cX6_digest 8 = .ok (.aload_n 0, 1) := by decide +kernel
theorem dX6_digest_9 : decode cX6_digest 9 = .ok (.getfield 237, 3) := by decide +kernel
theorem dX6_digest_12 : decode cX6_digest 12 = .ok (.i2l, 1) := by decide +kernel
theorem dX6_digest_13 : decode cX6_digest 13 = .ok (.ladd, 1) := by decide +kernel
theorem dX6_digest_14 : decode cX6_digest 14 = .ok (.lstore_n 1, 1) := by decide +kernel
theorem dX6_digest_15 : decode cX6_digest 15 = .ok (.iconst 0, 1) := by decide +kernel
theorem dX6_digest_16 : decode cX6_digest 16 = .ok (.istore_n 3, 1) := by decide +kernel
theorem dX6_digest_17 : decode cX6_digest 17 = .ok (.iload_n 3, 1) := by decide +kernel
theorem dX6_digest_18 : decode cX6_digest 18 = .ok (.bipush 41, 2) := by decide +kernel
theorem dX6_digest_20 : decode cX6_digest 20 = .ok (.if_icmp .ge 22, 3) := by decide +kernel
theorem dX6_digest_23 : decode cX6_digest 23 = .ok (.ldc2_w 260, 3) := by decide +kernel
theorem dX6_digest_26 : decode cX6_digest 26 = .ok (.lload_n 1, 1) := by decide +kernel
theorem dX6_digest_27 : decode cX6_digest 27 = .ok (.lmul, 1) := by decide +kernel
theorem dX6_digest_28 : decode cX6_digest 28 = .ok (.aload_n 0, 1) := by decide +kernel
theorem dX6_digest_29 : decode cX6_digest 29 = .ok (.getfield 7, 3) := by decide +kernel
theorem dX6_digest_32 : decode cX6_digest 32 = .ok (.iload_n 3, 1) := by decide +kernel
theorem dX6_digest_33 : decode cX6_digest 33 = .ok (.laload, 1) := by decide +kernel
theorem dX6_digest_34 : decode cX6_digest 34 = .ok (.ladd, 1) := by decide +kernel
theorem dX6_digest_35 : decode cX6_digest 35 = .ok (.lstore_n 1, 1) := by decide +kernel
theorem dX6_digest_36 : decode cX6_digest 36 = .ok (.iinc 3 1, 3) := by decide +kernel
theorem dX6_digest_39 : decode cX6_digest 39 = .ok (.goto (-22), 3) := by decide +kernel
theorem dX6_digest_42 : decode cX6_digest 42 = .ok (.iconst 0, 1) := by decide +kernel
theorem dX6_digest_43 : decode cX6_digest 43 = .ok (.istore_n 3, 1) := by decide +kernel
theorem dX6_digest_44 : decode cX6_digest 44 = .ok (.iload_n 3, 1) := by decide +kernel
theorem dX6_digest_45 : decode cX6_digest 45 = .ok (.bipush 6, 2) := by decide +kernel
theorem dX6_digest_47 : decode cX6_digest 47 = .ok (.if_icmp .ge 22, 3) := by decide +kernel
theorem dX6_digest_50 : decode cX6_digest 50 = .ok (.ldc2_w 260, 3) := by decide +kernel
theorem dX6_digest_53 : decode cX6_digest 53 = .ok (.lload_n 1, 1) := by decide +kernel
theorem dX6_digest_54 : decode cX6_digest 54 = .ok (.lmul, 1) := by decide +kernel
theorem dX6_digest_55 : decode cX6_digest 55 = .ok (.aload_n 0, 1) := by decide +kernel
theorem dX6_digest_56 : decode cX6_digest 56 = .ok (.iload_n 3, 1) := by decide +kernel
theorem dX6_digest_57 : decode cX6_digest 57 = .ok (.invokevirtual 216, 3) := by decide +kernel
theorem dX6_digest_60 : decode cX6_digest 60 = .ok (.i2l, 1) := by decide +kernel
theorem dX6_digest_61 : decode cX6_digest 61 = .ok (.ladd, 1) := by decide +kernel
theorem dX6_digest_62 : decode cX6_digest 62 = .ok (.lstore_n 1, 1) := by decide +kernel
theorem dX6_digest_63 : decode cX6_digest 63 = .ok (.iinc 3 1, 3) := by decide +kernel
theorem dX6_digest_66 : decode cX6_digest 66 = .ok (.goto (-22), 3) := by decide +kernel
theorem dX6_digest_69 : decode cX6_digest 69 = .ok (.ldc2_w 260, 3) := by decide +kernel
theorem dX6_digest_72 : decode cX6_digest 72 = .ok (.ldc2_w 260, 3) := by decide +kernel
theorem dX6_digest_75 : decode cX6_digest 75 = .ok (.lload_n 1, 1) := by decide +kernel
theorem dX6_digest_76 : decode cX6_digest 76 = .ok (.lmul, 1) := by decide +kernel
theorem dX6_digest_77 : decode cX6_digest 77 = .ok (.aload_n 0, 1) := by decide +kernel
theorem dX6_digest_78 : decode cX6_digest 78 = .ok (.getfield 7, 3) := by decide +kernel
theorem dX6_digest_81 : decode cX6_digest 81 = .ok (.bipush 41, 2) := by decide +kernel
theorem dX6_digest_83 : decode cX6_digest 83 = .ok (.laload, 1) := by decide +kernel
theorem dX6_digest_84 : decode cX6_digest 84 = .ok (.ladd, 1) := by decide +kernel
theorem dX6_digest_85 : decode cX6_digest 85 = .ok (.lmul, 1) := by decide +kernel
theorem dX6_digest_86 : decode cX6_digest 86 = .ok (.aload_n 0, 1) := by decide +kernel
theorem dX6_digest_87 : decode cX6_digest 87 = .ok (.getfield 7, 3) := by decide +kernel
theorem dX6_digest_90 : decode cX6_digest 90 = .ok (.bipush 52, 2) := by decide +kernel
theorem dX6_digest_92 : decode cX6_digest 92 = .ok (.laload, 1) := by decide +kernel
theorem dX6_digest_93 : decode cX6_digest 93 = .ok (.ladd, 1) := by decide +kernel
theorem dX6_digest_94 : decode cX6_digest 94 = .ok (.lstore_n 1, 1) := by decide +kernel
theorem dX6_digest_95 : decode cX6_digest 95 = .ok (.iconst 0, 1) := by decide +kernel
theorem dX6_digest_96 : decode cX6_digest 96 = .ok (.istore_n 3, 1) := by decide +kernel
theorem dX6_digest_97 : decode cX6_digest 97 = .ok (.iload_n 3, 1) := by decide +kernel
theorem dX6_digest_98 : decode cX6_digest 98 = .ok (.i2l, 1) := by decide +kernel
theorem dX6_digest_99 : decode cX6_digest 99 = .ok (.ldc2_w 157, 3) := by decide +kernel
theorem dX6_digest_102 : decode cX6_digest 102 = .ok (.aload_n 0, 1) := by decide +kernel
theorem dX6_digest_103 : decode cX6_digest 103 = .ok (.getfield 7, 3) := by decide +kernel
theorem dX6_digest_106 : decode cX6_digest 106 = .ok (.bipush 52, 2) := by decide +kernel
theorem dX6_digest_108 : decode cX6_digest 108 = .ok (.laload, 1) := by decide +kernel
theorem dX6_digest_109 : decode cX6_digest 109 = .ok (.lmul, 1) := by decide +kernel
theorem dX6_digest_110 : decode cX6_digest 110 = .ok (.lcmp, 1) := by decide +kernel
theorem dX6_digest_111 : decode cX6_digest 111 = .ok (.ifCond .ge 25, 3) := by decide +kernel
theorem dX6_digest_114 : decode cX6_digest 114 = .ok (.ldc2_w 260, 3) := by decide +kernel
theorem dX6_digest_117 : decode cX6_digest 117 = .ok (.lload_n 1, 1) := by decide +kernel
theorem dX6_digest_118 : decode cX6_digest 118 = .ok (.lmul, 1) := by decide +kernel
theorem dX6_digest_119 : decode cX6_digest 119 = .ok (.aload_n 0, 1) := by decide +kernel
theorem dX6_digest_120 : decode cX6_digest 120 = .ok (.getfield 7, 3) := by decide +kernel
theorem dX6_digest_123 : decode cX6_digest 123 = .ok (.bipush 53, 2) := by decide +kernel
theorem dX6_digest_125 : decode cX6_digest 125 = .ok (.iload_n 3, 1) := by decide +kernel
theorem dX6_digest_126 : decode cX6_digest 126 = .ok (.iadd, 1) := by decide +kernel
theorem dX6_digest_127 : decode cX6_digest 127 = .ok (.laload, 1) := by decide +kernel
theorem dX6_digest_128 : decode cX6_digest 128 = .ok (.ladd, 1) := by decide +kernel
theorem dX6_digest_129 : decode cX6_digest 129 = .ok (.lstore_n 1, 1) := by decide +kernel
theorem dX6_digest_130 : decode cX6_digest 130 = .ok (.iinc 3 1, 3) := by decide +kernel
theorem dX6_digest_133 : decode cX6_digest 133 = .ok (.goto (-36), 3) := by decide +kernel
theorem dX6_digest_136 : decode cX6_digest 136 = .ok (.ldc2_w 260, 3) := by decide +kernel
theorem dX6_digest_139 : decode cX6_digest 139 = .ok (.lload_n 1, 1) := by decide +kernel
theorem dX6_digest_140 : decode cX6_digest 140 = .ok (.lmul, 1) := by decide +kernel
theorem dX6_digest_141 : decode cX6_digest 141 = .ok (.aload_n 0, 1) := by decide +kernel
theorem dX6_digest_142 : decode cX6_digest 142 = .ok (.getfield 90, 3) := by decide +kernel
theorem dX6_digest_145 : decode cX6_digest 145 = .ok (.i2l, 1) := by decide +kernel
theorem dX6_digest_146 : decode cX6_digest 146 = .ok (.ladd, 1) := by decide +kernel
theorem dX6_digest_147 : decode cX6_digest 147 = .ok (.lreturn, 1) := by decide +kernel
