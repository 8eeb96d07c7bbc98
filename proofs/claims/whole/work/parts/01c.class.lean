
theorem dX0_init_0 : decode cX0_init 0 = .ok (.aload_n 0, 1) := by decide +kernel
theorem dX0_init_1 : decode cX0_init 1 = .ok (.invokespecial 3, 3) := by decide +kernel
theorem dX0_init_4 : decode cX0_init 4 = .ok (.aload_n 0, 1) := by decide +kernel
theorem dX0_init_5 : decode cX0_init 5 = .ok (.sipush 160, 3) := by decide +kernel
theorem dX0_init_8 : decode cX0_init 8 = .ok (.newarray .int, 2) := by decide +kernel
theorem dX0_init_10 : decode cX0_init 10 = .ok (.putfield 11, 3) := by decide +kernel
theorem dX0_init_13 : decode cX0_init 13 = .ok (.return_, 1) := by decide +kernel
theorem dX0_size_0 : decode cX0_size 0 = .ok (.aload_n 0, 1) := by decide +kernel
theorem dX0_size_1 : decode cX0_size 1 = .ok (.getfield 15, 3) := by decide +kernel
theorem dX0_size_4 : decode cX0_size 4 = .ok (.ireturn, 1) := by decide +kernel
theorem dX0_empty_0 : decode cX0_empty 0 = .ok (.aload_n 0, 1) := by decide +kernel
theorem dX0_empty_1 : decode cX0_empty 1 = .ok (.iconst 0, 1) := by decide +kernel
theorem dX0_empty_2 : decode cX0_empty 2 = .ok (.putfield 15, 3) := by decide +kernel
theorem dX0_empty_5 : decode cX0_empty 5 = .ok (.return_, 1) := by decide +kernel
theorem dX0_part_0 : decode cX0_part 0 = .ok (.iload_n 1, 1) := by decide +kernel
theorem dX0_part_1 : decode cX0_part 1 = .ok (.iconst 4, 1) := by decide +kernel
theorem dX0_part_2 : decode cX0_part 2 = .ok (.imul, 1) := by decide +kernel
theorem dX0_part_3 : decode cX0_part 3 = .ok (.iload_n 2, 1) := by decide +kernel
theorem dX0_part_4 : decode cX0_part 4 = .ok (.iadd, 1) := by decide +kernel
theorem dX0_part_5 : decode cX0_part 5 = .ok (.istore_n 3, 1) := by decide +kernel
theorem dX0_part_6 : decode cX0_part 6 = .ok (.iload_n 3, 1) := by decide +kernel
theorem dX0_part_7 : decode cX0_part 7 = .ok (.ifCond .lt 21, 3) := by decide +kernel
theorem dX0_part_10 : decode cX0_part 10 = .ok (.iload_n 3, 1) := by decide +kernel
theorem dX0_part_11 : decode cX0_part 11 = .ok (.aload_n 0, 1) := by decide +kernel
theorem dX0_part_12 : decode cX0_part 12 = .ok (.getfield 11, 3) := by decide +kernel
theorem dX0_part_15 : decode cX0_part 15 = .ok (.arraylength, 1) := by decide +kernel
theorem dX0_part_16 : decode cX0_part 16 = .ok (.if_icmp .ge 12, 3) := by decide +kernel
theorem dX0_part_19 : decode cX0_part 19 = .ok (.aload_n 0, 1) := by decide +kernel
theorem dX0_part_20 : decode cX0_part 20 = .ok (.getfield 11, 3) := by decide +kernel
theorem dX0_part_23 : decode cX0_part 23 = .ok (.iload_n 3, 1) := by decide +kernel
theorem dX0_part_24 : decode cX0_part 24 = .ok (.iaload, 1) := by decide +kernel
theorem dX0_part_25 : decode cX0_part 25 = .ok (.goto 4, 3) := by decide +kernel
theorem dX0_part_28 : decode cX0_part 28 = .ok (.iconst (-1), 1) := by decide +kernel
theorem dX0_part_29 : decode cX0_part 29 = .ok (.ireturn, 1) := by decide +kernel
set_option maxRecDepth 20000 in
theorem ggX0_latestSoc_X0_part : GoodIn wsX0_latestSoc wsX0_part := goodIn_r _ [6, 7, 8, 9] rfl (by decide +kernel)
set_option maxRecDepth 20000 in
theorem gX0_latestSoc_X0_part : GoodIn wsX0_latestSoc (wsV RX0 19 RX0 yX0_part wsX0_part) := goodIn_app (goodIn_of _ (by decide +kernel)) ggX0_latestSoc_X0_part
theorem dX0_latestSoc_0 : decode cX0_latestSoc 0 = .ok (.aload_n 0, 1) := by decide +kernel
theorem dX0_latestSoc_1 : decode cX0_latestSoc 1 = .ok (.aload_n 0, 1) := by decide +kernel
theorem dX0_latestSoc_2 : decode cX0_latestSoc 2 = .ok (.getfield 15, 3) := by decide +kernel
theorem dX0_latestSoc_5 : decode cX0_latestSoc 5 = .ok (.iconst 1, 1) := by decide +kernel
theorem dX0_latestSoc_6 : decode cX0_latestSoc 6 = .ok (.isub, 1) := by decide +kernel
theorem dX0_latestSoc_7 : decode cX0_latestSoc 7 = .ok (.iconst 1, 1) := by decide +kernel
theorem dX0_latestSoc_8 : decode cX0_latestSoc 8 = .ok (.invokevirtual 19, 3) := by decide +kernel
theorem dX0_latestSoc_11 : decode cX0_latestSoc 11 = .ok (.ireturn, 1) := by decide +kernel
theorem dX0_add_0 : decode cX0_add 0 = .ok (.aload_n 0, 1) := by decide +kernel
theorem dX0_add_1 : decode cX0_add 1 = .ok (.getfield 15, 3) := by decide +kernel
theorem dX0_add_4 : decode cX0_add 4 = .ok (.bipush 40, 2) := by decide +kernel
theorem dX0_add_6 : decode cX0_add 6 = .ok (.if_icmp .lt 29, 3) := by decide +kernel
theorem dX0_add_9 : decode cX0_add 9 = .ok (.aload_n 0, 1) := by decide +kernel
theorem dX0_add_10 : decode cX0_add 10 = .ok (.getfield 11, 3) := by decide +kernel
theorem dX0_add_13 : decode cX0_add 13 = .ok (.iconst 4, 1) := by decide +kernel
theorem dX0_add_14 : decode cX0_add 14 = .ok (.aload_n 0, 1) := by decide +kernel
theorem dX0_add_15 : decode cX0_add 15 = .ok (.getfield 11, 3) := by decide +kernel
theorem dX0_add_18 : decode cX0_add 18 = .ok (.iconst 0, 1) := by decide +kernel
theorem dX0_add_19 : decode cX0_add 19 = .ok (.aload_n 0, 1) := by decide +kernel
theorem dX0_add_20 : decode cX0_add 20 = .ok (.getfield 11, 3) := by decide +kernel
theorem dX0_add_23 : decode cX0_add 23 = .ok (.arraylength, 1) := by decide +kernel
theorem dX0_add_24 : decode cX0_add 24 = .ok (.iconst 4, 1) := by decide +kernel
theorem dX0_add_25 : decode cX0_add 25 = .ok (.isub, 1) := by decide +kernel
theorem dX0_add_26 : decode cX0_add 26 = .ok (.invokestatic 23, 3) := by decide +kernel
theorem dX0_add_29 : decode cX0_add 29 = .ok (.aload_n 0, 1) := by decide +kernel
theorem dX0_add_30 : decode cX0_add 30 = .ok (.bipush 39, 2) := by decide +kernel
theorem dX0_add_32 : decode cX0_add 32 = .ok (.putfield 15, 3) := by decide +kernel
theorem dX0_add_35 : decode cX0_add 35 = .ok (.aload_n 0, 1) := by decide +kernel
theorem dX0_add_36 : decode cX0_add 36 = .ok (.getfield 15, 3) := by decide +kernel
theorem dX0_add_39 : decode cX0_add 39 = .ok (.iconst 4, 1) := by decide +kernel
theorem dX0_add_40 : decode cX0_add 40 = .ok (.imul, 1) := by decide +kernel
theorem dX0_add_41 : decode cX0_add 41 = .ok (.istore 5, 2) := by decide +kernel
theorem dX0_add_43 : decode cX0_add 43 = .ok (.aload_n 0, 1) := by decide +kernel
theorem dX0_add_44 : decode cX0_add 44 = .ok (.getfield 11, 3) := by decide +kernel
theorem dX0_add_47 : decode cX0_add 47 = .ok (.iload 5, 2) := by decide +kernel
theorem dX0_add_49 : decode cX0_add 49 = .ok (.iload_n 1, 1) := by decide +kernel
theorem dX0_add_50 : decode cX0_add 50 = .ok (.iastore, 1) := by decide +kernel
theorem dX0_add_51 : decode cX0_add 51 = .ok (.aload_n 0, 1) := by decide +kernel
theorem dX0_add_52 : decode cX0_add 52 = .ok (.getfield 11, 3) := by decide +kernel
theorem dX0_add_55 : decode cX0_add 55 = .ok (.iload 5, 2) := by decide +kernel
theorem dX0_add_57 : decode cX0_add 57 = .ok (.iconst 1, 1) := by decide +kernel
theorem dX0_add_58 : decode cX0_add 58 = .ok (.iadd, 1) := by decide +kernel
theorem dX0_add_59 : decode cX0_add 59 = .ok (.iload_n 2, 1) := by decide +kernel
theorem dX0_add_60 : decode cX0_add 60 = .ok (.iastore, 1) := by decide +kernel
theorem dX0_add_61 : decode cX0_add 61 = .ok (.aload_n 0, 1) := by decide +kernel
theorem dX0_add_62 : decode cX0_add 62 = .ok (.getfield 11, 3) := by decide +kernel
theorem dX0_add_65 : decode cX0_add 65 = .ok (.iload 5, 2) := by decide +kernel
theorem dX0_add_67 : decode cX0_add 67 = .ok (.iconst 2, 1) := by decide +kernel
theorem dX0_add_68 : decode cX0_add 68 = .ok (.iadd, 1) := by decide +kernel
theorem dX0_add_69 : decode cX0_add 69 = .ok (.iload_n 3, 1) := by decide +kernel
theorem dX0_add_70 : decode cX0_add 70 = .ok (.iastore, 1) := by decide +kernel
theorem dX0_add_71 : decode cX0_add 71 = .ok (.aload_n 0, 1) := by decide +kernel
theorem dX0_add_72 : decode cX0_add 72 = .ok (.getfield 11, 3) := by decide +kernel
theorem dX0_add_75 : decode cX0_add 75 = .ok (.iload 5, 2) := by decide +kernel
theorem dX0_add_77 : decode cX0_add 77 = .ok (.iconst 3, 1) := by decide +kernel
theorem dX0_add_78 : decode cX0_add 78 = .ok (.iadd, 1) := by decide +kernel
theorem dX0_add_79 : decode cX0_add 79 = .ok (.iload 4, 2) := by decide +kernel
theorem dX0_add_81 : decode cX0_add 81 = .ok (.iastore, 1) := by decide +kernel
theorem dX0_add_82 : decode cX0_add 82 = .ok (.aload_n 0, 1) := by decide +kernel
theorem dX0_add_83 : decode cX0_add 83 = .ok (.dup, 1) := by decide +kernel
theorem dX0_add_84 : decode cX0_add 84 = .ok (.getfield 15, 3) := by decide +kernel
theorem dX0_add_87 : decode cX0_add 87 = .ok (.iconst 1, 1) := by decide +kernel
theorem dX0_add_88 : decode cX0_add 88 = .ok (.iadd, 1) := by decide +kernel
theorem dX0_add_89 : decode cX0_add 89 = .ok (.putfield 15, 3) := by decide +kernel
theorem dX0_add_92 : decode cX0_add 92 = .ok (.return_, 1) := by decide +kernel
theorem dX0_copyFrom_0 : decode cX0_copyFrom 0 = .ok (.aload_n 1, 1) := by decide +kernel
theorem dX0_copyFrom_1 : decode cX0_copyFrom 1 = .ok (.getfield 11, 3) := by decide +kernel
theorem dX0_copyFrom_4 : decode cX0_copyFrom 4 = .ok (.iconst 0, 1) := by decide +kernel
theorem dX0_copyFrom_5 : decode cX0_copyFrom 5 = .ok (.aload_n 0, 1) := by decide +kernel
theorem dX0_copyFrom_6 : decode cX0_copyFrom 6 = .ok (.getfield 11, 3) := by decide +kernel
theorem dX0_copyFrom_9 : decode cX0_copyFrom 9 = .ok (.iconst 0, 1) := by decide +kernel
theorem dX0_copyFrom_10 : decode cX0_copyFrom 10 = .ok (.aload_n 0, 1) := by decide +kernel
theorem dX0_copyFrom_11 : decode cX0_copyFrom 11 = .ok (.getfield 11, 3) := by decide +kernel
theorem dX0_copyFrom_14 : decode cX0_copyFrom 14 = .ok (.arraylength, 1) := by decide +kernel
theorem dX0_copyFrom_15 : decode cX0_copyFrom 15 = .ok (.invokestatic 23, 3) := by decide +kernel
theorem dX0_copyFrom_18 : decode cX0_copyFrom 18 = .ok (.aload_n 0, 1) := by decide +kernel
theorem dX0_copyFrom_19 : decode cX0_copyFrom 19 = .ok (.aload_n 1, 1) := by decide +kernel
theorem dX0_copyFrom_20 : decode cX0_copyFrom 20 = .ok (.getfield 15, 3) := by decide +kernel
theorem dX0_copyFrom_23 : decode cX0_copyFrom 23 = .ok (.putfield 15, 3) := by decide +kernel
theorem dX0_copyFrom_26 : decode cX0_copyFrom 26 = .ok (.return_, 1) := by decide +kernel
set_option maxRecDepth 20000 in
theorem ggX0_mixInto_X5_mix : GoodIn wsX0_mixInto wsX5_mix := goodIn_r _ [9, 10] rfl (by decide +kernel)
set_option maxRecDepth 20000 in
theorem gX0_mixInto_X5_mix_n29 : GoodIn wsX0_mixInto (wsX5_mix) := ggX0_mixInto_X5_mix
theorem dX0_mixInto_0 : decode cX0_mixInto 0 = .ok (.lload_n 1, 1) := by decide +kernel
theorem dX0_mixInto_1 : decode cX0_mixInto 1 = .ok (.aload_n 0, 1) := by decide +kernel
theorem dX0_mixInto_2 : decode cX0_mixInto 2 = .ok (.getfield 15, 3) := by decide +kernel
theorem dX0_mixInto_5 : decode cX0_mixInto 5 = .ok (.i2l, 1) := by decide +kernel
theorem dX0_mixInto_6 : decode cX0_mixInto 6 = .ok (.invokestatic 29, 3) := by decide +kernel
theorem dX0_mixInto_9 : decode cX0_mixInto 9 = .ok (.lstore_n 3, 1) := by decide +kernel
theorem dX0_mixInto_10 : decode cX0_mixInto 10 = .ok (.aload_n 0, 1) := by decide +kernel
theorem dX0_mixInto_11 : decode cX0_mixInto 11 = .ok (.getfield 15, 3) := by decide +kernel
theorem dX0_mixInto_14 : decode cX0_mixInto 14 = .ok (.iconst 4, 1) := by decide +kernel
theorem dX0_mixInto_15 : decode cX0_mixInto 15 = .ok (.imul, 1) := by decide +kernel
theorem dX0_mixInto_16 : decode cX0_mixInto 16 = .ok (.aload_n 0, 1) := by decide +kernel
theorem dX0_mixInto_17 : decode cX0_mixInto 17 = .ok (.getfield 11, 3) := by decide +kernel
theorem dX0_mixInto_20 : decode cX0_mixInto 20 = .ok (.arraylength, 1) := by decide +kernel
theorem dX0_mixInto_21 : decode cX0_mixInto 21 = .ok (.invokestatic 33, 3) := by decide +kernel
theorem dX0_mixInto_24 : decode cX0_mixInto 24 = .ok (.istore 5, 2) := by decide +kernel
theorem dX0_mixInto_26 : decode cX0_mixInto 26 = .ok (.iconst 0, 1) := by decide +kernel
theorem dX0_mixInto_27 : decode cX0_mixInto 27 = .ok (.istore 6, 2) := by decide +kernel
theorem dX0_mixInto_29 : decode cX0_mixInto 29 = .ok (.iload 6, 2) := by decide +kernel
theorem dX0_mixInto_31 : decode cX0_mixInto 31 = .ok (.iload 5, 2) := by decide +kernel
theorem dX0_mixInto_33 : decode cX0_mixInto 33 = .ok (.if_icmp .ge 22, 3) := by decide +kernel
theorem dX0_mixInto_36 : decode cX0_mixInto 36 = .ok (.lload_n 3, 1) := by decide +kernel
theorem dX0_mixInto_37 : decode cX0_mixInto 37 = .ok (.aload_n 0, 1) := by decide +kernel
theorem dX0_mixInto_38 : decode cX0_mixInto 38 = .ok (.getfield 11, 3) := by decide +kernel
theorem dX0_mixInto_41 : decode cX0_mixInto 41 = .ok (.iload 6, 2) := by decide +kernel
theorem dX0_mixInto_43 : decode cX0_mixInto 43 = .ok (.iaload, 1) := by decide +kernel
theorem dX0_mixInto_44 : decode cX0_mixInto 44 = .ok (.i2l, 1) := by decide +kernel
theorem dX0_mixInto_45 : decode cX0_mixInto 45 = .ok (.invokestatic 29, 3) := by decide +kernel
theorem dX0_mixInto_48 : decode cX0_mixInto 48 = .ok (.lstore_n 3, 1) := by decide +kernel
theorem dX0_mixInto_49 : decode cX0_mixInto 49 = .ok (.iinc 6 1, 3) := by decide +kernel
theorem dX0_mixInto_52 : decode cX0_mixInto 52 = .ok (.goto (-23), 3) := by decide +kernel
theorem dX0_mixInto_55 : decode cX0_mixInto 55 = .ok (.lload_n 3, 1) := by decide +kernel
theorem dX0_mixInto_56 : decode cX0_mixInto 56 = .ok (.lreturn, 1) := by decide +kernel
set_option maxRecDepth 20000 in
theorem ggX1_init_X2_init : GoodIn wsX1_init wsX2_init := goodIn_r _ [21, 22, 2, 3, 4, 23, 24, 25, 74, 75] rfl (by decide +kernel)
set_option maxRecDepth 20000 in
theorem gX1_init_X2_init : GoodIn wsX1_init (wsX2_init) := ggX1_init_X2_init
set_option maxRecDepth 20000 in
theorem ggX1_init_X0_init : GoodIn wsX1_init wsX0_init := goodIn_r _ [27, 28, 2, 3, 4, 29, 76, 77] rfl (by decide +kernel)
set_option maxRecDepth 20000 in
theorem gX1_init_X0_init_n24 : GoodIn wsX1_init (wsX0_init) := ggX1_init_X0_init
set_option maxRecDepth 20000 in
theorem ggX1_init_X1_startAnew : GoodIn wsX1_init wsX1_startAnew := goodIn_r _ [34, 35, 36, 37, 38, 39, 40, 41, 42, 43, 44, 45, 46, 47, 48, 49, 50, 13, 51, 52, 53, 12, 54, 55, 56, 57, 58, 59, 60, 61, 62, 63, 64, 65, 66, 67, 68, 69, 70, 71, 72, 73, 76, 77] rfl (by decide +kernel)
set_option maxRecDepth 20000 in
theorem gX1_init_X1_startAnew : GoodIn wsX1_init (wsV RX1 40 RX1 yX1_startAnew wsX1_startAnew) := goodIn_app (goodIn_of _ (by decide +kernel)) ggX1_init_X1_startAnew
theorem dX1_init_0 : decode cX1_init 0 = .ok (.aload_n 0, 1) := by decide +kernel
theorem dX1_init_1 : decode cX1_init 1 = .ok (.invokespecial 3, 3) := by decide +kernel
theorem dX1_init_4 : decode cX1_init 4 = .ok (.aload_n 0, 1) := by decide +kernel
theorem dX1_init_5 : decode cX1_init 5 = .ok (.bipush 12, 2) := by decide +kernel
theorem dX1_init_7 : decode cX1_init 7 = .ok (.newarray .int, 2) := by decide +kernel
theorem dX1_init_9 : decode cX1_init 9 = .ok (.putfield 9, 3) := by decide +kernel
theorem dX1_init_12 : decode cX1_init 12 = .ok (.aload_n 0, 1) := by decide +kernel
theorem dX1_init_13 : decode cX1_init 13 = .ok (.new 15, 3) := by decide +kernel
theorem dX1_init_16 : decode cX1_init 16 = .ok (.dup, 1) := by decide +kernel
theorem dX1_init_17 : decode cX1_init 17 = .ok (.invokespecial 17, 3) := by decide +kernel
theorem dX1_init_20 : decode cX1_init 20 = .ok (.putfield 18, 3) := by decide +kernel
theorem dX1_init_23 : decode cX1_init 23 = .ok (.aload_n 0, 1) := by decide +kernel
theorem dX1_init_24 : decode cX1_init 24 = .ok (.new 22, 3) := by decide +kernel
theorem dX1_init_27 : decode cX1_init 27 = .ok (.dup, 1) := by decide +kernel
theorem dX1_init_28 : decode cX1_init 28 = .ok (.invokespecial 24, 3) := by decide +kernel
theorem dX1_init_31 : decode cX1_init 31 = .ok (.putfield 25, 3) := by decide +kernel
theorem dX1_init_34 : decode cX1_init 34 = .ok (.getstatic 29, 3) := by decide +kernel
theorem dX1_init_37 : decode cX1_init 37 = .ok (.iconst 0, 1) := by decide +kernel
theorem dX1_init_38 : decode cX1_init 38 = .ok (.aload_n 0, 1) := by decide +kernel
theorem dX1_init_39 : decode cX1_init 39 = .ok (.getfield 9, 3) := by decide +kernel
theorem dX1_init_42 : decode cX1_init 42 = .ok (.iconst 0, 1) := by decide +kernel
theorem dX1_init_43 : decode cX1_init 43 = .ok (.bipush 12, 2) := by decide +kernel
theorem dX1_init_45 : decode cX1_init 45 = .ok (.invokestatic 32, 3) := by decide +kernel
theorem dX1_init_48 : decode cX1_init 48 = .ok (.aload_n 0, 1) := by decide +kernel
theorem dX1_init_49 : decode cX1_init 49 = .ok (.ldc2_w 38, 3) := by decide +kernel
theorem dX1_init_52 : decode cX1_init 52 = .ok (.invokevirtual 40, 3) := by decide +kernel
theorem dX1_init_55 : decode cX1_init 55 = .ok (.return_, 1) := by decide +kernel
set_option maxRecDepth 20000 in
theorem ggX1_startAnew_X0_empty : GoodIn wsX1_startAnew wsX0_empty := goodIn_r _ [22, 23, 42, 43] rfl (by decide +kernel)
set_option maxRecDepth 20000 in
theorem gX1_startAnew_X0_empty : GoodIn wsX1_startAnew (wsV RX1 94 RX0 yX0_empty wsX0_empty) := goodIn_app (goodIn_of _ (by decide +kernel)) ggX1_startAnew_X0_empty
theorem dX1_startAnew_0 : decode cX1_startAnew 0 = .ok (.aload_n 0, 1) := by decide +kernel
theorem dX1_startAnew_1 : decode cX1_startAnew 1 = .ok (.lload_n 1, 1) := by decide +kernel
theorem dX1_startAnew_2 : decode cX1_startAnew 2 = .ok (.putfield 44, 3) := by decide +kernel
theorem dX1_startAnew_5 : decode cX1_startAnew 5 = .ok (.aload_n 0, 1) := by decide +kernel
theorem dX1_startAnew_6 : decode cX1_startAnew 6 = .ok (.lload_n 1, 1) := by decide +kernel
theorem dX1_startAnew_7 : decode cX1_startAnew 7 = .ok (.putfield 48, 3) := by decide +kernel
theorem dX1_startAnew_10 : decode cX1_startAnew 10 = .ok (.aload_n 0, 1) := by decide +kernel
theorem dX1_startAnew_11 : decode cX1_startAnew 11 = .ok (.lload_n 1, 1) := by decide +kernel
theorem dX1_startAnew_12 : decode cX1_startAnew 12 = .ok (.ldc2_w 51, 3) := by decide +kernel
theorem dX1_startAnew_15 : decode cX1_startAnew 15 = .ok (.ldiv, 1) := by decide +kernel
theorem dX1_startAnew_16 : decode cX1_startAnew 16 = .ok (.putfield 53, 3) := by decide +kernel
theorem dX1_startAnew_19 : decode cX1_startAnew 19 = .ok (.aload_n 0, 1) := by decide +kernel
theorem dX1_startAnew_20 : decode cX1_startAnew 20 = .ok (.lconst 0, 1) := by decide +kernel
theorem dX1_startAnew_21 : decode cX1_startAnew 21 = .ok (.putfield 56, 3) := by decide +kernel
theorem dX1_startAnew_24 : decode cX1_startAnew 24 = .ok (.aload_n 0, 1) := by decide +kernel
theorem dX1_startAnew_25 : decode cX1_startAnew 25 = .ok (.lload_n 1, 1) := by decide +kernel
theorem dX1_startAnew_26 : decode cX1_startAnew 26 = .ok (.putfield 59, 3) := by decide +kernel
theorem dX1_startAnew_29 : decode cX1_startAnew 29 = .ok (.aload_n 0, 1) := by decide +kernel
theorem dX1_startAnew_30 : decode cX1_startAnew 30 = .ok (.lconst 0, 1) := by decide +kernel
theorem dX1_startAnew_31 : decode cX1_startAnew 31 = .ok (.putfield 62, 3) := by decide +kernel
theorem dX1_startAnew_34 : decode cX1_startAnew 34 = .ok (.aload_n 0, 1) := by decide +kernel
theorem dX1_startAnew_35 : decode cX1_startAnew 35 = .ok (.lconst 0, 1) := by decide +kernel
theorem dX1_startAnew_36 : decode cX1_startAnew 36 = .ok (.putfield 65, 3) := by decide +kernel
theorem dX1_startAnew_39 : decode cX1_startAnew 39 = .ok (.aload_n 0, 1) := by decide +kernel
theorem dX1_startAnew_40 : decode cX1_startAnew 40 = .ok (.lconst 0, 1) := by decide +kernel
theorem dX1_startAnew_41 : decode cX1_startAnew 41 = .ok (.putfield 68, 3) := by decide +kernel
theorem dX1_startAnew_44 : decode cX1_startAnew 44 = .ok (.aload_n 0, 1) := by decide +kernel
theorem dX1_startAnew_45 : decode cX1_startAnew 45 = .ok (.iconst 0, 1) := by decide +kernel
theorem dX1_startAnew_46 : decode cX1_startAnew 46 = .ok (.putfield 71, 3) := by decide +kernel
theorem dX1_startAnew_49 : decode cX1_startAnew 49 = .ok (.aload_n 0, 1) := by decide +kernel
theorem dX1_startAnew_50 : decode cX1_startAnew 50 = .ok (.iconst 0, 1) := by decide +kernel
theorem dX1_startAnew_51 : decode cX1_startAnew 51 = .ok (.putfield 75, 3) := by decide +kernel
theorem dX1_startAnew_54 : decode cX1_startAnew 54 = .ok (.aload_n 0, 1) := by decide +kernel
theorem dX1_startAnew_55 : decode cX1_startAnew 55 = .ok (.iconst 0, 1) := by decide +kernel
theorem dX1_startAnew_56 : decode cX1_startAnew 56 = .ok (.putfield 78, 3) := by decide +kernel
theorem dX1_startAnew_59 : decode cX1_startAnew 59 = .ok (.aload_n 0, 1) := by decide +kernel
theorem dX1_startAnew_60 : decode cX1_startAnew 60 = .ok (.iconst 0, 1) := by decide +kernel
theorem dX1_startAnew_61 : decode cX1_startAnew 61 = .ok (.putfield 81, 3) := by decide +kernel
theorem dX1_startAnew_64 : decode cX1_startAnew 64 = .ok (.aload_n 0, 1) := by decide +kernel
theorem dX1_startAnew_65 : decode cX1_startAnew 65 = .ok (.iconst 0, 1) := by decide +kernel
theorem dX1_startAnew_66 : decode cX1_startAnew 66 = .ok (.putfield 84, 3) := by decide +kernel
theorem dX1_startAnew_69 : decode cX1_startAnew 69 = .ok (.aload_n 0, 1) := by decide +kernel
theorem dX1_startAnew_70 : decode cX1_startAnew 70 = .ok (.iconst (-1), 1) := by decide +kernel
theorem dX1_startAnew_71 : decode cX1_startAnew 71 = .ok (.putfield 87, 3) := by decide +kernel
theorem dX1_startAnew_74 : decode cX1_startAnew 74 = .ok (.aload_n 0, 1) := by decide +kernel
theorem dX1_startAnew_75 : decode cX1_startAnew 75 = .ok (.iconst 0, 1) := by decide +kernel
theorem dX1_startAnew_76 : decode cX1_startAnew 76 = .ok (.putfield 90, 3) := by decide +kernel
theorem dX1_startAnew_79 : decode cX1_startAnew 79 = .ok (.aload_n 0, 1) := by decide +kernel
theorem dX1_startAnew_80 : decode cX1_startAnew 80 = .ok (.getfield 25, 3) := by decide +kernel
theorem dX1_startAnew_83 : decode cX1_startAnew 83 = .ok (.invokevirtual 94, 3) := by decide +kernel
theorem dX1_startAnew_86 : decode cX1_startAnew 86 = .ok (.return_, 1) := by decide +kernel
set_option maxRecDepth 20000 in
theorem ggX1_startAtSoc_X1_chargeAt : GoodIn wsX1_startAtSoc wsX1_chargeAt := goodIn_r _ [8, 9, 10, 11, 12, 13, 14, 15, 16, 17, 18, 19, 20, 21, 22, 23, 24, 25, 26, 27, 28] rfl (by decide +kernel)
set_option maxRecDepth 20000 in
theorem gX1_startAtSoc_X1_chargeAt : GoodIn wsX1_startAtSoc (wsV RX1 97 RX1 yX1_chargeAt wsX1_chargeAt) := goodIn_app (goodIn_of _ (by decide +kernel)) ggX1_startAtSoc_X1_chargeAt
theorem dX1_startAtSoc_0 : decode cX1_startAtSoc 0 = .ok (.aload_n 0, 1) := by decide +kernel
theorem dX1_startAtSoc_1 : decode cX1_startAtSoc 1 = .ok (.aload_n 0, 1) := by decide +kernel
theorem dX1_startAtSoc_2 : decode cX1_startAtSoc 2 = .ok (.iload_n 1, 1) := by decide +kernel
theorem dX1_startAtSoc_3 : decode cX1_startAtSoc 3 = .ok (.invokevirtual 97, 3) := by decide +kernel
theorem dX1_startAtSoc_6 : decode cX1_startAtSoc 6 = .ok (.putfield 53, 3) := by decide +kernel
theorem dX1_startAtSoc_9 : decode cX1_startAtSoc 9 = .ok (.aload_n 0, 1) := by decide +kernel
theorem dX1_startAtSoc_10 : decode cX1_startAtSoc 10 = .ok (.aload_n 0, 1) := by decide +kernel
theorem dX1_startAtSoc_11 : decode cX1_startAtSoc 11 = .ok (.getfield 53, 3) := by decide +kernel
theorem dX1_startAtSoc_14 : decode cX1_startAtSoc 14 = .ok (.putfield 56, 3) := by decide +kernel
theorem dX1_startAtSoc_17 : decode cX1_startAtSoc 17 = .ok (.aload_n 0, 1) := by decide +kernel
theorem dX1_startAtSoc_18 : decode cX1_startAtSoc 18 = .ok (.aload_n 0, 1) := by decide +kernel
theorem dX1_startAtSoc_19 : decode cX1_startAtSoc 19 = .ok (.getfield 53, 3) := by decide +kernel
theorem dX1_startAtSoc_22 : decode cX1_startAtSoc 22 = .ok (.putfield 59, 3) := by decide +kernel
theorem dX1_startAtSoc_25 : decode cX1_startAtSoc 25 = .ok (.return_, 1) := by decide +kernel
set_option maxRecDepth 20000 in
theorem ggX1_copyFrom_X2_copyFrom : GoodIn wsX1_copyFrom wsX2_copyFrom := goodIn_r _ [27, 28, 29, 3, 4, 5, 30, 57, 58] rfl (by decide +kernel)
set_option maxRecDepth 20000 in
theorem gX1_copyFrom_X2_copyFrom : GoodIn wsX1_copyFrom (wsV RX1 101 RX2 yX2_copyFrom wsX2_copyFrom) := goodIn_app (goodIn_of _ (by decide +kernel)) ggX1_copyFrom_X2_copyFrom
set_option maxRecDepth 20000 in
theorem ggX1_copyFrom_X0_copyFrom : GoodIn wsX1_copyFrom wsX0_copyFrom := goodIn_r _ [35, 36, 37, 3, 4, 5, 38, 59, 60] rfl (by decide +kernel)
set_option maxRecDepth 20000 in
theorem gX1_copyFrom_X0_copyFrom : GoodIn wsX1_copyFrom (wsV RX1 105 RX0 yX0_copyFrom wsX0_copyFrom) := goodIn_app (goodIn_of _ (by decide +kernel)) ggX1_copyFrom_X0_copyFrom
theorem dX1_copyFrom_0 : decode cX1_copyFrom 0 = .ok (.aload_n 1, 1) := by decide +kernel
theorem dX1_copyFrom_1 : decode cX1_copyFrom 1 = .ok (.getfield 9, 3) := by decide +kernel
theorem dX1_copyFrom_4 : decode cX1_copyFrom 4 = .ok (.iconst 0, 1) := by decide +kernel
theorem dX1_copyFrom_5 : decode cX1_copyFrom 5 = .ok (.aload_n 0, 1) := by decide +kernel
theorem dX1_copyFrom_6 : decode cX1_copyFrom 6 = .ok (.getfield 9, 3) := by decide +kernel
theorem dX1_copyFrom_9 : decode cX1_copyFrom 9 = .ok (.iconst 0, 1) := by decide +kernel
theorem dX1_copyFrom_10 : decode cX1_copyFrom 10 = .ok (.bipush 12, 2) := by decide +kernel
theorem dX1_copyFrom_12 : decode cX1_copyFrom 12 = .ok (.invokestatic 32, 3) := by decide +kernel
theorem dX1_copyFrom_15 : decode cX1_copyFrom 15 = .ok (.aload_n 0, 1) := by decide +kernel
theorem dX1_copyFrom_16 : decode cX1_copyFrom 16 = .ok (.getfield 18, 3) := by decide +kernel
theorem dX1_copyFrom_19 : decode cX1_copyFrom 19 = .ok (.aload_n 1, 1) := by decide +kernel
theorem dX1_copyFrom_20 : decode cX1_copyFrom 20 = .ok (.getfield 18, 3) := by decide +kernel
theorem dX1_copyFrom_23 : decode cX1_copyFrom 23 = .ok (.invokevirtual 101, 3) := by decide +kernel
theorem dX1_copyFrom_26 : decode cX1_copyFrom 26 = .ok (.aload_n 0, 1) := by decide +kernel
theorem dX1_copyFrom_27 : decode cX1_copyFrom 27 = .ok (.getfield 25, 3) := by decide +kernel
theorem dX1_copyFrom_30 : decode cX1_copyFrom 30 = .ok (.aload_n 1, 1) := by decide +kernel
theorem dX1_copyFrom_31 : decode cX1_copyFrom 31 = .ok (.getfield 25, 3) := by decide +kernel
theorem dX1_copyFrom_34 : decode cX1_copyFrom 34 = .ok (.invokevirtual 105, 3) := by decide +kernel
theorem dX1_copyFrom_37 : decode cX1_copyFrom 37 = .ok (.aload_n 0, 1) := by decide +kernel
theorem dX1_copyFrom_38 : decode cX1_copyFrom 38 = .ok (.aload_n 1, 1) := by decide +kernel
theorem dX1_copyFrom_39 : decode cX1_copyFrom 39 = .ok (.getfield 44, 3) := by decide +kernel
theorem dX1_copyFrom_42 : decode cX1_copyFrom 42 = .ok (.putfield 44, 3) := by decide +kernel
theorem dX1_copyFrom_45 : decode cX1_copyFrom 45 = .ok (.aload_n 0, 1) := by decide +kernel
theorem dX1_copyFrom_46 : decode cX1_copyFrom 46 = .ok (.aload_n 1, 1) := by decide +kernel
theorem dX1_copyFrom_47 : decode cX1_copyFrom 47 = .ok (.getfield 48, 3) := by decide +kernel
theorem dX1_copyFrom_50 : decode cX1_copyFrom 50 = .ok (.putfield 48, 3) := by decide +kernel
theorem dX1_copyFrom_53 : decode cX1_copyFrom 53 = .ok (.aload_n 0, 1) := by decide +kernel
theorem dX1_copyFrom_54 : decode cX1_copyFrom 54 = .ok (.aload_n 1, 1) := by decide +kernel
theorem dX1_copyFrom_55 : decode cX1_copyFrom 55 = .ok (.getfield 53, 3) := by decide +kernel
theorem dX1_copyFrom_58 : decode cX1_copyFrom 58 = .ok (.putfield 53, 3) := by decide +kernel
theorem dX1_copyFrom_61 : decode cX1_copyFrom 61 = .ok (.aload_n 0, 1) := by decide +kernel
theorem dX1_copyFrom_62 : decode cX1_copyFrom 62 = .ok (.aload_n 1, 1) := by decide +kernel
theorem dX1_copyFrom_63 : decode cX1_copyFrom 63 = .ok (.getfield 56, 3) := by decide +kernel
theorem dX1_copyFrom_66 : decode cX1_copyFrom 66 = .ok (.putfield 56, 3) := by decide +kernel
theorem dX1_copyFrom_69 : decode cX1_copyFrom 69 = .ok (.aload_n 0, 1) := by decide +kernel
theorem dX1_copyFrom_70 : decode cX1_copyFrom 70 = .ok (.aload_n 1, 1) := by decide +kernel
theorem dX1_copyFrom_71 : decode cX1_copyFrom 71 = .ok (.getfield 59, 3) := by decide +kernel
theorem dX1_copyFrom_74 : decode cX1_copyFrom 74 = .ok (.putfield 59, 3) := by decide +kernel
theorem dX1_copyFrom_77 : decode cX1_copyFrom 77 = .ok (.aload_n 0, 1) := by decide +kernel
theorem dX1_copyFrom_78 : decode cX1_copyFrom 78 = .ok (.aload_n 1, 1) := by decide +kernel
theorem dX1_copyFrom_79 : decode cX1_copyFrom 79 = .ok (.getfield 62, 3) := by decide +kernel
theorem dX1_copyFrom_82 : decode cX1_copyFrom 82 = .ok (.putfield 62, 3) := by decide +kernel
theorem dX1_copyFrom_85 : decode cX1_copyFrom 85 = .ok (.aload_n 0, 1) := by decide +kernel
theorem dX1_copyFrom_86 : decode cX1_copyFrom 86 = .ok (.aload_n 1, 1) := by decide +kernel
theorem dX1_copyFrom_87 : decode cX1_copyFrom 87 = .ok (.getfield 65, 3) := by decide +kernel
theorem dX1_copyFrom_90 : decode cX1_copyFrom 90 = .ok (.putfield 65, 3) := by decide +kernel
theorem dX1_copyFrom_93 : decode cX1_copyFrom 93 = .ok (.aload_n 0, 1) := by decide +kernel
theorem dX1_copyFrom_94 : decode cX1_copyFrom 94 = .ok (.aload_n 1, 1) := by decide +kernel
theorem dX1_copyFrom_95 : decode cX1_copyFrom 95 = .ok (.getfield 68, 3) := by decide +kernel
theorem dX1_copyFrom_98 : decode cX1_copyFrom 98 = .ok (.putfield 68, 3) := by decide +kernel
theorem dX1_copyFrom_101 : decode cX1_copyFrom 101 = .ok (.aload_n 0, 1) := by decide +kernel
theorem dX1_copyFrom_102 : decode cX1_copyFrom 102 = .ok (.aload_n 1, 1) := by decide +kernel
theorem dX1_copyFrom_103 : decode cX1_copyFrom 103 = .ok (.getfield 71, 3) := by decide +kernel
theorem dX1_copyFrom_106 : decode cX1_copyFrom 106 = .ok (.putfield 71, 3) := by decide +kernel
theorem dX1_copyFrom_109 : decode cX1_copyFrom 109 = .ok (.aload_n 0, 1) := by decide +kernel
theorem dX1_copyFrom_110 : decode cX1_copyFrom 110 = .ok (.aload_n 1, 1) := by decide +kernel
theorem dX1_copyFrom_111 : decode cX1_copyFrom 111 = .ok (.getfield 75, 3) := by decide +kernel
theorem dX1_copyFrom_114 : decode cX1_copyFrom 114 = .ok (.putfield 75, 3) := by decide +kernel
theorem dX1_copyFrom_117 : decode cX1_copyFrom 117 = .ok (.aload_n 0, 1) := by decide +kernel
theorem dX1_copyFrom_118 : decode cX1_copyFrom 118 = .ok (.aload_n 1, 1) := by decide +kernel
theorem dX1_copyFrom_119 : decode cX1_copyFrom 119 = .ok (.getfield 78, 3) := by decide +kernel
theorem dX1_copyFrom_122 : decode cX1_copyFrom 122 = .ok (.putfield 78, 3) := by decide +kernel
theorem dX1_copyFrom_125 : decode cX1_copyFrom 125 = .ok (.aload_n 0, 1) := by decide +kernel
theorem dX1_copyFrom_126 : decode cX1_copyFrom 126 = .ok (.aload_n 1, 1) := by decide +kernel
theorem dX1_copyFrom_127 : decode cX1_copyFrom 127 = .ok (.getfield 81, 3) := by decide +kernel
theorem dX1_copyFrom_130 : decode cX1_copyFrom 130 = .ok (.putfield 81, 3) := by decide +kernel
theorem dX1_copyFrom_133 : decode cX1_copyFrom 133 = .ok (.aload_n 0, 1) := by decide +kernel
theorem dX1_copyFrom_134 : decode cX1_copyFrom 134 = .ok (.aload_n 1, 1) := by decide +kernel
theorem dX1_copyFrom_135 : decode cX1_copyFrom 135 = .ok (.getfield 84, 3) := by decide +kernel
theorem dX1_copyFrom_138 : decode cX1_copyFrom 138 = .ok (.putfield 84, 3) := by decide +kernel
theorem dX1_copyFrom_141 : decode cX1_copyFrom 141 = .ok (.aload_n 0, 1) := by decide +kernel
theorem dX1_copyFrom_142 : decode cX1_copyFrom 142 = .ok (.aload_n 1, 1) := by decide +kernel
theorem dX1_copyFrom_143 : decode cX1_copyFrom 143 = .ok (.getfield 87, 3) := by decide +kernel
theorem dX1_copyFrom_146 : decode cX1_copyFrom 146 = .ok (.putfield 87, 3) := by decide +kernel
theorem dX1_copyFrom_149 : decode cX1_copyFrom 149 = .ok (.aload_n 0, 1) := by decide +kernel
theorem dX1_copyFrom_150 : decode cX1_copyFrom 150 = .ok (.aload_n 1, 1) := by decide +kernel
theorem dX1_copyFrom_151 : decode cX1_copyFrom 151 = .ok (.getfield 90, 3) := by decide +kernel
theorem dX1_copyFrom_154 : decode cX1_copyFrom 154 = .ok (.putfield 90, 3) := by decide +kernel
theorem dX1_copyFrom_157 : decode cX1_copyFrom 157 = .ok (.return_, 1) := by decide +kernel
set_option maxRecDepth 20000 in
theorem ggX1_changeSetting_X1_hysteresisRange : GoodIn wsX1_changeSetting wsX1_hysteresisRange := goodIn_r _ [11, 12, 1, 13, 14, 15, 16, 17, 18, 19, 20, 21, 22, 23, 24, 25, 26, 27, 28, 29, 30, 31] rfl (by decide +kernel)
set_option maxRecDepth 20000 in
theorem gX1_changeSetting_X1_hysteresisRange : GoodIn wsX1_changeSetting (wsV RX1 108 RX1 yX1_hysteresisRange wsX1_hysteresisRange) := goodIn_app (goodIn_of _ (by decide +kernel)) ggX1_changeSetting_X1_hysteresisRange
theorem dX1_changeSetting_0 : decode cX1_changeSetting 0 = .ok (.aload_n 0, 1) := by decide +kernel
theorem dX1_changeSetting_1 : decode cX1_changeSetting 1 = .ok (.getfield 9, 3) := by decide +kernel
theorem dX1_changeSetting_4 : decode cX1_changeSetting 4 = .ok (.iload_n 1, 1) := by decide +kernel
theorem dX1_changeSetting_5 : decode cX1_changeSetting 5 = .ok (.iaload, 1) := by decide +kernel
theorem dX1_changeSetting_6 : decode cX1_changeSetting 6 = .ok (.istore_n 3, 1) := by decide +kernel
theorem dX1_changeSetting_7 : decode cX1_changeSetting 7 = .ok (.aload_n 0, 1) := by decide +kernel
theorem dX1_changeSetting_8 : decode cX1_changeSetting 8 = .ok (.getfield 9, 3) := by decide +kernel
theorem dX1_changeSetting_11 : decode cX1_changeSetting 11 = .ok (.iload_n 1, 1) := by decide +kernel
theorem dX1_changeSetting_12 : decode cX1_changeSetting 12 = .ok (.iload_n 2, 1) := by decide +kernel
theorem dX1_changeSetting_13 : decode cX1_changeSetting 13 = .ok (.iastore, 1) := by decide +kernel
theorem dX1_changeSetting_14 : decode cX1_changeSetting 14 = .ok (.aload_n 0, 1) := by decide +kernel
theorem dX1_changeSetting_15 : decode cX1_changeSetting 15 = .ok (.aload_n 0, 1) := by decide +kernel
theorem dX1_changeSetting_16 : decode cX1_changeSetting 16 = .ok (.getfield 62, 3) := by decide +kernel
theorem dX1_changeSetting_19 : decode cX1_changeSetting 19 = .ok (.aload_n 0, 1) := by decide +kernel
theorem dX1_changeSetting_20 : decode cX1_changeSetting 20 = .ok (.invokevirtual 108, 3) := by decide +kernel
theorem dX1_changeSetting_23 : decode cX1_changeSetting 23 = .ok (.invokestatic 112, 3) := by decide +kernel
theorem dX1_changeSetting_26 : decode cX1_changeSetting 26 = .ok (.putfield 62, 3) := by decide +kernel
theorem dX1_changeSetting_29 : decode cX1_changeSetting 29 = .ok (.iload_n 3, 1) := by decide +kernel
theorem dX1_changeSetting_30 : decode cX1_changeSetting 30 = .ok (.ireturn, 1) := by decide +kernel
theorem dX1_chargeOf_0 : decode cX1_chargeOf 0 = .ok (.iload_n 1, 1) := by decide +kernel
theorem dX1_chargeOf_1 : decode cX1_chargeOf 1 = .ok (.tableswitch 69 0 5 #[39, 44, 49, 54, 59, 64], 39) := by decide +kernel
theorem dX1_chargeOf_40 : decode cX1_chargeOf 40 = .ok (.aload_n 0, 1) := by decide +kernel
theorem dX1_chargeOf_41 : decode cX1_chargeOf 41 = .ok (.getfield 53, 3) := by decide +kernel
theorem dX1_chargeOf_44 : decode cX1_chargeOf 44 = .ok (.lreturn, 1) := by decide +kernel
theorem dX1_chargeOf_45 : decode cX1_chargeOf 45 = .ok (.aload_n 0, 1) := by decide +kernel
theorem dX1_chargeOf_46 : decode cX1_chargeOf 46 = .ok (.getfield 56, 3) := by decide +kernel
theorem dX1_chargeOf_49 : decode cX1_chargeOf 49 = .ok (.lreturn, 1) := by decide +kernel
theorem dX1_chargeOf_50 : decode cX1_chargeOf 50 = .ok (.aload_n 0, 1) := by decide +kernel
theorem dX1_chargeOf_51 : decode cX1_chargeOf 51 = .ok (.getfield 59, 3) := by decide +kernel
theorem dX1_chargeOf_54 : decode cX1_chargeOf 54 = .ok (.lreturn, 1) := by decide +kernel
theorem dX1_chargeOf_55 : decode cX1_chargeOf 55 = .ok (.aload_n 0, 1) := by decide +kernel
theorem dX1_chargeOf_56 : decode cX1_chargeOf 56 = .ok (.getfield 48, 3) := by decide +kernel
theorem dX1_chargeOf_59 : decode cX1_chargeOf 59 = .ok (.lreturn, 1) := by decide +kernel
theorem dX1_chargeOf_60 : decode cX1_chargeOf 60 = .ok (.aload_n 0, 1) := by decide +kernel
theorem dX1_chargeOf_61 : decode cX1_chargeOf 61 = .ok (.getfield 44, 3) := by decide +kernel
theorem dX1_chargeOf_64 : decode cX1_chargeOf 64 = .ok (.lreturn, 1) := by decide +kernel
theorem dX1_chargeOf_65 : decode cX1_chargeOf 65 = .ok (.aload_n 0, 1) := by decide +kernel
theorem dX1_chargeOf_66 : decode cX1_chargeOf 66 = .ok (.getfield 62, 3) := by decide +kernel
theorem dX1_chargeOf_69 : decode cX1_chargeOf 69 = .ok (.lreturn, 1) := by decide +kernel
theorem dX1_chargeOf_70 : decode cX1_chargeOf 70 = .ok (.aload_n 0, 1) := by decide +kernel
theorem dX1_chargeOf_71 : decode cX1_chargeOf 71 = .ok (.getfield 68, 3) := by decide +kernel
theorem dX1_chargeOf_74 : decode cX1_chargeOf 74 = .ok (.lreturn, 1) := by decide +kernel
set_option maxRecDepth 20000 in
theorem ggX1_statusOf_X1_hysteresisState : GoodIn wsX1_statusOf wsX1_hysteresisState := goodIn_r _ [10, 11, 12, 13, 14, 15, 9, 16, 17, 18, 19, 20, 21, 22, 23, 24, 25, 26, 27, 28, 29, 30, 31, 32, 33, 34, 35, 36, 37] rfl (by decide +kernel)
set_option maxRecDepth 20000 in
theorem gX1_statusOf_X1_hysteresisState : GoodIn wsX1_statusOf (wsV RX1 118 RX1 yX1_hysteresisState wsX1_hysteresisState) := goodIn_app (goodIn_of _ (by decide +kernel)) ggX1_statusOf_X1_hysteresisState
theorem dX1_statusOf_0 : decode cX1_statusOf 0 = .ok (.iload_n 1, 1) := by decide +kernel
theorem dX1_statusOf_1 : decode cX1_statusOf 1 = .ok (.tableswitch 60 0 4 #[35, 40, 45, 50, 55], 35) := by decide +kernel
theorem dX1_statusOf_36 : decode cX1_statusOf 36 = .ok (.aload_n 0, 1) := by decide +kernel
theorem dX1_statusOf_37 : decode cX1_statusOf 37 = .ok (.getfield 75, 3) := by decide +kernel
theorem dX1_statusOf_40 : decode cX1_statusOf 40 = .ok (.ireturn, 1) := by decide +kernel
theorem dX1_statusOf_41 : decode cX1_statusOf 41 = .ok (.aload_n 0, 1) := by decide +kernel
theorem dX1_statusOf_42 : decode cX1_statusOf 42 = .ok (.getfield 78, 3) := by decide +kernel
theorem dX1_statusOf_45 : decode cX1_statusOf 45 = .ok (.ireturn, 1) := by decide +kernel
theorem dX1_statusOf_46 : decode cX1_statusOf 46 = .ok (.aload_n 0, 1) := by decide +kernel
theorem dX1_statusOf_47 : decode cX1_statusOf 47 = .ok (.invokevirtual 118, 3) := by decide +kernel
theorem dX1_statusOf_50 : decode cX1_statusOf 50 = .ok (.ireturn, 1) := by decide +kernel
theorem dX1_statusOf_51 : decode cX1_statusOf 51 = .ok (.aload_n 0, 1) := by decide +kernel
theorem dX1_statusOf_52 : decode cX1_statusOf 52 = .ok (.getfield 81, 3) := by decide +kernel
theorem dX1_statusOf_55 : decode cX1_statusOf 55 = .ok (.ireturn, 1) := by decide +kernel
theorem dX1_statusOf_56 : decode cX1_statusOf 56 = .ok (.aload_n 0, 1) := by decide +kernel
theorem dX1_statusOf_57 : decode cX1_statusOf 57 = .ok (.getfield 84, 3) := by decide +kernel
theorem dX1_statusOf_60 : decode cX1_statusOf 60 = .ok (.ireturn, 1) := by decide +kernel
theorem dX1_statusOf_61 : decode cX1_statusOf 61 = .ok (.aload_n 0, 1) := by decide +kernel
theorem dX1_statusOf_62 : decode cX1_statusOf 62 = .ok (.getfield 71, 3) := by decide +kernel
theorem dX1_statusOf_65 : decode cX1_statusOf 65 = .ok (.ireturn, 1) := by decide +kernel
theorem dX1_chargeAt_0 : decode cX1_chargeAt 0 = .ok (.aload_n 0, 1) := by decide +kernel
theorem dX1_chargeAt_1 : decode cX1_chargeAt 1 = .ok (.getfield 48, 3) := by decide +kernel
theorem dX1_chargeAt_4 : decode cX1_chargeAt 4 = .ok (.iload_n 1, 1) := by decide +kernel
theorem dX1_chargeAt_5 : decode cX1_chargeAt 5 = .ok (.i2l, 1) := by decide +kernel
theorem dX1_chargeAt_6 : decode cX1_chargeAt 6 = .ok (.lmul, 1) := by decide +kernel
theorem dX1_chargeAt_7 : decode cX1_chargeAt 7 = .ok (.ldc2_w 122, 3) := by decide +kernel
theorem dX1_chargeAt_10 : decode cX1_chargeAt 10 = .ok (.ldiv, 1) := by decide +kernel
theorem dX1_chargeAt_11 : decode cX1_chargeAt 11 = .ok (.lreturn, 1) := by decide +kernel
theorem dX1_socOf_0 : decode cX1_socOf 0 = .ok (.aload_n 0, 1) := by decide +kernel
theorem dX1_socOf_1 : decode cX1_socOf 1 = .ok (.getfield 48, 3) := by decide +kernel
theorem dX1_socOf_4 : decode cX1_socOf 4 = .ok (.lconst 0, 1) := by decide +kernel
theorem dX1_socOf_5 : decode cX1_socOf 5 = .ok (.lcmp, 1) := by decide +kernel
theorem dX1_socOf_6 : decode cX1_socOf 6 = .ok (.ifCond .le 17, 3) := by decide +kernel
theorem dX1_socOf_9 : decode cX1_socOf 9 = .ok (.lload_n 1, 1) := by decide +kernel
theorem dX1_socOf_10 : decode cX1_socOf 10 = .ok (.ldc2_w 122, 3) := by decide +kernel
theorem dX1_socOf_13 : decode cX1_socOf 13 = .ok (.lmul, 1) := by decide +kernel
theorem dX1_socOf_14 : decode cX1_socOf 14 = .ok (.aload_n 0, 1) := by decide +kernel
theorem dX1_socOf_15 : decode cX1_socOf 15 = .ok (.getfield 48, 3) := by decide +kernel
theorem dX1_socOf_18 : decode cX1_socOf 18 = .ok (.ldiv, 1) := by decide +kernel
theorem dX1_socOf_19 : decode cX1_socOf 19 = .ok (.l2i, 1) := by decide +kernel
theorem dX1_socOf_20 : decode cX1_socOf 20 = .ok (.goto 4, 3) := by decide +kernel
theorem dX1_socOf_23 : decode cX1_socOf 23 = .ok (.iconst 0, 1) := by decide +kernel
theorem dX1_socOf_24 : decode cX1_socOf 24 = .ok (.ireturn, 1) := by decide +kernel
theorem dX1_hysteresisRange_0 : decode cX1_hysteresisRange 0 = .ok (.aload_n 0, 1) := by decide +kernel
theorem dX1_hysteresisRange_1 : decode cX1_hysteresisRange 1 = .ok (.getfield 48, 3) := by decide +kernel
theorem dX1_hysteresisRange_4 : decode cX1_hysteresisRange 4 = .ok (.aload_n 0, 1) := by decide +kernel
theorem dX1_hysteresisRange_5 : decode cX1_hysteresisRange 5 = .ok (.getfield 9, 3) := by decide +kernel
theorem dX1_hysteresisRange_8 : decode cX1_hysteresisRange 8 = .ok (.iconst 3, 1) := by decide +kernel
theorem dX1_hysteresisRange_9 : decode cX1_hysteresisRange 9 = .ok (.iaload, 1) := by decide +kernel
theorem dX1_hysteresisRange_10 : decode cX1_hysteresisRange 10 = .ok (.i2l, 1) := by decide +kernel
theorem dX1_hysteresisRange_11 : decode cX1_hysteresisRange 11 = .ok (.lmul, 1) := by decide +kernel
theorem dX1_hysteresisRange_12 : decode cX1_hysteresisRange 12 = .ok (.ldc2_w 124, 3) := by decide +kernel
theorem dX1_hysteresisRange_15 : decode cX1_hysteresisRange 15 = .ok (.ldiv, 1) := by decide +kernel
theorem dX1_hysteresisRange_16 : decode cX1_hysteresisRange 16 = .ok (.lreturn, 1) := by decide +kernel
set_option maxRecDepth 20000 in
theorem ggX1_hysteresisState_X1_hysteresisRange : GoodIn wsX1_hysteresisState wsX1_hysteresisRange := goodIn_r _ [7, 8, 9, 10, 11, 12, 13, 14, 15, 16, 17, 18, 19, 20, 21, 22, 23, 24, 25, 26, 27, 28] rfl (by decide +kernel)
set_option maxRecDepth 20000 in
theorem gX1_hysteresisState_X1_hysteresisRange : GoodIn wsX1_hysteresisState (wsV RX1 108 RX1 yX1_hysteresisRange wsX1_hysteresisRange) := goodIn_app (goodIn_of _ (by decide +kernel)) ggX1_hysteresisState_X1_hysteresisRange
theorem dX1_hysteresisState_0 : decode cX1_hysteresisState 0 = .ok (.aload_n 0, 1) := by decide +kernel
theorem dX1_hysteresisState_1 : decode cX1_hysteresisState 1 = .ok (.invokevirtual 108, 3) := by decide +kernel
theorem dX1_hysteresisState_4 : decode cX1_hysteresisState 4 = .ok (.lstore_n 1, 1) := by decide +kernel
theorem dX1_hysteresisState_5 : decode cX1_hysteresisState 5 = .ok (.lload_n 1, 1) := by decide +kernel
theorem dX1_hysteresisState_6 : decode cX1_hysteresisState 6 = .ok (.lconst 0, 1) := by decide +kernel
theorem dX1_hysteresisState_7 : decode cX1_hysteresisState 7 = .ok (.lcmp, 1) := by decide +kernel
theorem dX1_hysteresisState_8 : decode cX1_hysteresisState 8 = .ok (.ifCond .le 17, 3) := by decide +kernel
theorem dX1_hysteresisState_11 : decode cX1_hysteresisState 11 = .ok (.aload_n 0, 1) := by decide +kernel
theorem dX1_hysteresisState_12 : decode cX1_hysteresisState 12 = .ok (.getfield 62, 3) := by decide +kernel
theorem dX1_hysteresisState_15 : decode cX1_hysteresisState 15 = .ok (.ldc2_w 126, 3) := by decide +kernel
theorem dX1_hysteresisState_18 : decode cX1_hysteresisState 18 = .ok (.lmul, 1) := by decide +kernel
theorem dX1_hysteresisState_19 : decode cX1_hysteresisState 19 = .ok (.lload_n 1, 1) := by decide +kernel
theorem dX1_hysteresisState_20 : decode cX1_hysteresisState 20 = .ok (.ldiv, 1) := by decide +kernel
theorem dX1_hysteresisState_21 : decode cX1_hysteresisState 21 = .ok (.l2i, 1) := by decide +kernel
theorem dX1_hysteresisState_22 : decode cX1_hysteresisState 22 = .ok (.goto 4, 3) := by decide +kernel
theorem dX1_hysteresisState_25 : decode cX1_hysteresisState 25 = .ok (.iconst 0, 1) := by decide +kernel
theorem dX1_hysteresisState_26 : decode cX1_hysteresisState 26 = .ok (.ireturn, 1) := by decide +kernel
set_option maxRecDepth 20000 in
theorem ggX1_modelVoltage_X1_socOf : GoodIn wsX1_modelVoltage wsX1_socOf := goodIn_r _ [8, 9, 10, 53, 54, 55, 56, 57, 58, 59, 60, 61, 62, 63, 64, 65, 66, 67, 68, 69, 70] rfl (by decide +kernel)
set_option maxRecDepth 20000 in
theorem gX1_modelVoltage_X1_socOf : GoodIn wsX1_modelVoltage (wsV RX1 128 RX1 yX1_socOf wsX1_socOf) := goodIn_app (goodIn_of _ (by decide +kernel)) ggX1_modelVoltage_X1_socOf
set_option maxRecDepth 20000 in
theorem ggX1_modelVoltage_X1_hysteresisState : GoodIn wsX1_modelVoltage wsX1_hysteresisState := goodIn_r _ [14, 15, 16, 17, 18, 19, 7, 20, 9, 21, 22, 53, 54, 55, 56, 57, 58, 59, 60, 61, 62, 63, 64, 65, 66, 67, 68, 69, 70] rfl (by decide +kernel)
set_option maxRecDepth 20000 in
theorem gX1_modelVoltage_X1_hysteresisState : GoodIn wsX1_modelVoltage (wsV RX1 118 RX1 yX1_hysteresisState wsX1_hysteresisState) := goodIn_app (goodIn_of _ (by decide +kernel)) ggX1_modelVoltage_X1_hysteresisState
set_option maxRecDepth 20000 in
theorem ggX1_modelVoltage_X2_voltageAt : GoodIn wsX1_modelVoltage wsX2_voltageAt := goodIn_r _ [27, 28, 29, 30, 31, 26, 32, 33, 34, 35, 36, 37, 38, 39, 71, 72] rfl (by decide +kernel)
set_option maxRecDepth 20000 in
theorem gX1_modelVoltage_X2_voltageAt : GoodIn wsX1_modelVoltage (wsV RX1 132 RX2 yX2_voltageAt wsX2_voltageAt) := goodIn_app (goodIn_of _ (by decide +kernel)) ggX1_modelVoltage_X2_voltageAt
set_option maxRecDepth 20000 in
theorem ggX1_modelVoltage_J9_floorDiv_7cf53 : GoodIn wsX1_modelVoltage wsJ9_floorDiv_7cf53 := goodIn_r _ [43] rfl (by decide +kernel)
set_option maxRecDepth 20000 in
theorem gX1_modelVoltage_J9_floorDiv_7cf53 : GoodIn wsX1_modelVoltage (va_wsS RX1 136 yJ9_floorDiv_7cf53 wsJ9_floorDiv_7cf53) := goodIn_app (goodIn_of _ (by decide +kernel)) ggX1_modelVoltage_J9_floorDiv_7cf53
set_option maxRecDepth 20000 in
theorem ggX1_modelVoltage_X5_clamp : GoodIn wsX1_modelVoltage wsX5_clamp := goodIn_r _ [46, 47, 48, 35, 49, 50, 51, 52] rfl (by decide +kernel)
set_option maxRecDepth 20000 in
theorem gX1_modelVoltage_X5_clamp_n141 : GoodIn wsX1_modelVoltage (wsX5_clamp) := ggX1_modelVoltage_X5_clamp
theorem dX1_modelVoltage_0 : decode cX1_modelVoltage 0 = .ok (.aload_n 0, 1) := by decide +kernel
theorem dX1_modelVoltage_1 : decode cX1_modelVoltage 1 = .ok (.getfield 18, 3) := by decide +kernel
theorem dX1_modelVoltage_4 : decode cX1_modelVoltage 4 = .ok (.aload_n 0, 1) := by decide +kernel
theorem dX1_modelVoltage_5 : decode cX1_modelVoltage 5 = .ok (.aload_n 0, 1) := by decide +kernel
theorem dX1_modelVoltage_6 : decode cX1_modelVoltage 6 = .ok (.getfield 53, 3) := by decide +kernel
theorem dX1_modelVoltage_9 : decode cX1_modelVoltage 9 = .ok (.invokevirtual 128, 3) := by decide +kernel
theorem dX1_modelVoltage_12 : decode cX1_modelVoltage 12 = .ok (.aload_n 0, 1) := by decide +kernel
theorem dX1_modelVoltage_13 : decode cX1_modelVoltage 13 = .ok (.invokevirtual 118, 3) := by decide +kernel
theorem dX1_modelVoltage_16 : decode cX1_modelVoltage 16 = .ok (.invokevirtual 132, 3) := by decide +kernel
theorem dX1_modelVoltage_19 : decode cX1_modelVoltage 19 = .ok (.istore_n 3, 1) := by decide +kernel
theorem dX1_modelVoltage_20 : decode cX1_modelVoltage 20 = .ok (.iload_n 3, 1) := by decide +kernel
theorem dX1_modelVoltage_21 : decode cX1_modelVoltage 21 = .ok (.iload_n 1, 1) := by decide +kernel
theorem dX1_modelVoltage_22 : decode cX1_modelVoltage 22 = .ok (.iload_n 2, 1) := by decide +kernel
theorem dX1_modelVoltage_23 : decode cX1_modelVoltage 23 = .ok (.imul, 1) := by decide +kernel
theorem dX1_modelVoltage_24 : decode cX1_modelVoltage 24 = .ok (.sipush 1000, 3) := by decide +kernel
theorem dX1_modelVoltage_27 : decode cX1_modelVoltage 27 = .ok (.invokestatic 136, 3) := by decide +kernel
theorem dX1_modelVoltage_30 : decode cX1_modelVoltage 30 = .ok (.iadd, 1) := by decide +kernel
theorem dX1_modelVoltage_31 : decode cX1_modelVoltage 31 = .ok (.i2l, 1) := by decide +kernel
theorem dX1_modelVoltage_32 : decode cX1_modelVoltage 32 = .ok (.lconst 0, 1) := by decide +kernel
theorem dX1_modelVoltage_33 : decode cX1_modelVoltage 33 = .ok (.ldc2_w 139, 3) := by decide +kernel
theorem dX1_modelVoltage_36 : decode cX1_modelVoltage 36 = .ok (.invokestatic 141, 3) := by decide +kernel
theorem dX1_modelVoltage_39 : decode cX1_modelVoltage 39 = .ok (.l2i, 1) := by decide +kernel
theorem dX1_modelVoltage_40 : decode cX1_modelVoltage 40 = .ok (.ireturn, 1) := by decide +kernel
set_option maxRecDepth 20000 in
theorem ggX1_mixInto_X5_mix : GoodIn wsX1_mixInto wsX5_mix := goodIn_r _ [6, 7] rfl (by decide +kernel)
set_option maxRecDepth 20000 in
theorem gX1_mixInto_X5_mix_n145 : GoodIn wsX1_mixInto (wsX5_mix) := ggX1_mixInto_X5_mix
set_option maxRecDepth 20000 in
theorem ggX1_mixInto_X2_mixInto : GoodIn wsX1_mixInto wsX2_mixInto := goodIn_r _ [12, 13, 14, 4, 5, 6, 7, 64, 65] rfl (by decide +kernel)
set_option maxRecDepth 20000 in
theorem gX1_mixInto_X2_mixInto : GoodIn wsX1_mixInto (wsV RX1 148 RX2 yX2_mixInto wsX2_mixInto) := goodIn_app (goodIn_of _ (by decide +kernel)) ggX1_mixInto_X2_mixInto
set_option maxRecDepth 20000 in
theorem ggX1_mixInto_X1_chargeOf : GoodIn wsX1_mixInto wsX1_chargeOf := goodIn_r _ [19, 20, 21, 22, 23, 24, 25, 26, 46, 47, 48, 49, 50, 51, 52, 53, 54, 55, 56, 57, 58, 59, 60, 61, 62, 63] rfl (by decide +kernel)
set_option maxRecDepth 20000 in
theorem gX1_mixInto_X1_chargeOf : GoodIn wsX1_mixInto (wsV RX1 152 RX1 yX1_chargeOf wsX1_chargeOf) := goodIn_app (goodIn_of _ (by decide +kernel)) ggX1_mixInto_X1_chargeOf
set_option maxRecDepth 20000 in
theorem ggX1_mixInto_X1_statusOf : GoodIn wsX1_mixInto wsX1_statusOf := goodIn_r _ [30, 31, 32, 33, 34, 35, 36, 37, 38, 18, 39, 25, 40, 41, 42, 43, 44, 23, 1, 45, 46, 47, 48, 49, 50, 51, 52, 53, 54, 55, 56, 57, 58, 59, 60, 61, 62, 63] rfl (by decide +kernel)
set_option maxRecDepth 20000 in
theorem gX1_mixInto_X1_statusOf : GoodIn wsX1_mixInto (wsV RX1 155 RX1 yX1_statusOf wsX1_statusOf) := goodIn_app (goodIn_of _ (by decide +kernel)) ggX1_mixInto_X1_statusOf
theorem dX1_mixInto_0 : decode cX1_mixInto 0 = .ok (.lload_n 1, 1) := by decide +kernel
theorem dX1_mixInto_1 : decode cX1_mixInto 1 = .ok (.lstore_n 3, 1) := by decide +kernel
theorem dX1_mixInto_2 : decode cX1_mixInto 2 = .ok (.iconst 0, 1) := by decide +kernel
theorem dX1_mixInto_3 : decode cX1_mixInto 3 = .ok (.istore 5, 2) := by decide +kernel
theorem dX1_mixInto_5 : decode cX1_mixInto 5 = .ok (.iload 5, 2) := by decide +kernel
theorem dX1_mixInto_7 : decode cX1_mixInto 7 = .ok (.bipush 12, 2) := by decide +kernel
theorem dX1_mixInto_9 : decode cX1_mixInto 9 = .ok (.if_icmp .ge 22, 3) := by decide +kernel
theorem dX1_mixInto_12 : decode cX1_mixInto 12 = .ok (.lload_n 3, 1) := by decide +kernel
theorem dX1_mixInto_13 : decode cX1_mixInto 13 = .ok (.aload_n 0, 1) := by decide +kernel
theorem dX1_mixInto_14 : decode cX1_mixInto 14 = .ok (.getfield 9, 3) := by decide +kernel
theorem dX1_mixInto_17 : decode cX1_mixInto 17 = .ok (.iload 5, 2) := by decide +kernel
theorem dX1_mixInto_19 : decode cX1_mixInto 19 = .ok (.iaload, 1) := by decide +kernel
theorem dX1_mixInto_20 : decode cX1_mixInto 20 = .ok (.i2l, 1) := by decide +kernel
theorem dX1_mixInto_21 : decode cX1_mixInto 21 = .ok (.invokestatic 145, 3) := by decide +kernel
theorem dX1_mixInto_24 : decode cX1_mixInto 24 = .ok (.lstore_n 3, 1) := by decide +kernel
theorem dX1_mixInto_25 : decode cX1_mixInto 25 = .ok (.iinc 5 1, 3) := by decide +kernel
theorem dX1_mixInto_28 : decode cX1_mixInto 28 = .ok (.goto (-23), 3) := by decide +kernel
theorem dX1_mixInto_31 : decode cX1_mixInto 31 = .ok (.aload_n 0, 1) := by decide +kernel
theorem dX1_mixInto_32 : decode cX1_mixInto 32 = .ok (.getfield 18, 3) := by decide +kernel
theorem dX1_mixInto_35 : decode cX1_mixInto 35 = .ok (.lload_n 3, 1) := by decide +kernel
theorem dX1_mixInto_36 : decode cX1_mixInto 36 = .ok (.invokevirtual 148, 3) := by decide +kernel
theorem dX1_mixInto_39 : decode cX1_mixInto 39 = .ok (.lstore_n 3, 1) := by decide +kernel
theorem dX1_mixInto_40 : decode cX1_mixInto 40 = .ok (.iconst 0, 1) := by decide +kernel
theorem dX1_mixInto_41 : decode cX1_mixInto 41 = .ok (.istore 5, 2) := by decide +kernel
theorem dX1_mixInto_43 : decode cX1_mixInto 43 = .ok (.iload 5, 2) := by decide +kernel
theorem dX1_mixInto_45 : decode cX1_mixInto 45 = .ok (.bipush 7, 2) := by decide +kernel
theorem dX1_mixInto_47 : decode cX1_mixInto 47 = .ok (.if_icmp .ge 20, 3) := by decide +kernel
theorem dX1_mixInto_50 : decode cX1_mixInto 50 = .ok (.lload_n 3, 1) := by decide +kernel
theorem dX1_mixInto_51 : decode cX1_mixInto 51 = .ok (.aload_n 0, 1) := by decide +kernel
theorem dX1_mixInto_52 : decode cX1_mixInto 52 = .ok (.iload 5, 2) := by decide +kernel
theorem dX1_mixInto_54 : decode cX1_mixInto 54 = .ok (.invokevirtual 152, 3) := by decide +kernel
theorem dX1_mixInto_57 : decode cX1_mixInto 57 = .ok (.invokestatic 145, 3) := by decide +kernel
theorem dX1_mixInto_60 : decode cX1_mixInto 60 = .ok (.lstore_n 3, 1) := by decide +kernel
theorem dX1_mixInto_61 : decode cX1_mixInto 61 = .ok (.iinc 5 1, 3) := by decide +kernel
theorem dX1_mixInto_64 : decode cX1_mixInto 64 = .ok (.goto (-21), 3) := by decide +kernel
theorem dX1_mixInto_67 : decode cX1_mixInto 67 = .ok (.iconst 0, 1) := by decide +kernel
theorem dX1_mixInto_68 : decode cX1_mixInto 68 = .ok (.istore 5, 2) := by decide +kernel
theorem dX1_mixInto_70 : decode cX1_mixInto 70 = .ok (.iload 5, 2) := by decide +kernel
theorem dX1_mixInto_72 : decode cX1_mixInto 72 = .ok (.bipush 6, 2) := by decide +kernel
theorem dX1_mixInto_74 : decode cX1_mixInto 74 = .ok (.if_icmp .ge 21, 3) := by decide +kernel
theorem dX1_mixInto_77 : decode cX1_mixInto 77 = .ok (.lload_n 3, 1) := by decide +kernel
theorem dX1_mixInto_78 : decode cX1_mixInto 78 = .ok (.aload_n 0, 1) := by decide +kernel
theorem dX1_mixInto_79 : decode cX1_mixInto 79 = .ok (.iload 5, 2) := by decide +kernel
theorem dX1_mixInto_81 : decode cX1_mixInto 81 = .ok (.invokevirtual 155, 3) := by decide +kernel
theorem dX1_mixInto_84 : decode cX1_mixInto 84 = .ok (.i2l, 1) := by decide +kernel
theorem dX1_mixInto_85 : decode cX1_mixInto 85 = .ok (.invokestatic 145, 3) := by decide +kernel
theorem dX1_mixInto_88 : decode cX1_mixInto 88 = .ok (.lstore_n 3, 1) := by decide +kernel
theorem dX1_mixInto_89 : decode cX1_mixInto 89 = .ok (.iinc 5 1, 3) := by decide +kernel
theorem dX1_mixInto_92 : decode cX1_mixInto 92 = .ok (.goto (-22), 3) := by decide +kernel
theorem dX1_mixInto_95 : decode cX1_mixInto 95 = .ok (.lload_n 3, 1) := by decide +kernel
theorem dX1_mixInto_96 : decode cX1_mixInto 96 = .ok (.aload_n 0, 1) := by decide +kernel
theorem dX1_mixInto_97 : decode cX1_mixInto 97 = .ok (.getfield 65, 3) := by decide +kernel
theorem dX1_mixInto_100 : decode cX1_mixInto 100 = .ok (.invokestatic 145, 3) := by decide +kernel
theorem dX1_mixInto_103 : decode cX1_mixInto 103 = .ok (.lreturn, 1) := by decide +kernel
set_option maxRecDepth 20000 in
theorem ggX1_treat_X1_countCharge : GoodIn wsX1_treat wsX1_countCharge := goodIn_r _ [8, 9, 10, 11, 12, 13, 14, 15, 16, 17, 18, 19, 20, 21, 22, 23, 7, 24, 1, 25, 26, 27, 28, 29, 30, 31, 32, 33, 34, 35, 36, 37, 38, 39, 40, 41, 42, 43, 44, 45, 46, 47, 48, 49, 50, 51, 52, 144, 145, 146, 147, 148, 149, 150, 151, 152, 153, 154, 155, 156, 157, 158, 159, 160, 161] rfl (by decide +kernel)
set_option maxRecDepth 20000 in
theorem gX1_treat_X1_countCharge : GoodIn wsX1_treat (wsV RX1 159 RX1 yX1_countCharge wsX1_countCharge) := goodIn_app (goodIn_of _ (by decide +kernel)) ggX1_treat_X1_countCharge
set_option maxRecDepth 20000 in
theorem ggX1_treat_X1_restIsReached : GoodIn wsX1_treat wsX1_restIsReached := goodIn_r _ [56, 57, 58, 17, 59, 1, 3, 60, 144, 145, 146, 147, 148, 149, 150, 151, 152, 153, 154, 155, 156, 157, 158, 159, 160, 161] rfl (by decide +kernel)
set_option maxRecDepth 20000 in
theorem gX1_treat_X1_restIsReached : GoodIn wsX1_treat (wsV RX1 163 RX1 yX1_restIsReached wsX1_restIsReached) := goodIn_app (goodIn_of _ (by decide +kernel)) ggX1_treat_X1_restIsReached
set_option maxRecDepth 20000 in
theorem ggX1_treat_X1_hysteresisState : GoodIn wsX1_treat wsX1_hysteresisState := goodIn_r _ [64, 13, 25, 48, 49, 50, 7, 51, 10, 1, 52, 144, 145, 146, 147, 148, 149, 150, 151, 152, 153, 154, 155, 156, 157, 158, 159, 160, 161] rfl (by decide +kernel)
set_option maxRecDepth 20000 in
theorem gX1_treat_X1_hysteresisState : GoodIn wsX1_treat (wsV RX1 118 RX1 yX1_hysteresisState wsX1_hysteresisState) := goodIn_app (goodIn_of _ (by decide +kernel)) ggX1_treat_X1_hysteresisState
set_option maxRecDepth 20000 in
theorem ggX1_treat_X2_socAt : GoodIn wsX1_treat wsX2_socAt := goodIn_r _ [69, 70, 71, 72, 68, 73, 74, 75, 76, 77, 78, 79, 80, 17, 81, 82, 83, 84, 162, 163] rfl (by decide +kernel)
set_option maxRecDepth 20000 in
theorem gX1_treat_X2_socAt : GoodIn wsX1_treat (wsV RX1 167 RX2 yX2_socAt wsX2_socAt) := goodIn_app (goodIn_of _ (by decide +kernel)) ggX1_treat_X2_socAt
set_option maxRecDepth 20000 in
theorem ggX1_treat_X1_addAnchor : GoodIn wsX1_treat wsX1_addAnchor := goodIn_r _ [88, 11, 12, 89, 90, 30, 17, 31, 91, 33, 34, 9, 19, 92, 20, 10, 93, 94, 95, 7, 96, 57, 58, 59, 1, 15, 16, 18, 97, 98, 99, 100, 101, 102, 13, 103, 104, 105, 106, 107, 108, 109, 110, 111, 112, 113, 114, 115, 116, 117, 118, 119, 120, 121, 48, 49, 50, 51, 52, 122, 123, 124, 125, 26, 27, 28, 29, 32, 126, 127, 128, 129, 130, 131, 132, 133, 144, 145, 146, 147, 148, 149, 150, 151, 152, 153, 154, 155, 156, 157, 158, 159, 160, 161, 164, 165] rfl (by decide +kernel)
set_option maxRecDepth 20000 in
theorem gX1_treat_X1_addAnchor : GoodIn wsX1_treat (wsV RX1 170 RX1 yX1_addAnchor wsX1_addAnchor) := goodIn_app (goodIn_of _ (by decide +kernel)) ggX1_treat_X1_addAnchor
set_option maxRecDepth 20000 in
theorem ggX1_treat_X1_fullIsReached : GoodIn wsX1_treat wsX1_fullIsReached := goodIn_r _ [137, 1, 138, 144, 145, 146, 147, 148, 149, 150, 151, 152, 153, 154, 155, 156, 157, 158, 159, 160, 161] rfl (by decide +kernel)
set_option maxRecDepth 20000 in
theorem gX1_treat_X1_fullIsReached : GoodIn wsX1_treat (wsV RX1 174 RX1 yX1_fullIsReached wsX1_fullIsReached) := goodIn_app (goodIn_of _ (by decide +kernel)) ggX1_treat_X1_fullIsReached
set_option maxRecDepth 20000 in
theorem ggX1_treat_X1_emptyIsReached : GoodIn wsX1_treat wsX1_emptyIsReached := goodIn_r _ [142, 143, 1, 144, 145, 146, 147, 148, 149, 150, 151, 152, 153, 154, 155, 156, 157, 158, 159, 160, 161] rfl (by decide +kernel)
set_option maxRecDepth 20000 in
theorem gX1_treat_X1_emptyIsReached : GoodIn wsX1_treat (wsV RX1 177 RX1 yX1_emptyIsReached wsX1_emptyIsReached) := goodIn_app (goodIn_of _ (by decide +kernel)) ggX1_treat_X1_emptyIsReached
theorem dX1_treat_0 : decode cX1_treat 0 = .ok (.aload_n 0, 1) := by decide +kernel
theorem dX1_treat_1 : decode cX1_treat 1 = .ok (.iload_n 1, 1) := by decide +kernel
theorem dX1_treat_2 : decode cX1_treat 2 = .ok (.iload_n 3, 1) := by decide +kernel
theorem dX1_treat_3 : decode cX1_treat 3 = .ok (.invokevirtual 159, 3) := by decide +kernel
theorem dX1_treat_6 : decode cX1_treat 6 = .ok (.iconst 0, 1) := by decide +kernel
theorem dX1_treat_7 : decode cX1_treat 7 = .ok (.istore 4, 2) := by decide +kernel
theorem dX1_treat_9 : decode cX1_treat 9 = .ok (.aload_n 0, 1) := by decide +kernel
theorem dX1_treat_10 : decode cX1_treat 10 = .ok (.iload_n 1, 1) := by decide +kernel
theorem dX1_treat_11 : decode cX1_treat 11 = .ok (.iload_n 2, 1) := by decide +kernel
theorem dX1_treat_12 : decode cX1_treat 12 = .ok (.iload_n 3, 1) := by decide +kernel
theorem dX1_treat_13 : decode cX1_treat 13 = .ok (.invokevirtual 163, 3) := by decide +kernel
theorem dX1_treat_16 : decode cX1_treat 16 = .ok (.ifCond .eq 62, 3) := by decide +kernel
theorem dX1_treat_19 : decode cX1_treat 19 = .ok (.aload_n 0, 1) := by decide +kernel
theorem dX1_treat_20 : decode cX1_treat 20 = .ok (.getfield 9, 3) := by decide +kernel
theorem dX1_treat_23 : decode cX1_treat 23 = .ok (.bipush 7, 2) := by decide +kernel
theorem dX1_treat_25 : decode cX1_treat 25 = .ok (.iaload, 1) := by decide +kernel
theorem dX1_treat_26 : decode cX1_treat 26 = .ok (.istore 5, 2) := by decide +kernel
theorem dX1_treat_28 : decode cX1_treat 28 = .ok (.aload_n 0, 1) := by decide +kernel
theorem dX1_treat_29 : decode cX1_treat 29 = .ok (.invokevirtual 118, 3) := by decide +kernel
theorem dX1_treat_32 : decode cX1_treat 32 = .ok (.istore 6, 2) := by decide +kernel
theorem dX1_treat_34 : decode cX1_treat 34 = .ok (.aload_n 0, 1) := by decide +kernel
theorem dX1_treat_35 : decode cX1_treat 35 = .ok (.iconst 0, 1) := by decide +kernel
theorem dX1_treat_36 : decode cX1_treat 36 = .ok (.aload_n 0, 1) := by decide +kernel
theorem dX1_treat_37 : decode cX1_treat 37 = .ok (.getfield 18, 3) := by decide +kernel
theorem dX1_treat_40 : decode cX1_treat 40 = .ok (.iload_n 2, 1) := by decide +kernel
theorem dX1_treat_41 : decode cX1_treat 41 = .ok (.iload 6, 2) := by decide +kernel
theorem dX1_treat_43 : decode cX1_treat 43 = .ok (.invokevirtual 167, 3) := by decide +kernel
theorem dX1_treat_46 : decode cX1_treat 46 = .ok (.aload_n 0, 1) := by decide +kernel
theorem dX1_treat_47 : decode cX1_treat 47 = .ok (.getfield 18, 3) := by decide +kernel
theorem dX1_treat_50 : decode cX1_treat 50 = .ok (.iload_n 2, 1) := by decide +kernel
theorem dX1_treat_51 : decode cX1_treat 51 = .ok (.iload 5, 2) := by decide +kernel
theorem dX1_treat_53 : decode cX1_treat 53 = .ok (.isub, 1) := by decide +kernel
theorem dX1_treat_54 : decode cX1_treat 54 = .ok (.iload 6, 2) := by decide +kernel
theorem dX1_treat_56 : decode cX1_treat 56 = .ok (.invokevirtual 167, 3) := by decide +kernel
theorem dX1_treat_59 : decode cX1_treat 59 = .ok (.aload_n 0, 1) := by decide +kernel
theorem dX1_treat_60 : decode cX1_treat 60 = .ok (.getfield 18, 3) := by decide +kernel
theorem dX1_treat_63 : decode cX1_treat 63 = .ok (.iload_n 2, 1) := by decide +kernel
theorem dX1_treat_64 : decode cX1_treat 64 = .ok (.iload 5, 2) := by decide +kernel
theorem dX1_treat_66 : decode cX1_treat 66 = .ok (.iadd, 1) := by decide +kernel
theorem dX1_treat_67 : decode cX1_treat 67 = .ok (.iload 6, 2) := by decide +kernel
theorem dX1_treat_69 : decode cX1_treat 69 = .ok (.invokevirtual 167, 3) := by decide +kernel
theorem dX1_treat_72 : decode cX1_treat 72 = .ok (.invokevirtual 170, 3) := by decide +kernel
theorem dX1_treat_75 : decode cX1_treat 75 = .ok (.iinc 4 1, 3) := by decide +kernel
theorem dX1_treat_78 : decode cX1_treat 78 = .ok (.aload_n 0, 1) := by decide +kernel
theorem dX1_treat_79 : decode cX1_treat 79 = .ok (.iload_n 1, 1) := by decide +kernel
theorem dX1_treat_80 : decode cX1_treat 80 = .ok (.iload_n 2, 1) := by decide +kernel
theorem dX1_treat_81 : decode cX1_treat 81 = .ok (.iload_n 3, 1) := by decide +kernel
theorem dX1_treat_82 : decode cX1_treat 82 = .ok (.invokevirtual 174, 3) := by decide +kernel
theorem dX1_treat_85 : decode cX1_treat 85 = .ok (.ifCond .eq 20, 3) := by decide +kernel
theorem dX1_treat_88 : decode cX1_treat 88 = .ok (.aload_n 0, 1) := by decide +kernel
theorem dX1_treat_89 : decode cX1_treat 89 = .ok (.iconst 1, 1) := by decide +kernel
theorem dX1_treat_90 : decode cX1_treat 90 = .ok (.sipush 10000, 3) := by decide +kernel
theorem dX1_treat_93 : decode cX1_treat 93 = .ok (.sipush 10000, 3) := by decide +kernel
theorem dX1_treat_96 : decode cX1_treat 96 = .ok (.sipush 10000, 3) := by decide +kernel
theorem dX1_treat_99 : decode cX1_treat 99 = .ok (.invokevirtual 170, 3) := by decide +kernel
theorem dX1_treat_102 : decode cX1_treat 102 = .ok (.iinc 4 2, 3) := by decide +kernel
theorem dX1_treat_105 : decode cX1_treat 105 = .ok (.aload_n 0, 1) := by decide +kernel
theorem dX1_treat_106 : decode cX1_treat 106 = .ok (.iload_n 1, 1) := by decide +kernel
theorem dX1_treat_107 : decode cX1_treat 107 = .ok (.iload_n 2, 1) := by decide +kernel
theorem dX1_treat_108 : decode cX1_treat 108 = .ok (.invokevirtual 177, 3) := by decide +kernel
theorem dX1_treat_111 : decode cX1_treat 111 = .ok (.ifCond .eq 14, 3) := by decide +kernel
theorem dX1_treat_114 : decode cX1_treat 114 = .ok (.aload_n 0, 1) := by decide +kernel
theorem dX1_treat_115 : decode cX1_treat 115 = .ok (.iconst 2, 1) := by decide +kernel
theorem dX1_treat_116 : decode cX1_treat 116 = .ok (.iconst 0, 1) := by decide +kernel
theorem dX1_treat_117 : decode cX1_treat 117 = .ok (.iconst 0, 1) := by decide +kernel
theorem dX1_treat_118 : decode cX1_treat 118 = .ok (.iconst 0, 1) := by decide +kernel
theorem dX1_treat_119 : decode cX1_treat 119 = .ok (.invokevirtual 170, 3) := by decide +kernel
theorem dX1_treat_122 : decode cX1_treat 122 = .ok (.iinc 4 4, 3) := by decide +kernel
theorem dX1_treat_125 : decode cX1_treat 125 = .ok (.aload_n 0, 1) := by decide +kernel
theorem dX1_treat_126 : decode cX1_treat 126 = .ok (.iload_n 2, 1) := by decide +kernel
theorem dX1_treat_127 : decode cX1_treat 127 = .ok (.putfield 87, 3) := by decide +kernel
theorem dX1_treat_130 : decode cX1_treat 130 = .ok (.iload 4, 2) := by decide +kernel
theorem dX1_treat_132 : decode cX1_treat 132 = .ok (.ireturn, 1) := by decide +kernel
theorem dX1_movedCharge_0 : decode cX1_movedCharge 0 = .ok (.iload_n 1, 1) := by decide +kernel
theorem dX1_movedCharge_1 : decode cX1_movedCharge 1 = .ok (.i2l, 1) := by decide +kernel
theorem dX1_movedCharge_2 : decode cX1_movedCharge 2 = .ok (.iload_n 2, 1) := by decide +kernel
theorem dX1_movedCharge_3 : decode cX1_movedCharge 3 = .ok (.i2l, 1) := by decide +kernel
theorem dX1_movedCharge_4 : decode cX1_movedCharge 4 = .ok (.lmul, 1) := by decide +kernel
theorem dX1_movedCharge_5 : decode cX1_movedCharge 5 = .ok (.lstore_n 3, 1) := by decide +kernel
theorem dX1_movedCharge_6 : decode cX1_movedCharge 6 = .ok (.iload_n 1, 1) := by decide +kernel
theorem dX1_movedCharge_7 : decode cX1_movedCharge 7 = .ok (.ifCond .le 19, 3) := by decide +kernel
theorem dX1_movedCharge_10 : decode cX1_movedCharge 10 = .ok (.lload_n 3, 1) := by decide +kernel
theorem dX1_movedCharge_11 : decode cX1_movedCharge 11 = .ok (.aload_n 0, 1) := by decide +kernel
theorem dX1_movedCharge_12 : decode cX1_movedCharge 12 = .ok (.getfield 9, 3) := by decide +kernel
theorem dX1_movedCharge_15 : decode cX1_movedCharge 15 = .ok (.iconst 0, 1) := by decide +kernel
theorem dX1_movedCharge_16 : decode cX1_movedCharge 16 = .ok (.iaload, 1) := by decide +kernel
theorem dX1_movedCharge_17 : decode cX1_movedCharge 17 = .ok (.i2l, 1) := by decide +kernel
theorem dX1_movedCharge_18 : decode cX1_movedCharge 18 = .ok (.lmul, 1) := by decide +kernel
theorem dX1_movedCharge_19 : decode cX1_movedCharge 19 = .ok (.ldc2_w 126, 3) := by decide +kernel
theorem dX1_movedCharge_22 : decode cX1_movedCharge 22 = .ok (.ldiv, 1) := by decide +kernel
theorem dX1_movedCharge_23 : decode cX1_movedCharge 23 = .ok (.goto 4, 3) := by decide +kernel
theorem dX1_movedCharge_26 : decode cX1_movedCharge 26 = .ok (.lload_n 3, 1) := by decide +kernel
theorem dX1_movedCharge_27 : decode cX1_movedCharge 27 = .ok (.lreturn, 1) := by decide +kernel
theorem dX1_driftOf_0 : decode cX1_driftOf 0 = .ok (.aload_n 0, 1) := by decide +kernel
theorem dX1_driftOf_1 : decode cX1_driftOf 1 = .ok (.getfield 9, 3) := by decide +kernel
theorem dX1_driftOf_4 : decode cX1_driftOf 4 = .ok (.iconst 1, 1) := by decide +kernel
theorem dX1_driftOf_5 : decode cX1_driftOf 5 = .ok (.iaload, 1) := by decide +kernel
theorem dX1_driftOf_6 : decode cX1_driftOf 6 = .ok (.i2l, 1) := by decide +kernel
theorem dX1_driftOf_7 : decode cX1_driftOf 7 = .ok (.iload_n 3, 1) := by decide +kernel
theorem dX1_driftOf_8 : decode cX1_driftOf 8 = .ok (.i2l, 1) := by decide +kernel
theorem dX1_driftOf_9 : decode cX1_driftOf 9 = .ok (.lmul, 1) := by decide +kernel
theorem dX1_driftOf_10 : decode cX1_driftOf 10 = .ok (.ldc2_w 126, 3) := by decide +kernel
theorem dX1_driftOf_13 : decode cX1_driftOf 13 = .ok (.ldiv, 1) := by decide +kernel
theorem dX1_driftOf_14 : decode cX1_driftOf 14 = .ok (.lload_n 1, 1) := by decide +kernel
theorem dX1_driftOf_15 : decode cX1_driftOf 15 = .ok (.invokestatic 181, 3) := by decide +kernel
theorem dX1_driftOf_18 : decode cX1_driftOf 18 = .ok (.aload_n 0, 1) := by decide +kernel
theorem dX1_driftOf_19 : decode cX1_driftOf 19 = .ok (.getfield 9, 3) := by decide +kernel
theorem dX1_driftOf_22 : decode cX1_driftOf 22 = .ok (.iconst 2, 1) := by decide +kernel
theorem dX1_driftOf_23 : decode cX1_driftOf 23 = .ok (.iaload, 1) := by decide +kernel
theorem dX1_driftOf_24 : decode cX1_driftOf 24 = .ok (.i2l, 1) := by decide +kernel
theorem dX1_driftOf_25 : decode cX1_driftOf 25 = .ok (.lmul, 1) := by decide +kernel
theorem dX1_driftOf_26 : decode cX1_driftOf 26 = .ok (.ldc2_w 184, 3) := by decide +kernel
theorem dX1_driftOf_29 : decode cX1_driftOf 29 = .ok (.ldiv, 1) := by decide +kernel
theorem dX1_driftOf_30 : decode cX1_driftOf 30 = .ok (.ladd, 1) := by decide +kernel
theorem dX1_driftOf_31 : decode cX1_driftOf 31 = .ok (.lreturn, 1) := by decide +kernel
set_option maxRecDepth 20000 in
theorem ggX1_countCharge_X1_movedCharge : GoodIn wsX1_countCharge wsX1_movedCharge := goodIn_r _ [17, 18, 19, 47, 48, 49, 50, 51, 52, 53, 54, 55, 56, 57, 58, 59, 60, 61, 62, 63, 64] rfl (by decide +kernel)
set_option maxRecDepth 20000 in
theorem gX1_countCharge_X1_movedCharge : GoodIn wsX1_countCharge (wsV RX1 186 RX1 yX1_movedCharge wsX1_movedCharge) := goodIn_app (goodIn_of _ (by decide +kernel)) ggX1_countCharge_X1_movedCharge
set_option maxRecDepth 20000 in
theorem ggX1_countCharge_X5_clamp : GoodIn wsX1_countCharge wsX5_clamp := goodIn_r _ [22, 23, 24, 9, 25, 26, 27, 28] rfl (by decide +kernel)
set_option maxRecDepth 20000 in
theorem gX1_countCharge_X5_clamp_n141 : GoodIn wsX1_countCharge (wsX5_clamp) := ggX1_countCharge_X5_clamp
set_option maxRecDepth 20000 in
theorem ggX1_countCharge_X1_lowAfter : GoodIn wsX1_countCharge wsX1_lowAfter := goodIn_r _ [32, 3, 2, 13, 14, 15, 16, 17, 18, 19, 33, 34, 35, 36, 7, 8, 9, 10, 37, 20, 21, 22, 23, 24, 25, 26, 27, 28, 47, 48, 49, 50, 51, 52, 53, 54, 55, 56, 57, 58, 59, 60, 61, 62, 63, 64] rfl (by decide +kernel)
set_option maxRecDepth 20000 in
theorem gX1_countCharge_X1_lowAfter : GoodIn wsX1_countCharge (wsV RX1 190 RX1 yX1_lowAfter wsX1_lowAfter) := goodIn_app (goodIn_of _ (by decide +kernel)) ggX1_countCharge_X1_lowAfter
set_option maxRecDepth 20000 in
theorem ggX1_countCharge_X1_highAfter : GoodIn wsX1_countCharge wsX1_highAfter := goodIn_r _ [41, 4, 2, 13, 14, 15, 16, 17, 18, 19, 33, 34, 35, 36, 7, 8, 9, 10, 37, 20, 21, 22, 23, 24, 25, 26, 27, 28, 47, 48, 49, 50, 51, 52, 53, 54, 55, 56, 57, 58, 59, 60, 61, 62, 63, 64] rfl (by decide +kernel)
set_option maxRecDepth 20000 in
theorem gX1_countCharge_X1_highAfter : GoodIn wsX1_countCharge (wsV RX1 193 RX1 yX1_highAfter wsX1_highAfter) := goodIn_app (goodIn_of _ (by decide +kernel)) ggX1_countCharge_X1_highAfter
set_option maxRecDepth 20000 in
theorem ggX1_countCharge_X1_hysteresisRange : GoodIn wsX1_countCharge wsX1_hysteresisRange := goodIn_r _ [45, 2, 18, 46, 47, 48, 49, 50, 51, 52, 53, 54, 55, 56, 57, 58, 59, 60, 61, 62, 63, 64] rfl (by decide +kernel)
set_option maxRecDepth 20000 in
theorem gX1_countCharge_X1_hysteresisRange : GoodIn wsX1_countCharge (wsV RX1 108 RX1 yX1_hysteresisRange wsX1_hysteresisRange) := goodIn_app (goodIn_of _ (by decide +kernel)) ggX1_countCharge_X1_hysteresisRange
theorem dX1_countCharge_0 : decode cX1_countCharge 0 = .ok (.aload_n 0, 1) := by decide +kernel
theorem dX1_countCharge_1 : decode cX1_countCharge 1 = .ok (.iload_n 1, 1) := by decide +kernel
theorem dX1_countCharge_2 : decode cX1_countCharge 2 = .ok (.iload_n 2, 1) := by decide +kernel
theorem dX1_countCharge_3 : decode cX1_countCharge 3 = .ok (.invokevirtual 186, 3) := by decide +kernel
theorem dX1_countCharge_6 : decode cX1_countCharge 6 = .ok (.lstore_n 3, 1) := by decide +kernel
theorem dX1_countCharge_7 : decode cX1_countCharge 7 = .ok (.aload_n 0, 1) := by decide +kernel
theorem dX1_countCharge_8 : decode cX1_countCharge 8 = .ok (.aload_n 0, 1) := by decide +kernel
theorem dX1_countCharge_9 : decode cX1_countCharge 9 = .ok (.getfield 53, 3) := by decide +kernel
theorem dX1_countCharge_12 : decode cX1_countCharge 12 = .ok (.lload_n 3, 1) := by decide +kernel
theorem dX1_countCharge_13 : decode cX1_countCharge 13 = .ok (.ladd, 1) := by decide +kernel
theorem dX1_countCharge_14 : decode cX1_countCharge 14 = .ok (.lconst 0, 1) := by decide +kernel
theorem dX1_countCharge_15 : decode cX1_countCharge 15 = .ok (.aload_n 0, 1) := by decide +kernel
theorem dX1_countCharge_16 : decode cX1_countCharge 16 = .ok (.getfield 48, 3) := by decide +kernel
theorem dX1_countCharge_19 : decode cX1_countCharge 19 = .ok (.invokestatic 141, 3) := by decide +kernel
theorem dX1_countCharge_22 : decode cX1_countCharge 22 = .ok (.putfield 53, 3) := by decide +kernel
theorem dX1_countCharge_25 : decode cX1_countCharge 25 = .ok (.aload_n 0, 1) := by decide +kernel
theorem dX1_countCharge_26 : decode cX1_countCharge 26 = .ok (.aload_n 0, 1) := by decide +kernel
theorem dX1_countCharge_27 : decode cX1_countCharge 27 = .ok (.iload_n 1, 1) := by decide +kernel
theorem dX1_countCharge_28 : decode cX1_countCharge 28 = .ok (.iload_n 2, 1) := by decide +kernel
theorem dX1_countCharge_29 : decode cX1_countCharge 29 = .ok (.invokevirtual 190, 3) := by decide +kernel
theorem dX1_countCharge_32 : decode cX1_countCharge 32 = .ok (.putfield 56, 3) := by decide +kernel
theorem dX1_countCharge_35 : decode cX1_countCharge 35 = .ok (.aload_n 0, 1) := by decide +kernel
theorem dX1_countCharge_36 : decode cX1_countCharge 36 = .ok (.aload_n 0, 1) := by decide +kernel
theorem dX1_countCharge_37 : decode cX1_countCharge 37 = .ok (.iload_n 1, 1) := by decide +kernel
theorem dX1_countCharge_38 : decode cX1_countCharge 38 = .ok (.iload_n 2, 1) := by decide +kernel
theorem dX1_countCharge_39 : decode cX1_countCharge 39 = .ok (.invokevirtual 193, 3) := by decide +kernel
theorem dX1_countCharge_42 : decode cX1_countCharge 42 = .ok (.putfield 59, 3) := by decide +kernel
theorem dX1_countCharge_45 : decode cX1_countCharge 45 = .ok (.aload_n 0, 1) := by decide +kernel
theorem dX1_countCharge_46 : decode cX1_countCharge 46 = .ok (.aload_n 0, 1) := by decide +kernel
theorem dX1_countCharge_47 : decode cX1_countCharge 47 = .ok (.getfield 62, 3) := by decide +kernel
theorem dX1_countCharge_50 : decode cX1_countCharge 50 = .ok (.lload_n 3, 1) := by decide +kernel
theorem dX1_countCharge_51 : decode cX1_countCharge 51 = .ok (.ladd, 1) := by decide +kernel
theorem dX1_countCharge_52 : decode cX1_countCharge 52 = .ok (.lconst 0, 1) := by decide +kernel
theorem dX1_countCharge_53 : decode cX1_countCharge 53 = .ok (.aload_n 0, 1) := by decide +kernel
theorem dX1_countCharge_54 : decode cX1_countCharge 54 = .ok (.invokevirtual 108, 3) := by decide +kernel
theorem dX1_countCharge_57 : decode cX1_countCharge 57 = .ok (.invokestatic 141, 3) := by decide +kernel
theorem dX1_countCharge_60 : decode cX1_countCharge 60 = .ok (.putfield 62, 3) := by decide +kernel
theorem dX1_countCharge_63 : decode cX1_countCharge 63 = .ok (.aload_n 0, 1) := by decide +kernel
theorem dX1_countCharge_64 : decode cX1_countCharge 64 = .ok (.dup, 1) := by decide +kernel
theorem dX1_countCharge_65 : decode cX1_countCharge 65 = .ok (.getfield 65, 3) := by decide +kernel
theorem dX1_countCharge_68 : decode cX1_countCharge 68 = .ok (.lload_n 3, 1) := by decide +kernel
theorem dX1_countCharge_69 : decode cX1_countCharge 69 = .ok (.invokestatic 181, 3) := by decide +kernel
theorem dX1_countCharge_72 : decode cX1_countCharge 72 = .ok (.ladd, 1) := by decide +kernel
theorem dX1_countCharge_73 : decode cX1_countCharge 73 = .ok (.putfield 65, 3) := by decide +kernel
theorem dX1_countCharge_76 : decode cX1_countCharge 76 = .ok (.aload_n 0, 1) := by decide +kernel
theorem dX1_countCharge_77 : decode cX1_countCharge 77 = .ok (.dup, 1) := by decide +kernel
theorem dX1_countCharge_78 : decode cX1_countCharge 78 = .ok (.getfield 68, 3) := by decide +kernel
theorem dX1_countCharge_81 : decode cX1_countCharge 81 = .ok (.lload_n 3, 1) := by decide +kernel
theorem dX1_countCharge_82 : decode cX1_countCharge 82 = .ok (.ladd, 1) := by decide +kernel
theorem dX1_countCharge_83 : decode cX1_countCharge 83 = .ok (.putfield 68, 3) := by decide +kernel
theorem dX1_countCharge_86 : decode cX1_countCharge 86 = .ok (.aload_n 0, 1) := by decide +kernel
theorem dX1_countCharge_87 : decode cX1_countCharge 87 = .ok (.dup, 1) := by decide +kernel
theorem dX1_countCharge_88 : decode cX1_countCharge 88 = .ok (.getfield 71, 3) := by decide +kernel
theorem dX1_countCharge_91 : decode cX1_countCharge 91 = .ok (.iload_n 2, 1) := by decide +kernel
theorem dX1_countCharge_92 : decode cX1_countCharge 92 = .ok (.iadd, 1) := by decide +kernel
theorem dX1_countCharge_93 : decode cX1_countCharge 93 = .ok (.putfield 71, 3) := by decide +kernel
theorem dX1_countCharge_96 : decode cX1_countCharge 96 = .ok (.return_, 1) := by decide +kernel
theorem dX1_restIsReached_0 : decode cX1_restIsReached 0 = .ok (.iload_n 1, 1) := by decide +kernel
theorem dX1_restIsReached_1 : decode cX1_restIsReached 1 = .ok (.invokestatic 196, 3) := by decide +kernel
theorem dX1_restIsReached_4 : decode cX1_restIsReached 4 = .ok (.aload_n 0, 1) := by decide +kernel
theorem dX1_restIsReached_5 : decode cX1_restIsReached 5 = .ok (.getfield 9, 3) := by decide +kernel
theorem dX1_restIsReached_8 : decode cX1_restIsReached 8 = .ok (.iconst 4, 1) := by decide +kernel
theorem dX1_restIsReached_9 : decode cX1_restIsReached 9 = .ok (.iaload, 1) := by decide +kernel
theorem dX1_restIsReached_10 : decode cX1_restIsReached 10 = .ok (.if_icmp .gt 33, 3) := by decide +kernel
theorem dX1_restIsReached_13 : decode cX1_restIsReached 13 = .ok (.aload_n 0, 1) := by decide +kernel
theorem dX1_restIsReached_14 : decode cX1_restIsReached 14 = .ok (.getfield 87, 3) := by decide +kernel
theorem dX1_restIsReached_17 : decode cX1_restIsReached 17 = .ok (.iconst (-1), 1) := by decide +kernel
theorem dX1_restIsReached_18 : decode cX1_restIsReached 18 = .ok (.if_icmp .eq 25, 3) := by decide +kernel
theorem dX1_restIsReached_21 : decode cX1_restIsReached 21 = .ok (.iload_n 2, 1) := by decide +kernel
theorem dX1_restIsReached_22 : decode cX1_restIsReached 22 = .ok (.aload_n 0, 1) := by decide +kernel
theorem dX1_restIsReached_23 : decode cX1_restIsReached 23 = .ok (.getfield 87, 3) := by decide +kernel
theorem dX1_restIsReached_26 : decode cX1_restIsReached 26 = .ok (.isub, 1) := by decide +kernel
theorem dX1_restIsReached_27 : decode cX1_restIsReached 27 = .ok (.invokestatic 196, 3) := by decide +kernel
theorem dX1_restIsReached_30 : decode cX1_restIsReached 30 = .ok (.aload_n 0, 1) := by decide +kernel
theorem dX1_restIsReached_31 : decode cX1_restIsReached 31 = .ok (.getfield 9, 3) := by decide +kernel
theorem dX1_restIsReached_34 : decode cX1_restIsReached 34 = .ok (.iconst 5, 1) := by decide +kernel
theorem dX1_restIsReached_35 : decode cX1_restIsReached 35 = .ok (.iaload, 1) := by decide +kernel
theorem dX1_restIsReached_36 : decode cX1_restIsReached 36 = .ok (.if_icmp .gt 7, 3) := by decide +kernel
theorem dX1_restIsReached_39 : decode cX1_restIsReached 39 = .ok (.iconst 1, 1) := by decide +kernel
theorem dX1_restIsReached_40 : decode cX1_restIsReached 40 = .ok (.goto 4, 3) := by decide +kernel
theorem dX1_restIsReached_43 : decode cX1_restIsReached 43 = .ok (.iconst 0, 1) := by decide +kernel
theorem dX1_restIsReached_44 : decode cX1_restIsReached 44 = .ok (.istore 4, 2) := by decide +kernel
theorem dX1_restIsReached_46 : decode cX1_restIsReached 46 = .ok (.aload_n 0, 1) := by decide +kernel
theorem dX1_restIsReached_47 : decode cX1_restIsReached 47 = .ok (.getfield 75, 3) := by decide +kernel
theorem dX1_restIsReached_50 : decode cX1_restIsReached 50 = .ok (.istore 5, 2) := by decide +kernel
theorem dX1_restIsReached_52 : decode cX1_restIsReached 52 = .ok (.aload_n 0, 1) := by decide +kernel
theorem dX1_restIsReached_53 : decode cX1_restIsReached 53 = .ok (.iload 4, 2) := by decide +kernel
theorem dX1_restIsReached_55 : decode cX1_restIsReached 55 = .ok (.ifCond .eq 10, 3) := by decide +kernel
theorem dX1_restIsReached_58 : decode cX1_restIsReached 58 = .ok (.iload 5, 2) := by decide +kernel
theorem dX1_restIsReached_60 : decode cX1_restIsReached 60 = .ok (.iload_n 3, 1) := by decide +kernel
theorem dX1_restIsReached_61 : decode cX1_restIsReached 61 = .ok (.iadd, 1) := by decide +kernel
theorem dX1_restIsReached_62 : decode cX1_restIsReached 62 = .ok (.goto 4, 3) := by decide +kernel
theorem dX1_restIsReached_65 : decode cX1_restIsReached 65 = .ok (.iconst 0, 1) := by decide +kernel
theorem dX1_restIsReached_66 : decode cX1_restIsReached 66 = .ok (.putfield 75, 3) := by decide +kernel
theorem dX1_restIsReached_69 : decode cX1_restIsReached 69 = .ok (.aload_n 0, 1) := by decide +kernel
theorem dX1_restIsReached_70 : decode cX1_restIsReached 70 = .ok (.getfield 75, 3) := by decide +kernel
theorem dX1_restIsReached_73 : decode cX1_restIsReached 73 = .ok (.aload_n 0, 1) := by decide +kernel
theorem dX1_restIsReached_74 : decode cX1_restIsReached 74 = .ok (.getfield 9, 3) := by decide +kernel
theorem dX1_restIsReached_77 : decode cX1_restIsReached 77 = .ok (.bipush 6, 2) := by decide +kernel
theorem dX1_restIsReached_79 : decode cX1_restIsReached 79 = .ok (.iaload, 1) := by decide +kernel
theorem dX1_restIsReached_80 : decode cX1_restIsReached 80 = .ok (.if_icmp .lt 19, 3) := by decide +kernel
theorem dX1_restIsReached_83 : decode cX1_restIsReached 83 = .ok (.iload 5, 2) := by decide +kernel
theorem dX1_restIsReached_85 : decode cX1_restIsReached 85 = .ok (.aload_n 0, 1) := by decide +kernel
theorem dX1_restIsReached_86 : decode cX1_restIsReached 86 = .ok (.getfield 9, 3) := by decide +kernel
theorem dX1_restIsReached_89 : decode cX1_restIsReached 89 = .ok (.bipush 6, 2) := by decide +kernel
theorem dX1_restIsReached_91 : decode cX1_restIsReached 91 = .ok (.iaload, 1) := by decide +kernel
theorem dX1_restIsReached_92 : decode cX1_restIsReached 92 = .ok (.if_icmp .ge 7, 3) := by decide +kernel
theorem dX1_restIsReached_95 : decode cX1_restIsReached 95 = .ok (.iconst 1, 1) := by decide +kernel
theorem dX1_restIsReached_96 : decode cX1_restIsReached 96 = .ok (.goto 4, 3) := by decide +kernel
theorem dX1_restIsReached_99 : decode cX1_restIsReached 99 = .ok (.iconst 0, 1) := by decide +kernel
theorem dX1_restIsReached_100 : decode cX1_restIsReached 100 = .ok (.ireturn, 1) := by decide +kernel
theorem dX1_fullIsReached_0 : decode cX1_fullIsReached 0 = .ok (.iload_n 1, 1) := by decide +kernel
theorem dX1_fullIsReached_1 : decode cX1_fullIsReached 1 = .ok (.ifCond .lt 29, 3) := by decide +kernel
theorem dX1_fullIsReached_4 : decode cX1_fullIsReached 4 = .ok (.iload_n 1, 1) := by decide +kernel
theorem dX1_fullIsReached_5 : decode cX1_fullIsReached 5 = .ok (.aload_n 0, 1) := by decide +kernel
theorem dX1_fullIsReached_6 : decode cX1_fullIsReached 6 = .ok (.getfield 9, 3) := by decide +kernel
theorem dX1_fullIsReached_9 : decode cX1_fullIsReached 9 = .ok (.bipush 9, 2) := by decide +kernel
theorem dX1_fullIsReached_11 : decode cX1_fullIsReached 11 = .ok (.iaload, 1) := by decide +kernel
theorem dX1_fullIsReached_12 : decode cX1_fullIsReached 12 = .ok (.if_icmp .gt 18, 3) := by decide +kernel
theorem dX1_fullIsReached_15 : decode cX1_fullIsReached 15 = .ok (.iload_n 2, 1) := by decide +kernel
theorem dX1_fullIsReached_16 : decode cX1_fullIsReached 16 = .ok (.aload_n 0, 1) := by decide +kernel
theorem dX1_fullIsReached_17 : decode cX1_fullIsReached 17 = .ok (.getfield 9, 3) := by decide +kernel
theorem dX1_fullIsReached_20 : decode cX1_fullIsReached 20 = .ok (.bipush 8, 2) := by decide +kernel
theorem dX1_fullIsReached_22 : decode cX1_fullIsReached 22 = .ok (.iaload, 1) := by decide +kernel
theorem dX1_fullIsReached_23 : decode cX1_fullIsReached 23 = .ok (.if_icmp .lt 7, 3) := by decide +kernel
theorem dX1_fullIsReached_26 : decode cX1_fullIsReached 26 = .ok (.iconst 1, 1) := by decide +kernel
theorem dX1_fullIsReached_27 : decode cX1_fullIsReached 27 = .ok (.goto 4, 3) := by decide +kernel
theorem dX1_fullIsReached_30 : decode cX1_fullIsReached 30 = .ok (.iconst 0, 1) := by decide +kernel
theorem dX1_fullIsReached_31 : decode cX1_fullIsReached 31 = .ok (.istore 4, 2) := by decide +kernel
theorem dX1_fullIsReached_33 : decode cX1_fullIsReached 33 = .ok (.aload_n 0, 1) := by decide +kernel
theorem dX1_fullIsReached_34 : decode cX1_fullIsReached 34 = .ok (.getfield 78, 3) := by decide +kernel
theorem dX1_fullIsReached_37 : decode cX1_fullIsReached 37 = .ok (.istore 5, 2) := by decide +kernel
theorem dX1_fullIsReached_39 : decode cX1_fullIsReached 39 = .ok (.aload_n 0, 1) := by decide +kernel
theorem dX1_fullIsReached_40 : decode cX1_fullIsReached 40 = .ok (.iload 4, 2) := by decide +kernel
theorem dX1_fullIsReached_42 : decode cX1_fullIsReached 42 = .ok (.ifCond .eq 10, 3) := by decide +kernel
theorem dX1_fullIsReached_45 : decode cX1_fullIsReached 45 = .ok (.iload 5, 2) := by decide +kernel
theorem dX1_fullIsReached_47 : decode cX1_fullIsReached 47 = .ok (.iload_n 3, 1) := by decide +kernel
theorem dX1_fullIsReached_48 : decode cX1_fullIsReached 48 = .ok (.iadd, 1) := by decide +kernel
theorem dX1_fullIsReached_49 : decode cX1_fullIsReached 49 = .ok (.goto 4, 3) := by decide +kernel
theorem dX1_fullIsReached_52 : decode cX1_fullIsReached 52 = .ok (.iconst 0, 1) := by decide +kernel
theorem dX1_fullIsReached_53 : decode cX1_fullIsReached 53 = .ok (.putfield 78, 3) := by decide +kernel
theorem dX1_fullIsReached_56 : decode cX1_fullIsReached 56 = .ok (.aload_n 0, 1) := by decide +kernel
theorem dX1_fullIsReached_57 : decode cX1_fullIsReached 57 = .ok (.getfield 78, 3) := by decide +kernel
theorem dX1_fullIsReached_60 : decode cX1_fullIsReached 60 = .ok (.bipush 60, 2) := by decide +kernel
theorem dX1_fullIsReached_62 : decode cX1_fullIsReached 62 = .ok (.if_icmp .lt 14, 3) := by decide +kernel
theorem dX1_fullIsReached_65 : decode cX1_fullIsReached 65 = .ok (.iload 5, 2) := by decide +kernel
theorem dX1_fullIsReached_67 : decode cX1_fullIsReached 67 = .ok (.bipush 60, 2) := by decide +kernel
theorem dX1_fullIsReached_69 : decode cX1_fullIsReached 69 = .ok (.if_icmp .ge 7, 3) := by decide +kernel
theorem dX1_fullIsReached_72 : decode cX1_fullIsReached 72 = .ok (.iconst 1, 1) := by decide +kernel
theorem dX1_fullIsReached_73 : decode cX1_fullIsReached 73 = .ok (.goto 4, 3) := by decide +kernel
theorem dX1_fullIsReached_76 : decode cX1_fullIsReached 76 = .ok (.iconst 0, 1) := by decide +kernel
theorem dX1_fullIsReached_77 : decode cX1_fullIsReached 77 = .ok (.ireturn, 1) := by decide +kernel
theorem dX1_emptyIsReached_0 : decode cX1_emptyIsReached 0 = .ok (.aload_n 0, 1) := by decide +kernel
theorem dX1_emptyIsReached_1 : decode cX1_emptyIsReached 1 = .ok (.getfield 90, 3) := by decide +kernel
theorem dX1_emptyIsReached_4 : decode cX1_emptyIsReached 4 = .ok (.istore_n 3, 1) := by decide +kernel
theorem dX1_emptyIsReached_5 : decode cX1_emptyIsReached 5 = .ok (.aload_n 0, 1) := by decide +kernel
theorem dX1_emptyIsReached_6 : decode cX1_emptyIsReached 6 = .ok (.iload_n 1, 1) := by decide +kernel
theorem dX1_emptyIsReached_7 : decode cX1_emptyIsReached 7 = .ok (.ifCond .ge 18, 3) := by decide +kernel
theorem dX1_emptyIsReached_10 : decode cX1_emptyIsReached 10 = .ok (.iload_n 2, 1) := by decide +kernel
theorem dX1_emptyIsReached_11 : decode cX1_emptyIsReached 11 = .ok (.aload_n 0, 1) := by decide +kernel
theorem dX1_emptyIsReached_12 : decode cX1_emptyIsReached 12 = .ok (.getfield 9, 3) := by decide +kernel
theorem dX1_emptyIsReached_15 : decode cX1_emptyIsReached 15 = .ok (.bipush 10, 2) := by decide +kernel
theorem dX1_emptyIsReached_17 : decode cX1_emptyIsReached 17 = .ok (.iaload, 1) := by decide +kernel
theorem dX1_emptyIsReached_18 : decode cX1_emptyIsReached 18 = .ok (.if_icmp .gt 7, 3) := by decide +kernel
theorem dX1_emptyIsReached_21 : decode cX1_emptyIsReached 21 = .ok (.iconst 1, 1) := by decide +kernel
theorem dX1_emptyIsReached_22 : decode cX1_emptyIsReached 22 = .ok (.goto 4, 3) := by decide +kernel
theorem dX1_emptyIsReached_25 : decode cX1_emptyIsReached 25 = .ok (.iconst 0, 1) := by decide +kernel
theorem dX1_emptyIsReached_26 : decode cX1_emptyIsReached 26 = .ok (.putfield 90, 3) := by decide +kernel
theorem dX1_emptyIsReached_29 : decode cX1_emptyIsReached 29 = .ok (.aload_n 0, 1) := by decide +kernel
theorem dX1_emptyIsReached_30 : decode cX1_emptyIsReached 30 = .ok (.getfield 90, 3) := by decide +kernel
theorem dX1_emptyIsReached_33 : decode cX1_emptyIsReached 33 = .ok (.ifCond .eq 11, 3) := by decide +kernel
theorem dX1_emptyIsReached_36 : decode cX1_emptyIsReached 36 = .ok (.iload_n 3, 1) := by decide +kernel
theorem dX1_emptyIsReached_37 : decode cX1_emptyIsReached 37 = .ok (.ifCond .ne 7, 3) := by decide +kernel
theorem dX1_emptyIsReached_40 : decode cX1_emptyIsReached 40 = .ok (.iconst 1, 1) := by decide +kernel
theorem dX1_emptyIsReached_41 : decode cX1_emptyIsReached 41 = .ok (.goto 4, 3) := by decide +kernel
theorem dX1_emptyIsReached_44 : decode cX1_emptyIsReached 44 = .ok (.iconst 0, 1) := by decide +kernel
theorem dX1_emptyIsReached_45 : decode cX1_emptyIsReached 45 = .ok (.ireturn, 1) := by decide +kernel
set_option maxRecDepth 20000 in
theorem ggX1_addAnchor_X1_learnCapacity : GoodIn wsX1_addAnchor wsX1_learnCapacity := goodIn_r _ [20, 13, 21, 22, 6, 23, 12, 24, 25, 26, 27, 28, 29, 30, 31, 15, 32, 33, 11, 8, 9, 10, 1, 2, 34, 35, 36, 37, 38, 39, 40, 41, 42, 43, 44, 45, 46, 47, 48, 49, 50, 51, 52, 53, 54, 55, 56, 19, 57, 58, 76, 77, 78, 79, 80, 81, 82, 83, 84, 85, 86, 87, 88, 89, 90, 91, 92, 93, 94, 95] rfl (by decide +kernel)
set_option maxRecDepth 20000 in
theorem gX1_addAnchor_X1_learnCapacity : GoodIn wsX1_addAnchor (wsV RX1 198 RX1 yX1_learnCapacity wsX1_learnCapacity) := goodIn_app (goodIn_of _ (by decide +kernel)) ggX1_addAnchor_X1_learnCapacity
set_option maxRecDepth 20000 in
theorem ggX1_addAnchor_X1_chargeAt : GoodIn wsX1_addAnchor wsX1_chargeAt := goodIn_r _ [62, 15, 28, 76, 77, 78, 79, 80, 81, 82, 83, 84, 85, 86, 87, 88, 89, 90, 91, 92, 93] rfl (by decide +kernel)
set_option maxRecDepth 20000 in
theorem gX1_addAnchor_X1_chargeAt : GoodIn wsX1_addAnchor (wsV RX1 97 RX1 yX1_chargeAt wsX1_chargeAt) := goodIn_app (goodIn_of _ (by decide +kernel)) ggX1_addAnchor_X1_chargeAt
set_option maxRecDepth 20000 in
theorem ggX1_addAnchor_X5_clamp : GoodIn wsX1_addAnchor wsX5_clamp := goodIn_r _ [65, 66, 5, 6, 7, 67, 9, 10] rfl (by decide +kernel)
set_option maxRecDepth 20000 in
theorem gX1_addAnchor_X5_clamp_n141 : GoodIn wsX1_addAnchor (wsX5_clamp) := ggX1_addAnchor_X5_clamp
set_option maxRecDepth 20000 in
theorem ggX1_addAnchor_X0_add : GoodIn wsX1_addAnchor wsX0_add := goodIn_r _ [71, 40, 49, 72, 73, 74, 75, 94, 95] rfl (by decide +kernel)
set_option maxRecDepth 20000 in
theorem gX1_addAnchor_X0_add : GoodIn wsX1_addAnchor (wsV RX1 205 RX0 yX0_add wsX0_add) := goodIn_app (goodIn_of _ (by decide +kernel)) ggX1_addAnchor_X0_add
theorem dX1_addAnchor_0 : decode cX1_addAnchor 0 = .ok (.aload_n 0, 1) := by decide +kernel
theorem dX1_addAnchor_1 : decode cX1_addAnchor 1 = .ok (.iload_n 2, 1) := by decide +kernel
theorem dX1_addAnchor_2 : decode cX1_addAnchor 2 = .ok (.invokevirtual 198, 3) := by decide +kernel
theorem dX1_addAnchor_5 : decode cX1_addAnchor 5 = .ok (.aload_n 0, 1) := by decide +kernel
theorem dX1_addAnchor_6 : decode cX1_addAnchor 6 = .ok (.iload_n 3, 1) := by decide +kernel
theorem dX1_addAnchor_7 : decode cX1_addAnchor 7 = .ok (.invokevirtual 97, 3) := by decide +kernel
theorem dX1_addAnchor_10 : decode cX1_addAnchor 10 = .ok (.lstore 5, 2) := by decide +kernel
theorem dX1_addAnchor_12 : decode cX1_addAnchor 12 = .ok (.aload_n 0, 1) := by decide +kernel
theorem dX1_addAnchor_13 : decode cX1_addAnchor 13 = .ok (.iload 4, 2) := by decide +kernel
theorem dX1_addAnchor_15 : decode cX1_addAnchor 15 = .ok (.invokevirtual 97, 3) := by decide +kernel
theorem dX1_addAnchor_18 : decode cX1_addAnchor 18 = .ok (.lstore 7, 2) := by decide +kernel
theorem dX1_addAnchor_20 : decode cX1_addAnchor 20 = .ok (.lload 7, 2) := by decide +kernel
theorem dX1_addAnchor_22 : decode cX1_addAnchor 22 = .ok (.aload_n 0, 1) := by decide +kernel
theorem dX1_addAnchor_23 : decode cX1_addAnchor 23 = .ok (.getfield 56, 3) := by decide +kernel
theorem dX1_addAnchor_26 : decode cX1_addAnchor 26 = .ok (.lcmp, 1) := by decide +kernel
theorem dX1_addAnchor_27 : decode cX1_addAnchor 27 = .ok (.ifCond .lt 13, 3) := by decide +kernel
theorem dX1_addAnchor_30 : decode cX1_addAnchor 30 = .ok (.lload 5, 2) := by decide +kernel
theorem dX1_addAnchor_32 : decode cX1_addAnchor 32 = .ok (.aload_n 0, 1) := by decide +kernel
theorem dX1_addAnchor_33 : decode cX1_addAnchor 33 = .ok (.getfield 59, 3) := by decide +kernel
theorem dX1_addAnchor_36 : decode cX1_addAnchor 36 = .ok (.lcmp, 1) := by decide +kernel
theorem dX1_addAnchor_37 : decode cX1_addAnchor 37 = .ok (.ifCond .le 28, 3) := by decide +kernel
theorem dX1_addAnchor_40 : decode cX1_addAnchor 40 = .ok (.aload_n 0, 1) := by decide +kernel
theorem dX1_addAnchor_41 : decode cX1_addAnchor 41 = .ok (.dup, 1) := by decide +kernel
theorem dX1_addAnchor_42 : decode cX1_addAnchor 42 = .ok (.getfield 81, 3) := by decide +kernel
theorem dX1_addAnchor_45 : decode cX1_addAnchor 45 = .ok (.iconst 1, 1) := by decide +kernel
theorem dX1_addAnchor_46 : decode cX1_addAnchor 46 = .ok (.iadd, 1) := by decide +kernel
theorem dX1_addAnchor_47 : decode cX1_addAnchor 47 = .ok (.putfield 81, 3) := by decide +kernel
theorem dX1_addAnchor_50 : decode cX1_addAnchor 50 = .ok (.aload_n 0, 1) := by decide +kernel
theorem dX1_addAnchor_51 : decode cX1_addAnchor 51 = .ok (.lload 5, 2) := by decide +kernel
theorem dX1_addAnchor_53 : decode cX1_addAnchor 53 = .ok (.putfield 56, 3) := by decide +kernel
theorem dX1_addAnchor_56 : decode cX1_addAnchor 56 = .ok (.aload_n 0, 1) := by decide +kernel
theorem dX1_addAnchor_57 : decode cX1_addAnchor 57 = .ok (.lload 7, 2) := by decide +kernel
theorem dX1_addAnchor_59 : decode cX1_addAnchor 59 = .ok (.putfield 59, 3) := by decide +kernel
theorem dX1_addAnchor_62 : decode cX1_addAnchor 62 = .ok (.goto 29, 3) := by decide +kernel
theorem dX1_addAnchor_65 : decode cX1_addAnchor 65 = .ok (.aload_n 0, 1) := by decide +kernel
theorem dX1_addAnchor_66 : decode cX1_addAnchor 66 = .ok (.aload_n 0, 1) := by decide +kernel
theorem dX1_addAnchor_67 : decode cX1_addAnchor 67 = .ok (.getfield 56, 3) := by decide +kernel
theorem dX1_addAnchor_70 : decode cX1_addAnchor 70 = .ok (.lload 5, 2) := by decide +kernel
theorem dX1_addAnchor_72 : decode cX1_addAnchor 72 = .ok (.invokestatic 202, 3) := by decide +kernel
theorem dX1_addAnchor_75 : decode cX1_addAnchor 75 = .ok (.putfield 56, 3) := by decide +kernel
theorem dX1_addAnchor_78 : decode cX1_addAnchor 78 = .ok (.aload_n 0, 1) := by decide +kernel
theorem dX1_addAnchor_79 : decode cX1_addAnchor 79 = .ok (.aload_n 0, 1) := by decide +kernel
theorem dX1_addAnchor_80 : decode cX1_addAnchor 80 = .ok (.getfield 59, 3) := by decide +kernel
theorem dX1_addAnchor_83 : decode cX1_addAnchor 83 = .ok (.lload 7, 2) := by decide +kernel
theorem dX1_addAnchor_85 : decode cX1_addAnchor 85 = .ok (.invokestatic 112, 3) := by decide +kernel
theorem dX1_addAnchor_88 : decode cX1_addAnchor 88 = .ok (.putfield 59, 3) := by decide +kernel
theorem dX1_addAnchor_91 : decode cX1_addAnchor 91 = .ok (.aload_n 0, 1) := by decide +kernel
theorem dX1_addAnchor_92 : decode cX1_addAnchor 92 = .ok (.aload_n 0, 1) := by decide +kernel
theorem dX1_addAnchor_93 : decode cX1_addAnchor 93 = .ok (.getfield 53, 3) := by decide +kernel
theorem dX1_addAnchor_96 : decode cX1_addAnchor 96 = .ok (.aload_n 0, 1) := by decide +kernel
theorem dX1_addAnchor_97 : decode cX1_addAnchor 97 = .ok (.getfield 56, 3) := by decide +kernel
theorem dX1_addAnchor_100 : decode cX1_addAnchor 100 = .ok (.aload_n 0, 1) := by decide +kernel
theorem dX1_addAnchor_101 : decode cX1_addAnchor 101 = .ok (.getfield 59, 3) := by decide +kernel
theorem dX1_addAnchor_104 : decode cX1_addAnchor 104 = .ok (.invokestatic 141, 3) := by decide +kernel
theorem dX1_addAnchor_107 : decode cX1_addAnchor 107 = .ok (.putfield 53, 3) := by decide +kernel
theorem dX1_addAnchor_110 : decode cX1_addAnchor 110 = .ok (.aload_n 0, 1) := by decide +kernel
theorem dX1_addAnchor_111 : decode cX1_addAnchor 111 = .ok (.lconst 0, 1) := by decide +kernel
theorem dX1_addAnchor_112 : decode cX1_addAnchor 112 = .ok (.putfield 68, 3) := by decide +kernel
theorem dX1_addAnchor_115 : decode cX1_addAnchor 115 = .ok (.aload_n 0, 1) := by decide +kernel
theorem dX1_addAnchor_116 : decode cX1_addAnchor 116 = .ok (.getfield 25, 3) := by decide +kernel
theorem dX1_addAnchor_119 : decode cX1_addAnchor 119 = .ok (.iload_n 1, 1) := by decide +kernel
theorem dX1_addAnchor_120 : decode cX1_addAnchor 120 = .ok (.iload_n 2, 1) := by decide +kernel
theorem dX1_addAnchor_121 : decode cX1_addAnchor 121 = .ok (.aload_n 0, 1) := by decide +kernel
theorem dX1_addAnchor_122 : decode cX1_addAnchor 122 = .ok (.getfield 71, 3) := by decide +kernel
theorem dX1_addAnchor_125 : decode cX1_addAnchor 125 = .ok (.aload_n 0, 1) := by decide +kernel
theorem dX1_addAnchor_126 : decode cX1_addAnchor 126 = .ok (.getfield 48, 3) := by decide +kernel
theorem dX1_addAnchor_129 : decode cX1_addAnchor 129 = .ok (.l2i, 1) := by decide +kernel
theorem dX1_addAnchor_130 : decode cX1_addAnchor 130 = .ok (.invokevirtual 205, 3) := by decide +kernel
theorem dX1_addAnchor_133 : decode cX1_addAnchor 133 = .ok (.return_, 1) := by decide +kernel
set_option maxRecDepth 20000 in
theorem ggX1_learnCapacity_X0_size : GoodIn wsX1_learnCapacity wsX0_size := goodIn_r _ [29, 30, 68, 69] rfl (by decide +kernel)
set_option maxRecDepth 20000 in
theorem gX1_learnCapacity_X0_size : GoodIn wsX1_learnCapacity (wsV RX1 208 RX0 yX0_size wsX0_size) := goodIn_app (goodIn_of _ (by decide +kernel)) ggX1_learnCapacity_X0_size
set_option maxRecDepth 20000 in
theorem ggX1_learnCapacity_X0_latestSoc : GoodIn wsX1_learnCapacity wsX0_latestSoc := goodIn_r _ [34, 30, 35, 36, 37, 28, 38, 39, 68, 69] rfl (by decide +kernel)
set_option maxRecDepth 20000 in
theorem gX1_learnCapacity_X0_latestSoc : GoodIn wsX1_learnCapacity (wsV RX1 211 RX0 yX0_latestSoc wsX0_latestSoc) := goodIn_app (goodIn_of _ (by decide +kernel)) ggX1_learnCapacity_X0_latestSoc
set_option maxRecDepth 20000 in
theorem ggX1_learnCapacity_J9_floorDiv_f86c9 : GoodIn wsX1_learnCapacity wsJ9_floorDiv_f86c9 := goodIn_r _ [43] rfl (by decide +kernel)
set_option maxRecDepth 20000 in
theorem gX1_learnCapacity_J9_floorDiv_f86c9 : GoodIn wsX1_learnCapacity (va_wsS RX1 218 yJ9_floorDiv_f86c9 wsJ9_floorDiv_f86c9) := goodIn_app (goodIn_of _ (by decide +kernel)) ggX1_learnCapacity_J9_floorDiv_f86c9
set_option maxRecDepth 20000 in
theorem ggX1_learnCapacity_X1_hysteresisRange : GoodIn wsX1_learnCapacity wsX1_hysteresisRange := goodIn_r _ [48, 15, 7, 49, 50, 51, 52, 53, 54, 55, 56, 57, 58, 59, 60, 61, 62, 63, 64, 65, 66, 67] rfl (by decide +kernel)
set_option maxRecDepth 20000 in
theorem gX1_learnCapacity_X1_hysteresisRange : GoodIn wsX1_learnCapacity (wsV RX1 108 RX1 yX1_hysteresisRange wsX1_hysteresisRange) := goodIn_app (goodIn_of _ (by decide +kernel)) ggX1_learnCapacity_X1_hysteresisRange
theorem dX1_learnCapacity_0 : decode cX1_learnCapacity 0 = .ok (.aload_n 0, 1) := by decide +kernel
theorem dX1_learnCapacity_1 : decode cX1_learnCapacity 1 = .ok (.getfield 25, 3) := by decide +kernel
theorem dX1_learnCapacity_4 : decode cX1_learnCapacity 4 = .ok (.invokevirtual 208, 3) := by decide +kernel
theorem dX1_learnCapacity_7 : decode cX1_learnCapacity 7 = .ok (.ifCond .ne 4, 3) := by decide +kernel
theorem dX1_learnCapacity_10 : decode cX1_learnCapacity 10 = .ok (.return_, 1) := by decide +kernel
theorem dX1_learnCapacity_11 : decode cX1_learnCapacity 11 = .ok (.aload_n 0, 1) := by decide +kernel
theorem dX1_learnCapacity_12 : decode cX1_learnCapacity 12 = .ok (.getfield 25, 3) := by decide +kernel
theorem dX1_learnCapacity_15 : decode cX1_learnCapacity 15 = .ok (.invokevirtual 211, 3) := by decide +kernel
theorem dX1_learnCapacity_18 : decode cX1_learnCapacity 18 = .ok (.istore_n 2, 1) := by decide +kernel
theorem dX1_learnCapacity_19 : decode cX1_learnCapacity 19 = .ok (.iload_n 1, 1) := by decide +kernel
theorem dX1_learnCapacity_20 : decode cX1_learnCapacity 20 = .ok (.iload_n 2, 1) := by decide +kernel
theorem dX1_learnCapacity_21 : decode cX1_learnCapacity 21 = .ok (.isub, 1) := by decide +kernel
theorem dX1_learnCapacity_22 : decode cX1_learnCapacity 22 = .ok (.invokestatic 196, 3) := by decide +kernel
theorem dX1_learnCapacity_25 : decode cX1_learnCapacity 25 = .ok (.istore_n 3, 1) := by decide +kernel
theorem dX1_learnCapacity_26 : decode cX1_learnCapacity 26 = .ok (.aload_n 0, 1) := by decide +kernel
theorem dX1_learnCapacity_27 : decode cX1_learnCapacity 27 = .ok (.getfield 68, 3) := by decide +kernel
theorem dX1_learnCapacity_30 : decode cX1_learnCapacity 30 = .ok (.lconst 0, 1) := by decide +kernel
theorem dX1_learnCapacity_31 : decode cX1_learnCapacity 31 = .ok (.lcmp, 1) := by decide +kernel
theorem dX1_learnCapacity_32 : decode cX1_learnCapacity 32 = .ok (.ifCond .eq 34, 3) := by decide +kernel
theorem dX1_learnCapacity_35 : decode cX1_learnCapacity 35 = .ok (.aload_n 0, 1) := by decide +kernel
theorem dX1_learnCapacity_36 : decode cX1_learnCapacity 36 = .ok (.getfield 68, 3) := by decide +kernel
theorem dX1_learnCapacity_39 : decode cX1_learnCapacity 39 = .ok (.lconst 0, 1) := by decide +kernel
theorem dX1_learnCapacity_40 : decode cX1_learnCapacity 40 = .ok (.lcmp, 1) := by decide +kernel
theorem dX1_learnCapacity_41 : decode cX1_learnCapacity 41 = .ok (.ifCond .le 7, 3) := by decide +kernel
theorem dX1_learnCapacity_44 : decode cX1_learnCapacity 44 = .ok (.iconst 1, 1) := by decide +kernel
theorem dX1_learnCapacity_45 : decode cX1_learnCapacity 45 = .ok (.goto 4, 3) := by decide +kernel
theorem dX1_learnCapacity_48 : decode cX1_learnCapacity 48 = .ok (.iconst 0, 1) := by decide +kernel
theorem dX1_learnCapacity_49 : decode cX1_learnCapacity 49 = .ok (.iload_n 1, 1) := by decide +kernel
theorem dX1_learnCapacity_50 : decode cX1_learnCapacity 50 = .ok (.iload_n 2, 1) := by decide +kernel
theorem dX1_learnCapacity_51 : decode cX1_learnCapacity 51 = .ok (.if_icmp .le 7, 3) := by decide +kernel
theorem dX1_learnCapacity_54 : decode cX1_learnCapacity 54 = .ok (.iconst 1, 1) := by decide +kernel
theorem dX1_learnCapacity_55 : decode cX1_learnCapacity 55 = .ok (.goto 4, 3) := by decide +kernel
theorem dX1_learnCapacity_58 : decode cX1_learnCapacity 58 = .ok (.iconst 0, 1) := by decide +kernel
theorem dX1_learnCapacity_59 : decode cX1_learnCapacity 59 = .ok (.if_icmp .ne 7, 3) := by decide +kernel
theorem dX1_learnCapacity_62 : decode cX1_learnCapacity 62 = .ok (.iconst 1, 1) := by decide +kernel
theorem dX1_learnCapacity_63 : decode cX1_learnCapacity 63 = .ok (.goto 4, 3) := by decide +kernel
theorem dX1_learnCapacity_66 : decode cX1_learnCapacity 66 = .ok (.iconst 0, 1) := by decide +kernel
theorem dX1_learnCapacity_67 : decode cX1_learnCapacity 67 = .ok (.istore 4, 2) := by decide +kernel
theorem dX1_learnCapacity_69 : decode cX1_learnCapacity 69 = .ok (.iload 4, 2) := by decide +kernel
theorem dX1_learnCapacity_71 : decode cX1_learnCapacity 71 = .ok (.ifCond .eq 18, 3) := by decide +kernel
theorem dX1_learnCapacity_74 : decode cX1_learnCapacity 74 = .ok (.iload_n 3, 1) := by decide +kernel
theorem dX1_learnCapacity_75 : decode cX1_learnCapacity 75 = .ok (.aload_n 0, 1) := by decide +kernel
theorem dX1_learnCapacity_76 : decode cX1_learnCapacity 76 = .ok (.getfield 9, 3) := by decide +kernel
theorem dX1_learnCapacity_79 : decode cX1_learnCapacity 79 = .ok (.bipush 11, 2) := by decide +kernel
theorem dX1_learnCapacity_81 : decode cX1_learnCapacity 81 = .ok (.iaload, 1) := by decide +kernel
theorem dX1_learnCapacity_82 : decode cX1_learnCapacity 82 = .ok (.if_icmp .lt 7, 3) := by decide +kernel
theorem dX1_learnCapacity_85 : decode cX1_learnCapacity 85 = .ok (.iload_n 3, 1) := by decide +kernel
theorem dX1_learnCapacity_86 : decode cX1_learnCapacity 86 = .ok (.ifCond .gt 4, 3) := by decide +kernel
theorem dX1_learnCapacity_89 : decode cX1_learnCapacity 89 = .ok (.return_, 1) := by decide +kernel
theorem dX1_learnCapacity_90 : decode cX1_learnCapacity 90 = .ok (.aload_n 0, 1) := by decide +kernel
theorem dX1_learnCapacity_91 : decode cX1_learnCapacity 91 = .ok (.getfield 68, 3) := by decide +kernel
theorem dX1_learnCapacity_94 : decode cX1_learnCapacity 94 = .ok (.invokestatic 181, 3) := by decide +kernel
theorem dX1_learnCapacity_97 : decode cX1_learnCapacity 97 = .ok (.ldc2_w 122, 3) := by decide +kernel
theorem dX1_learnCapacity_100 : decode cX1_learnCapacity 100 = .ok (.lmul, 1) := by decide +kernel
theorem dX1_learnCapacity_101 : decode cX1_learnCapacity 101 = .ok (.iload_n 3, 1) := by decide +kernel
theorem dX1_learnCapacity_102 : decode cX1_learnCapacity 102 = .ok (.i2l, 1) := by decide +kernel
theorem dX1_learnCapacity_103 : decode cX1_learnCapacity 103 = .ok (.ldiv, 1) := by decide +kernel
theorem dX1_learnCapacity_104 : decode cX1_learnCapacity 104 = .ok (.lstore 5, 2) := by decide +kernel
theorem dX1_learnCapacity_106 : decode cX1_learnCapacity 106 = .ok (.lload 5, 2) := by decide +kernel
theorem dX1_learnCapacity_108 : decode cX1_learnCapacity 108 = .ok (.aload_n 0, 1) := by decide +kernel
theorem dX1_learnCapacity_109 : decode cX1_learnCapacity 109 = .ok (.getfield 44, 3) := by decide +kernel
theorem dX1_learnCapacity_112 : decode cX1_learnCapacity 112 = .ok (.ldc2_w 51, 3) := by decide +kernel
theorem dX1_learnCapacity_115 : decode cX1_learnCapacity 115 = .ok (.ldiv, 1) := by decide +kernel
theorem dX1_learnCapacity_116 : decode cX1_learnCapacity 116 = .ok (.lcmp, 1) := by decide +kernel
theorem dX1_learnCapacity_117 : decode cX1_learnCapacity 117 = .ok (.ifCond .lt 21, 3) := by decide +kernel
theorem dX1_learnCapacity_120 : decode cX1_learnCapacity 120 = .ok (.lload 5, 2) := by decide +kernel
theorem dX1_learnCapacity_122 : decode cX1_learnCapacity 122 = .ok (.aload_n 0, 1) := by decide +kernel
theorem dX1_learnCapacity_123 : decode cX1_learnCapacity 123 = .ok (.getfield 44, 3) := by decide +kernel
theorem dX1_learnCapacity_126 : decode cX1_learnCapacity 126 = .ok (.ldc2_w 214, 3) := by decide +kernel
theorem dX1_learnCapacity_129 : decode cX1_learnCapacity 129 = .ok (.lmul, 1) := by decide +kernel
theorem dX1_learnCapacity_130 : decode cX1_learnCapacity 130 = .ok (.ldc2_w 51, 3) := by decide +kernel
theorem dX1_learnCapacity_133 : decode cX1_learnCapacity 133 = .ok (.ldiv, 1) := by decide +kernel
theorem dX1_learnCapacity_134 : decode cX1_learnCapacity 134 = .ok (.lcmp, 1) := by decide +kernel
theorem dX1_learnCapacity_135 : decode cX1_learnCapacity 135 = .ok (.ifCond .le 4, 3) := by decide +kernel
theorem dX1_learnCapacity_138 : decode cX1_learnCapacity 138 = .ok (.return_, 1) := by decide +kernel
theorem dX1_learnCapacity_139 : decode cX1_learnCapacity 139 = .ok (.aload_n 0, 1) := by decide +kernel
theorem dX1_learnCapacity_140 : decode cX1_learnCapacity 140 = .ok (.dup, 1) := by decide +kernel
theorem dX1_learnCapacity_141 : decode cX1_learnCapacity 141 = .ok (.getfield 48, 3) := by decide +kernel
theorem dX1_learnCapacity_144 : decode cX1_learnCapacity 144 = .ok (.lload 5, 2) := by decide +kernel
theorem dX1_learnCapacity_146 : decode cX1_learnCapacity 146 = .ok (.aload_n 0, 1) := by decide +kernel
theorem dX1_learnCapacity_147 : decode cX1_learnCapacity 147 = .ok (.getfield 48, 3) := by decide +kernel
theorem dX1_learnCapacity_150 : decode cX1_learnCapacity 150 = .ok (.lsub, 1) := by decide +kernel
theorem dX1_learnCapacity_151 : decode cX1_learnCapacity 151 = .ok (.ldc2_w 216, 3) := by decide +kernel
theorem dX1_learnCapacity_154 : decode cX1_learnCapacity 154 = .ok (.invokestatic 218, 3) := by decide +kernel
theorem dX1_learnCapacity_157 : decode cX1_learnCapacity 157 = .ok (.ladd, 1) := by decide +kernel
theorem dX1_learnCapacity_158 : decode cX1_learnCapacity 158 = .ok (.putfield 48, 3) := by decide +kernel
theorem dX1_learnCapacity_161 : decode cX1_learnCapacity 161 = .ok (.aload_n 0, 1) := by decide +kernel
theorem dX1_learnCapacity_162 : decode cX1_learnCapacity 162 = .ok (.dup, 1) := by decide +kernel
theorem dX1_learnCapacity_163 : decode cX1_learnCapacity 163 = .ok (.getfield 84, 3) := by decide +kernel
theorem dX1_learnCapacity_166 : decode cX1_learnCapacity 166 = .ok (.iconst 1, 1) := by decide +kernel
theorem dX1_learnCapacity_167 : decode cX1_learnCapacity 167 = .ok (.iadd, 1) := by decide +kernel
theorem dX1_learnCapacity_168 : decode cX1_learnCapacity 168 = .ok (.putfield 84, 3) := by decide +kernel
theorem dX1_learnCapacity_171 : decode cX1_learnCapacity 171 = .ok (.aload_n 0, 1) := by decide +kernel
theorem dX1_learnCapacity_172 : decode cX1_learnCapacity 172 = .ok (.aload_n 0, 1) := by decide +kernel
theorem dX1_learnCapacity_173 : decode cX1_learnCapacity 173 = .ok (.getfield 53, 3) := by decide +kernel
theorem dX1_learnCapacity_176 : decode cX1_learnCapacity 176 = .ok (.aload_n 0, 1) := by decide +kernel
theorem dX1_learnCapacity_177 : decode cX1_learnCapacity 177 = .ok (.getfield 48, 3) := by decide +kernel
theorem dX1_learnCapacity_180 : decode cX1_learnCapacity 180 = .ok (.invokestatic 112, 3) := by decide +kernel
theorem dX1_learnCapacity_183 : decode cX1_learnCapacity 183 = .ok (.putfield 53, 3) := by decide +kernel
theorem dX1_learnCapacity_186 : decode cX1_learnCapacity 186 = .ok (.aload_n 0, 1) := by decide +kernel
theorem dX1_learnCapacity_187 : decode cX1_learnCapacity 187 = .ok (.aload_n 0, 1) := by decide +kernel
theorem dX1_learnCapacity_188 : decode cX1_learnCapacity 188 = .ok (.getfield 56, 3) := by decide +kernel
theorem dX1_learnCapacity_191 : decode cX1_learnCapacity 191 = .ok (.aload_n 0, 1) := by decide +kernel
theorem dX1_learnCapacity_192 : decode cX1_learnCapacity 192 = .ok (.getfield 48, 3) := by decide +kernel
theorem dX1_learnCapacity_195 : decode cX1_learnCapacity 195 = .ok (.invokestatic 112, 3) := by decide +kernel
theorem dX1_learnCapacity_198 : decode cX1_learnCapacity 198 = .ok (.putfield 56, 3) := by decide +kernel
theorem dX1_learnCapacity_201 : decode cX1_learnCapacity 201 = .ok (.aload_n 0, 1) := by decide +kernel
theorem dX1_learnCapacity_202 : decode cX1_learnCapacity 202 = .ok (.aload_n 0, 1) := by decide +kernel
theorem dX1_learnCapacity_203 : decode cX1_learnCapacity 203 = .ok (.getfield 59, 3) := by decide +kernel
theorem dX1_learnCapacity_206 : decode cX1_learnCapacity 206 = .ok (.aload_n 0, 1) := by decide +kernel
theorem dX1_learnCapacity_207 : decode cX1_learnCapacity 207 = .ok (.getfield 48, 3) := by decide +kernel
theorem dX1_learnCapacity_210 : decode cX1_learnCapacity 210 = .ok (.invokestatic 112, 3) := by decide +kernel
theorem dX1_learnCapacity_213 : decode cX1_learnCapacity 213 = .ok (.putfield 59, 3) := by decide +kernel
theorem dX1_learnCapacity_216 : decode cX1_learnCapacity 216 = .ok (.aload_n 0, 1) := by decide +kernel
theorem dX1_learnCapacity_217 : decode cX1_learnCapacity 217 = .ok (.aload_n 0, 1) := by decide +kernel
theorem dX1_learnCapacity_218 : decode cX1_learnCapacity 218 = .ok (.getfield 62, 3) := by decide +kernel
theorem dX1_learnCapacity_221 : decode cX1_learnCapacity 221 = .ok (.aload_n 0, 1) := by decide +kernel
theorem dX1_learnCapacity_222 : decode cX1_learnCapacity 222 = .ok (.invokevirtual 108, 3) := by decide +kernel
theorem dX1_learnCapacity_225 : decode cX1_learnCapacity 225 = .ok (.invokestatic 112, 3) := by decide +kernel
theorem dX1_learnCapacity_228 : decode cX1_learnCapacity 228 = .ok (.putfield 62, 3) := by decide +kernel
theorem dX1_learnCapacity_231 : decode cX1_learnCapacity 231 = .ok (.return_, 1) := by decide +kernel
set_option maxRecDepth 20000 in
theorem ggX1_lowAfter_X1_movedCharge : GoodIn wsX1_lowAfter wsX1_movedCharge := goodIn_r _ [7, 8, 9, 28, 29, 30, 31, 32, 33, 34, 35, 36, 37, 38, 39, 40, 41, 42, 43, 44, 45] rfl (by decide +kernel)
set_option maxRecDepth 20000 in
theorem gX1_lowAfter_X1_movedCharge : GoodIn wsX1_lowAfter (wsV RX1 186 RX1 yX1_movedCharge wsX1_movedCharge) := goodIn_app (goodIn_of _ (by decide +kernel)) ggX1_lowAfter_X1_movedCharge
set_option maxRecDepth 20000 in
theorem ggX1_lowAfter_X1_driftOf : GoodIn wsX1_lowAfter wsX1_driftOf := goodIn_r _ [13, 8, 9, 14, 15, 16, 17, 18, 28, 29, 30, 31, 32, 33, 34, 35, 36, 37, 38, 39, 40, 41, 42, 43, 44, 45] rfl (by decide +kernel)
set_option maxRecDepth 20000 in
theorem gX1_lowAfter_X1_driftOf : GoodIn wsX1_lowAfter (wsV RX1 220 RX1 yX1_driftOf wsX1_driftOf) := goodIn_app (goodIn_of _ (by decide +kernel)) ggX1_lowAfter_X1_driftOf
set_option maxRecDepth 20000 in
theorem ggX1_lowAfter_X5_clamp : GoodIn wsX1_lowAfter wsX5_clamp := goodIn_r _ [21, 22, 23, 16, 24, 25, 26, 27] rfl (by decide +kernel)
set_option maxRecDepth 20000 in
theorem gX1_lowAfter_X5_clamp_n141 : GoodIn wsX1_lowAfter (wsX5_clamp) := ggX1_lowAfter_X5_clamp
theorem dX1_lowAfter_0 : decode cX1_lowAfter 0 = .ok (.aload_n 0, 1) := by decide +kernel
theorem dX1_lowAfter_1 : decode cX1_lowAfter 1 = .ok (.iload_n 1, 1) := by decide +kernel
theorem dX1_lowAfter_2 : decode cX1_lowAfter 2 = .ok (.iload_n 2, 1) := by decide +kernel
theorem dX1_lowAfter_3 : decode cX1_lowAfter 3 = .ok (.invokevirtual 186, 3) := by decide +kernel
theorem dX1_lowAfter_6 : decode cX1_lowAfter 6 = .ok (.lstore_n 3, 1) := by decide +kernel
theorem dX1_lowAfter_7 : decode cX1_lowAfter 7 = .ok (.aload_n 0, 1) := by decide +kernel
theorem dX1_lowAfter_8 : decode cX1_lowAfter 8 = .ok (.getfield 56, 3) := by decide +kernel
theorem dX1_lowAfter_11 : decode cX1_lowAfter 11 = .ok (.lload_n 3, 1) := by decide +kernel
theorem dX1_lowAfter_12 : decode cX1_lowAfter 12 = .ok (.ladd, 1) := by decide +kernel
theorem dX1_lowAfter_13 : decode cX1_lowAfter 13 = .ok (.aload_n 0, 1) := by decide +kernel
theorem dX1_lowAfter_14 : decode cX1_lowAfter 14 = .ok (.lload_n 3, 1) := by decide +kernel
theorem dX1_lowAfter_15 : decode cX1_lowAfter 15 = .ok (.iload_n 2, 1) := by decide +kernel
theorem dX1_lowAfter_16 : decode cX1_lowAfter 16 = .ok (.invokevirtual 220, 3) := by decide +kernel
theorem dX1_lowAfter_19 : decode cX1_lowAfter 19 = .ok (.lsub, 1) := by decide +kernel
theorem dX1_lowAfter_20 : decode cX1_lowAfter 20 = .ok (.lconst 0, 1) := by decide +kernel
theorem dX1_lowAfter_21 : decode cX1_lowAfter 21 = .ok (.aload_n 0, 1) := by decide +kernel
theorem dX1_lowAfter_22 : decode cX1_lowAfter 22 = .ok (.getfield 48, 3) := by decide +kernel
theorem dX1_lowAfter_25 : decode cX1_lowAfter 25 = .ok (.invokestatic 141, 3) := by decide +kernel
theorem dX1_lowAfter_28 : decode cX1_lowAfter 28 = .ok (.lreturn, 1) := by decide +kernel
set_option maxRecDepth 20000 in
theorem ggX1_highAfter_X1_movedCharge : GoodIn wsX1_highAfter wsX1_movedCharge := goodIn_r _ [7, 8, 9, 28, 29, 30, 31, 32, 33, 34, 35, 36, 37, 38, 39, 40, 41, 42, 43, 44, 45] rfl (by decide +kernel)
set_option maxRecDepth 20000 in
theorem gX1_highAfter_X1_movedCharge : GoodIn wsX1_highAfter (wsV RX1 186 RX1 yX1_movedCharge wsX1_movedCharge) := goodIn_app (goodIn_of _ (by decide +kernel)) ggX1_highAfter_X1_movedCharge
set_option maxRecDepth 20000 in
theorem ggX1_highAfter_X1_driftOf : GoodIn wsX1_highAfter wsX1_driftOf := goodIn_r _ [13, 8, 9, 14, 15, 16, 17, 18, 28, 29, 30, 31, 32, 33, 34, 35, 36, 37, 38, 39, 40, 41, 42, 43, 44, 45] rfl (by decide +kernel)
set_option maxRecDepth 20000 in
theorem gX1_highAfter_X1_driftOf : GoodIn wsX1_highAfter (wsV RX1 220 RX1 yX1_driftOf wsX1_driftOf) := goodIn_app (goodIn_of _ (by decide +kernel)) ggX1_highAfter_X1_driftOf
set_option maxRecDepth 20000 in
theorem ggX1_highAfter_X5_clamp : GoodIn wsX1_highAfter wsX5_clamp := goodIn_r _ [21, 22, 23, 16, 24, 25, 26, 27] rfl (by decide +kernel)
set_option maxRecDepth 20000 in
theorem gX1_highAfter_X5_clamp_n141 : GoodIn wsX1_highAfter (wsX5_clamp) := ggX1_highAfter_X5_clamp
theorem dX1_highAfter_0 : decode cX1_highAfter 0 = .ok (.aload_n 0, 1) := by decide +kernel
theorem dX1_highAfter_1 : decode cX1_highAfter 1 = .ok (.iload_n 1, 1) := by decide +kernel
theorem dX1_highAfter_2 : decode cX1_highAfter 2 = .ok (.iload_n 2, 1) := by decide +kernel
theorem dX1_highAfter_3 : decode cX1_highAfter 3 = .ok (.invokevirtual 186, 3) := by decide +kernel
theorem dX1_highAfter_6 : decode cX1_highAfter 6 = .ok (.lstore_n 3, 1) := by decide +kernel
theorem dX1_highAfter_7 : decode cX1_highAfter 7 = .ok (.aload_n 0, 1) := by decide +kernel
theorem dX1_highAfter_8 : decode cX1_highAfter 8 = .ok (.getfield 59, 3) := by decide +kernel
theorem dX1_highAfter_11 : decode cX1_highAfter 11 = .ok (.lload_n 3, 1) := by decide +kernel
theorem dX1_highAfter_12 : decode cX1_highAfter 12 = .ok (.ladd, 1) := by decide +kernel
theorem dX1_highAfter_13 : decode cX1_highAfter 13 = .ok (.aload_n 0, 1) := by decide +kernel
theorem dX1_highAfter_14 : decode cX1_highAfter 14 = .ok (.lload_n 3, 1) := by decide +kernel
theorem dX1_highAfter_15 : decode cX1_highAfter 15 = .ok (.iload_n 2, 1) := by decide +kernel
theorem dX1_highAfter_16 : decode cX1_highAfter 16 = .ok (.invokevirtual 220, 3) := by decide +kernel
theorem dX1_highAfter_19 : decode cX1_highAfter 19 = .ok (.ladd, 1) := by decide +kernel
theorem dX1_highAfter_20 : decode cX1_highAfter 20 = .ok (.lconst 0, 1) := by decide +kernel
theorem dX1_highAfter_21 : decode cX1_highAfter 21 = .ok (.aload_n 0, 1) := by decide +kernel
theorem dX1_highAfter_22 : decode cX1_highAfter 22 = .ok (.getfield 48, 3) := by decide +kernel
theorem dX1_highAfter_25 : decode cX1_highAfter 25 = .ok (.invokestatic 141, 3) := by decide +kernel
theorem dX1_highAfter_28 : decode cX1_highAfter 28 = .ok (.lreturn, 1) := by decide +kernel
set_option maxRecDepth 20000 in
theorem ggX1_whenLowAtMost_X1_lowAfter : GoodIn wsX1_whenLowAtMost wsX1_lowAfter := goodIn_r _ [6, 7, 8, 9, 10, 11, 5, 12, 13, 14, 15, 16, 17, 18, 19, 20, 21, 22, 23, 24, 25, 26, 27, 28, 29, 30, 31, 32, 33, 34, 35, 36, 37, 38, 39, 40, 41, 42, 43, 44, 45, 46, 47, 48, 49, 50] rfl (by decide +kernel)
set_option maxRecDepth 20000 in
theorem gX1_whenLowAtMost_X1_lowAfter : GoodIn wsX1_whenLowAtMost (wsV RX1 190 RX1 yX1_lowAfter wsX1_lowAfter) := goodIn_app (goodIn_of _ (by decide +kernel)) ggX1_whenLowAtMost_X1_lowAfter
theorem dX1_whenLowAtMost_0 : decode cX1_whenLowAtMost 0 = .ok (.iconst 0, 1) := by decide +kernel
theorem dX1_whenLowAtMost_1 : decode cX1_whenLowAtMost 1 = .ok (.istore 4, 2) := by decide +kernel
theorem dX1_whenLowAtMost_3 : decode cX1_whenLowAtMost 3 = .ok (.ldc 224, 2) := by decide +kernel
theorem dX1_whenLowAtMost_5 : decode cX1_whenLowAtMost 5 = .ok (.istore 5, 2) := by decide +kernel
theorem dX1_whenLowAtMost_7 : decode cX1_whenLowAtMost 7 = .ok (.iconst 0, 1) := by decide +kernel
theorem dX1_whenLowAtMost_8 : decode cX1_whenLowAtMost 8 = .ok (.istore 6, 2) := by decide +kernel
theorem dX1_whenLowAtMost_10 : decode cX1_whenLowAtMost 10 = .ok (.iload 6, 2) := by decide +kernel
theorem dX1_whenLowAtMost_12 : decode cX1_whenLowAtMost 12 = .ok (.bipush 32, 2) := by decide +kernel
theorem dX1_whenLowAtMost_14 : decode cX1_whenLowAtMost 14 = .ok (.if_icmp .ge 50, 3) := by decide +kernel
theorem dX1_whenLowAtMost_17 : decode cX1_whenLowAtMost 17 = .ok (.iload 4, 2) := by decide +kernel
theorem dX1_whenLowAtMost_19 : decode cX1_whenLowAtMost 19 = .ok (.iload 5, 2) := by decide +kernel
theorem dX1_whenLowAtMost_21 : decode cX1_whenLowAtMost 21 = .ok (.if_icmp .ge 43, 3) := by decide +kernel
theorem dX1_whenLowAtMost_24 : decode cX1_whenLowAtMost 24 = .ok (.iload 4, 2) := by decide +kernel
theorem dX1_whenLowAtMost_26 : decode cX1_whenLowAtMost 26 = .ok (.iload 5, 2) := by decide +kernel
theorem dX1_whenLowAtMost_28 : decode cX1_whenLowAtMost 28 = .ok (.iadd, 1) := by decide +kernel
theorem dX1_whenLowAtMost_29 : decode cX1_whenLowAtMost 29 = .ok (.iconst 2, 1) := by decide +kernel
theorem dX1_whenLowAtMost_30 : decode cX1_whenLowAtMost 30 = .ok (.idiv, 1) := by decide +kernel
theorem dX1_whenLowAtMost_31 : decode cX1_whenLowAtMost 31 = .ok (.istore 7, 2) := by decide +kernel
theorem dX1_whenLowAtMost_33 : decode cX1_whenLowAtMost 33 = .ok (.aload_n 0, 1) := by decide +kernel
theorem dX1_whenLowAtMost_34 : decode cX1_whenLowAtMost 34 = .ok (.iload_n 1, 1) := by decide +kernel
theorem dX1_whenLowAtMost_35 : decode cX1_whenLowAtMost 35 = .ok (.iload 7, 2) := by decide +kernel
theorem dX1_whenLowAtMost_37 : decode cX1_whenLowAtMost 37 = .ok (.invokevirtual 190, 3) := by decide +kernel
theorem dX1_whenLowAtMost_40 : decode cX1_whenLowAtMost 40 = .ok (.lload_n 2, 1) := by decide +kernel
theorem dX1_whenLowAtMost_41 : decode cX1_whenLowAtMost 41 = .ok (.lcmp, 1) := by decide +kernel
theorem dX1_whenLowAtMost_42 : decode cX1_whenLowAtMost 42 = .ok (.ifCond .gt 10, 3) := by decide +kernel
theorem dX1_whenLowAtMost_45 : decode cX1_whenLowAtMost 45 = .ok (.iload 7, 2) := by decide +kernel
theorem dX1_whenLowAtMost_47 : decode cX1_whenLowAtMost 47 = .ok (.istore 5, 2) := by decide +kernel
theorem dX1_whenLowAtMost_49 : decode cX1_whenLowAtMost 49 = .ok (.goto 9, 3) := by decide +kernel
theorem dX1_whenLowAtMost_52 : decode cX1_whenLowAtMost 52 = .ok (.iload 7, 2) := by decide +kernel
theorem dX1_whenLowAtMost_54 : decode cX1_whenLowAtMost 54 = .ok (.iconst 1, 1) := by decide +kernel
theorem dX1_whenLowAtMost_55 : decode cX1_whenLowAtMost 55 = .ok (.iadd, 1) := by decide +kernel
theorem dX1_whenLowAtMost_56 : decode cX1_whenLowAtMost 56 = .ok (.istore 4, 2) := by decide +kernel
theorem dX1_whenLowAtMost_58 : decode cX1_whenLowAtMost 58 = .ok (.iinc 6 1, 3) := by decide +kernel
theorem dX1_whenLowAtMost_61 : decode cX1_whenLowAtMost 61 = .ok (.goto (-51), 3) := by decide +kernel
theorem dX1_whenLowAtMost_64 : decode cX1_whenLowAtMost 64 = .ok (.iload 4, 2) := by decide +kernel
theorem dX1_whenLowAtMost_66 : decode cX1_whenLowAtMost 66 = .ok (.ireturn, 1) := by decide +kernel
set_option maxRecDepth 20000 in
theorem ggX1_whenHighWhole_X1_highAfter : GoodIn wsX1_whenHighWhole wsX1_highAfter := goodIn_r _ [7, 8, 2, 9, 10, 11, 6, 12, 13, 14, 15, 16, 17, 18, 19, 20, 21, 22, 23, 24, 25, 26, 27, 28, 29, 30, 31, 32, 33, 34, 35, 36, 37, 38, 39, 40, 41, 42, 43, 44, 45, 46, 47, 48, 49, 50] rfl (by decide +kernel)
set_option maxRecDepth 20000 in
theorem gX1_whenHighWhole_X1_highAfter : GoodIn wsX1_whenHighWhole (wsV RX1 193 RX1 yX1_highAfter wsX1_highAfter) := goodIn_app (goodIn_of _ (by decide +kernel)) ggX1_whenHighWhole_X1_highAfter
theorem dX1_whenHighWhole_0 : decode cX1_whenHighWhole 0 = .ok (.iconst 0, 1) := by decide +kernel
theorem dX1_whenHighWhole_1 : decode cX1_whenHighWhole 1 = .ok (.istore_n 2, 1) := by decide +kernel
theorem dX1_whenHighWhole_2 : decode cX1_whenHighWhole 2 = .ok (.ldc 224, 2) := by decide +kernel
theorem dX1_whenHighWhole_4 : decode cX1_whenHighWhole 4 = .ok (.istore_n 3, 1) := by decide +kernel
theorem dX1_whenHighWhole_5 : decode cX1_whenHighWhole 5 = .ok (.iconst 0, 1) := by decide +kernel
theorem dX1_whenHighWhole_6 : decode cX1_whenHighWhole 6 = .ok (.istore 4, 2) := by decide +kernel
theorem dX1_whenHighWhole_8 : decode cX1_whenHighWhole 8 = .ok (.iload 4, 2) := by decide +kernel
theorem dX1_whenHighWhole_10 : decode cX1_whenHighWhole 10 = .ok (.bipush 32, 2) := by decide +kernel
theorem dX1_whenHighWhole_12 : decode cX1_whenHighWhole 12 = .ok (.if_icmp .ge 47, 3) := by decide +kernel
theorem dX1_whenHighWhole_15 : decode cX1_whenHighWhole 15 = .ok (.iload_n 2, 1) := by decide +kernel
theorem dX1_whenHighWhole_16 : decode cX1_whenHighWhole 16 = .ok (.iload_n 3, 1) := by decide +kernel
theorem dX1_whenHighWhole_17 : decode cX1_whenHighWhole 17 = .ok (.if_icmp .ge 42, 3) := by decide +kernel
theorem dX1_whenHighWhole_20 : decode cX1_whenHighWhole 20 = .ok (.iload_n 2, 1) := by decide +kernel
theorem dX1_whenHighWhole_21 : decode cX1_whenHighWhole 21 = .ok (.iload_n 3, 1) := by decide +kernel
theorem dX1_whenHighWhole_22 : decode cX1_whenHighWhole 22 = .ok (.iadd, 1) := by decide +kernel
theorem dX1_whenHighWhole_23 : decode cX1_whenHighWhole 23 = .ok (.iconst 2, 1) := by decide +kernel
theorem dX1_whenHighWhole_24 : decode cX1_whenHighWhole 24 = .ok (.idiv, 1) := by decide +kernel
theorem dX1_whenHighWhole_25 : decode cX1_whenHighWhole 25 = .ok (.istore 5, 2) := by decide +kernel
theorem dX1_whenHighWhole_27 : decode cX1_whenHighWhole 27 = .ok (.aload_n 0, 1) := by decide +kernel
theorem dX1_whenHighWhole_28 : decode cX1_whenHighWhole 28 = .ok (.iload_n 1, 1) := by decide +kernel
theorem dX1_whenHighWhole_29 : decode cX1_whenHighWhole 29 = .ok (.iload 5, 2) := by decide +kernel
theorem dX1_whenHighWhole_31 : decode cX1_whenHighWhole 31 = .ok (.invokevirtual 193, 3) := by decide +kernel
theorem dX1_whenHighWhole_34 : decode cX1_whenHighWhole 34 = .ok (.aload_n 0, 1) := by decide +kernel
theorem dX1_whenHighWhole_35 : decode cX1_whenHighWhole 35 = .ok (.getfield 48, 3) := by decide +kernel
theorem dX1_whenHighWhole_38 : decode cX1_whenHighWhole 38 = .ok (.lcmp, 1) := by decide +kernel
theorem dX1_whenHighWhole_39 : decode cX1_whenHighWhole 39 = .ok (.ifCond .lt 9, 3) := by decide +kernel
theorem dX1_whenHighWhole_42 : decode cX1_whenHighWhole 42 = .ok (.iload 5, 2) := by decide +kernel
theorem dX1_whenHighWhole_44 : decode cX1_whenHighWhole 44 = .ok (.istore_n 3, 1) := by decide +kernel
theorem dX1_whenHighWhole_45 : decode cX1_whenHighWhole 45 = .ok (.goto 8, 3) := by decide +kernel
theorem dX1_whenHighWhole_48 : decode cX1_whenHighWhole 48 = .ok (.iload 5, 2) := by decide +kernel
theorem dX1_whenHighWhole_50 : decode cX1_whenHighWhole 50 = .ok (.iconst 1, 1) := by decide +kernel
theorem dX1_whenHighWhole_51 : decode cX1_whenHighWhole 51 = .ok (.iadd, 1) := by decide +kernel
theorem dX1_whenHighWhole_52 : decode cX1_whenHighWhole 52 = .ok (.istore_n 2, 1) := by decide +kernel
theorem dX1_whenHighWhole_53 : decode cX1_whenHighWhole 53 = .ok (.iinc 4 1, 3) := by decide +kernel
theorem dX1_whenHighWhole_56 : decode cX1_whenHighWhole 56 = .ok (.goto (-48), 3) := by decide +kernel
theorem dX1_whenHighWhole_59 : decode cX1_whenHighWhole 59 = .ok (.iload_n 2, 1) := by decide +kernel
theorem dX1_whenHighWhole_60 : decode cX1_whenHighWhole 60 = .ok (.ireturn, 1) := by decide +kernel
theorem dX2_init_0 : decode cX2_init 0 = .ok (.aload_n 0, 1) := by decide +kernel
theorem dX2_init_1 : decode cX2_init 1 = .ok (.invokespecial 3, 3) := by decide +kernel
theorem dX2_init_4 : decode cX2_init 4 = .ok (.aload_n 0, 1) := by decide +kernel
theorem dX2_init_5 : decode cX2_init 5 = .ok (.bipush 11, 2) := by decide +kernel
theorem dX2_init_7 : decode cX2_init 7 = .ok (.newarray .int, 2) := by decide +kernel
theorem dX2_init_9 : decode cX2_init 9 = .ok (.putfield 11, 3) := by decide +kernel
theorem dX2_init_12 : decode cX2_init 12 = .ok (.aload_n 0, 1) := by decide +kernel
theorem dX2_init_13 : decode cX2_init 13 = .ok (.bipush 11, 2) := by decide +kernel
theorem dX2_init_15 : decode cX2_init 15 = .ok (.newarray .int, 2) := by decide +kernel
theorem dX2_init_17 : decode cX2_init 17 = .ok (.putfield 15, 3) := by decide +kernel
theorem dX2_init_20 : decode cX2_init 20 = .ok (.iconst 0, 1) := by decide +kernel
theorem dX2_init_21 : decode cX2_init 21 = .ok (.istore_n 1, 1) := by decide +kernel
theorem dX2_init_22 : decode cX2_init 22 = .ok (.iload_n 1, 1) := by decide +kernel
theorem dX2_init_23 : decode cX2_init 23 = .ok (.bipush 11, 2) := by decide +kernel
theorem dX2_init_25 : decode cX2_init 25 = .ok (.if_icmp .ge 34, 3) := by decide +kernel
theorem dX2_init_28 : decode cX2_init 28 = .ok (.aload_n 0, 1) := by decide +kernel
theorem dX2_init_29 : decode cX2_init 29 = .ok (.getfield 11, 3) := by decide +kernel
theorem dX2_init_32 : decode cX2_init 32 = .ok (.iload_n 1, 1) := by decide +kernel
theorem dX2_init_33 : decode cX2_init 33 = .ok (.getstatic 18, 3) := by decide +kernel
theorem dX2_init_36 : decode cX2_init 36 = .ok (.iload_n 1, 1) := by decide +kernel
theorem dX2_init_37 : decode cX2_init 37 = .ok (.iaload, 1) := by decide +kernel
theorem dX2_init_38 : decode cX2_init 38 = .ok (.iastore, 1) := by decide +kernel
theorem dX2_init_39 : decode cX2_init 39 = .ok (.aload_n 0, 1) := by decide +kernel
theorem dX2_init_40 : decode cX2_init 40 = .ok (.getfield 15, 3) := by decide +kernel
theorem dX2_init_43 : decode cX2_init 43 = .ok (.iload_n 1, 1) := by decide +kernel
theorem dX2_init_44 : decode cX2_init 44 = .ok (.getstatic 18, 3) := by decide +kernel
theorem dX2_init_47 : decode cX2_init 47 = .ok (.iload_n 1, 1) := by decide +kernel
theorem dX2_init_48 : decode cX2_init 48 = .ok (.iaload, 1) := by decide +kernel
theorem dX2_init_49 : decode cX2_init 49 = .ok (.bipush 40, 2) := by decide +kernel
theorem dX2_init_51 : decode cX2_init 51 = .ok (.iadd, 1) := by decide +kernel
theorem dX2_init_52 : decode cX2_init 52 = .ok (.iastore, 1) := by decide +kernel
theorem dX2_init_53 : decode cX2_init 53 = .ok (.iinc 1 1, 3) := by decide +kernel
theorem dX2_init_56 : decode cX2_init 56 = .ok (.goto (-34), 3) := by decide +kernel
theorem dX2_init_59 : decode cX2_init 59 = .ok (.return_, 1) := by decide +kernel
theorem dX2_copyFrom_0 : decode cX2_copyFrom 0 = .ok (.aload_n 1, 1) := by decide +kernel
theorem dX2_copyFrom_1 : decode cX2_copyFrom 1 = .ok (.getfield 11, 3) := by decide +kernel
theorem dX2_copyFrom_4 : decode cX2_copyFrom 4 = .ok (.iconst 0, 1) := by decide +kernel
theorem dX2_copyFrom_5 : decode cX2_copyFrom 5 = .ok (.aload_n 0, 1) := by decide +kernel
theorem dX2_copyFrom_6 : decode cX2_copyFrom 6 = .ok (.getfield 11, 3) := by decide +kernel
theorem dX2_copyFrom_9 : decode cX2_copyFrom 9 = .ok (.iconst 0, 1) := by decide +kernel
theorem dX2_copyFrom_10 : decode cX2_copyFrom 10 = .ok (.bipush 11, 2) := by decide +kernel
theorem dX2_copyFrom_12 : decode cX2_copyFrom 12 = .ok (.invokestatic 21, 3) := by decide +kernel
theorem dX2_copyFrom_15 : decode cX2_copyFrom 15 = .ok (.aload_n 1, 1) := by decide +kernel
theorem dX2_copyFrom_16 : decode cX2_copyFrom 16 = .ok (.getfield 15, 3) := by decide +kernel
theorem dX2_copyFrom_19 : decode cX2_copyFrom 19 = .ok (.iconst 0, 1) := by decide +kernel
theorem dX2_copyFrom_20 : decode cX2_copyFrom 20 = .ok (.aload_n 0, 1) := by decide +kernel
theorem dX2_copyFrom_21 : decode cX2_copyFrom 21 = .ok (.getfield 15, 3) := by decide +kernel
theorem dX2_copyFrom_24 : decode cX2_copyFrom 24 = .ok (.iconst 0, 1) := by decide +kernel
theorem dX2_copyFrom_25 : decode cX2_copyFrom 25 = .ok (.bipush 11, 2) := by decide +kernel
theorem dX2_copyFrom_27 : decode cX2_copyFrom 27 = .ok (.invokestatic 21, 3) := by decide +kernel
theorem dX2_copyFrom_30 : decode cX2_copyFrom 30 = .ok (.return_, 1) := by decide +kernel
theorem dX2_wouldAscend_0 : decode cX2_wouldAscend 0 = .ok (.iload_n 1, 1) := by decide +kernel
theorem dX2_wouldAscend_1 : decode cX2_wouldAscend 1 = .ok (.ifCond .le 27, 3) := by decide +kernel
theorem dX2_wouldAscend_4 : decode cX2_wouldAscend 4 = .ok (.iload_n 2, 1) := by decide +kernel
theorem dX2_wouldAscend_5 : decode cX2_wouldAscend 5 = .ok (.aload_n 0, 1) := by decide +kernel
theorem dX2_wouldAscend_6 : decode cX2_wouldAscend 6 = .ok (.getfield 11, 3) := by decide +kernel
theorem dX2_wouldAscend_9 : decode cX2_wouldAscend 9 = .ok (.iload_n 1, 1) := by decide +kernel
theorem dX2_wouldAscend_10 : decode cX2_wouldAscend 10 = .ok (.iconst 1, 1) := by decide +kernel
theorem dX2_wouldAscend_11 : decode cX2_wouldAscend 11 = .ok (.isub, 1) := by decide +kernel
theorem dX2_wouldAscend_12 : decode cX2_wouldAscend 12 = .ok (.iaload, 1) := by decide +kernel
theorem dX2_wouldAscend_13 : decode cX2_wouldAscend 13 = .ok (.if_icmp .le 19, 3) := by decide +kernel
theorem dX2_wouldAscend_16 : decode cX2_wouldAscend 16 = .ok (.iload_n 3, 1) := by decide +kernel
theorem dX2_wouldAscend_17 : decode cX2_wouldAscend 17 = .ok (.aload_n 0, 1) := by decide +kernel
theorem dX2_wouldAscend_18 : decode cX2_wouldAscend 18 = .ok (.getfield 15, 3) := by decide +kernel
theorem dX2_wouldAscend_21 : decode cX2_wouldAscend 21 = .ok (.iload_n 1, 1) := by decide +kernel
theorem dX2_wouldAscend_22 : decode cX2_wouldAscend 22 = .ok (.iconst 1, 1) := by decide +kernel
theorem dX2_wouldAscend_23 : decode cX2_wouldAscend 23 = .ok (.isub, 1) := by decide +kernel
theorem dX2_wouldAscend_24 : decode cX2_wouldAscend 24 = .ok (.iaload, 1) := by decide +kernel
theorem dX2_wouldAscend_25 : decode cX2_wouldAscend 25 = .ok (.if_icmp .le 7, 3) := by decide +kernel
theorem dX2_wouldAscend_28 : decode cX2_wouldAscend 28 = .ok (.iconst 1, 1) := by decide +kernel
theorem dX2_wouldAscend_29 : decode cX2_wouldAscend 29 = .ok (.goto 4, 3) := by decide +kernel
theorem dX2_wouldAscend_32 : decode cX2_wouldAscend 32 = .ok (.iconst 0, 1) := by decide +kernel
theorem dX2_wouldAscend_33 : decode cX2_wouldAscend 33 = .ok (.istore 4, 2) := by decide +kernel
theorem dX2_wouldAscend_35 : decode cX2_wouldAscend 35 = .ok (.iload_n 1, 1) := by decide +kernel
theorem dX2_wouldAscend_36 : decode cX2_wouldAscend 36 = .ok (.bipush 10, 2) := by decide +kernel
theorem dX2_wouldAscend_38 : decode cX2_wouldAscend 38 = .ok (.if_icmp .ge 27, 3) := by decide +kernel
theorem dX2_wouldAscend_41 : decode cX2_wouldAscend 41 = .ok (.iload_n 2, 1) := by decide +kernel
theorem dX2_wouldAscend_42 : decode cX2_wouldAscend 42 = .ok (.aload_n 0, 1) := by decide +kernel
theorem dX2_wouldAscend_43 : decode cX2_wouldAscend 43 = .ok (.getfield 11, 3) := by decide +kernel
theorem dX2_wouldAscend_46 : decode cX2_wouldAscend 46 = .ok (.iload_n 1, 1) := by decide +kernel
theorem dX2_wouldAscend_47 : decode cX2_wouldAscend 47 = .ok (.iconst 1, 1) := by decide +kernel
theorem dX2_wouldAscend_48 : decode cX2_wouldAscend 48 = .ok (.iadd, 1) := by decide +kernel
theorem dX2_wouldAscend_49 : decode cX2_wouldAscend 49 = .ok (.iaload, 1) := by decide +kernel
theorem dX2_wouldAscend_50 : decode cX2_wouldAscend 50 = .ok (.if_icmp .ge 19, 3) := by decide +kernel
theorem dX2_wouldAscend_53 : decode cX2_wouldAscend 53 = .ok (.iload_n 3, 1) := by decide +kernel
theorem dX2_wouldAscend_54 : decode cX2_wouldAscend 54 = .ok (.aload_n 0, 1) := by decide +kernel
theorem dX2_wouldAscend_55 : decode cX2_wouldAscend 55 = .ok (.getfield 15, 3) := by decide +kernel
theorem dX2_wouldAscend_58 : decode cX2_wouldAscend 58 = .ok (.iload_n 1, 1) := by decide +kernel
theorem dX2_wouldAscend_59 : decode cX2_wouldAscend 59 = .ok (.iconst 1, 1) := by decide +kernel
theorem dX2_wouldAscend_60 : decode cX2_wouldAscend 60 = .ok (.iadd, 1) := by decide +kernel
theorem dX2_wouldAscend_61 : decode cX2_wouldAscend 61 = .ok (.iaload, 1) := by decide +kernel
theorem dX2_wouldAscend_62 : decode cX2_wouldAscend 62 = .ok (.if_icmp .ge 7, 3) := by decide +kernel
theorem dX2_wouldAscend_65 : decode cX2_wouldAscend 65 = .ok (.iconst 1, 1) := by decide +kernel
theorem dX2_wouldAscend_66 : decode cX2_wouldAscend 66 = .ok (.goto 4, 3) := by decide +kernel
theorem dX2_wouldAscend_69 : decode cX2_wouldAscend 69 = .ok (.iconst 0, 1) := by decide +kernel
theorem dX2_wouldAscend_70 : decode cX2_wouldAscend 70 = .ok (.istore 5, 2) := by decide +kernel
theorem dX2_wouldAscend_72 : decode cX2_wouldAscend 72 = .ok (.iload 4, 2) := by decide +kernel
theorem dX2_wouldAscend_74 : decode cX2_wouldAscend 74 = .ok (.ifCond .eq 12, 3) := by decide +kernel
theorem dX2_wouldAscend_77 : decode cX2_wouldAscend 77 = .ok (.iload 5, 2) := by decide +kernel
theorem dX2_wouldAscend_79 : decode cX2_wouldAscend 79 = .ok (.ifCond .eq 7, 3) := by decide +kernel
theorem dX2_wouldAscend_82 : decode cX2_wouldAscend 82 = .ok (.iconst 1, 1) := by decide +kernel
theorem dX2_wouldAscend_83 : decode cX2_wouldAscend 83 = .ok (.goto 4, 3) := by decide +kernel
theorem dX2_wouldAscend_86 : decode cX2_wouldAscend 86 = .ok (.iconst 0, 1) := by decide +kernel
theorem dX2_wouldAscend_87 : decode cX2_wouldAscend 87 = .ok (.ireturn, 1) := by decide +kernel
theorem dX2_changePoint_0 : decode cX2_changePoint 0 = .ok (.aload_n 0, 1) := by decide +kernel
theorem dX2_changePoint_1 : decode cX2_changePoint 1 = .ok (.getfield 11, 3) := by decide +kernel
theorem dX2_changePoint_4 : decode cX2_changePoint 4 = .ok (.iload_n 1, 1) := by decide +kernel
theorem dX2_changePoint_5 : decode cX2_changePoint 5 = .ok (.iaload, 1) := by decide +kernel
theorem dX2_changePoint_6 : decode cX2_changePoint 6 = .ok (.istore 4, 2) := by decide +kernel
theorem dX2_changePoint_8 : decode cX2_changePoint 8 = .ok (.aload_n 0, 1) := by decide +kernel
theorem dX2_changePoint_9 : decode cX2_changePoint 9 = .ok (.getfield 11, 3) := by decide +kernel
theorem dX2_changePoint_12 : decode cX2_changePoint 12 = .ok (.iload_n 1, 1) := by decide +kernel
theorem dX2_changePoint_13 : decode cX2_changePoint 13 = .ok (.iload_n 2, 1) := by decide +kernel
theorem dX2_changePoint_14 : decode cX2_changePoint 14 = .ok (.iastore, 1) := by decide +kernel
theorem dX2_changePoint_15 : decode cX2_changePoint 15 = .ok (.aload_n 0, 1) := by decide +kernel
theorem dX2_changePoint_16 : decode cX2_changePoint 16 = .ok (.getfield 15, 3) := by decide +kernel
theorem dX2_changePoint_19 : decode cX2_changePoint 19 = .ok (.iload_n 1, 1) := by decide +kernel
theorem dX2_changePoint_20 : decode cX2_changePoint 20 = .ok (.iload_n 3, 1) := by decide +kernel
theorem dX2_changePoint_21 : decode cX2_changePoint 21 = .ok (.iastore, 1) := by decide +kernel
theorem dX2_changePoint_22 : decode cX2_changePoint 22 = .ok (.iload 4, 2) := by decide +kernel
theorem dX2_changePoint_24 : decode cX2_changePoint 24 = .ok (.ireturn, 1) := by decide +kernel
set_option maxRecDepth 20000 in
theorem ggX2_voltageAt_X2_branchAt : GoodIn wsX2_voltageAt wsX2_branchAt := goodIn_r _ [6, 7, 8, 9, 10, 11, 12, 13] rfl (by decide +kernel)
set_option maxRecDepth 20000 in
theorem gX2_voltageAt_X2_branchAt : GoodIn wsX2_voltageAt (va_wsS RX2 27 yX2_branchAt wsX2_branchAt) := goodIn_app (goodIn_of _ (by decide +kernel)) ggX2_voltageAt_X2_branchAt
theorem dX2_voltageAt_0 : decode cX2_voltageAt 0 = .ok (.aload_n 0, 1) := by decide +kernel
theorem dX2_voltageAt_1 : decode cX2_voltageAt 1 = .ok (.getfield 11, 3) := by decide +kernel
theorem dX2_voltageAt_4 : decode cX2_voltageAt 4 = .ok (.iload_n 1, 1) := by decide +kernel
theorem dX2_voltageAt_5 : decode cX2_voltageAt 5 = .ok (.invokestatic 27, 3) := by decide +kernel
theorem dX2_voltageAt_8 : decode cX2_voltageAt 8 = .ok (.istore_n 3, 1) := by decide +kernel
theorem dX2_voltageAt_9 : decode cX2_voltageAt 9 = .ok (.iload_n 3, 1) := by decide +kernel
theorem dX2_voltageAt_10 : decode cX2_voltageAt 10 = .ok (.aload_n 0, 1) := by decide +kernel
theorem dX2_voltageAt_11 : decode cX2_voltageAt 11 = .ok (.getfield 15, 3) := by decide +kernel
theorem dX2_voltageAt_14 : decode cX2_voltageAt 14 = .ok (.iload_n 1, 1) := by decide +kernel
theorem dX2_voltageAt_15 : decode cX2_voltageAt 15 = .ok (.invokestatic 27, 3) := by decide +kernel
theorem dX2_voltageAt_18 : decode cX2_voltageAt 18 = .ok (.iload_n 3, 1) := by decide +kernel
theorem dX2_voltageAt_19 : decode cX2_voltageAt 19 = .ok (.isub, 1) := by decide +kernel
theorem dX2_voltageAt_20 : decode cX2_voltageAt 20 = .ok (.iload_n 2, 1) := by decide +kernel
theorem dX2_voltageAt_21 : decode cX2_voltageAt 21 = .ok (.imul, 1) := by decide +kernel
theorem dX2_voltageAt_22 : decode cX2_voltageAt 22 = .ok (.sipush 1000, 3) := by decide +kernel
theorem dX2_voltageAt_25 : decode cX2_voltageAt 25 = .ok (.idiv, 1) := by decide +kernel
theorem dX2_voltageAt_26 : decode cX2_voltageAt 26 = .ok (.iadd, 1) := by decide +kernel
theorem dX2_voltageAt_27 : decode cX2_voltageAt 27 = .ok (.ireturn, 1) := by decide +kernel
theorem dX2_branchAt_0 : decode cX2_branchAt 0 = .ok (.iconst 0, 1) := by decide +kernel
theorem dX2_branchAt_1 : decode cX2_branchAt 1 = .ok (.iload_n 1, 1) := by decide +kernel
theorem dX2_branchAt_2 : decode cX2_branchAt 2 = .ok (.sipush 1000, 3) := by decide +kernel
theorem dX2_branchAt_5 : decode cX2_branchAt 5 = .ok (.idiv, 1) := by decide +kernel
theorem dX2_branchAt_6 : decode cX2_branchAt 6 = .ok (.bipush 9, 2) := by decide +kernel
theorem dX2_branchAt_8 : decode cX2_branchAt 8 = .ok (.invokestatic 31, 3) := by decide +kernel
theorem dX2_branchAt_11 : decode cX2_branchAt 11 = .ok (.invokestatic 37, 3) := by decide +kernel
theorem dX2_branchAt_14 : decode cX2_branchAt 14 = .ok (.istore_n 2, 1) := by decide +kernel
theorem dX2_branchAt_15 : decode cX2_branchAt 15 = .ok (.aload_n 0, 1) := by decide +kernel
theorem dX2_branchAt_16 : decode cX2_branchAt 16 = .ok (.iload_n 2, 1) := by decide +kernel
theorem dX2_branchAt_17 : decode cX2_branchAt 17 = .ok (.iaload, 1) := by decide +kernel
theorem dX2_branchAt_18 : decode cX2_branchAt 18 = .ok (.aload_n 0, 1) := by decide +kernel
theorem dX2_branchAt_19 : decode cX2_branchAt 19 = .ok (.iload_n 2, 1) := by decide +kernel
theorem dX2_branchAt_20 : decode cX2_branchAt 20 = .ok (.iconst 1, 1) := by decide +kernel
theorem dX2_branchAt_21 : decode cX2_branchAt 21 = .ok (.iadd, 1) := by decide +kernel
theorem dX2_branchAt_22 : decode cX2_branchAt 22 = .ok (.iaload, 1) := by decide +kernel
theorem dX2_branchAt_23 : decode cX2_branchAt 23 = .ok (.aload_n 0, 1) := by decide +kernel
theorem dX2_branchAt_24 : decode cX2_branchAt 24 = .ok (.iload_n 2, 1) := by decide +kernel
theorem dX2_branchAt_25 : decode cX2_branchAt 25 = .ok (.iaload, 1) := by decide +kernel
theorem dX2_branchAt_26 : decode cX2_branchAt 26 = .ok (.isub, 1) := by decide +kernel
theorem dX2_branchAt_27 : decode cX2_branchAt 27 = .ok (.iload_n 1, 1) := by decide +kernel
theorem dX2_branchAt_28 : decode cX2_branchAt 28 = .ok (.sipush 1000, 3) := by decide +kernel
theorem dX2_branchAt_31 : decode cX2_branchAt 31 = .ok (.iload_n 2, 1) := by decide +kernel
theorem dX2_branchAt_32 : decode cX2_branchAt 32 = .ok (.imul, 1) := by decide +kernel
theorem dX2_branchAt_33 : decode cX2_branchAt 33 = .ok (.isub, 1) := by decide +kernel
theorem dX2_branchAt_34 : decode cX2_branchAt 34 = .ok (.imul, 1) := by decide +kernel
theorem dX2_branchAt_35 : decode cX2_branchAt 35 = .ok (.sipush 1000, 3) := by decide +kernel
theorem dX2_branchAt_38 : decode cX2_branchAt 38 = .ok (.idiv, 1) := by decide +kernel
theorem dX2_branchAt_39 : decode cX2_branchAt 39 = .ok (.iadd, 1) := by decide +kernel
theorem dX2_branchAt_40 : decode cX2_branchAt 40 = .ok (.ireturn, 1) := by decide +kernel
set_option maxRecDepth 20000 in
theorem ggX2_socAt_X2_voltageAt : GoodIn wsX2_socAt wsX2_voltageAt := goodIn_r _ [5, 6, 7, 8, 9, 4, 10, 11, 12, 13, 14, 15, 16, 17, 18, 19] rfl (by decide +kernel)
set_option maxRecDepth 20000 in
theorem gX2_socAt_X2_voltageAt : GoodIn wsX2_socAt (wsV RX2 40 RX2 yX2_voltageAt wsX2_voltageAt) := goodIn_app (goodIn_of _ (by decide +kernel)) ggX2_socAt_X2_voltageAt
theorem dX2_socAt_0 : decode cX2_socAt 0 = .ok (.iconst 0, 1) := by decide +kernel
theorem dX2_socAt_1 : decode cX2_socAt 1 = .ok (.istore_n 3, 1) := by decide +kernel
theorem dX2_socAt_2 : decode cX2_socAt 2 = .ok (.sipush 10000, 3) := by decide +kernel
theorem dX2_socAt_5 : decode cX2_socAt 5 = .ok (.istore 4, 2) := by decide +kernel
theorem dX2_socAt_7 : decode cX2_socAt 7 = .ok (.iconst 0, 1) := by decide +kernel
theorem dX2_socAt_8 : decode cX2_socAt 8 = .ok (.istore 5, 2) := by decide +kernel
theorem dX2_socAt_10 : decode cX2_socAt 10 = .ok (.iload 5, 2) := by decide +kernel
theorem dX2_socAt_12 : decode cX2_socAt 12 = .ok (.bipush 16, 2) := by decide +kernel
theorem dX2_socAt_14 : decode cX2_socAt 14 = .ok (.if_icmp .ge 46, 3) := by decide +kernel
theorem dX2_socAt_17 : decode cX2_socAt 17 = .ok (.iload_n 3, 1) := by decide +kernel
theorem dX2_socAt_18 : decode cX2_socAt 18 = .ok (.iload 4, 2) := by decide +kernel
theorem dX2_socAt_20 : decode cX2_socAt 20 = .ok (.if_icmp .ge 40, 3) := by decide +kernel
theorem dX2_socAt_23 : decode cX2_socAt 23 = .ok (.iload_n 3, 1) := by decide +kernel
theorem dX2_socAt_24 : decode cX2_socAt 24 = .ok (.iload 4, 2) := by decide +kernel
theorem dX2_socAt_26 : decode cX2_socAt 26 = .ok (.iadd, 1) := by decide +kernel
theorem dX2_socAt_27 : decode cX2_socAt 27 = .ok (.iconst 2, 1) := by decide +kernel
theorem dX2_socAt_28 : decode cX2_socAt 28 = .ok (.idiv, 1) := by decide +kernel
theorem dX2_socAt_29 : decode cX2_socAt 29 = .ok (.istore 6, 2) := by decide +kernel
theorem dX2_socAt_31 : decode cX2_socAt 31 = .ok (.aload_n 0, 1) := by decide +kernel
theorem dX2_socAt_32 : decode cX2_socAt 32 = .ok (.iload 6, 2) := by decide +kernel
theorem dX2_socAt_34 : decode cX2_socAt 34 = .ok (.iload_n 2, 1) := by decide +kernel
theorem dX2_socAt_35 : decode cX2_socAt 35 = .ok (.invokevirtual 40, 3) := by decide +kernel
theorem dX2_socAt_38 : decode cX2_socAt 38 = .ok (.iload_n 1, 1) := by decide +kernel
theorem dX2_socAt_39 : decode cX2_socAt 39 = .ok (.if_icmp .lt 10, 3) := by decide +kernel
theorem dX2_socAt_42 : decode cX2_socAt 42 = .ok (.iload 6, 2) := by decide +kernel
theorem dX2_socAt_44 : decode cX2_socAt 44 = .ok (.istore 4, 2) := by decide +kernel
theorem dX2_socAt_46 : decode cX2_socAt 46 = .ok (.goto 8, 3) := by decide +kernel
theorem dX2_socAt_49 : decode cX2_socAt 49 = .ok (.iload 6, 2) := by decide +kernel
theorem dX2_socAt_51 : decode cX2_socAt 51 = .ok (.iconst 1, 1) := by decide +kernel
theorem dX2_socAt_52 : decode cX2_socAt 52 = .ok (.iadd, 1) := by decide +kernel
theorem dX2_socAt_53 : decode cX2_socAt 53 = .ok (.istore_n 3, 1) := by decide +kernel
theorem dX2_socAt_54 : decode cX2_socAt 54 = .ok (.iinc 5 1, 3) := by decide +kernel
theorem dX2_socAt_57 : decode cX2_socAt 57 = .ok (.goto (-47), 3) := by decide +kernel
theorem dX2_socAt_60 : decode cX2_socAt 60 = .ok (.iload_n 3, 1) := by decide +kernel
theorem dX2_socAt_61 : decode cX2_socAt 61 = .ok (.ireturn, 1) := by decide +kernel
set_option maxRecDepth 20000 in
theorem ggX2_mixInto_X5_mix : GoodIn wsX2_mixInto wsX5_mix := goodIn_r _ [5, 6] rfl (by decide +kernel)
set_option maxRecDepth 20000 in
theorem gX2_mixInto_X5_mix_n43 : GoodIn wsX2_mixInto (wsX5_mix) := ggX2_mixInto_X5_mix
theorem dX2_mixInto_0 : decode cX2_mixInto 0 = .ok (.lload_n 1, 1) := by decide +kernel
theorem dX2_mixInto_1 : decode cX2_mixInto 1 = .ok (.lstore_n 3, 1) := by decide +kernel
theorem dX2_mixInto_2 : decode cX2_mixInto 2 = .ok (.iconst 0, 1) := by decide +kernel
theorem dX2_mixInto_3 : decode cX2_mixInto 3 = .ok (.istore 5, 2) := by decide +kernel
theorem dX2_mixInto_5 : decode cX2_mixInto 5 = .ok (.iload 5, 2) := by decide +kernel
theorem dX2_mixInto_7 : decode cX2_mixInto 7 = .ok (.bipush 11, 2) := by decide +kernel
theorem dX2_mixInto_9 : decode cX2_mixInto 9 = .ok (.if_icmp .ge 22, 3) := by decide +kernel
theorem dX2_mixInto_12 : decode cX2_mixInto 12 = .ok (.lload_n 3, 1) := by decide +kernel
theorem dX2_mixInto_13 : decode cX2_mixInto 13 = .ok (.aload_n 0, 1) := by decide +kernel
theorem dX2_mixInto_14 : decode cX2_mixInto 14 = .ok (.getfield 11, 3) := by decide +kernel
theorem dX2_mixInto_17 : decode cX2_mixInto 17 = .ok (.iload 5, 2) := by decide +kernel
theorem dX2_mixInto_19 : decode cX2_mixInto 19 = .ok (.iaload, 1) := by decide +kernel
theorem dX2_mixInto_20 : decode cX2_mixInto 20 = .ok (.i2l, 1) := by decide +kernel
theorem dX2_mixInto_21 : decode cX2_mixInto 21 = .ok (.invokestatic 43, 3) := by decide +kernel
theorem dX2_mixInto_24 : decode cX2_mixInto 24 = .ok (.lstore_n 3, 1) := by decide +kernel
theorem dX2_mixInto_25 : decode cX2_mixInto 25 = .ok (.iinc 5 1, 3) := by decide +kernel
theorem dX2_mixInto_28 : decode cX2_mixInto 28 = .ok (.goto (-23), 3) := by decide +kernel
theorem dX2_mixInto_31 : decode cX2_mixInto 31 = .ok (.iconst 0, 1) := by decide +kernel
theorem dX2_mixInto_32 : decode cX2_mixInto 32 = .ok (.istore 5, 2) := by decide +kernel
theorem dX2_mixInto_34 : decode cX2_mixInto 34 = .ok (.iload 5, 2) := by decide +kernel
theorem dX2_mixInto_36 : decode cX2_mixInto 36 = .ok (.bipush 11, 2) := by decide +kernel
theorem dX2_mixInto_38 : decode cX2_mixInto 38 = .ok (.if_icmp .ge 22, 3) := by decide +kernel
theorem dX2_mixInto_41 : decode cX2_mixInto 41 = .ok (.lload_n 3, 1) := by decide +kernel
theorem dX2_mixInto_42 : decode cX2_mixInto 42 = .ok (.aload_n 0, 1) := by decide +kernel
theorem dX2_mixInto_43 : decode cX2_mixInto 43 = .ok (.getfield 15, 3) := by decide +kernel
theorem dX2_mixInto_46 : decode cX2_mixInto 46 = .ok (.iload 5, 2) := by decide +kernel
theorem dX2_mixInto_48 : decode cX2_mixInto 48 = .ok (.iaload, 1) := by decide +kernel
theorem dX2_mixInto_49 : decode cX2_mixInto 49 = .ok (.i2l, 1) := by decide +kernel
theorem dX2_mixInto_50 : decode cX2_mixInto 50 = .ok (.invokestatic 43, 3) := by decide +kernel
theorem dX2_mixInto_53 : decode cX2_mixInto 53 = .ok (.lstore_n 3, 1) := by decide +kernel
theorem dX2_mixInto_54 : decode cX2_mixInto 54 = .ok (.iinc 5 1, 3) := by decide +kernel
theorem dX2_mixInto_57 : decode cX2_mixInto 57 = .ok (.goto (-23), 3) := by decide +kernel
theorem dX2_mixInto_60 : decode cX2_mixInto 60 = .ok (.lload_n 3, 1) := by decide +kernel
theorem dX2_mixInto_61 : decode cX2_mixInto 61 = .ok (.lreturn, 1) := by decide +kernel
set_option maxRecDepth 20000 in
theorem ggX3_init_X1_init : GoodIn wsX3_init wsX1_init := goodIn_r _ [10, 11, 2, 3, 12, 13, 14, 15, 16, 17, 18, 19, 20, 21, 22, 23, 24, 25, 26, 27, 28, 29, 30, 31, 32, 33, 34, 35, 36, 37, 38, 39, 40, 7, 41, 42, 43, 44, 45, 46, 47, 48, 49, 50, 51, 52, 53, 54, 55, 56, 57, 58, 59, 60, 61, 62, 65, 66, 67, 68, 69, 70, 71, 72, 73, 74, 75, 76, 77, 78, 79, 80, 81, 82, 83, 84, 85, 86] rfl (by decide +kernel)
set_option maxRecDepth 20000 in
theorem gX3_init_X1_init : GoodIn wsX3_init (wsX1_init) := ggX3_init_X1_init
theorem dX3_init_0 : decode cX3_init 0 = .ok (.aload_n 0, 1) := by decide +kernel
theorem dX3_init_1 : decode cX3_init 1 = .ok (.invokespecial 1, 3) := by decide +kernel
theorem dX3_init_4 : decode cX3_init 4 = .ok (.aload_n 0, 1) := by decide +kernel
theorem dX3_init_5 : decode cX3_init 5 = .ok (.iconst 4, 1) := by decide +kernel
theorem dX3_init_6 : decode cX3_init 6 = .ok (.anewarray 9, 3) := by decide +kernel
theorem dX3_init_9 : decode cX3_init 9 = .ok (.putfield 11, 3) := by decide +kernel
theorem dX3_init_12 : decode cX3_init 12 = .ok (.iconst 0, 1) := by decide +kernel
theorem dX3_init_13 : decode cX3_init 13 = .ok (.istore_n 1, 1) := by decide +kernel
theorem dX3_init_14 : decode cX3_init 14 = .ok (.iload_n 1, 1) := by decide +kernel
theorem dX3_init_15 : decode cX3_init 15 = .ok (.iconst 4, 1) := by decide +kernel
theorem dX3_init_16 : decode cX3_init 16 = .ok (.if_icmp .ge 22, 3) := by decide +kernel
theorem dX3_init_19 : decode cX3_init 19 = .ok (.aload_n 0, 1) := by decide +kernel
theorem dX3_init_20 : decode cX3_init 20 = .ok (.getfield 11, 3) := by decide +kernel
theorem dX3_init_23 : decode cX3_init 23 = .ok (.iload_n 1, 1) := by decide +kernel
theorem dX3_init_24 : decode cX3_init 24 = .ok (.new 9, 3) := by decide +kernel
theorem dX3_init_27 : decode cX3_init 27 = .ok (.dup, 1) := by decide +kernel
theorem dX3_init_28 : decode cX3_init 28 = .ok (.invokespecial 15, 3) := by decide +kernel
theorem dX3_init_31 : decode cX3_init 31 = .ok (.aastore, 1) := by decide +kernel
theorem dX3_init_32 : decode cX3_init 32 = .ok (.iinc 1 1, 3) := by decide +kernel
theorem dX3_init_35 : decode cX3_init 35 = .ok (.goto (-21), 3) := by decide +kernel
theorem dX3_init_38 : decode cX3_init 38 = .ok (.return_, 1) := by decide +kernel
theorem dX3_size_0 : decode cX3_size 0 = .ok (.aload_n 0, 1) := by decide +kernel
theorem dX3_size_1 : decode cX3_size 1 = .ok (.getfield 16, 3) := by decide +kernel
theorem dX3_size_4 : decode cX3_size 4 = .ok (.ireturn, 1) := by decide +kernel
set_option maxRecDepth 20000 in
theorem ggX3_save_X3_dropOldest : GoodIn wsX3_save wsX3_dropOldest := goodIn_r _ [7, 2, 1, 51, 52] rfl (by decide +kernel)
set_option maxRecDepth 20000 in
theorem gX3_save_X3_dropOldest : GoodIn wsX3_save (wsV RX3 20 RX3 yX3_dropOldest wsX3_dropOldest) := goodIn_app (goodIn_of _ (by decide +kernel)) ggX3_save_X3_dropOldest
set_option maxRecDepth 20000 in
theorem ggX3_save_X1_copyFrom : GoodIn wsX3_save wsX1_copyFrom := goodIn_r _ [12, 13, 14, 15, 16, 17, 18, 19, 20, 21, 22, 23, 24, 25, 26, 27, 28, 29, 30, 31, 32, 33, 34, 35, 36, 37, 38, 39, 40, 41, 42, 43, 44, 45, 46, 47, 48, 49, 50, 53, 54, 55, 56, 57, 58, 59, 60, 61, 62, 63, 64, 65, 66, 67, 68, 69, 70, 71, 72, 73, 74] rfl (by decide +kernel)
set_option maxRecDepth 20000 in
theorem gX3_save_X1_copyFrom : GoodIn wsX3_save (wsV RX3 23 RX1 yX1_copyFrom wsX1_copyFrom) := goodIn_app (goodIn_of _ (by decide +kernel)) ggX3_save_X1_copyFrom
theorem dX3_save_0 : decode cX3_save 0 = .ok (.aload_n 0, 1) := by decide +kernel
theorem dX3_save_1 : decode cX3_save 1 = .ok (.getfield 16, 3) := by decide +kernel
theorem dX3_save_4 : decode cX3_save 4 = .ok (.iconst 4, 1) := by decide +kernel
theorem dX3_save_5 : decode cX3_save 5 = .ok (.if_icmp .lt 7, 3) := by decide +kernel
theorem dX3_save_8 : decode cX3_save 8 = .ok (.aload_n 0, 1) := by decide +kernel
theorem dX3_save_9 : decode cX3_save 9 = .ok (.invokevirtual 20, 3) := by decide +kernel
theorem dX3_save_12 : decode cX3_save 12 = .ok (.aload_n 0, 1) := by decide +kernel
theorem dX3_save_13 : decode cX3_save 13 = .ok (.getfield 11, 3) := by decide +kernel
theorem dX3_save_16 : decode cX3_save 16 = .ok (.aload_n 0, 1) := by decide +kernel
theorem dX3_save_17 : decode cX3_save 17 = .ok (.getfield 16, 3) := by decide +kernel
theorem dX3_save_20 : decode cX3_save 20 = .ok (.aaload, 1) := by decide +kernel
theorem dX3_save_21 : decode cX3_save 21 = .ok (.astore_n 2, 1) := by decide +kernel
theorem dX3_save_22 : decode cX3_save 22 = .ok (.aload_n 2, 1) := by decide +kernel
theorem dX3_save_23 : decode cX3_save 23 = .ok (.ifnull 18, 3) := by decide +kernel
theorem dX3_save_26 : decode cX3_save 26 = .ok (.aload_n 2, 1) := by decide +kernel
theorem dX3_save_27 : decode cX3_save 27 = .ok (.aload_n 1, 1) := by decide +kernel
theorem dX3_save_28 : decode cX3_save 28 = .ok (.invokevirtual 23, 3) := by decide +kernel
theorem dX3_save_31 : decode cX3_save 31 = .ok (.aload_n 0, 1) := by decide +kernel
theorem dX3_save_32 : decode cX3_save 32 = .ok (.dup, 1) := by decide +kernel
theorem dX3_save_33 : decode cX3_save 33 = .ok (.getfield 16, 3) := by decide +kernel
theorem dX3_save_36 : decode cX3_save 36 = .ok (.iconst 1, 1) := by decide +kernel
theorem dX3_save_37 : decode cX3_save 37 = .ok (.iadd, 1) := by decide +kernel
theorem dX3_save_38 : decode cX3_save 38 = .ok (.putfield 16, 3) := by decide +kernel
theorem dX3_save_41 : decode cX3_save 41 = .ok (.return_, 1) := by decide +kernel
theorem dX3_dropOldest_0 : decode cX3_dropOldest 0 = .ok (.aload_n 0, 1) := by decide +kernel
theorem dX3_dropOldest_1 : decode cX3_dropOldest 1 = .ok (.getfield 11, 3) := by decide +kernel
theorem dX3_dropOldest_4 : decode cX3_dropOldest 4 = .ok (.iconst 0, 1) := by decide +kernel
theorem dX3_dropOldest_5 : decode cX3_dropOldest 5 = .ok (.aaload, 1) := by decide +kernel
theorem dX3_dropOldest_6 : decode cX3_dropOldest 6 = .ok (.astore_n 1, 1) := by decide +kernel
theorem dX3_dropOldest_7 : decode cX3_dropOldest 7 = .ok (.iconst 1, 1) := by decide +kernel
theorem dX3_dropOldest_8 : decode cX3_dropOldest 8 = .ok (.istore_n 2, 1) := by decide +kernel
theorem dX3_dropOldest_9 : decode cX3_dropOldest 9 = .ok (.iload_n 2, 1) := by decide +kernel
theorem dX3_dropOldest_10 : decode cX3_dropOldest 10 = .ok (.iconst 4, 1) := by decide +kernel
theorem dX3_dropOldest_11 : decode cX3_dropOldest 11 = .ok (.if_icmp .ge 23, 3) := by decide +kernel
theorem dX3_dropOldest_14 : decode cX3_dropOldest 14 = .ok (.aload_n 0, 1) := by decide +kernel
theorem dX3_dropOldest_15 : decode cX3_dropOldest 15 = .ok (.getfield 11, 3) := by decide +kernel
theorem dX3_dropOldest_18 : decode cX3_dropOldest 18 = .ok (.iload_n 2, 1) := by decide +kernel
theorem dX3_dropOldest_19 : decode cX3_dropOldest 19 = .ok (.iconst 1, 1) := by decide +kernel
theorem dX3_dropOldest_20 : decode cX3_dropOldest 20 = .ok (.isub, 1) := by decide +kernel
theorem dX3_dropOldest_21 : decode cX3_dropOldest 21 = .ok (.aload_n 0, 1) := by decide +kernel
theorem dX3_dropOldest_22 : decode cX3_dropOldest 22 = .ok (.getfield 11, 3) := by decide +kernel
theorem dX3_dropOldest_25 : decode cX3_dropOldest 25 = .ok (.iload_n 2, 1) := by decide +kernel
theorem dX3_dropOldest_26 : decode cX3_dropOldest 26 = .ok (.aaload, 1) := by decide +kernel
theorem dX3_dropOldest_27 : decode cX3_dropOldest 27 = .ok (.aastore, 1) := by decide +kernel
theorem dX3_dropOldest_28 : decode cX3_dropOldest 28 = .ok (.iinc 2 1, 3) := by decide +kernel
theorem dX3_dropOldest_31 : decode cX3_dropOldest 31 = .ok (.goto (-22), 3) := by decide +kernel
theorem dX3_dropOldest_34 : decode cX3_dropOldest 34 = .ok (.aload_n 0, 1) := by decide +kernel
theorem dX3_dropOldest_35 : decode cX3_dropOldest 35 = .ok (.getfield 11, 3) := by decide +kernel
theorem dX3_dropOldest_38 : decode cX3_dropOldest 38 = .ok (.iconst 3, 1) := by decide +kernel
theorem dX3_dropOldest_39 : decode cX3_dropOldest 39 = .ok (.aload_n 1, 1) := by decide +kernel
theorem dX3_dropOldest_40 : decode cX3_dropOldest 40 = .ok (.aastore, 1) := by decide +kernel
theorem dX3_dropOldest_41 : decode cX3_dropOldest 41 = .ok (.aload_n 0, 1) := by decide +kernel
theorem dX3_dropOldest_42 : decode cX3_dropOldest 42 = .ok (.iconst 3, 1) := by decide +kernel
theorem dX3_dropOldest_43 : decode cX3_dropOldest 43 = .ok (.putfield 16, 3) := by decide +kernel
theorem dX3_dropOldest_46 : decode cX3_dropOldest 46 = .ok (.return_, 1) := by decide +kernel
set_option maxRecDepth 20000 in
theorem ggX3_restore_X1_copyFrom : GoodIn wsX3_restore wsX1_copyFrom := goodIn_r _ [7, 8, 9, 10, 11, 12, 13, 14, 15, 16, 17, 18, 19, 20, 21, 22, 23, 24, 25, 26, 27, 28, 29, 30, 31, 32, 33, 34, 35, 36, 37, 38, 39, 40, 41, 42, 43, 44, 45, 48, 49, 50, 51, 52, 53, 54, 55, 56, 57, 58, 59, 60, 61, 62, 63, 64, 65, 66, 67, 68, 69] rfl (by decide +kernel)
set_option maxRecDepth 20000 in
theorem gX3_restore_X1_copyFrom : GoodIn wsX3_restore (wsV RX3 23 RX1 yX1_copyFrom wsX1_copyFrom) := goodIn_app (goodIn_of _ (by decide +kernel)) ggX3_restore_X1_copyFrom
theorem dX3_restore_0 : decode cX3_restore 0 = .ok (.aload_n 0, 1) := by decide +kernel
theorem dX3_restore_1 : decode cX3_restore 1 = .ok (.getfield 16, 3) := by decide +kernel
theorem dX3_restore_4 : decode cX3_restore 4 = .ok (.ifCond .le 11, 3) := by decide +kernel
theorem dX3_restore_7 : decode cX3_restore 7 = .ok (.aload_n 0, 1) := by decide +kernel
theorem dX3_restore_8 : decode cX3_restore 8 = .ok (.getfield 16, 3) := by decide +kernel
theorem dX3_restore_11 : decode cX3_restore 11 = .ok (.iconst 4, 1) := by decide +kernel
theorem dX3_restore_12 : decode cX3_restore 12 = .ok (.if_icmp .le 4, 3) := by decide +kernel
theorem dX3_restore_15 : decode cX3_restore 15 = .ok (.return_, 1) := by decide +kernel
theorem dX3_restore_16 : decode cX3_restore 16 = .ok (.aload_n 0, 1) := by decide +kernel
theorem dX3_restore_17 : decode cX3_restore 17 = .ok (.dup, 1) := by decide +kernel
theorem dX3_restore_18 : decode cX3_restore 18 = .ok (.getfield 16, 3) := by decide +kernel
theorem dX3_restore_21 : decode cX3_restore 21 = .ok (.iconst 1, 1) := by decide +kernel
theorem dX3_restore_22 : decode cX3_restore 22 = .ok (.isub, 1) := by decide +kernel
theorem dX3_restore_23 : decode cX3_restore 23 = .ok (.putfield 16, 3) := by decide +kernel
theorem dX3_restore_26 : decode cX3_restore 26 = .ok (.aload_n 0, 1) := by decide +kernel
theorem dX3_restore_27 : decode cX3_restore 27 = .ok (.getfield 11, 3) := by decide +kernel
theorem dX3_restore_30 : decode cX3_restore 30 = .ok (.aload_n 0, 1) := by decide +kernel
theorem dX3_restore_31 : decode cX3_restore 31 = .ok (.getfield 16, 3) := by decide +kernel
theorem dX3_restore_34 : decode cX3_restore 34 = .ok (.aaload, 1) := by decide +kernel
theorem dX3_restore_35 : decode cX3_restore 35 = .ok (.astore_n 2, 1) := by decide +kernel
theorem dX3_restore_36 : decode cX3_restore 36 = .ok (.aload_n 2, 1) := by decide +kernel
theorem dX3_restore_37 : decode cX3_restore 37 = .ok (.ifnull 8, 3) := by decide +kernel
theorem dX3_restore_40 : decode cX3_restore 40 = .ok (.aload_n 1, 1) := by decide +kernel
theorem dX3_restore_41 : decode cX3_restore 41 = .ok (.aload_n 2, 1) := by decide +kernel
theorem dX3_restore_42 : decode cX3_restore 42 = .ok (.invokevirtual 23, 3) := by decide +kernel
theorem dX3_restore_45 : decode cX3_restore 45 = .ok (.return_, 1) := by decide +kernel
theorem dX4_init_0 : decode cX4_init 0 = .ok (.aload_n 0, 1) := by decide +kernel
theorem dX4_init_1 : decode cX4_init 1 = .ok (.invokespecial 3, 3) := by decide +kernel
theorem dX4_init_4 : decode cX4_init 4 = .ok (.aload_n 0, 1) := by decide +kernel
theorem dX4_init_5 : decode cX4_init 5 = .ok (.bipush 120, 2) := by decide +kernel
theorem dX4_init_7 : decode cX4_init 7 = .ok (.newarray .byte, 2) := by decide +kernel
theorem dX4_init_9 : decode cX4_init 9 = .ok (.putfield 11, 3) := by decide +kernel
theorem dX4_init_12 : decode cX4_init 12 = .ok (.aload_n 0, 1) := by decide +kernel
theorem dX4_init_13 : decode cX4_init 13 = .ok (.bipush 60, 2) := by decide +kernel
theorem dX4_init_15 : decode cX4_init 15 = .ok (.newarray .int, 2) := by decide +kernel
theorem dX4_init_17 : decode cX4_init 17 = .ok (.putfield 15, 3) := by decide +kernel
theorem dX4_init_20 : decode cX4_init 20 = .ok (.return_, 1) := by decide +kernel
theorem dX4_size_0 : decode cX4_size 0 = .ok (.aload_n 0, 1) := by decide +kernel
theorem dX4_size_1 : decode cX4_size 1 = .ok (.getfield 19, 3) := by decide +kernel
theorem dX4_size_4 : decode cX4_size 4 = .ok (.ireturn, 1) := by decide +kernel
theorem dX4_isFull_0 : decode cX4_isFull 0 = .ok (.aload_n 0, 1) := by decide +kernel
theorem dX4_isFull_1 : decode cX4_isFull 1 = .ok (.getfield 19, 3) := by decide +kernel
theorem dX4_isFull_4 : decode cX4_isFull 4 = .ok (.bipush 120, 2) := by decide +kernel
theorem dX4_isFull_6 : decode cX4_isFull 6 = .ok (.if_icmp .lt 7, 3) := by decide +kernel
theorem dX4_isFull_9 : decode cX4_isFull 9 = .ok (.iconst 1, 1) := by decide +kernel
theorem dX4_isFull_10 : decode cX4_isFull 10 = .ok (.goto 4, 3) := by decide +kernel
theorem dX4_isFull_13 : decode cX4_isFull 13 = .ok (.iconst 0, 1) := by decide +kernel
theorem dX4_isFull_14 : decode cX4_isFull 14 = .ok (.ireturn, 1) := by decide +kernel
theorem dX4_add_0 : decode cX4_add 0 = .ok (.aload_n 0, 1) := by decide +kernel
theorem dX4_add_1 : decode cX4_add 1 = .ok (.getfield 19, 3) := by decide +kernel
theorem dX4_add_4 : decode cX4_add 4 = .ok (.bipush 120, 2) := by decide +kernel
theorem dX4_add_6 : decode cX4_add 6 = .ok (.if_icmp .ge 24, 3) := by decide +kernel
theorem dX4_add_9 : decode cX4_add 9 = .ok (.aload_n 0, 1) := by decide +kernel
theorem dX4_add_10 : decode cX4_add 10 = .ok (.getfield 11, 3) := by decide +kernel
theorem dX4_add_13 : decode cX4_add 13 = .ok (.aload_n 0, 1) := by decide +kernel
theorem dX4_add_14 : decode cX4_add 14 = .ok (.getfield 19, 3) := by decide +kernel
theorem dX4_add_17 : decode cX4_add 17 = .ok (.iload_n 1, 1) := by decide +kernel
theorem dX4_add_18 : decode cX4_add 18 = .ok (.i2b, 1) := by decide +kernel
theorem dX4_add_19 : decode cX4_add 19 = .ok (.bastore, 1) := by decide +kernel
theorem dX4_add_20 : decode cX4_add 20 = .ok (.aload_n 0, 1) := by decide +kernel
theorem dX4_add_21 : decode cX4_add 21 = .ok (.dup, 1) := by decide +kernel
theorem dX4_add_22 : decode cX4_add 22 = .ok (.getfield 19, 3) := by decide +kernel
theorem dX4_add_25 : decode cX4_add 25 = .ok (.iconst 1, 1) := by decide +kernel
theorem dX4_add_26 : decode cX4_add 26 = .ok (.iadd, 1) := by decide +kernel
theorem dX4_add_27 : decode cX4_add 27 = .ok (.putfield 19, 3) := by decide +kernel
theorem dX4_add_30 : decode cX4_add 30 = .ok (.return_, 1) := by decide +kernel
theorem dX4_empty_0 : decode cX4_empty 0 = .ok (.aload_n 0, 1) := by decide +kernel
theorem dX4_empty_1 : decode cX4_empty 1 = .ok (.iconst 0, 1) := by decide +kernel
theorem dX4_empty_2 : decode cX4_empty 2 = .ok (.putfield 19, 3) := by decide +kernel
theorem dX4_empty_5 : decode cX4_empty 5 = .ok (.return_, 1) := by decide +kernel
theorem dX4_measurements_0 : decode cX4_measurements 0 = .ok (.aload_n 0, 1) := by decide +kernel
theorem dX4_measurements_1 : decode cX4_measurements 1 = .ok (.getfield 23, 3) := by decide +kernel
theorem dX4_measurements_4 : decode cX4_measurements 4 = .ok (.iconst 3, 1) := by decide +kernel
theorem dX4_measurements_5 : decode cX4_measurements 5 = .ok (.idiv, 1) := by decide +kernel
theorem dX4_measurements_6 : decode cX4_measurements 6 = .ok (.ireturn, 1) := by decide +kernel
theorem dX4_number_0 : decode cX4_number 0 = .ok (.iload_n 1, 1) := by decide +kernel
theorem dX4_number_1 : decode cX4_number 1 = .ok (.iconst 3, 1) := by decide +kernel
theorem dX4_number_2 : decode cX4_number 2 = .ok (.imul, 1) := by decide +kernel
theorem dX4_number_3 : decode cX4_number 3 = .ok (.iload_n 2, 1) := by decide +kernel
theorem dX4_number_4 : decode cX4_number 4 = .ok (.iadd, 1) := by decide +kernel
theorem dX4_number_5 : decode cX4_number 5 = .ok (.istore_n 3, 1) := by decide +kernel
theorem dX4_number_6 : decode cX4_number 6 = .ok (.iload_n 3, 1) := by decide +kernel
theorem dX4_number_7 : decode cX4_number 7 = .ok (.ifCond .lt 21, 3) := by decide +kernel
theorem dX4_number_10 : decode cX4_number 10 = .ok (.iload_n 3, 1) := by decide +kernel
theorem dX4_number_11 : decode cX4_number 11 = .ok (.aload_n 0, 1) := by decide +kernel
theorem dX4_number_12 : decode cX4_number 12 = .ok (.getfield 15, 3) := by decide +kernel
theorem dX4_number_15 : decode cX4_number 15 = .ok (.arraylength, 1) := by decide +kernel
theorem dX4_number_16 : decode cX4_number 16 = .ok (.if_icmp .ge 12, 3) := by decide +kernel
theorem dX4_number_19 : decode cX4_number 19 = .ok (.aload_n 0, 1) := by decide +kernel
theorem dX4_number_20 : decode cX4_number 20 = .ok (.getfield 15, 3) := by decide +kernel
theorem dX4_number_23 : decode cX4_number 23 = .ok (.iload_n 3, 1) := by decide +kernel
theorem dX4_number_24 : decode cX4_number 24 = .ok (.iaload, 1) := by decide +kernel
theorem dX4_number_25 : decode cX4_number 25 = .ok (.goto 4, 3) := by decide +kernel
theorem dX4_number_28 : decode cX4_number 28 = .ok (.iconst 0, 1) := by decide +kernel
theorem dX4_number_29 : decode cX4_number 29 = .ok (.ireturn, 1) := by decide +kernel
set_option maxRecDepth 20000 in
theorem ggX4_read_X4_beginNumber : GoodIn wsX4_read wsX4_beginNumber := goodIn_r _ [10, 11, 4, 5, 17, 18, 19, 20, 21, 22, 23] rfl (by decide +kernel)
set_option maxRecDepth 20000 in
theorem gX4_read_X4_beginNumber : GoodIn wsX4_read (wsV RX4 26 RX4 yX4_beginNumber wsX4_beginNumber) := goodIn_app (goodIn_of _ (by decide +kernel)) ggX4_read_X4_beginNumber
set_option maxRecDepth 20000 in
theorem ggX4_read_X4_takes : GoodIn wsX4_read wsX4_takes := goodIn_r _ [15, 4, 5, 11, 1, 16, 6, 7, 8, 9, 10, 17, 18, 19, 20, 21, 22, 23] rfl (by decide +kernel)
set_option maxRecDepth 20000 in
theorem gX4_read_X4_takes : GoodIn wsX4_read (wsV RX4 29 RX4 yX4_takes wsX4_takes) := goodIn_app (goodIn_of _ (by decide +kernel)) ggX4_read_X4_takes
theorem dX4_read_0 : decode cX4_read 0 = .ok (.aload_n 0, 1) := by decide +kernel
theorem dX4_read_1 : decode cX4_read 1 = .ok (.iconst 0, 1) := by decide +kernel
theorem dX4_read_2 : decode cX4_read 2 = .ok (.putfield 23, 3) := by decide +kernel
theorem dX4_read_5 : decode cX4_read 5 = .ok (.aload_n 0, 1) := by decide +kernel
theorem dX4_read_6 : decode cX4_read 6 = .ok (.invokevirtual 26, 3) := by decide +kernel
theorem dX4_read_9 : decode cX4_read 9 = .ok (.iconst 0, 1) := by decide +kernel
theorem dX4_read_10 : decode cX4_read 10 = .ok (.istore_n 1, 1) := by decide +kernel
theorem dX4_read_11 : decode cX4_read 11 = .ok (.iload_n 1, 1) := by decide +kernel
theorem dX4_read_12 : decode cX4_read 12 = .ok (.aload_n 0, 1) := by decide +kernel
theorem dX4_read_13 : decode cX4_read 13 = .ok (.getfield 19, 3) := by decide +kernel
theorem dX4_read_16 : decode cX4_read 16 = .ok (.if_icmp .ge 30, 3) := by decide +kernel
theorem dX4_read_19 : decode cX4_read 19 = .ok (.iload_n 1, 1) := by decide +kernel
theorem dX4_read_20 : decode cX4_read 20 = .ok (.bipush 120, 2) := by decide +kernel
theorem dX4_read_22 : decode cX4_read 22 = .ok (.if_icmp .ge 24, 3) := by decide +kernel
theorem dX4_read_25 : decode cX4_read 25 = .ok (.aload_n 0, 1) := by decide +kernel
theorem dX4_read_26 : decode cX4_read 26 = .ok (.aload_n 0, 1) := by decide +kernel
theorem dX4_read_27 : decode cX4_read 27 = .ok (.getfield 11, 3) := by decide +kernel
theorem dX4_read_30 : decode cX4_read 30 = .ok (.iload_n 1, 1) := by decide +kernel
theorem dX4_read_31 : decode cX4_read 31 = .ok (.baload, 1) := by decide +kernel
theorem dX4_read_32 : decode cX4_read 32 = .ok (.invokevirtual 29, 3) := by decide +kernel
theorem dX4_read_35 : decode cX4_read 35 = .ok (.ifCond .ne 5, 3) := by decide +kernel
theorem dX4_read_38 : decode cX4_read 38 = .ok (.iload_n 1, 1) := by decide +kernel
theorem dX4_read_39 : decode cX4_read 39 = .ok (.ireturn, 1) := by decide +kernel
theorem dX4_read_40 : decode cX4_read 40 = .ok (.iinc 1 1, 3) := by decide +kernel
theorem dX4_read_43 : decode cX4_read 43 = .ok (.goto (-32), 3) := by decide +kernel
theorem dX4_read_46 : decode cX4_read 46 = .ok (.aload_n 0, 1) := by decide +kernel
theorem dX4_read_47 : decode cX4_read 47 = .ok (.getfield 23, 3) := by decide +kernel
theorem dX4_read_50 : decode cX4_read 50 = .ok (.iconst 3, 1) := by decide +kernel
theorem dX4_read_51 : decode cX4_read 51 = .ok (.irem, 1) := by decide +kernel
theorem dX4_read_52 : decode cX4_read 52 = .ok (.ifCond .ne 21, 3) := by decide +kernel
theorem dX4_read_55 : decode cX4_read 55 = .ok (.aload_n 0, 1) := by decide +kernel
theorem dX4_read_56 : decode cX4_read 56 = .ok (.getfield 33, 3) := by decide +kernel
theorem dX4_read_59 : decode cX4_read 59 = .ok (.ifCond .ne 14, 3) := by decide +kernel
theorem dX4_read_62 : decode cX4_read 62 = .ok (.aload_n 0, 1) := by decide +kernel
theorem dX4_read_63 : decode cX4_read 63 = .ok (.getfield 36, 3) := by decide +kernel
theorem dX4_read_66 : decode cX4_read 66 = .ok (.ifCond .ne 7, 3) := by decide +kernel
theorem dX4_read_69 : decode cX4_read 69 = .ok (.iconst 1, 1) := by decide +kernel
theorem dX4_read_70 : decode cX4_read 70 = .ok (.goto 4, 3) := by decide +kernel
theorem dX4_read_73 : decode cX4_read 73 = .ok (.iconst 0, 1) := by decide +kernel
theorem dX4_read_74 : decode cX4_read 74 = .ok (.istore_n 1, 1) := by decide +kernel
theorem dX4_read_75 : decode cX4_read 75 = .ok (.iload_n 1, 1) := by decide +kernel
theorem dX4_read_76 : decode cX4_read 76 = .ok (.ifCond .eq 7, 3) := by decide +kernel
theorem dX4_read_79 : decode cX4_read 79 = .ok (.iconst (-1), 1) := by decide +kernel
theorem dX4_read_80 : decode cX4_read 80 = .ok (.goto 7, 3) := by decide +kernel
theorem dX4_read_83 : decode cX4_read 83 = .ok (.aload_n 0, 1) := by decide +kernel
theorem dX4_read_84 : decode cX4_read 84 = .ok (.getfield 19, 3) := by decide +kernel
theorem dX4_read_87 : decode cX4_read 87 = .ok (.ireturn, 1) := by decide +kernel
theorem dX4_beginNumber_0 : decode cX4_beginNumber 0 = .ok (.aload_n 0, 1) := by decide +kernel
theorem dX4_beginNumber_1 : decode cX4_beginNumber 1 = .ok (.iconst 0, 1) := by decide +kernel
theorem dX4_beginNumber_2 : decode cX4_beginNumber 2 = .ok (.putfield 40, 3) := by decide +kernel
theorem dX4_beginNumber_5 : decode cX4_beginNumber 5 = .ok (.aload_n 0, 1) := by decide +kernel
theorem dX4_beginNumber_6 : decode cX4_beginNumber 6 = .ok (.iconst 0, 1) := by decide +kernel
theorem dX4_beginNumber_7 : decode cX4_beginNumber 7 = .ok (.putfield 33, 3) := by decide +kernel
theorem dX4_beginNumber_10 : decode cX4_beginNumber 10 = .ok (.aload_n 0, 1) := by decide +kernel
theorem dX4_beginNumber_11 : decode cX4_beginNumber 11 = .ok (.iconst 0, 1) := by decide +kernel
theorem dX4_beginNumber_12 : decode cX4_beginNumber 12 = .ok (.putfield 36, 3) := by decide +kernel
theorem dX4_beginNumber_15 : decode cX4_beginNumber 15 = .ok (.return_, 1) := by decide +kernel
set_option maxRecDepth 20000 in
theorem ggX4_takes_X4_beginNumber : GoodIn wsX4_takes wsX4_beginNumber := goodIn_r _ [10, 3, 1, 2, 11, 12, 13, 14, 15, 16, 17] rfl (by decide +kernel)
set_option maxRecDepth 20000 in
theorem gX4_takes_X4_beginNumber : GoodIn wsX4_takes (wsV RX4 26 RX4 yX4_beginNumber wsX4_beginNumber) := goodIn_app (goodIn_of _ (by decide +kernel)) ggX4_takes_X4_beginNumber
theorem dX4_takes_0 : decode cX4_takes 0 = .ok (.iload_n 1, 1) := by decide +kernel
theorem dX4_takes_1 : decode cX4_takes 1 = .ok (.bipush 45, 2) := by decide +kernel
theorem dX4_takes_3 : decode cX4_takes 3 = .ok (.if_icmp .ne 30, 3) := by decide +kernel
theorem dX4_takes_6 : decode cX4_takes 6 = .ok (.aload_n 0, 1) := by decide +kernel
theorem dX4_takes_7 : decode cX4_takes 7 = .ok (.getfield 33, 3) := by decide +kernel
theorem dX4_takes_10 : decode cX4_takes 10 = .ok (.ifCond .ne 14, 3) := by decide +kernel
theorem dX4_takes_13 : decode cX4_takes 13 = .ok (.aload_n 0, 1) := by decide +kernel
theorem dX4_takes_14 : decode cX4_takes 14 = .ok (.getfield 36, 3) := by decide +kernel
theorem dX4_takes_17 : decode cX4_takes 17 = .ok (.ifCond .ne 7, 3) := by decide +kernel
theorem dX4_takes_20 : decode cX4_takes 20 = .ok (.iconst 1, 1) := by decide +kernel
theorem dX4_takes_21 : decode cX4_takes 21 = .ok (.goto 4, 3) := by decide +kernel
theorem dX4_takes_24 : decode cX4_takes 24 = .ok (.iconst 0, 1) := by decide +kernel
theorem dX4_takes_25 : decode cX4_takes 25 = .ok (.istore_n 2, 1) := by decide +kernel
theorem dX4_takes_26 : decode cX4_takes 26 = .ok (.aload_n 0, 1) := by decide +kernel
theorem dX4_takes_27 : decode cX4_takes 27 = .ok (.iconst 1, 1) := by decide +kernel
theorem dX4_takes_28 : decode cX4_takes 28 = .ok (.putfield 36, 3) := by decide +kernel
theorem dX4_takes_31 : decode cX4_takes 31 = .ok (.iload_n 2, 1) := by decide +kernel
theorem dX4_takes_32 : decode cX4_takes 32 = .ok (.ireturn, 1) := by decide +kernel
theorem dX4_takes_33 : decode cX4_takes 33 = .ok (.iload_n 1, 1) := by decide +kernel
theorem dX4_takes_34 : decode cX4_takes 34 = .ok (.bipush 48, 2) := by decide +kernel
theorem dX4_takes_36 : decode cX4_takes 36 = .ok (.if_icmp .lt 49, 3) := by decide +kernel
theorem dX4_takes_39 : decode cX4_takes 39 = .ok (.iload_n 1, 1) := by decide +kernel
theorem dX4_takes_40 : decode cX4_takes 40 = .ok (.bipush 57, 2) := by decide +kernel
theorem dX4_takes_42 : decode cX4_takes 42 = .ok (.if_icmp .gt 43, 3) := by decide +kernel
theorem dX4_takes_45 : decode cX4_takes 45 = .ok (.aload_n 0, 1) := by decide +kernel
theorem dX4_takes_46 : decode cX4_takes 46 = .ok (.bipush 10, 2) := by decide +kernel
theorem dX4_takes_48 : decode cX4_takes 48 = .ok (.aload_n 0, 1) := by decide +kernel
theorem dX4_takes_49 : decode cX4_takes 49 = .ok (.getfield 40, 3) := by decide +kernel
theorem dX4_takes_52 : decode cX4_takes 52 = .ok (.imul, 1) := by decide +kernel
theorem dX4_takes_53 : decode cX4_takes 53 = .ok (.iload_n 1, 1) := by decide +kernel
theorem dX4_takes_54 : decode cX4_takes 54 = .ok (.bipush 48, 2) := by decide +kernel
theorem dX4_takes_56 : decode cX4_takes 56 = .ok (.isub, 1) := by decide +kernel
theorem dX4_takes_57 : decode cX4_takes 57 = .ok (.iadd, 1) := by decide +kernel
theorem dX4_takes_58 : decode cX4_takes 58 = .ok (.putfield 40, 3) := by decide +kernel
theorem dX4_takes_61 : decode cX4_takes 61 = .ok (.aload_n 0, 1) := by decide +kernel
theorem dX4_takes_62 : decode cX4_takes 62 = .ok (.dup, 1) := by decide +kernel
theorem dX4_takes_63 : decode cX4_takes 63 = .ok (.getfield 33, 3) := by decide +kernel
theorem dX4_takes_66 : decode cX4_takes 66 = .ok (.iconst 1, 1) := by decide +kernel
theorem dX4_takes_67 : decode cX4_takes 67 = .ok (.iadd, 1) := by decide +kernel
theorem dX4_takes_68 : decode cX4_takes 68 = .ok (.putfield 33, 3) := by decide +kernel
theorem dX4_takes_71 : decode cX4_takes 71 = .ok (.aload_n 0, 1) := by decide +kernel
theorem dX4_takes_72 : decode cX4_takes 72 = .ok (.getfield 33, 3) := by decide +kernel
theorem dX4_takes_75 : decode cX4_takes 75 = .ok (.iconst 5, 1) := by decide +kernel
theorem dX4_takes_76 : decode cX4_takes 76 = .ok (.if_icmp .gt 7, 3) := by decide +kernel
theorem dX4_takes_79 : decode cX4_takes 79 = .ok (.iconst 1, 1) := by decide +kernel
theorem dX4_takes_80 : decode cX4_takes 80 = .ok (.goto 4, 3) := by decide +kernel
theorem dX4_takes_83 : decode cX4_takes 83 = .ok (.iconst 0, 1) := by decide +kernel
theorem dX4_takes_84 : decode cX4_takes 84 = .ok (.ireturn, 1) := by decide +kernel
theorem dX4_takes_85 : decode cX4_takes 85 = .ok (.aload_n 0, 1) := by decide +kernel
theorem dX4_takes_86 : decode cX4_takes 86 = .ok (.getfield 23, 3) := by decide +kernel
theorem dX4_takes_89 : decode cX4_takes 89 = .ok (.iconst 3, 1) := by decide +kernel
theorem dX4_takes_90 : decode cX4_takes 90 = .ok (.irem, 1) := by decide +kernel
theorem dX4_takes_91 : decode cX4_takes 91 = .ok (.iconst 2, 1) := by decide +kernel
theorem dX4_takes_92 : decode cX4_takes 92 = .ok (.if_icmp .ne 8, 3) := by decide +kernel
theorem dX4_takes_95 : decode cX4_takes 95 = .ok (.bipush 59, 2) := by decide +kernel
theorem dX4_takes_97 : decode cX4_takes 97 = .ok (.goto 5, 3) := by decide +kernel
theorem dX4_takes_100 : decode cX4_takes 100 = .ok (.bipush 44, 2) := by decide +kernel
theorem dX4_takes_102 : decode cX4_takes 102 = .ok (.istore_n 2, 1) := by decide +kernel
theorem dX4_takes_103 : decode cX4_takes 103 = .ok (.iload_n 1, 1) := by decide +kernel
theorem dX4_takes_104 : decode cX4_takes 104 = .ok (.iload_n 2, 1) := by decide +kernel
theorem dX4_takes_105 : decode cX4_takes 105 = .ok (.if_icmp .ne 22, 3) := by decide +kernel
theorem dX4_takes_108 : decode cX4_takes 108 = .ok (.aload_n 0, 1) := by decide +kernel
theorem dX4_takes_109 : decode cX4_takes 109 = .ok (.getfield 33, 3) := by decide +kernel
theorem dX4_takes_112 : decode cX4_takes 112 = .ok (.ifCond .eq 15, 3) := by decide +kernel
theorem dX4_takes_115 : decode cX4_takes 115 = .ok (.aload_n 0, 1) := by decide +kernel
theorem dX4_takes_116 : decode cX4_takes 116 = .ok (.getfield 23, 3) := by decide +kernel
theorem dX4_takes_119 : decode cX4_takes 119 = .ok (.aload_n 0, 1) := by decide +kernel
theorem dX4_takes_120 : decode cX4_takes 120 = .ok (.getfield 15, 3) := by decide +kernel
theorem dX4_takes_123 : decode cX4_takes 123 = .ok (.arraylength, 1) := by decide +kernel
theorem dX4_takes_124 : decode cX4_takes 124 = .ok (.if_icmp .lt 5, 3) := by decide +kernel
theorem dX4_takes_127 : decode cX4_takes 127 = .ok (.iconst 0, 1) := by decide +kernel
theorem dX4_takes_128 : decode cX4_takes 128 = .ok (.ireturn, 1) := by decide +kernel
theorem dX4_takes_129 : decode cX4_takes 129 = .ok (.aload_n 0, 1) := by decide +kernel
theorem dX4_takes_130 : decode cX4_takes 130 = .ok (.getfield 15, 3) := by decide +kernel
theorem dX4_takes_133 : decode cX4_takes 133 = .ok (.aload_n 0, 1) := by decide +kernel
theorem dX4_takes_134 : decode cX4_takes 134 = .ok (.getfield 23, 3) := by decide +kernel
theorem dX4_takes_137 : decode cX4_takes 137 = .ok (.aload_n 0, 1) := by decide +kernel
theorem dX4_takes_138 : decode cX4_takes 138 = .ok (.getfield 36, 3) := by decide +kernel
theorem dX4_takes_141 : decode cX4_takes 141 = .ok (.ifCond .eq 11, 3) := by decide +kernel
theorem dX4_takes_144 : decode cX4_takes 144 = .ok (.aload_n 0, 1) := by decide +kernel
theorem dX4_takes_145 : decode cX4_takes 145 = .ok (.getfield 40, 3) := by decide +kernel
theorem dX4_takes_148 : decode cX4_takes 148 = .ok (.ineg, 1) := by decide +kernel
theorem dX4_takes_149 : decode cX4_takes 149 = .ok (.goto 7, 3) := by decide +kernel
theorem dX4_takes_152 : decode cX4_takes 152 = .ok (.aload_n 0, 1) := by decide +kernel
theorem dX4_takes_153 : decode cX4_takes 153 = .ok (.getfield 40, 3) := by decide +kernel
theorem dX4_takes_156 : decode cX4_takes 156 = .ok (.iastore, 1) := by decide +kernel
theorem dX4_takes_157 : decode cX4_takes 157 = .ok (.aload_n 0, 1) := by decide +kernel
theorem dX4_takes_158 : decode cX4_takes 158 = .ok (.dup, 1) := by decide +kernel
theorem dX4_takes_159 : decode cX4_takes 159 = .ok (.getfield 23, 3) := by decide +kernel
theorem dX4_takes_162 : decode cX4_takes 162 = .ok (.iconst 1, 1) := by decide +kernel
theorem dX4_takes_163 : decode cX4_takes 163 = .ok (.iadd, 1) := by decide +kernel
theorem dX4_takes_164 : decode cX4_takes 164 = .ok (.putfield 23, 3) := by decide +kernel
theorem dX4_takes_167 : decode cX4_takes 167 = .ok (.aload_n 0, 1) := by decide +kernel
theorem dX4_takes_168 : decode cX4_takes 168 = .ok (.invokevirtual 26, 3) := by decide +kernel
theorem dX4_takes_171 : decode cX4_takes 171 = .ok (.iconst 1, 1) := by decide +kernel
theorem dX4_takes_172 : decode cX4_takes 172 = .ok (.ireturn, 1) := by decide +kernel
set_option maxRecDepth 20000 in
theorem ggX5_init_X1_init : GoodIn wsX5_init wsX1_init := goodIn_r _ [19, 20, 2, 3, 21, 22, 23, 24, 25, 26, 27, 28, 29, 30, 31, 32, 33, 34, 35, 36, 37, 38, 39, 40, 41, 42, 43, 44, 45, 46, 47, 48, 49, 6, 50, 51, 52, 53, 54, 55, 56, 57, 58, 59, 60, 61, 62, 63, 64, 65, 66, 67, 68, 69, 70, 71, 85, 86, 87, 88, 89, 90, 91, 92, 93, 94, 95, 96, 97, 98, 99, 100, 101, 102, 116, 117, 118, 119] rfl (by decide +kernel)
set_option maxRecDepth 20000 in
theorem gX5_init_X1_init : GoodIn wsX5_init (wsX1_init) := ggX5_init_X1_init
set_option maxRecDepth 20000 in
theorem ggX5_init_X3_init : GoodIn wsX5_init wsX3_init := goodIn_r _ [74, 75, 2, 3, 76, 77, 5, 6, 78, 18, 19, 20, 21, 22, 23, 24, 25, 26, 27, 28, 29, 30, 31, 32, 33, 34, 35, 36, 37, 38, 39, 40, 41, 42, 43, 44, 45, 46, 47, 48, 49, 50, 51, 52, 53, 54, 55, 56, 57, 58, 59, 60, 61, 62, 63, 64, 65, 66, 67, 68, 69, 70, 71, 107, 108, 85, 86, 87, 88, 89, 90, 91, 92, 93, 94, 95, 96, 97, 98, 99, 100, 101, 102, 116, 117, 118, 119] rfl (by decide +kernel)
set_option maxRecDepth 20000 in
theorem gX5_init_X3_init : GoodIn wsX5_init (wsX3_init) := ggX5_init_X3_init
set_option maxRecDepth 20000 in
theorem ggX5_init_X4_init : GoodIn wsX5_init wsX4_init := goodIn_r _ [80, 81, 2, 3, 82, 83, 21, 84, 109, 110, 111, 112, 113, 114, 115] rfl (by decide +kernel)
set_option maxRecDepth 20000 in
theorem gX5_init_X4_init_n28 : GoodIn wsX5_init (wsX4_init) := ggX5_init_X4_init
theorem dX5_init_0 : decode cX5_init 0 = .ok (.aload_n 0, 1) := by decide +kernel
theorem dX5_init_1 : decode cX5_init 1 = .ok (.invokespecial 1, 3) := by decide +kernel
theorem dX5_init_4 : decode cX5_init 4 = .ok (.aload_n 0, 1) := by decide +kernel
theorem dX5_init_5 : decode cX5_init 5 = .ok (.new 7, 3) := by decide +kernel
theorem dX5_init_8 : decode cX5_init 8 = .ok (.dup, 1) := by decide +kernel
theorem dX5_init_9 : decode cX5_init 9 = .ok (.invokespecial 9, 3) := by decide +kernel
theorem dX5_init_12 : decode cX5_init 12 = .ok (.putfield 10, 3) := by decide +kernel
theorem dX5_init_15 : decode cX5_init 15 = .ok (.aload_n 0, 1) := by decide +kernel
theorem dX5_init_16 : decode cX5_init 16 = .ok (.new 7, 3) := by decide +kernel
theorem dX5_init_19 : decode cX5_init 19 = .ok (.dup, 1) := by decide +kernel
theorem dX5_init_20 : decode cX5_init 20 = .ok (.invokespecial 9, 3) := by decide +kernel
theorem dX5_init_23 : decode cX5_init 23 = .ok (.putfield 16, 3) := by decide +kernel
theorem dX5_init_26 : decode cX5_init 26 = .ok (.aload_n 0, 1) := by decide +kernel
theorem dX5_init_27 : decode cX5_init 27 = .ok (.new 19, 3) := by decide +kernel
theorem dX5_init_30 : decode cX5_init 30 = .ok (.dup, 1) := by decide +kernel
theorem dX5_init_31 : decode cX5_init 31 = .ok (.invokespecial 21, 3) := by decide +kernel
theorem dX5_init_34 : decode cX5_init 34 = .ok (.putfield 22, 3) := by decide +kernel
theorem dX5_init_37 : decode cX5_init 37 = .ok (.aload_n 0, 1) := by decide +kernel
theorem dX5_init_38 : decode cX5_init 38 = .ok (.new 26, 3) := by decide +kernel
theorem dX5_init_41 : decode cX5_init 41 = .ok (.dup, 1) := by decide +kernel
theorem dX5_init_42 : decode cX5_init 42 = .ok (.invokespecial 28, 3) := by decide +kernel
theorem dX5_init_45 : decode cX5_init 45 = .ok (.putfield 29, 3) := by decide +kernel
theorem dX5_init_48 : decode cX5_init 48 = .ok (.return_, 1) := by decide +kernel
set_option maxRecDepth 20000 in
theorem ggX5_begin_X5_requireWithin : GoodIn wsX5_begin wsX5_requireWithin := goodIn_ca (goodIn_r _ [7, 8, 9, 10, 11, 6, 12] (by decide +kernel) (by decide +kernel)) (goodIn_sub (fun _ h => List.mem_cons_of_mem _ (List.mem_append_right _ h)) (by decide +kernel))
set_option maxRecDepth 20000 in
theorem gX5_begin_X5_requireWithin : GoodIn wsX5_begin (va_wsS RX5 33 yX5_requireWithin wsX5_requireWithin) := goodIn_app (goodIn_of _ (by decide +kernel)) ggX5_begin_X5_requireWithin
set_option maxRecDepth 20000 in
theorem ggX5_begin_X3_save : GoodIn wsX5_begin wsX3_save := goodIn_r _ [17, 18, 19, 20, 21, 22, 16, 23, 24, 25, 26, 27, 28, 29, 30, 31, 32, 33, 34, 35, 36, 37, 38, 39, 40, 41, 42, 43, 44, 45, 46, 47, 48, 49, 50, 51, 52, 53, 54, 55, 56, 57, 58, 59, 60, 61, 62, 63, 64, 65, 66, 111, 112, 93, 94, 95, 96, 97, 98, 99, 100, 101, 102, 103, 104, 105, 106, 107, 108, 109, 110, 113, 114, 115, 116] rfl (by decide +kernel)
set_option maxRecDepth 20000 in
theorem gX5_begin_X3_save : GoodIn wsX5_begin (wsV RX5 37 RX3 yX3_save wsX3_save) := goodIn_app (goodIn_of _ (by decide +kernel)) ggX5_begin_X3_save
set_option maxRecDepth 20000 in
theorem ggX5_begin_X0_size : GoodIn wsX5_begin wsX0_size := goodIn_r _ [70, 66, 115, 116] rfl (by decide +kernel)
set_option maxRecDepth 20000 in
theorem gX5_begin_X0_size : GoodIn wsX5_begin (wsV RX5 45 RX0 yX0_size wsX0_size) := goodIn_app (goodIn_of _ (by decide +kernel)) ggX5_begin_X0_size
set_option maxRecDepth 20000 in
theorem ggX5_begin_X1_startAnew : GoodIn wsX5_begin wsX1_startAnew := goodIn_r _ [74, 36, 37, 75, 38, 39, 40, 41, 42, 43, 44, 45, 46, 47, 48, 49, 50, 35, 76, 77, 78, 62, 79, 66, 93, 94, 95, 96, 97, 98, 99, 100, 101, 102, 103, 104, 105, 106, 107, 108, 109, 110, 115, 116] rfl (by decide +kernel)
set_option maxRecDepth 20000 in
theorem gX5_begin_X1_startAnew : GoodIn wsX5_begin (wsV RX5 53 RX1 yX1_startAnew wsX1_startAnew) := goodIn_app (goodIn_of _ (by decide +kernel)) ggX5_begin_X1_startAnew
set_option maxRecDepth 20000 in
theorem ggX5_begin_X1_startAtSoc : GoodIn wsX5_begin wsX1_startAtSoc := goodIn_r _ [83, 38, 39, 40, 84, 85, 86, 27, 87, 37, 88, 93, 94, 95, 96, 97, 98, 99, 100, 101, 102, 103, 104, 105, 106, 107, 108, 109, 110] rfl (by decide +kernel)
set_option maxRecDepth 20000 in
theorem gX5_begin_X1_startAtSoc : GoodIn wsX5_begin (wsV RX5 57 RX1 yX1_startAtSoc wsX1_startAtSoc) := goodIn_app (goodIn_of _ (by decide +kernel)) ggX5_begin_X1_startAtSoc
theorem dX5_begin_0 : decode cX5_begin 0 = .ok (.iload_n 1, 1) := by decide +kernel
theorem dX5_begin_1 : decode cX5_begin 1 = .ok (.bipush 100, 2) := by decide +kernel
theorem dX5_begin_3 : decode cX5_begin 3 = .ok (.sipush 20000, 3) := by decide +kernel
theorem dX5_begin_6 : decode cX5_begin 6 = .ok (.invokestatic 33, 3) := by decide +kernel
theorem dX5_begin_9 : decode cX5_begin 9 = .ok (.iload_n 2, 1) := by decide +kernel
theorem dX5_begin_10 : decode cX5_begin 10 = .ok (.iconst (-1), 1) := by decide +kernel
theorem dX5_begin_11 : decode cX5_begin 11 = .ok (.sipush 10000, 3) := by decide +kernel
theorem dX5_begin_14 : decode cX5_begin 14 = .ok (.invokestatic 33, 3) := by decide +kernel
theorem dX5_begin_17 : decode cX5_begin 17 = .ok (.aload_n 0, 1) := by decide +kernel
theorem dX5_begin_18 : decode cX5_begin 18 = .ok (.getfield 22, 3) := by decide +kernel
theorem dX5_begin_21 : decode cX5_begin 21 = .ok (.aload_n 0, 1) := by decide +kernel
theorem dX5_begin_22 : decode cX5_begin 22 = .ok (.getfield 10, 3) := by decide +kernel
theorem dX5_begin_25 : decode cX5_begin 25 = .ok (.invokevirtual 37, 3) := by decide +kernel
theorem dX5_begin_28 : decode cX5_begin 28 = .ok (.aload_n 0, 1) := by decide +kernel
theorem dX5_begin_29 : decode cX5_begin 29 = .ok (.getfield 10, 3) := by decide +kernel
theorem dX5_begin_32 : decode cX5_begin 32 = .ok (.getfield 41, 3) := by decide +kernel
theorem dX5_begin_35 : decode cX5_begin 35 = .ok (.invokevirtual 45, 3) := by decide +kernel
theorem dX5_begin_38 : decode cX5_begin 38 = .ok (.istore_n 3, 1) := by decide +kernel
theorem dX5_begin_39 : decode cX5_begin 39 = .ok (.aload_n 0, 1) := by decide +kernel
theorem dX5_begin_40 : decode cX5_begin 40 = .ok (.getfield 10, 3) := by decide +kernel
theorem dX5_begin_43 : decode cX5_begin 43 = .ok (.ldc2_w 51, 3) := by decide +kernel
theorem dX5_begin_46 : decode cX5_begin 46 = .ok (.iload_n 1, 1) := by decide +kernel
theorem dX5_begin_47 : decode cX5_begin 47 = .ok (.i2l, 1) := by decide +kernel
theorem dX5_begin_48 : decode cX5_begin 48 = .ok (.lmul, 1) := by decide +kernel
theorem dX5_begin_49 : decode cX5_begin 49 = .ok (.invokevirtual 53, 3) := by decide +kernel
theorem dX5_begin_52 : decode cX5_begin 52 = .ok (.iload_n 2, 1) := by decide +kernel
theorem dX5_begin_53 : decode cX5_begin 53 = .ok (.iconst (-1), 1) := by decide +kernel
theorem dX5_begin_54 : decode cX5_begin 54 = .ok (.if_icmp .eq 11, 3) := by decide +kernel
theorem dX5_begin_57 : decode cX5_begin 57 = .ok (.aload_n 0, 1) := by decide +kernel
theorem dX5_begin_58 : decode cX5_begin 58 = .ok (.getfield 10, 3) := by decide +kernel
theorem dX5_begin_61 : decode cX5_begin 61 = .ok (.iload_n 2, 1) := by decide +kernel
theorem dX5_begin_62 : decode cX5_begin 62 = .ok (.invokevirtual 57, 3) := by decide +kernel
theorem dX5_begin_65 : decode cX5_begin 65 = .ok (.iload_n 3, 1) := by decide +kernel
theorem dX5_begin_66 : decode cX5_begin 66 = .ok (.ireturn, 1) := by decide +kernel
set_option maxRecDepth 20000 in
theorem ggX5_set_X5_requireWithin : GoodIn wsX5_set wsX5_requireWithin := goodIn_ca (goodIn_r _ [8, 9, 10, 11, 12, 7, 13] (by decide +kernel) (by decide +kernel)) (goodIn_sub (fun _ h => List.mem_cons_of_mem _ (List.mem_append_right _ h)) (by decide +kernel))
set_option maxRecDepth 20000 in
theorem gX5_set_X5_requireWithin : GoodIn wsX5_set (va_wsS RX5 33 yX5_requireWithin wsX5_requireWithin) := goodIn_app (goodIn_of _ (by decide +kernel)) ggX5_set_X5_requireWithin
set_option maxRecDepth 20000 in
theorem ggX5_set_X3_save : GoodIn wsX5_set wsX3_save := goodIn_r _ [18, 19, 20, 21, 22, 23, 17, 24, 25, 26, 27, 28, 29, 30, 31, 32, 33, 34, 35, 36, 37, 38, 39, 40, 41, 42, 43, 44, 45, 46, 47, 48, 49, 50, 51, 52, 53, 54, 55, 56, 57, 58, 59, 60, 61, 62, 63, 64, 65, 66, 67, 85, 86, 87, 88, 89, 90, 91, 92, 93, 94, 95, 96, 97, 98, 99, 100, 101, 102, 103, 104, 105, 106, 107, 108] rfl (by decide +kernel)
set_option maxRecDepth 20000 in
theorem gX5_set_X3_save : GoodIn wsX5_set (wsV RX5 37 RX3 yX3_save wsX3_save) := goodIn_app (goodIn_of _ (by decide +kernel)) ggX5_set_X3_save
set_option maxRecDepth 20000 in
theorem ggX5_set_X1_changeSetting : GoodIn wsX5_set wsX1_changeSetting := goodIn_r _ [71, 30, 42, 72, 73, 74, 75, 76, 77, 78, 28, 79, 38, 80, 87, 88, 89, 90, 91, 92, 93, 94, 95, 96, 97, 98, 99, 100, 101, 102, 103, 104] rfl (by decide +kernel)
set_option maxRecDepth 20000 in
theorem gX5_set_X1_changeSetting : GoodIn wsX5_set (wsV RX5 68 RX1 yX1_changeSetting wsX1_changeSetting) := goodIn_app (goodIn_of _ (by decide +kernel)) ggX5_set_X1_changeSetting
theorem dX5_set_0 : decode cX5_set 0 = .ok (.iload_n 1, 1) := by decide +kernel
theorem dX5_set_1 : decode cX5_set 1 = .ok (.iconst 0, 1) := by decide +kernel
theorem dX5_set_2 : decode cX5_set 2 = .ok (.bipush 11, 2) := by decide +kernel
theorem dX5_set_4 : decode cX5_set 4 = .ok (.invokestatic 33, 3) := by decide +kernel
theorem dX5_set_7 : decode cX5_set 7 = .ok (.iload_n 2, 1) := by decide +kernel
theorem dX5_set_8 : decode cX5_set 8 = .ok (.getstatic 61, 3) := by decide +kernel
theorem dX5_set_11 : decode cX5_set 11 = .ok (.iload_n 1, 1) := by decide +kernel
theorem dX5_set_12 : decode cX5_set 12 = .ok (.iaload, 1) := by decide +kernel
theorem dX5_set_13 : decode cX5_set 13 = .ok (.getstatic 65, 3) := by decide +kernel
theorem dX5_set_16 : decode cX5_set 16 = .ok (.iload_n 1, 1) := by decide +kernel
theorem dX5_set_17 : decode cX5_set 17 = .ok (.iaload, 1) := by decide +kernel
theorem dX5_set_18 : decode cX5_set 18 = .ok (.invokestatic 33, 3) := by decide +kernel
theorem dX5_set_21 : decode cX5_set 21 = .ok (.aload_n 0, 1) := by decide +kernel
theorem dX5_set_22 : decode cX5_set 22 = .ok (.getfield 22, 3) := by decide +kernel
theorem dX5_set_25 : decode cX5_set 25 = .ok (.aload_n 0, 1) := by decide +kernel
theorem dX5_set_26 : decode cX5_set 26 = .ok (.getfield 10, 3) := by decide +kernel
theorem dX5_set_29 : decode cX5_set 29 = .ok (.invokevirtual 37, 3) := by decide +kernel
theorem dX5_set_32 : decode cX5_set 32 = .ok (.aload_n 0, 1) := by decide +kernel
theorem dX5_set_33 : decode cX5_set 33 = .ok (.getfield 10, 3) := by decide +kernel
theorem dX5_set_36 : decode cX5_set 36 = .ok (.iload_n 1, 1) := by decide +kernel
theorem dX5_set_37 : decode cX5_set 37 = .ok (.iload_n 2, 1) := by decide +kernel
theorem dX5_set_38 : decode cX5_set 38 = .ok (.invokevirtual 68, 3) := by decide +kernel
theorem dX5_set_41 : decode cX5_set 41 = .ok (.ireturn, 1) := by decide +kernel
set_option maxRecDepth 20000 in
theorem ggX5_value_X5_requireWithin : GoodIn wsX5_value wsX5_requireWithin := goodIn_ca (goodIn_r _ [5, 6, 7, 8, 9, 4, 10] (by decide +kernel) (by decide +kernel)) (goodIn_sub (fun _ h => List.mem_cons_of_mem _ (List.mem_append_right _ h)) (by decide +kernel))
set_option maxRecDepth 20000 in
theorem gX5_value_X5_requireWithin : GoodIn wsX5_value (va_wsS RX5 33 yX5_requireWithin wsX5_requireWithin) := goodIn_app (goodIn_of _ (by decide +kernel)) ggX5_value_X5_requireWithin
theorem dX5_value_0 : decode cX5_value 0 = .ok (.iload_n 1, 1) := by decide +kernel
theorem dX5_value_1 : decode cX5_value 1 = .ok (.iconst 0, 1) := by decide +kernel
theorem dX5_value_2 : decode cX5_value 2 = .ok (.bipush 11, 2) := by decide +kernel
theorem dX5_value_4 : decode cX5_value 4 = .ok (.invokestatic 33, 3) := by decide +kernel
theorem dX5_value_7 : decode cX5_value 7 = .ok (.aload_n 0, 1) := by decide +kernel
theorem dX5_value_8 : decode cX5_value 8 = .ok (.getfield 10, 3) := by decide +kernel
theorem dX5_value_11 : decode cX5_value 11 = .ok (.getfield 72, 3) := by decide +kernel
theorem dX5_value_14 : decode cX5_value 14 = .ok (.iload_n 1, 1) := by decide +kernel
theorem dX5_value_15 : decode cX5_value 15 = .ok (.iaload, 1) := by decide +kernel
theorem dX5_value_16 : decode cX5_value 16 = .ok (.ireturn, 1) := by decide +kernel
set_option maxRecDepth 20000 in
theorem ggX5_setCurve_X5_requirePoint : GoodIn wsX5_setCurve wsX5_requirePoint := goodIn_ca (goodIn_r _ [8, 9, 10] (by decide +kernel) (by decide +kernel)) (goodIn_sub (fun _ h => List.mem_cons_of_mem _ (List.mem_append_right _ h)) (by decide +kernel))
set_option maxRecDepth 20000 in
theorem gX5_setCurve_X5_requirePoint : GoodIn wsX5_setCurve (va_wsS RX5 75 yX5_requirePoint wsX5_requirePoint) := goodIn_app (goodIn_of _ (by decide +kernel)) ggX5_setCurve_X5_requirePoint
set_option maxRecDepth 20000 in
theorem ggX5_setCurve_X5_requireWithin : GoodIn wsX5_setCurve wsX5_requireWithin := goodIn_ca (goodIn_r _ [13, 1, 2, 14, 15, 7, 16] (by decide +kernel) (by decide +kernel)) (goodIn_sub (fun _ h => List.mem_cons_of_mem _ (List.mem_append_left _ (List.mem_append_right _ h))) (by decide +kernel))
set_option maxRecDepth 20000 in
theorem gX5_setCurve_X5_requireWithin : GoodIn wsX5_setCurve (va_wsS RX5 33 yX5_requireWithin wsX5_requireWithin) := goodIn_app (goodIn_of _ (by decide +kernel)) ggX5_setCurve_X5_requireWithin
set_option maxRecDepth 20000 in
theorem ggX5_setCurve_X2_wouldAscend : GoodIn wsX5_setCurve wsX2_wouldAscend := goodIn_r _ [21, 22, 23, 101, 102] rfl (by decide +kernel)
set_option maxRecDepth 20000 in
theorem gX5_setCurve_X2_wouldAscend : GoodIn wsX5_setCurve (wsV RX5 84 RX2 yX2_wouldAscend wsX2_wouldAscend) := goodIn_app (goodIn_of _ (by decide +kernel)) ggX5_setCurve_X2_wouldAscend
set_option maxRecDepth 20000 in
theorem ggX5_setCurve_X3_save : GoodIn wsX5_setCurve wsX3_save := goodIn_r _ [28, 29, 30, 31, 32, 33, 27, 34, 35, 36, 37, 38, 39, 40, 41, 42, 43, 44, 45, 46, 47, 48, 49, 50, 51, 52, 53, 54, 55, 56, 57, 58, 59, 60, 61, 62, 63, 64, 20, 65, 22, 66, 23, 67, 68, 69, 70, 71, 72, 73, 74, 103, 104, 83, 84, 85, 86, 87, 88, 89, 90, 91, 92, 93, 94, 95, 96, 97, 98, 99, 100, 101, 102, 105, 106] rfl (by decide +kernel)
set_option maxRecDepth 20000 in
theorem gX5_setCurve_X3_save : GoodIn wsX5_setCurve (wsV RX5 37 RX3 yX3_save wsX3_save) := goodIn_app (goodIn_of _ (by decide +kernel)) ggX5_setCurve_X3_save
set_option maxRecDepth 20000 in
theorem ggX5_setCurve_X2_changePoint : GoodIn wsX5_setCurve wsX2_changePoint := goodIn_r _ [78, 22, 23, 101, 102] rfl (by decide +kernel)
set_option maxRecDepth 20000 in
theorem gX5_setCurve_X2_changePoint : GoodIn wsX5_setCurve (wsV RX5 95 RX2 yX2_changePoint wsX2_changePoint) := goodIn_app (goodIn_of _ (by decide +kernel)) ggX5_setCurve_X2_changePoint
theorem dX5_setCurve_0 : decode cX5_setCurve 0 = .ok (.iload_n 1, 1) := by decide +kernel
theorem dX5_setCurve_1 : decode cX5_setCurve 1 = .ok (.invokestatic 75, 3) := by decide +kernel
theorem dX5_setCurve_4 : decode cX5_setCurve 4 = .ok (.iload_n 2, 1) := by decide +kernel
theorem dX5_setCurve_5 : decode cX5_setCurve 5 = .ok (.sipush 2000, 3) := by decide +kernel
theorem dX5_setCurve_8 : decode cX5_setCurve 8 = .ok (.sipush 5000, 3) := by decide +kernel
theorem dX5_setCurve_11 : decode cX5_setCurve 11 = .ok (.invokestatic 33, 3) := by decide +kernel
theorem dX5_setCurve_14 : decode cX5_setCurve 14 = .ok (.iload_n 3, 1) := by decide +kernel
theorem dX5_setCurve_15 : decode cX5_setCurve 15 = .ok (.iload_n 2, 1) := by decide +kernel
theorem dX5_setCurve_16 : decode cX5_setCurve 16 = .ok (.sipush 5000, 3) := by decide +kernel
theorem dX5_setCurve_19 : decode cX5_setCurve 19 = .ok (.invokestatic 33, 3) := by decide +kernel
theorem dX5_setCurve_22 : decode cX5_setCurve 22 = .ok (.aload_n 0, 1) := by decide +kernel
theorem dX5_setCurve_23 : decode cX5_setCurve 23 = .ok (.getfield 10, 3) := by decide +kernel
theorem dX5_setCurve_26 : decode cX5_setCurve 26 = .ok (.getfield 80, 3) := by decide +kernel
theorem dX5_setCurve_29 : decode cX5_setCurve 29 = .ok (.iload_n 1, 1) := by decide +kernel
theorem dX5_setCurve_30 : decode cX5_setCurve 30 = .ok (.iload_n 2, 1) := by decide +kernel
theorem dX5_setCurve_31 : decode cX5_setCurve 31 = .ok (.iload_n 3, 1) := by decide +kernel
theorem dX5_setCurve_32 : decode cX5_setCurve 32 = .ok (.invokevirtual 84, 3) := by decide +kernel
theorem dX5_setCurve_35 : decode cX5_setCurve 35 = .ok (.ifCond .ne 13, 3) := by decide +kernel
theorem dX5_setCurve_38 : decode cX5_setCurve 38 = .ok (.new 88, 3) := by decide +kernel
theorem dX5_setCurve_41 : decode cX5_setCurve 41 = .ok (.dup, 1) := by decide +kernel
theorem dX5_setCurve_42 : decode cX5_setCurve 42 = .ok (.ldc 90, 2) := by decide +kernel
theorem dX5_setCurve_44 : decode cX5_setCurve 44 = .ok (.invokespecial 92, 3) := by decide +kernel
theorem dX5_setCurve_47 : decode cX5_setCurve 47 = .ok (.athrow, 1) := by decide +kernel
theorem dX5_setCurve_48 : decode cX5_setCurve 48 = .ok (.aload_n 0, 1) := by decide +kernel
theorem dX5_setCurve_49 : decode cX5_setCurve 49 = .ok (.getfield 22, 3) := by decide +kernel
theorem dX5_setCurve_52 : decode cX5_setCurve 52 = .ok (.aload_n 0, 1) := by decide +kernel
theorem dX5_setCurve_53 : decode cX5_setCurve 53 = .ok (.getfield 10, 3) := by decide +kernel
theorem dX5_setCurve_56 : decode cX5_setCurve 56 = .ok (.invokevirtual 37, 3) := by decide +kernel
theorem dX5_setCurve_59 : decode cX5_setCurve 59 = .ok (.aload_n 0, 1) := by decide +kernel
theorem dX5_setCurve_60 : decode cX5_setCurve 60 = .ok (.getfield 10, 3) := by decide +kernel
theorem dX5_setCurve_63 : decode cX5_setCurve 63 = .ok (.getfield 80, 3) := by decide +kernel
theorem dX5_setCurve_66 : decode cX5_setCurve 66 = .ok (.iload_n 1, 1) := by decide +kernel
theorem dX5_setCurve_67 : decode cX5_setCurve 67 = .ok (.iload_n 2, 1) := by decide +kernel
theorem dX5_setCurve_68 : decode cX5_setCurve 68 = .ok (.iload_n 3, 1) := by decide +kernel
theorem dX5_setCurve_69 : decode cX5_setCurve 69 = .ok (.invokevirtual 95, 3) := by decide +kernel
theorem dX5_setCurve_72 : decode cX5_setCurve 72 = .ok (.ireturn, 1) := by decide +kernel
set_option maxRecDepth 20000 in
theorem ggX5_curve_X5_requirePoint : GoodIn wsX5_curve wsX5_requirePoint := goodIn_ca (goodIn_r _ [5, 6, 7] (by decide +kernel) (by decide +kernel)) (goodIn_sub (fun _ h => List.mem_cons_of_mem _ (List.mem_append_right _ h)) (by decide +kernel))
set_option maxRecDepth 20000 in
theorem gX5_curve_X5_requirePoint : GoodIn wsX5_curve (va_wsS RX5 75 yX5_requirePoint wsX5_requirePoint) := goodIn_app (goodIn_of _ (by decide +kernel)) ggX5_curve_X5_requirePoint
theorem dX5_curve_0 : decode cX5_curve 0 = .ok (.iload_n 1, 1) := by decide +kernel
theorem dX5_curve_1 : decode cX5_curve 1 = .ok (.invokestatic 75, 3) := by decide +kernel
theorem dX5_curve_4 : decode cX5_curve 4 = .ok (.iload_n 2, 1) := by decide +kernel
theorem dX5_curve_5 : decode cX5_curve 5 = .ok (.ifCond .eq 18, 3) := by decide +kernel
theorem dX5_curve_8 : decode cX5_curve 8 = .ok (.aload_n 0, 1) := by decide +kernel
theorem dX5_curve_9 : decode cX5_curve 9 = .ok (.getfield 10, 3) := by decide +kernel
theorem dX5_curve_12 : decode cX5_curve 12 = .ok (.getfield 80, 3) := by decide +kernel
theorem dX5_curve_15 : decode cX5_curve 15 = .ok (.getfield 99, 3) := by decide +kernel
theorem dX5_curve_18 : decode cX5_curve 18 = .ok (.iload_n 1, 1) := by decide +kernel
theorem dX5_curve_19 : decode cX5_curve 19 = .ok (.iaload, 1) := by decide +kernel
theorem dX5_curve_20 : decode cX5_curve 20 = .ok (.goto 15, 3) := by decide +kernel
theorem dX5_curve_23 : decode cX5_curve 23 = .ok (.aload_n 0, 1) := by decide +kernel
theorem dX5_curve_24 : decode cX5_curve 24 = .ok (.getfield 10, 3) := by decide +kernel
theorem dX5_curve_27 : decode cX5_curve 27 = .ok (.getfield 80, 3) := by decide +kernel
theorem dX5_curve_30 : decode cX5_curve 30 = .ok (.getfield 102, 3) := by decide +kernel
theorem dX5_curve_33 : decode cX5_curve 33 = .ok (.iload_n 1, 1) := by decide +kernel
theorem dX5_curve_34 : decode cX5_curve 34 = .ok (.iaload, 1) := by decide +kernel
theorem dX5_curve_35 : decode cX5_curve 35 = .ok (.ireturn, 1) := by decide +kernel
set_option maxRecDepth 20000 in
theorem ggX5_measure_X5_requireMeasurement : GoodIn wsX5_measure wsX5_requireMeasurement := goodIn_ca (goodIn_r _ [6, 7, 8, 9, 10, 5, 11, 12, 13, 14, 15, 16] (by decide +kernel) (by decide +kernel)) (goodIn_sub (fun _ h => List.mem_cons_of_mem _ (List.mem_append_right _ h)) (by decide +kernel))
set_option maxRecDepth 20000 in
theorem gX5_measure_X5_requireMeasurement : GoodIn wsX5_measure (va_wsS RX5 105 yX5_requireMeasurement wsX5_requireMeasurement) := goodIn_app (goodIn_of _ (by decide +kernel)) ggX5_measure_X5_requireMeasurement
set_option maxRecDepth 20000 in
theorem ggX5_measure_X3_save : GoodIn wsX5_measure wsX3_save := goodIn_r _ [21, 22, 23, 24, 25, 26, 20, 27, 28, 29, 30, 31, 32, 33, 34, 35, 36, 37, 38, 39, 40, 41, 42, 43, 44, 45, 46, 47, 48, 49, 50, 51, 52, 53, 54, 55, 56, 57, 58, 59, 60, 61, 62, 63, 64, 65, 66, 67, 68, 69, 70, 192, 193, 194, 195, 196, 197, 198, 199, 200, 201, 202, 203, 204, 205, 206, 207, 208, 209, 210, 211, 212, 213, 214, 215] rfl (by decide +kernel)
set_option maxRecDepth 20000 in
theorem gX5_measure_X3_save : GoodIn wsX5_measure (wsV RX5 37 RX3 yX3_save wsX3_save) := goodIn_app (goodIn_of _ (by decide +kernel)) ggX5_measure_X3_save
set_option maxRecDepth 20000 in
theorem ggX5_measure_X1_treat : GoodIn wsX5_measure wsX1_treat := goodIn_r _ [74, 33, 38, 53, 75, 76, 77, 31, 78, 42, 41, 43, 44, 45, 46, 79, 80, 81, 82, 47, 48, 83, 84, 85, 86, 87, 88, 5, 89, 90, 91, 92, 93, 94, 95, 96, 97, 98, 99, 100, 101, 102, 103, 104, 105, 106, 107, 108, 109, 110, 111, 112, 113, 114, 115, 116, 117, 118, 119, 120, 49, 121, 122, 123, 124, 125, 126, 127, 58, 128, 129, 130, 131, 132, 60, 62, 133, 134, 135, 136, 137, 138, 139, 140, 141, 142, 143, 144, 145, 51, 146, 147, 39, 148, 149, 150, 151, 152, 40, 153, 154, 155, 52, 156, 157, 158, 66, 159, 70, 160, 161, 162, 163, 164, 165, 166, 167, 68, 168, 169, 170, 171, 172, 173, 174, 175, 176, 177, 178, 179, 69, 35, 36, 37, 180, 181, 182, 183, 50, 184, 185, 186, 187, 54, 194, 195, 196, 197, 198, 199, 200, 201, 202, 203, 204, 205, 206, 207, 208, 209, 210, 211, 212, 213, 214, 215] rfl (by decide +kernel)
set_option maxRecDepth 20000 in
theorem gX5_measure_X1_treat : GoodIn wsX5_measure (wsV RX5 108 RX1 yX1_treat wsX1_treat) := goodIn_app (goodIn_of _ (by decide +kernel)) ggX5_measure_X1_treat
theorem dX5_measure_0 : decode cX5_measure 0 = .ok (.iload_n 1, 1) := by decide +kernel
theorem dX5_measure_1 : decode cX5_measure 1 = .ok (.iload_n 2, 1) := by decide +kernel
theorem dX5_measure_2 : decode cX5_measure 2 = .ok (.iload_n 3, 1) := by decide +kernel
theorem dX5_measure_3 : decode cX5_measure 3 = .ok (.invokestatic 105, 3) := by decide +kernel
theorem dX5_measure_6 : decode cX5_measure 6 = .ok (.aload_n 0, 1) := by decide +kernel
theorem dX5_measure_7 : decode cX5_measure 7 = .ok (.getfield 22, 3) := by decide +kernel
theorem dX5_measure_10 : decode cX5_measure 10 = .ok (.aload_n 0, 1) := by decide +kernel
theorem dX5_measure_11 : decode cX5_measure 11 = .ok (.getfield 10, 3) := by decide +kernel
theorem dX5_measure_14 : decode cX5_measure 14 = .ok (.invokevirtual 37, 3) := by decide +kernel
theorem dX5_measure_17 : decode cX5_measure 17 = .ok (.aload_n 0, 1) := by decide +kernel
theorem dX5_measure_18 : decode cX5_measure 18 = .ok (.getfield 10, 3) := by decide +kernel
theorem dX5_measure_21 : decode cX5_measure 21 = .ok (.iload_n 1, 1) := by decide +kernel
theorem dX5_measure_22 : decode cX5_measure 22 = .ok (.iload_n 2, 1) := by decide +kernel
theorem dX5_measure_23 : decode cX5_measure 23 = .ok (.iload_n 3, 1) := by decide +kernel
theorem dX5_measure_24 : decode cX5_measure 24 = .ok (.invokevirtual 108, 3) := by decide +kernel
theorem dX5_measure_27 : decode cX5_measure 27 = .ok (.ireturn, 1) := by decide +kernel
set_option maxRecDepth 20000 in
theorem ggX5_repeat_X5_requireMeasurement : GoodIn wsX5_repeat wsX5_requireMeasurement := goodIn_ca (goodIn_r _ [6, 7, 8, 9, 10, 5, 11, 12, 13, 14, 15, 16] (by decide +kernel) (by decide +kernel)) (goodIn_sub (fun _ h => List.mem_cons_of_mem _ (List.mem_append_right _ h)) (by decide +kernel))
set_option maxRecDepth 20000 in
theorem gX5_repeat_X5_requireMeasurement : GoodIn wsX5_repeat (va_wsS RX5 105 yX5_requireMeasurement wsX5_requireMeasurement) := goodIn_app (goodIn_of _ (by decide +kernel)) ggX5_repeat_X5_requireMeasurement
set_option maxRecDepth 20000 in
theorem ggX5_repeat_X5_requireWithin : GoodIn wsX5_repeat wsX5_requireWithin := goodIn_ca (goodIn_r _ [19, 7, 8, 14, 15, 5, 16] (by decide +kernel) (by decide +kernel)) (goodIn_sub (fun _ h => List.mem_cons_of_mem _ (List.mem_append_right _ h)) (by decide +kernel))
set_option maxRecDepth 20000 in
theorem gX5_repeat_X5_requireWithin : GoodIn wsX5_repeat (va_wsS RX5 33 yX5_requireWithin wsX5_requireWithin) := goodIn_app (goodIn_of _ (by decide +kernel)) ggX5_repeat_X5_requireWithin
set_option maxRecDepth 20000 in
theorem ggX5_repeat_X3_save : GoodIn wsX5_repeat wsX3_save := goodIn_r _ [24, 25, 26, 27, 28, 29, 23, 30, 31, 32, 33, 34, 35, 36, 37, 38, 39, 40, 41, 42, 43, 44, 45, 46, 47, 48, 49, 50, 51, 52, 53, 54, 55, 56, 57, 58, 59, 60, 61, 62, 63, 64, 65, 66, 67, 68, 69, 70, 71, 72, 73, 202, 203, 204, 205, 206, 207, 208, 209, 210, 211, 212, 213, 214, 215, 216, 217, 218, 219, 220, 221, 222, 223, 224, 225] rfl (by decide +kernel)
set_option maxRecDepth 20000 in
theorem gX5_repeat_X3_save : GoodIn wsX5_repeat (wsV RX5 37 RX3 yX3_save wsX3_save) := goodIn_app (goodIn_of _ (by decide +kernel)) ggX5_repeat_X3_save
set_option maxRecDepth 20000 in
theorem ggX5_repeat_X1_treat : GoodIn wsX5_repeat wsX1_treat := goodIn_r _ [77, 36, 41, 56, 78, 79, 80, 34, 81, 45, 44, 46, 47, 48, 49, 82, 83, 84, 85, 50, 51, 86, 87, 88, 89, 90, 91, 5, 92, 93, 94, 95, 96, 97, 98, 99, 100, 101, 102, 103, 104, 105, 106, 107, 108, 109, 110, 111, 112, 113, 114, 115, 116, 117, 118, 119, 120, 121, 122, 123, 52, 124, 125, 126, 127, 128, 129, 130, 61, 131, 132, 133, 134, 135, 63, 65, 136, 137, 138, 139, 140, 141, 142, 143, 144, 145, 146, 147, 148, 54, 149, 150, 42, 151, 152, 153, 154, 155, 43, 156, 157, 158, 55, 159, 160, 161, 69, 162, 73, 163, 164, 165, 166, 167, 168, 169, 170, 71, 171, 172, 173, 174, 175, 176, 177, 178, 179, 180, 181, 182, 72, 38, 39, 40, 183, 184, 185, 186, 53, 187, 188, 189, 190, 57, 204, 205, 206, 207, 208, 209, 210, 211, 212, 213, 214, 215, 216, 217, 218, 219, 220, 221, 222, 223, 224, 225] rfl (by decide +kernel)
set_option maxRecDepth 20000 in
theorem gX5_repeat_X1_treat : GoodIn wsX5_repeat (wsV RX5 108 RX1 yX1_treat wsX1_treat) := goodIn_app (goodIn_of _ (by decide +kernel)) ggX5_repeat_X1_treat
set_option maxRecDepth 20000 in
theorem ggX5_repeat_J6_bitCount_0f7a4 : GoodIn wsX5_repeat wsJ6_bitCount_0f7a4 := goodIn_r _ [194, 195, 196, 197] rfl (by decide +kernel)
set_option maxRecDepth 20000 in
theorem gX5_repeat_J6_bitCount_0f7a4 : GoodIn wsX5_repeat (va_wsS RX5 111 yJ6_bitCount_0f7a4 wsJ6_bitCount_0f7a4) := goodIn_app (goodIn_of _ (by decide +kernel)) ggX5_repeat_J6_bitCount_0f7a4
theorem dX5_repeat_0 : decode cX5_repeat 0 = .ok (.iload_n 1, 1) := by decide +kernel
theorem dX5_repeat_1 : decode cX5_repeat 1 = .ok (.iload_n 2, 1) := by decide +kernel
theorem dX5_repeat_2 : decode cX5_repeat 2 = .ok (.iload_n 3, 1) := by decide +kernel
theorem dX5_repeat_3 : decode cX5_repeat 3 = .ok (.invokestatic 105, 3) := by decide +kernel
theorem dX5_repeat_6 : decode cX5_repeat 6 = .ok (.iload 4, 2) := by decide +kernel
theorem dX5_repeat_8 : decode cX5_repeat 8 = .ok (.iconst 0, 1) := by decide +kernel
theorem dX5_repeat_9 : decode cX5_repeat 9 = .ok (.sipush 500, 3) := by decide +kernel
theorem dX5_repeat_12 : decode cX5_repeat 12 = .ok (.invokestatic 33, 3) := by decide +kernel
theorem dX5_repeat_15 : decode cX5_repeat 15 = .ok (.aload_n 0, 1) := by decide +kernel
theorem dX5_repeat_16 : decode cX5_repeat 16 = .ok (.getfield 22, 3) := by decide +kernel
theorem dX5_repeat_19 : decode cX5_repeat 19 = .ok (.aload_n 0, 1) := by decide +kernel
theorem dX5_repeat_20 : decode cX5_repeat 20 = .ok (.getfield 10, 3) := by decide +kernel
theorem dX5_repeat_23 : decode cX5_repeat 23 = .ok (.invokevirtual 37, 3) := by decide +kernel
theorem dX5_repeat_26 : decode cX5_repeat 26 = .ok (.iconst 0, 1) := by decide +kernel
theorem dX5_repeat_27 : decode cX5_repeat 27 = .ok (.istore 5, 2) := by decide +kernel
theorem dX5_repeat_29 : decode cX5_repeat 29 = .ok (.iconst 0, 1) := by decide +kernel
theorem dX5_repeat_30 : decode cX5_repeat 30 = .ok (.istore 6, 2) := by decide +kernel
theorem dX5_repeat_32 : decode cX5_repeat 32 = .ok (.iload 6, 2) := by decide +kernel
theorem dX5_repeat_34 : decode cX5_repeat 34 = .ok (.iload 4, 2) := by decide +kernel
theorem dX5_repeat_36 : decode cX5_repeat 36 = .ok (.if_icmp .ge 27, 3) := by decide +kernel
theorem dX5_repeat_39 : decode cX5_repeat 39 = .ok (.iload 5, 2) := by decide +kernel
theorem dX5_repeat_41 : decode cX5_repeat 41 = .ok (.aload_n 0, 1) := by decide +kernel
theorem dX5_repeat_42 : decode cX5_repeat 42 = .ok (.getfield 10, 3) := by decide +kernel
theorem dX5_repeat_45 : decode cX5_repeat 45 = .ok (.iload_n 1, 1) := by decide +kernel
theorem dX5_repeat_46 : decode cX5_repeat 46 = .ok (.iload_n 2, 1) := by decide +kernel
theorem dX5_repeat_47 : decode cX5_repeat 47 = .ok (.iload_n 3, 1) := by decide +kernel
theorem dX5_repeat_48 : decode cX5_repeat 48 = .ok (.invokevirtual 108, 3) := by decide +kernel
theorem dX5_repeat_51 : decode cX5_repeat 51 = .ok (.invokestatic 111, 3) := by decide +kernel
theorem dX5_repeat_54 : decode cX5_repeat 54 = .ok (.iadd, 1) := by decide +kernel
theorem dX5_repeat_55 : decode cX5_repeat 55 = .ok (.istore 5, 2) := by decide +kernel
theorem dX5_repeat_57 : decode cX5_repeat 57 = .ok (.iinc 6 1, 3) := by decide +kernel
theorem dX5_repeat_60 : decode cX5_repeat 60 = .ok (.goto (-28), 3) := by decide +kernel
theorem dX5_repeat_63 : decode cX5_repeat 63 = .ok (.iload 5, 2) := by decide +kernel
theorem dX5_repeat_65 : decode cX5_repeat 65 = .ok (.ireturn, 1) := by decide +kernel
set_option maxRecDepth 20000 in
theorem ggX5_simulate_X5_requireModel : GoodIn wsX5_simulate wsX5_requireModel := goodIn_ca (goodIn_r _ [6, 7, 8, 5, 9, 10, 11, 12, 13, 14, 15, 16, 17, 18, 19, 20, 21, 22] (by decide +kernel) (by decide +kernel)) (goodIn_sub (fun _ h => List.mem_cons_of_mem _ (List.mem_append_right _ h)) (by decide +kernel))
set_option maxRecDepth 20000 in
theorem gX5_simulate_X5_requireModel : GoodIn wsX5_simulate (va_wsS RX5 117 yX5_requireModel wsX5_requireModel) := goodIn_app (goodIn_of _ (by decide +kernel)) ggX5_simulate_X5_requireModel
set_option maxRecDepth 20000 in
theorem ggX5_simulate_X3_save : GoodIn wsX5_simulate wsX3_save := goodIn_r _ [27, 28, 29, 30, 31, 32, 26, 33, 34, 35, 36, 37, 38, 39, 40, 41, 42, 43, 44, 45, 46, 47, 48, 49, 50, 51, 52, 53, 54, 55, 56, 57, 58, 59, 60, 61, 62, 63, 64, 65, 66, 67, 68, 69, 70, 71, 72, 73, 74, 75, 76, 218, 219, 220, 221, 222, 223, 224, 225, 226, 227, 228, 229, 230, 231, 232, 233, 234, 235, 236, 237, 238, 239, 240, 241] rfl (by decide +kernel)
set_option maxRecDepth 20000 in
theorem gX5_simulate_X3_save : GoodIn wsX5_simulate (wsV RX5 37 RX3 yX3_save wsX3_save) := goodIn_app (goodIn_of _ (by decide +kernel)) ggX5_simulate_X3_save
set_option maxRecDepth 20000 in
theorem ggX5_simulate_X1_modelVoltage : GoodIn wsX5_simulate wsX1_modelVoltage := goodIn_r _ [80, 44, 48, 81, 82, 83, 84, 37, 85, 47, 86, 87, 88, 89, 90, 51, 91, 92, 93, 94, 95, 39, 96, 97, 98, 99, 64, 100, 66, 68, 101, 102, 103, 104, 105, 106, 107, 108, 109, 110, 111, 112, 113, 114, 115, 5, 116, 117, 118, 119, 120, 121, 122, 220, 221, 222, 223, 224, 225, 226, 227, 228, 229, 230, 231, 232, 233, 234, 235, 236, 237, 238, 239] rfl (by decide +kernel)
set_option maxRecDepth 20000 in
theorem gX5_simulate_X1_modelVoltage : GoodIn wsX5_simulate (wsV RX5 121 RX1 yX1_modelVoltage wsX1_modelVoltage) := goodIn_app (goodIn_of _ (by decide +kernel)) ggX5_simulate_X1_modelVoltage
set_option maxRecDepth 20000 in
theorem ggX5_simulate_X1_treat : GoodIn wsX5_simulate wsX1_treat := goodIn_r _ [126, 39, 44, 59, 127, 128, 129, 37, 130, 48, 47, 49, 50, 51, 52, 131, 132, 106, 133, 53, 54, 134, 135, 136, 137, 91, 115, 5, 116, 117, 118, 119, 120, 121, 122, 138, 139, 140, 141, 142, 143, 144, 145, 146, 147, 148, 149, 150, 92, 93, 94, 95, 96, 151, 152, 153, 154, 155, 156, 157, 55, 87, 88, 89, 90, 158, 159, 160, 64, 161, 162, 98, 99, 100, 66, 68, 101, 102, 103, 104, 105, 107, 108, 109, 110, 163, 164, 165, 166, 57, 167, 168, 45, 169, 170, 171, 172, 86, 46, 173, 174, 175, 58, 176, 177, 178, 72, 179, 76, 180, 181, 182, 183, 184, 185, 186, 187, 74, 188, 189, 113, 190, 191, 192, 193, 194, 195, 196, 197, 198, 75, 41, 42, 43, 199, 200, 201, 202, 56, 203, 204, 205, 206, 60, 220, 221, 222, 223, 224, 225, 226, 227, 228, 229, 230, 231, 232, 233, 234, 235, 236, 237, 238, 239, 240, 241] rfl (by decide +kernel)
set_option maxRecDepth 20000 in
theorem gX5_simulate_X1_treat : GoodIn wsX5_simulate (wsV RX5 108 RX1 yX1_treat wsX1_treat) := goodIn_app (goodIn_of _ (by decide +kernel)) ggX5_simulate_X1_treat
set_option maxRecDepth 20000 in
theorem ggX5_simulate_J6_bitCount_0f7a4 : GoodIn wsX5_simulate wsJ6_bitCount_0f7a4 := goodIn_r _ [210, 211, 212, 213] rfl (by decide +kernel)
set_option maxRecDepth 20000 in
theorem gX5_simulate_J6_bitCount_0f7a4 : GoodIn wsX5_simulate (va_wsS RX5 111 yJ6_bitCount_0f7a4 wsJ6_bitCount_0f7a4) := goodIn_app (goodIn_of _ (by decide +kernel)) ggX5_simulate_J6_bitCount_0f7a4
theorem dX5_simulate_0 : decode cX5_simulate 0 = .ok (.iload_n 1, 1) := by decide +kernel
theorem dX5_simulate_1 : decode cX5_simulate 1 = .ok (.iload_n 2, 1) := by decide +kernel
theorem dX5_simulate_2 : decode cX5_simulate 2 = .ok (.iload_n 3, 1) := by decide +kernel
theorem dX5_simulate_3 : decode cX5_simulate 3 = .ok (.iload 4, 2) := by decide +kernel
theorem dX5_simulate_5 : decode cX5_simulate 5 = .ok (.invokestatic 117, 3) := by decide +kernel
theorem dX5_simulate_8 : decode cX5_simulate 8 = .ok (.aload_n 0, 1) := by decide +kernel
theorem dX5_simulate_9 : decode cX5_simulate 9 = .ok (.getfield 22, 3) := by decide +kernel
theorem dX5_simulate_12 : decode cX5_simulate 12 = .ok (.aload_n 0, 1) := by decide +kernel
theorem dX5_simulate_13 : decode cX5_simulate 13 = .ok (.getfield 10, 3) := by decide +kernel
theorem dX5_simulate_16 : decode cX5_simulate 16 = .ok (.invokevirtual 37, 3) := by decide +kernel
theorem dX5_simulate_19 : decode cX5_simulate 19 = .ok (.iconst 0, 1) := by decide +kernel
theorem dX5_simulate_20 : decode cX5_simulate 20 = .ok (.istore 5, 2) := by decide +kernel
theorem dX5_simulate_22 : decode cX5_simulate 22 = .ok (.iconst 0, 1) := by decide +kernel
theorem dX5_simulate_23 : decode cX5_simulate 23 = .ok (.istore 6, 2) := by decide +kernel
theorem dX5_simulate_25 : decode cX5_simulate 25 = .ok (.iload 6, 2) := by decide +kernel
theorem dX5_simulate_27 : decode cX5_simulate 27 = .ok (.iload 4, 2) := by decide +kernel
theorem dX5_simulate_29 : decode cX5_simulate 29 = .ok (.if_icmp .ge 39, 3) := by decide +kernel
theorem dX5_simulate_32 : decode cX5_simulate 32 = .ok (.aload_n 0, 1) := by decide +kernel
theorem dX5_simulate_33 : decode cX5_simulate 33 = .ok (.getfield 10, 3) := by decide +kernel
theorem dX5_simulate_36 : decode cX5_simulate 36 = .ok (.iload_n 1, 1) := by decide +kernel
theorem dX5_simulate_37 : decode cX5_simulate 37 = .ok (.iload_n 3, 1) := by decide +kernel
theorem dX5_simulate_38 : decode cX5_simulate 38 = .ok (.invokevirtual 121, 3) := by decide +kernel
theorem dX5_simulate_41 : decode cX5_simulate 41 = .ok (.istore 7, 2) := by decide +kernel
theorem dX5_simulate_43 : decode cX5_simulate 43 = .ok (.iload 5, 2) := by decide +kernel
theorem dX5_simulate_45 : decode cX5_simulate 45 = .ok (.aload_n 0, 1) := by decide +kernel
theorem dX5_simulate_46 : decode cX5_simulate 46 = .ok (.getfield 10, 3) := by decide +kernel
theorem dX5_simulate_49 : decode cX5_simulate 49 = .ok (.iload_n 1, 1) := by decide +kernel
theorem dX5_simulate_50 : decode cX5_simulate 50 = .ok (.iload 7, 2) := by decide +kernel
theorem dX5_simulate_52 : decode cX5_simulate 52 = .ok (.iload_n 2, 1) := by decide +kernel
theorem dX5_simulate_53 : decode cX5_simulate 53 = .ok (.invokevirtual 108, 3) := by decide +kernel
theorem dX5_simulate_56 : decode cX5_simulate 56 = .ok (.invokestatic 111, 3) := by decide +kernel
theorem dX5_simulate_59 : decode cX5_simulate 59 = .ok (.iadd, 1) := by decide +kernel
theorem dX5_simulate_60 : decode cX5_simulate 60 = .ok (.istore 5, 2) := by decide +kernel
theorem dX5_simulate_62 : decode cX5_simulate 62 = .ok (.iinc 6 1, 3) := by decide +kernel
theorem dX5_simulate_65 : decode cX5_simulate 65 = .ok (.goto (-40), 3) := by decide +kernel
theorem dX5_simulate_68 : decode cX5_simulate 68 = .ok (.iload 5, 2) := by decide +kernel
theorem dX5_simulate_70 : decode cX5_simulate 70 = .ok (.ireturn, 1) := by decide +kernel
set_option maxRecDepth 20000 in
theorem ggX5_charge_X5_requireWithin : GoodIn wsX5_charge wsX5_requireWithin := goodIn_ca (goodIn_r _ [5, 6, 7, 8, 9, 4, 10] (by decide +kernel) (by decide +kernel)) (goodIn_sub (fun _ h => List.mem_cons_of_mem _ (List.mem_append_right _ h)) (by decide +kernel))
set_option maxRecDepth 20000 in
theorem gX5_charge_X5_requireWithin : GoodIn wsX5_charge (va_wsS RX5 33 yX5_requireWithin wsX5_requireWithin) := goodIn_app (goodIn_of _ (by decide +kernel)) ggX5_charge_X5_requireWithin
set_option maxRecDepth 20000 in
theorem ggX5_charge_X1_chargeOf : GoodIn wsX5_charge wsX1_chargeOf := goodIn_r _ [15, 16, 17, 18, 19, 20, 21, 22, 27, 28, 29, 30, 31, 32, 33, 34, 35, 36, 37, 38, 39, 40, 41, 42, 43, 44] rfl (by decide +kernel)
set_option maxRecDepth 20000 in
theorem gX5_charge_X1_chargeOf : GoodIn wsX5_charge (wsV RX5 124 RX1 yX1_chargeOf wsX1_chargeOf) := goodIn_app (goodIn_of _ (by decide +kernel)) ggX5_charge_X1_chargeOf
theorem dX5_charge_0 : decode cX5_charge 0 = .ok (.iload_n 1, 1) := by decide +kernel
theorem dX5_charge_1 : decode cX5_charge 1 = .ok (.iconst 0, 1) := by decide +kernel
theorem dX5_charge_2 : decode cX5_charge 2 = .ok (.bipush 6, 2) := by decide +kernel
theorem dX5_charge_4 : decode cX5_charge 4 = .ok (.invokestatic 33, 3) := by decide +kernel
theorem dX5_charge_7 : decode cX5_charge 7 = .ok (.aload_n 0, 1) := by decide +kernel
theorem dX5_charge_8 : decode cX5_charge 8 = .ok (.getfield 10, 3) := by decide +kernel
theorem dX5_charge_11 : decode cX5_charge 11 = .ok (.iload_n 1, 1) := by decide +kernel
theorem dX5_charge_12 : decode cX5_charge 12 = .ok (.invokevirtual 124, 3) := by decide +kernel
theorem dX5_charge_15 : decode cX5_charge 15 = .ok (.lreturn, 1) := by decide +kernel
set_option maxRecDepth 20000 in
theorem ggX5_soc_X5_requireWithin : GoodIn wsX5_soc wsX5_requireWithin := goodIn_ca (goodIn_r _ [5, 6, 7, 8, 9, 4, 10] (by decide +kernel) (by decide +kernel)) (goodIn_sub (fun _ h => List.mem_cons_of_mem _ (List.mem_append_right _ h)) (by decide +kernel))
set_option maxRecDepth 20000 in
theorem gX5_soc_X5_requireWithin : GoodIn wsX5_soc (va_wsS RX5 33 yX5_requireWithin wsX5_requireWithin) := goodIn_app (goodIn_of _ (by decide +kernel)) ggX5_soc_X5_requireWithin
set_option maxRecDepth 20000 in
theorem ggX5_soc_X1_chargeOf : GoodIn wsX5_soc wsX1_chargeOf := goodIn_r _ [15, 16, 17, 18, 19, 20, 21, 22, 32, 33, 34, 35, 36, 37, 38, 39, 40, 41, 42, 43, 44, 45, 46, 47, 48, 49] rfl (by decide +kernel)
set_option maxRecDepth 20000 in
theorem gX5_soc_X1_chargeOf : GoodIn wsX5_soc (wsV RX5 124 RX1 yX1_chargeOf wsX1_chargeOf) := goodIn_app (goodIn_of _ (by decide +kernel)) ggX5_soc_X1_chargeOf
set_option maxRecDepth 20000 in
theorem ggX5_soc_X1_socOf : GoodIn wsX5_soc wsX1_socOf := goodIn_r _ [26, 19, 27, 32, 33, 34, 35, 36, 37, 38, 39, 40, 41, 42, 43, 44, 45, 46, 47, 48, 49] rfl (by decide +kernel)
set_option maxRecDepth 20000 in
theorem gX5_soc_X1_socOf : GoodIn wsX5_soc (wsV RX5 128 RX1 yX1_socOf wsX1_socOf) := goodIn_app (goodIn_of _ (by decide +kernel)) ggX5_soc_X1_socOf
theorem dX5_soc_0 : decode cX5_soc 0 = .ok (.iload_n 1, 1) := by decide +kernel
theorem dX5_soc_1 : decode cX5_soc 1 = .ok (.iconst 0, 1) := by decide +kernel
theorem dX5_soc_2 : decode cX5_soc 2 = .ok (.iconst 2, 1) := by decide +kernel
theorem dX5_soc_3 : decode cX5_soc 3 = .ok (.invokestatic 33, 3) := by decide +kernel
theorem dX5_soc_6 : decode cX5_soc 6 = .ok (.aload_n 0, 1) := by decide +kernel
theorem dX5_soc_7 : decode cX5_soc 7 = .ok (.getfield 10, 3) := by decide +kernel
theorem dX5_soc_10 : decode cX5_soc 10 = .ok (.aload_n 0, 1) := by decide +kernel
theorem dX5_soc_11 : decode cX5_soc 11 = .ok (.getfield 10, 3) := by decide +kernel
theorem dX5_soc_14 : decode cX5_soc 14 = .ok (.iload_n 1, 1) := by decide +kernel
theorem dX5_soc_15 : decode cX5_soc 15 = .ok (.invokevirtual 124, 3) := by decide +kernel
theorem dX5_soc_18 : decode cX5_soc 18 = .ok (.invokevirtual 128, 3) := by decide +kernel
theorem dX5_soc_21 : decode cX5_soc 21 = .ok (.ireturn, 1) := by decide +kernel
set_option maxRecDepth 20000 in
theorem ggX5_status_X5_requireWithin : GoodIn wsX5_status wsX5_requireWithin := goodIn_ca (goodIn_r _ [5, 6, 7, 8, 9, 4, 10] (by decide +kernel) (by decide +kernel)) (goodIn_sub (fun _ h => List.mem_cons_of_mem _ (List.mem_append_right _ h)) (by decide +kernel))
set_option maxRecDepth 20000 in
theorem gX5_status_X5_requireWithin : GoodIn wsX5_status (va_wsS RX5 33 yX5_requireWithin wsX5_requireWithin) := goodIn_app (goodIn_of _ (by decide +kernel)) ggX5_status_X5_requireWithin
set_option maxRecDepth 20000 in
theorem ggX5_status_X1_statusOf : GoodIn wsX5_status wsX1_statusOf := goodIn_r _ [15, 16, 17, 18, 19, 20, 21, 22, 23, 14, 24, 25, 26, 27, 28, 29, 30, 31, 32, 33, 38, 39, 40, 41, 42, 43, 44, 45, 46, 47, 48, 49, 50, 51, 52, 53, 54, 55] rfl (by decide +kernel)
set_option maxRecDepth 20000 in
theorem gX5_status_X1_statusOf : GoodIn wsX5_status (wsV RX5 132 RX1 yX1_statusOf wsX1_statusOf) := goodIn_app (goodIn_of _ (by decide +kernel)) ggX5_status_X1_statusOf
theorem dX5_status_0 : decode cX5_status 0 = .ok (.iload_n 1, 1) := by decide +kernel
theorem dX5_status_1 : decode cX5_status 1 = .ok (.iconst 0, 1) := by decide +kernel
theorem dX5_status_2 : decode cX5_status 2 = .ok (.iconst 5, 1) := by decide +kernel
theorem dX5_status_3 : decode cX5_status 3 = .ok (.invokestatic 33, 3) := by decide +kernel
theorem dX5_status_6 : decode cX5_status 6 = .ok (.aload_n 0, 1) := by decide +kernel
theorem dX5_status_7 : decode cX5_status 7 = .ok (.getfield 10, 3) := by decide +kernel
theorem dX5_status_10 : decode cX5_status 10 = .ok (.iload_n 1, 1) := by decide +kernel
theorem dX5_status_11 : decode cX5_status 11 = .ok (.invokevirtual 132, 3) := by decide +kernel
theorem dX5_status_14 : decode cX5_status 14 = .ok (.ireturn, 1) := by decide +kernel
theorem dX5_throughput_0 : decode cX5_throughput 0 = .ok (.aload_n 0, 1) := by decide +kernel
theorem dX5_throughput_1 : decode cX5_throughput 1 = .ok (.getfield 10, 3) := by decide +kernel
theorem dX5_throughput_4 : decode cX5_throughput 4 = .ok (.getfield 135, 3) := by decide +kernel
theorem dX5_throughput_7 : decode cX5_throughput 7 = .ok (.lreturn, 1) := by decide +kernel
theorem dX5_cycles_0 : decode cX5_cycles 0 = .ok (.ldc2_w 139, 3) := by decide +kernel
theorem dX5_cycles_3 : decode cX5_cycles 3 = .ok (.aload_n 0, 1) := by decide +kernel
theorem dX5_cycles_4 : decode cX5_cycles 4 = .ok (.getfield 10, 3) := by decide +kernel
theorem dX5_cycles_7 : decode cX5_cycles 7 = .ok (.getfield 141, 3) := by decide +kernel
theorem dX5_cycles_10 : decode cX5_cycles 10 = .ok (.lmul, 1) := by decide +kernel
theorem dX5_cycles_11 : decode cX5_cycles 11 = .ok (.lstore_n 1, 1) := by decide +kernel
theorem dX5_cycles_12 : decode cX5_cycles 12 = .ok (.lload_n 1, 1) := by decide +kernel
theorem dX5_cycles_13 : decode cX5_cycles 13 = .ok (.lconst 0, 1) := by decide +kernel
theorem dX5_cycles_14 : decode cX5_cycles 14 = .ok (.lcmp, 1) := by decide +kernel
theorem dX5_cycles_15 : decode cX5_cycles 15 = .ok (.ifCond .le 17, 3) := by decide +kernel
theorem dX5_cycles_18 : decode cX5_cycles 18 = .ok (.aload_n 0, 1) := by decide +kernel
theorem dX5_cycles_19 : decode cX5_cycles 19 = .ok (.getfield 10, 3) := by decide +kernel
theorem dX5_cycles_22 : decode cX5_cycles 22 = .ok (.getfield 135, 3) := by decide +kernel
theorem dX5_cycles_25 : decode cX5_cycles 25 = .ok (.l2d, 1) := by decide +kernel
theorem dX5_cycles_26 : decode cX5_cycles 26 = .ok (.lload_n 1, 1) := by decide +kernel
theorem dX5_cycles_27 : decode cX5_cycles 27 = .ok (.l2d, 1) := by decide +kernel
theorem dX5_cycles_28 : decode cX5_cycles 28 = .ok (.ddiv, 1) := by decide +kernel
theorem dX5_cycles_29 : decode cX5_cycles 29 = .ok (.goto 4, 3) := by decide +kernel
theorem dX5_cycles_32 : decode cX5_cycles 32 = .ok (.dconst 0, 1) := by decide +kernel
theorem dX5_cycles_33 : decode cX5_cycles 33 = .ok (.dreturn, 1) := by decide +kernel
set_option maxRecDepth 20000 in
theorem ggX5_healthBits_X5_bitsOf : GoodIn wsX5_healthBits wsX5_bitsOf := goodIn_r _ [5, 6] rfl (by decide +kernel)
set_option maxRecDepth 20000 in
theorem gX5_healthBits_X5_bitsOf : GoodIn wsX5_healthBits (va_wsS RX5 147 yX5_bitsOf wsX5_bitsOf) := goodIn_app (goodIn_of _ (by decide +kernel)) ggX5_healthBits_X5_bitsOf
theorem dX5_healthBits_0 : decode cX5_healthBits 0 = .ok (.aload_n 0, 1) := by decide +kernel
theorem dX5_healthBits_1 : decode cX5_healthBits 1 = .ok (.getfield 10, 3) := by decide +kernel
theorem dX5_healthBits_4 : decode cX5_healthBits 4 = .ok (.getfield 141, 3) := by decide +kernel
theorem dX5_healthBits_7 : decode cX5_healthBits 7 = .ok (.lconst 0, 1) := by decide +kernel
theorem dX5_healthBits_8 : decode cX5_healthBits 8 = .ok (.lcmp, 1) := by decide +kernel
theorem dX5_healthBits_9 : decode cX5_healthBits 9 = .ok (.ifCond .le 26, 3) := by decide +kernel
theorem dX5_healthBits_12 : decode cX5_healthBits 12 = .ok (.aload_n 0, 1) := by decide +kernel
theorem dX5_healthBits_13 : decode cX5_healthBits 13 = .ok (.getfield 10, 3) := by decide +kernel
theorem dX5_healthBits_16 : decode cX5_healthBits 16 = .ok (.getfield 144, 3) := by decide +kernel
theorem dX5_healthBits_19 : decode cX5_healthBits 19 = .ok (.l2f, 1) := by decide +kernel
theorem dX5_healthBits_20 : decode cX5_healthBits 20 = .ok (.aload_n 0, 1) := by decide +kernel
theorem dX5_healthBits_21 : decode cX5_healthBits 21 = .ok (.getfield 10, 3) := by decide +kernel
theorem dX5_healthBits_24 : decode cX5_healthBits 24 = .ok (.getfield 141, 3) := by decide +kernel
theorem dX5_healthBits_27 : decode cX5_healthBits 27 = .ok (.l2f, 1) := by decide +kernel
theorem dX5_healthBits_28 : decode cX5_healthBits 28 = .ok (.fdiv, 1) := by decide +kernel
theorem dX5_healthBits_29 : decode cX5_healthBits 29 = .ok (.invokestatic 147, 3) := by decide +kernel
theorem dX5_healthBits_32 : decode cX5_healthBits 32 = .ok (.goto 4, 3) := by decide +kernel
theorem dX5_healthBits_35 : decode cX5_healthBits 35 = .ok (.iconst 0, 1) := by decide +kernel
theorem dX5_healthBits_36 : decode cX5_healthBits 36 = .ok (.ireturn, 1) := by decide +kernel
set_option maxRecDepth 20000 in
theorem ggX5_openVoltage_X5_requireWithin : GoodIn wsX5_openVoltage wsX5_requireWithin := goodIn_ca (goodIn_r _ [5, 6, 7, 8, 9, 4, 10] (by decide +kernel) (by decide +kernel)) (goodIn_sub (fun _ h => List.mem_cons_of_mem _ (List.mem_append_right _ h)) (by decide +kernel))
set_option maxRecDepth 20000 in
theorem gX5_openVoltage_X5_requireWithin : GoodIn wsX5_openVoltage (va_wsS RX5 33 yX5_requireWithin wsX5_requireWithin) := goodIn_app (goodIn_of _ (by decide +kernel)) ggX5_openVoltage_X5_requireWithin
set_option maxRecDepth 20000 in
theorem ggX5_openVoltage_X2_voltageAt : GoodIn wsX5_openVoltage wsX2_voltageAt := goodIn_r _ [15, 16, 17, 18, 19, 14, 20, 21, 22, 23, 24, 25, 26, 27, 50, 51] rfl (by decide +kernel)
set_option maxRecDepth 20000 in
theorem gX5_openVoltage_X2_voltageAt : GoodIn wsX5_openVoltage (wsV RX5 151 RX2 yX2_voltageAt wsX2_voltageAt) := goodIn_app (goodIn_of _ (by decide +kernel)) ggX5_openVoltage_X2_voltageAt
theorem dX5_openVoltage_0 : decode cX5_openVoltage 0 = .ok (.iload_n 1, 1) := by decide +kernel
theorem dX5_openVoltage_1 : decode cX5_openVoltage 1 = .ok (.iconst 0, 1) := by decide +kernel
theorem dX5_openVoltage_2 : decode cX5_openVoltage 2 = .ok (.sipush 10000, 3) := by decide +kernel
theorem dX5_openVoltage_5 : decode cX5_openVoltage 5 = .ok (.invokestatic 33, 3) := by decide +kernel
theorem dX5_openVoltage_8 : decode cX5_openVoltage 8 = .ok (.iload_n 2, 1) := by decide +kernel
theorem dX5_openVoltage_9 : decode cX5_openVoltage 9 = .ok (.iconst 0, 1) := by decide +kernel
theorem dX5_openVoltage_10 : decode cX5_openVoltage 10 = .ok (.sipush 1000, 3) := by decide +kernel
theorem dX5_openVoltage_13 : decode cX5_openVoltage 13 = .ok (.invokestatic 33, 3) := by decide +kernel
theorem dX5_openVoltage_16 : decode cX5_openVoltage 16 = .ok (.aload_n 0, 1) := by decide +kernel
theorem dX5_openVoltage_17 : decode cX5_openVoltage 17 = .ok (.getfield 10, 3) := by decide +kernel
theorem dX5_openVoltage_20 : decode cX5_openVoltage 20 = .ok (.getfield 80, 3) := by decide +kernel
theorem dX5_openVoltage_23 : decode cX5_openVoltage 23 = .ok (.iload_n 1, 1) := by decide +kernel
theorem dX5_openVoltage_24 : decode cX5_openVoltage 24 = .ok (.iload_n 2, 1) := by decide +kernel
theorem dX5_openVoltage_25 : decode cX5_openVoltage 25 = .ok (.invokevirtual 151, 3) := by decide +kernel
theorem dX5_openVoltage_28 : decode cX5_openVoltage 28 = .ok (.ireturn, 1) := by decide +kernel
set_option maxRecDepth 20000 in
theorem ggX5_invert_X5_requireWithin : GoodIn wsX5_invert wsX5_requireWithin := goodIn_ca (goodIn_r _ [5, 6, 7, 8, 9, 4, 10] (by decide +kernel) (by decide +kernel)) (goodIn_sub (fun _ h => List.mem_cons_of_mem _ (List.mem_append_right _ h)) (by decide +kernel))
set_option maxRecDepth 20000 in
theorem gX5_invert_X5_requireWithin : GoodIn wsX5_invert (va_wsS RX5 33 yX5_requireWithin wsX5_requireWithin) := goodIn_app (goodIn_of _ (by decide +kernel)) ggX5_invert_X5_requireWithin
set_option maxRecDepth 20000 in
theorem ggX5_invert_X2_socAt : GoodIn wsX5_invert wsX2_socAt := goodIn_r _ [15, 16, 17, 18, 14, 19, 20, 21, 22, 23, 24, 25, 26, 27, 28, 29, 30, 31, 54, 55] rfl (by decide +kernel)
set_option maxRecDepth 20000 in
theorem gX5_invert_X2_socAt : GoodIn wsX5_invert (wsV RX5 154 RX2 yX2_socAt wsX2_socAt) := goodIn_app (goodIn_of _ (by decide +kernel)) ggX5_invert_X2_socAt
theorem dX5_invert_0 : decode cX5_invert 0 = .ok (.iload_n 1, 1) := by decide +kernel
theorem dX5_invert_1 : decode cX5_invert 1 = .ok (.iconst 0, 1) := by decide +kernel
theorem dX5_invert_2 : decode cX5_invert 2 = .ok (.sipush 6000, 3) := by decide +kernel
theorem dX5_invert_5 : decode cX5_invert 5 = .ok (.invokestatic 33, 3) := by decide +kernel
theorem dX5_invert_8 : decode cX5_invert 8 = .ok (.iload_n 2, 1) := by decide +kernel
theorem dX5_invert_9 : decode cX5_invert 9 = .ok (.iconst 0, 1) := by decide +kernel
theorem dX5_invert_10 : decode cX5_invert 10 = .ok (.sipush 1000, 3) := by decide +kernel
theorem dX5_invert_13 : decode cX5_invert 13 = .ok (.invokestatic 33, 3) := by decide +kernel
theorem dX5_invert_16 : decode cX5_invert 16 = .ok (.aload_n 0, 1) := by decide +kernel
theorem dX5_invert_17 : decode cX5_invert 17 = .ok (.getfield 10, 3) := by decide +kernel
theorem dX5_invert_20 : decode cX5_invert 20 = .ok (.getfield 80, 3) := by decide +kernel
theorem dX5_invert_23 : decode cX5_invert 23 = .ok (.iload_n 1, 1) := by decide +kernel
theorem dX5_invert_24 : decode cX5_invert 24 = .ok (.iload_n 2, 1) := by decide +kernel
theorem dX5_invert_25 : decode cX5_invert 25 = .ok (.invokevirtual 154, 3) := by decide +kernel
theorem dX5_invert_28 : decode cX5_invert 28 = .ok (.ireturn, 1) := by decide +kernel
set_option maxRecDepth 20000 in
theorem ggX5_anchors_X0_size : GoodIn wsX5_anchors wsX0_size := goodIn_r _ [6, 7, 30, 31] rfl (by decide +kernel)
set_option maxRecDepth 20000 in
theorem gX5_anchors_X0_size : GoodIn wsX5_anchors (wsV RX5 45 RX0 yX0_size wsX0_size) := goodIn_app (goodIn_of _ (by decide +kernel)) ggX5_anchors_X0_size
theorem dX5_anchors_0 : decode cX5_anchors 0 = .ok (.aload_n 0, 1) := by decide +kernel
theorem dX5_anchors_1 : decode cX5_anchors 1 = .ok (.getfield 10, 3) := by decide +kernel
theorem dX5_anchors_4 : decode cX5_anchors 4 = .ok (.getfield 41, 3) := by decide +kernel
theorem dX5_anchors_7 : decode cX5_anchors 7 = .ok (.invokevirtual 45, 3) := by decide +kernel
theorem dX5_anchors_10 : decode cX5_anchors 10 = .ok (.ireturn, 1) := by decide +kernel
set_option maxRecDepth 20000 in
theorem ggX5_anchor_X0_size : GoodIn wsX5_anchor wsX0_size := goodIn_r _ [8, 9, 46, 47] rfl (by decide +kernel)
set_option maxRecDepth 20000 in
theorem gX5_anchor_X0_size : GoodIn wsX5_anchor (wsV RX5 45 RX0 yX0_size wsX0_size) := goodIn_app (goodIn_of _ (by decide +kernel)) ggX5_anchor_X0_size
set_option maxRecDepth 20000 in
theorem ggX5_anchor_X5_requireWithin : GoodIn wsX5_anchor wsX5_requireWithin := goodIn_ca (goodIn_r _ [13, 14, 15, 16, 17, 12, 18] (by decide +kernel) (by decide +kernel)) (goodIn_sub (fun _ h => List.mem_cons_of_mem _ (List.mem_append_right _ h)) (by decide +kernel))
set_option maxRecDepth 20000 in
theorem gX5_anchor_X5_requireWithin : GoodIn wsX5_anchor (va_wsS RX5 33 yX5_requireWithin wsX5_requireWithin) := goodIn_app (goodIn_of _ (by decide +kernel)) ggX5_anchor_X5_requireWithin
set_option maxRecDepth 20000 in
theorem ggX5_anchor_X0_part : GoodIn wsX5_anchor wsX0_part := goodIn_r _ [22, 23, 46, 47] rfl (by decide +kernel)
set_option maxRecDepth 20000 in
theorem gX5_anchor_X0_part : GoodIn wsX5_anchor (wsV RX5 162 RX0 yX0_part wsX0_part) := goodIn_app (goodIn_of _ (by decide +kernel)) ggX5_anchor_X0_part
theorem dX5_anchor_0 : decode cX5_anchor 0 = .ok (.iload_n 1, 1) := by decide +kernel
theorem dX5_anchor_1 : decode cX5_anchor 1 = .ok (.ifCond .lt 17, 3) := by decide +kernel
theorem dX5_anchor_4 : decode cX5_anchor 4 = .ok (.iload_n 1, 1) := by decide +kernel
theorem dX5_anchor_5 : decode cX5_anchor 5 = .ok (.aload_n 0, 1) := by decide +kernel
theorem dX5_anchor_6 : decode cX5_anchor 6 = .ok (.getfield 10, 3) := by decide +kernel
theorem dX5_anchor_9 : decode cX5_anchor 9 = .ok (.getfield 41, 3) := by decide +kernel
theorem dX5_anchor_12 : decode cX5_anchor 12 = .ok (.invokevirtual 45, 3) := by decide +kernel
theorem dX5_anchor_15 : decode cX5_anchor 15 = .ok (.if_icmp .lt 13, 3) := by decide +kernel
theorem dX5_anchor_18 : decode cX5_anchor 18 = .ok (.new 157, 3) := by decide +kernel
theorem dX5_anchor_21 : decode cX5_anchor 21 = .ok (.dup, 1) := by decide +kernel
theorem dX5_anchor_22 : decode cX5_anchor 22 = .ok (.ldc 159, 2) := by decide +kernel
theorem dX5_anchor_24 : decode cX5_anchor 24 = .ok (.invokespecial 161, 3) := by decide +kernel
theorem dX5_anchor_27 : decode cX5_anchor 27 = .ok (.athrow, 1) := by decide +kernel
theorem dX5_anchor_28 : decode cX5_anchor 28 = .ok (.iload_n 2, 1) := by decide +kernel
theorem dX5_anchor_29 : decode cX5_anchor 29 = .ok (.iconst 0, 1) := by decide +kernel
theorem dX5_anchor_30 : decode cX5_anchor 30 = .ok (.iconst 3, 1) := by decide +kernel
theorem dX5_anchor_31 : decode cX5_anchor 31 = .ok (.invokestatic 33, 3) := by decide +kernel
theorem dX5_anchor_34 : decode cX5_anchor 34 = .ok (.aload_n 0, 1) := by decide +kernel
theorem dX5_anchor_35 : decode cX5_anchor 35 = .ok (.getfield 10, 3) := by decide +kernel
theorem dX5_anchor_38 : decode cX5_anchor 38 = .ok (.getfield 41, 3) := by decide +kernel
theorem dX5_anchor_41 : decode cX5_anchor 41 = .ok (.iload_n 1, 1) := by decide +kernel
theorem dX5_anchor_42 : decode cX5_anchor 42 = .ok (.iload_n 2, 1) := by decide +kernel
theorem dX5_anchor_43 : decode cX5_anchor 43 = .ok (.invokevirtual 162, 3) := by decide +kernel
theorem dX5_anchor_46 : decode cX5_anchor 46 = .ok (.ireturn, 1) := by decide +kernel
set_option maxRecDepth 20000 in
theorem ggX5_boundAfter_X5_requireWithin : GoodIn wsX5_boundAfter wsX5_requireWithin := goodIn_ca (goodIn_r _ [8, 9, 10, 11, 12, 7, 13] (by decide +kernel) (by decide +kernel)) (goodIn_sub (fun _ h => List.mem_cons_of_mem _ (List.mem_append_right _ h)) (by decide +kernel))
set_option maxRecDepth 20000 in
theorem gX5_boundAfter_X5_requireWithin : GoodIn wsX5_boundAfter (va_wsS RX5 33 yX5_requireWithin wsX5_requireWithin) := goodIn_app (goodIn_of _ (by decide +kernel)) ggX5_boundAfter_X5_requireWithin
set_option maxRecDepth 20000 in
theorem ggX5_boundAfter_X1_highAfter : GoodIn wsX5_boundAfter wsX1_highAfter := goodIn_r _ [18, 19, 20, 21, 22, 23, 17, 24, 25, 26, 27, 28, 29, 30, 31, 32, 33, 34, 35, 36, 7, 37, 38, 39, 40, 41, 42, 43, 53, 54, 55, 56, 57, 58, 59, 60, 61, 62, 63, 64, 65, 66, 67, 68, 69, 70] rfl (by decide +kernel)
set_option maxRecDepth 20000 in
theorem gX5_boundAfter_X1_highAfter : GoodIn wsX5_boundAfter (wsV RX5 168 RX1 yX1_highAfter wsX1_highAfter) := goodIn_app (goodIn_of _ (by decide +kernel)) ggX5_boundAfter_X1_highAfter
set_option maxRecDepth 20000 in
theorem ggX5_boundAfter_X1_lowAfter : GoodIn wsX5_boundAfter wsX1_lowAfter := goodIn_r _ [47, 48, 20, 21, 22, 23, 17, 24, 25, 26, 27, 28, 29, 30, 31, 32, 33, 34, 35, 36, 7, 37, 38, 39, 40, 41, 42, 43, 53, 54, 55, 56, 57, 58, 59, 60, 61, 62, 63, 64, 65, 66, 67, 68, 69, 70] rfl (by decide +kernel)
set_option maxRecDepth 20000 in
theorem gX5_boundAfter_X1_lowAfter : GoodIn wsX5_boundAfter (wsV RX5 172 RX1 yX1_lowAfter wsX1_lowAfter) := goodIn_app (goodIn_of _ (by decide +kernel)) ggX5_boundAfter_X1_lowAfter
theorem dX5_boundAfter_0 : decode cX5_boundAfter 0 = .ok (.iload_n 1, 1) := by decide +kernel
theorem dX5_boundAfter_1 : decode cX5_boundAfter 1 = .ok (.ldc 165, 2) := by decide +kernel
theorem dX5_boundAfter_3 : decode cX5_boundAfter 3 = .ok (.ldc 166, 2) := by decide +kernel
theorem dX5_boundAfter_5 : decode cX5_boundAfter 5 = .ok (.invokestatic 33, 3) := by decide +kernel
theorem dX5_boundAfter_8 : decode cX5_boundAfter 8 = .ok (.iload_n 2, 1) := by decide +kernel
theorem dX5_boundAfter_9 : decode cX5_boundAfter 9 = .ok (.iconst 0, 1) := by decide +kernel
theorem dX5_boundAfter_10 : decode cX5_boundAfter 10 = .ok (.ldc 167, 2) := by decide +kernel
theorem dX5_boundAfter_12 : decode cX5_boundAfter 12 = .ok (.invokestatic 33, 3) := by decide +kernel
theorem dX5_boundAfter_15 : decode cX5_boundAfter 15 = .ok (.iload_n 3, 1) := by decide +kernel
theorem dX5_boundAfter_16 : decode cX5_boundAfter 16 = .ok (.ifCond .eq 15, 3) := by decide +kernel
theorem dX5_boundAfter_19 : decode cX5_boundAfter 19 = .ok (.aload_n 0, 1) := by decide +kernel
theorem dX5_boundAfter_20 : decode cX5_boundAfter 20 = .ok (.getfield 10, 3) := by decide +kernel
theorem dX5_boundAfter_23 : decode cX5_boundAfter 23 = .ok (.iload_n 1, 1) := by decide +kernel
theorem dX5_boundAfter_24 : decode cX5_boundAfter 24 = .ok (.iload_n 2, 1) := by decide +kernel
theorem dX5_boundAfter_25 : decode cX5_boundAfter 25 = .ok (.invokevirtual 168, 3) := by decide +kernel
theorem dX5_boundAfter_28 : decode cX5_boundAfter 28 = .ok (.goto 12, 3) := by decide +kernel
theorem dX5_boundAfter_31 : decode cX5_boundAfter 31 = .ok (.aload_n 0, 1) := by decide +kernel
theorem dX5_boundAfter_32 : decode cX5_boundAfter 32 = .ok (.getfield 10, 3) := by decide +kernel
theorem dX5_boundAfter_35 : decode cX5_boundAfter 35 = .ok (.iload_n 1, 1) := by decide +kernel
theorem dX5_boundAfter_36 : decode cX5_boundAfter 36 = .ok (.iload_n 2, 1) := by decide +kernel
theorem dX5_boundAfter_37 : decode cX5_boundAfter 37 = .ok (.invokevirtual 172, 3) := by decide +kernel
theorem dX5_boundAfter_40 : decode cX5_boundAfter 40 = .ok (.lreturn, 1) := by decide +kernel
set_option maxRecDepth 20000 in
theorem ggX5_reaches_X5_requireWithin : GoodIn wsX5_reaches wsX5_requireWithin := goodIn_ca (goodIn_r _ [10, 1, 2, 11, 12, 9, 13] (by decide +kernel) (by decide +kernel)) (goodIn_sub (fun _ h => List.mem_cons_of_mem _ (List.mem_append_right _ h)) (by decide +kernel))
set_option maxRecDepth 20000 in
theorem gX5_reaches_X5_requireWithin : GoodIn wsX5_reaches (va_wsS RX5 33 yX5_requireWithin wsX5_requireWithin) := goodIn_app (goodIn_of _ (by decide +kernel)) ggX5_reaches_X5_requireWithin
set_option maxRecDepth 20000 in
theorem ggX5_reaches_X1_whenLowAtMost : GoodIn wsX5_reaches wsX1_whenLowAtMost := goodIn_r _ [18, 19, 20, 21, 22, 17, 23, 24, 25, 26, 27, 28, 29, 30, 31, 32, 33, 34, 35, 36, 37, 38, 39, 40, 41, 9, 42, 43, 44, 45, 46, 47, 48, 62, 63, 64, 65, 66, 67, 68, 69, 70, 71, 72, 73, 74, 75, 76, 77, 78, 79] rfl (by decide +kernel)
set_option maxRecDepth 20000 in
theorem gX5_reaches_X1_whenLowAtMost : GoodIn wsX5_reaches (wsV RX5 177 RX1 yX1_whenLowAtMost wsX1_whenLowAtMost) := goodIn_app (goodIn_of _ (by decide +kernel)) ggX5_reaches_X1_whenLowAtMost
set_option maxRecDepth 20000 in
theorem ggX5_reaches_X1_whenHighWhole : GoodIn wsX5_reaches wsX1_whenHighWhole := goodIn_r _ [52, 19, 25, 53, 54, 55, 17, 56, 57, 26, 27, 28, 29, 30, 31, 32, 33, 34, 35, 36, 37, 38, 39, 40, 41, 9, 42, 43, 44, 45, 46, 47, 48, 62, 63, 64, 65, 66, 67, 68, 69, 70, 71, 72, 73, 74, 75, 76, 77, 78, 79] rfl (by decide +kernel)
set_option maxRecDepth 20000 in
theorem gX5_reaches_X1_whenHighWhole : GoodIn wsX5_reaches (wsV RX5 181 RX1 yX1_whenHighWhole wsX1_whenHighWhole) := goodIn_app (goodIn_of _ (by decide +kernel)) ggX5_reaches_X1_whenHighWhole
theorem dX5_reaches_0 : decode cX5_reaches 0 = .ok (.iload_n 1, 1) := by decide +kernel
theorem dX5_reaches_1 : decode cX5_reaches 1 = .ok (.ldc 165, 2) := by decide +kernel
theorem dX5_reaches_3 : decode cX5_reaches 3 = .ok (.ldc 166, 2) := by decide +kernel
theorem dX5_reaches_5 : decode cX5_reaches 5 = .ok (.invokestatic 33, 3) := by decide +kernel
theorem dX5_reaches_8 : decode cX5_reaches 8 = .ok (.iload_n 1, 1) := by decide +kernel
theorem dX5_reaches_9 : decode cX5_reaches 9 = .ok (.ifCond .ne 13, 3) := by decide +kernel
theorem dX5_reaches_12 : decode cX5_reaches 12 = .ok (.new 88, 3) := by decide +kernel
theorem dX5_reaches_15 : decode cX5_reaches 15 = .ok (.dup, 1) := by decide +kernel
theorem dX5_reaches_16 : decode cX5_reaches 16 = .ok (.ldc 175, 2) := by decide +kernel
theorem dX5_reaches_18 : decode cX5_reaches 18 = .ok (.invokespecial 92, 3) := by decide +kernel
theorem dX5_reaches_21 : decode cX5_reaches 21 = .ok (.athrow, 1) := by decide +kernel
theorem dX5_reaches_22 : decode cX5_reaches 22 = .ok (.iload_n 1, 1) := by decide +kernel
theorem dX5_reaches_23 : decode cX5_reaches 23 = .ok (.ifCond .ge 15, 3) := by decide +kernel
theorem dX5_reaches_26 : decode cX5_reaches 26 = .ok (.aload_n 0, 1) := by decide +kernel
theorem dX5_reaches_27 : decode cX5_reaches 27 = .ok (.getfield 10, 3) := by decide +kernel
theorem dX5_reaches_30 : decode cX5_reaches 30 = .ok (.iload_n 1, 1) := by decide +kernel
theorem dX5_reaches_31 : decode cX5_reaches 31 = .ok (.lconst 0, 1) := by decide +kernel
theorem dX5_reaches_32 : decode cX5_reaches 32 = .ok (.invokevirtual 177, 3) := by decide +kernel
theorem dX5_reaches_35 : decode cX5_reaches 35 = .ok (.goto 11, 3) := by decide +kernel
theorem dX5_reaches_38 : decode cX5_reaches 38 = .ok (.aload_n 0, 1) := by decide +kernel
theorem dX5_reaches_39 : decode cX5_reaches 39 = .ok (.getfield 10, 3) := by decide +kernel
theorem dX5_reaches_42 : decode cX5_reaches 42 = .ok (.iload_n 1, 1) := by decide +kernel
theorem dX5_reaches_43 : decode cX5_reaches 43 = .ok (.invokevirtual 181, 3) := by decide +kernel
theorem dX5_reaches_46 : decode cX5_reaches 46 = .ok (.istore_n 2, 1) := by decide +kernel
theorem dX5_reaches_47 : decode cX5_reaches 47 = .ok (.iload_n 2, 1) := by decide +kernel
theorem dX5_reaches_48 : decode cX5_reaches 48 = .ok (.ldc 167, 2) := by decide +kernel
theorem dX5_reaches_50 : decode cX5_reaches 50 = .ok (.if_icmp .le 7, 3) := by decide +kernel
theorem dX5_reaches_53 : decode cX5_reaches 53 = .ok (.iconst (-1), 1) := by decide +kernel
theorem dX5_reaches_54 : decode cX5_reaches 54 = .ok (.goto 4, 3) := by decide +kernel
theorem dX5_reaches_57 : decode cX5_reaches 57 = .ok (.iload_n 2, 1) := by decide +kernel
theorem dX5_reaches_58 : decode cX5_reaches 58 = .ok (.ireturn, 1) := by decide +kernel
set_option maxRecDepth 20000 in
theorem ggX5_lasts_X5_requireWithin : GoodIn wsX5_lasts wsX5_requireWithin := goodIn_ca (goodIn_r _ [6, 7, 8, 9, 10, 5, 11] (by decide +kernel) (by decide +kernel)) (goodIn_sub (fun _ h => List.mem_cons_of_mem _ (List.mem_append_right _ h)) (by decide +kernel))
set_option maxRecDepth 20000 in
theorem gX5_lasts_X5_requireWithin : GoodIn wsX5_lasts (va_wsS RX5 33 yX5_requireWithin wsX5_requireWithin) := goodIn_app (goodIn_of _ (by decide +kernel)) ggX5_lasts_X5_requireWithin
set_option maxRecDepth 20000 in
theorem ggX5_lasts_X1_chargeAt : GoodIn wsX5_lasts wsX1_chargeAt := goodIn_r _ [16, 17, 18, 56, 57, 58, 59, 60, 61, 62, 63, 64, 65, 66, 67, 68, 69, 70, 71, 72, 73] rfl (by decide +kernel)
set_option maxRecDepth 20000 in
theorem gX5_lasts_X1_chargeAt : GoodIn wsX5_lasts (wsV RX5 184 RX1 yX1_chargeAt wsX1_chargeAt) := goodIn_app (goodIn_of _ (by decide +kernel)) ggX5_lasts_X1_chargeAt
set_option maxRecDepth 20000 in
theorem ggX5_lasts_X1_whenLowAtMost : GoodIn wsX5_lasts wsX1_whenLowAtMost := goodIn_r _ [22, 23, 24, 25, 26, 15, 27, 28, 17, 29, 30, 31, 32, 33, 34, 35, 36, 37, 38, 39, 40, 41, 42, 43, 44, 5, 45, 46, 47, 48, 49, 50, 51, 56, 57, 58, 59, 60, 61, 62, 63, 64, 65, 66, 67, 68, 69, 70, 71, 72, 73] rfl (by decide +kernel)
set_option maxRecDepth 20000 in
theorem gX5_lasts_X1_whenLowAtMost : GoodIn wsX5_lasts (wsV RX5 177 RX1 yX1_whenLowAtMost wsX1_whenLowAtMost) := goodIn_app (goodIn_of _ (by decide +kernel)) ggX5_lasts_X1_whenLowAtMost
theorem dX5_lasts_0 : decode cX5_lasts 0 = .ok (.iload_n 1, 1) := by decide +kernel
theorem dX5_lasts_1 : decode cX5_lasts 1 = .ok (.ldc 165, 2) := by decide +kernel
theorem dX5_lasts_3 : decode cX5_lasts 3 = .ok (.iconst (-1), 1) := by decide +kernel
theorem dX5_lasts_4 : decode cX5_lasts 4 = .ok (.invokestatic 33, 3) := by decide +kernel
theorem dX5_lasts_7 : decode cX5_lasts 7 = .ok (.iload_n 2, 1) := by decide +kernel
theorem dX5_lasts_8 : decode cX5_lasts 8 = .ok (.iconst 0, 1) := by decide +kernel
theorem dX5_lasts_9 : decode cX5_lasts 9 = .ok (.sipush 10000, 3) := by decide +kernel
theorem dX5_lasts_12 : decode cX5_lasts 12 = .ok (.invokestatic 33, 3) := by decide +kernel
theorem dX5_lasts_15 : decode cX5_lasts 15 = .ok (.aload_n 0, 1) := by decide +kernel
theorem dX5_lasts_16 : decode cX5_lasts 16 = .ok (.getfield 10, 3) := by decide +kernel
theorem dX5_lasts_19 : decode cX5_lasts 19 = .ok (.iload_n 2, 1) := by decide +kernel
theorem dX5_lasts_20 : decode cX5_lasts 20 = .ok (.invokevirtual 184, 3) := by decide +kernel
theorem dX5_lasts_23 : decode cX5_lasts 23 = .ok (.lstore_n 3, 1) := by decide +kernel
theorem dX5_lasts_24 : decode cX5_lasts 24 = .ok (.aload_n 0, 1) := by decide +kernel
theorem dX5_lasts_25 : decode cX5_lasts 25 = .ok (.getfield 10, 3) := by decide +kernel
theorem dX5_lasts_28 : decode cX5_lasts 28 = .ok (.getfield 187, 3) := by decide +kernel
theorem dX5_lasts_31 : decode cX5_lasts 31 = .ok (.lload_n 3, 1) := by decide +kernel
theorem dX5_lasts_32 : decode cX5_lasts 32 = .ok (.lcmp, 1) := by decide +kernel
theorem dX5_lasts_33 : decode cX5_lasts 33 = .ok (.ifCond .ge 5, 3) := by decide +kernel
theorem dX5_lasts_36 : decode cX5_lasts 36 = .ok (.iconst (-1), 1) := by decide +kernel
theorem dX5_lasts_37 : decode cX5_lasts 37 = .ok (.ireturn, 1) := by decide +kernel
theorem dX5_lasts_38 : decode cX5_lasts 38 = .ok (.aload_n 0, 1) := by decide +kernel
theorem dX5_lasts_39 : decode cX5_lasts 39 = .ok (.getfield 10, 3) := by decide +kernel
theorem dX5_lasts_42 : decode cX5_lasts 42 = .ok (.iload_n 1, 1) := by decide +kernel
theorem dX5_lasts_43 : decode cX5_lasts 43 = .ok (.lload_n 3, 1) := by decide +kernel
theorem dX5_lasts_44 : decode cX5_lasts 44 = .ok (.lconst 1, 1) := by decide +kernel
theorem dX5_lasts_45 : decode cX5_lasts 45 = .ok (.lsub, 1) := by decide +kernel
theorem dX5_lasts_46 : decode cX5_lasts 46 = .ok (.invokevirtual 177, 3) := by decide +kernel
theorem dX5_lasts_49 : decode cX5_lasts 49 = .ok (.iconst 1, 1) := by decide +kernel
theorem dX5_lasts_50 : decode cX5_lasts 50 = .ok (.isub, 1) := by decide +kernel
theorem dX5_lasts_51 : decode cX5_lasts 51 = .ok (.ireturn, 1) := by decide +kernel
set_option maxRecDepth 20000 in
theorem ggX5_wouldAnchor_X5_requireModel : GoodIn wsX5_wouldAnchor wsX5_requireModel := goodIn_ca (goodIn_r _ [6, 7, 8, 5, 9, 10, 11, 12, 13, 14, 15, 16, 17, 18, 19, 20, 21, 22] (by decide +kernel) (by decide +kernel)) (goodIn_sub (fun _ h => List.mem_cons_of_mem _ (List.mem_append_right _ h)) (by decide +kernel))
set_option maxRecDepth 20000 in
theorem gX5_wouldAnchor_X5_requireModel : GoodIn wsX5_wouldAnchor (va_wsS RX5 117 yX5_requireModel wsX5_requireModel) := goodIn_app (goodIn_of _ (by decide +kernel)) ggX5_wouldAnchor_X5_requireModel
set_option maxRecDepth 20000 in
theorem ggX5_wouldAnchor_X1_copyFrom : GoodIn wsX5_wouldAnchor wsX1_copyFrom := goodIn_r _ [27, 28, 29, 30, 31, 32, 33, 34, 35, 36, 37, 38, 39, 40, 41, 42, 43, 44, 45, 46, 47, 48, 49, 50, 51, 52, 53, 54, 55, 56, 57, 58, 59, 60, 61, 62, 63, 64, 65, 200, 201, 202, 203, 204, 205, 206, 207, 208, 209, 210, 211, 212, 213, 214, 215, 216, 217, 218, 219, 220, 221] rfl (by decide +kernel)
set_option maxRecDepth 20000 in
theorem gX5_wouldAnchor_X1_copyFrom : GoodIn wsX5_wouldAnchor (wsV RX5 190 RX1 yX1_copyFrom wsX1_copyFrom) := goodIn_app (goodIn_of _ (by decide +kernel)) ggX5_wouldAnchor_X1_copyFrom
set_option maxRecDepth 20000 in
theorem ggX5_wouldAnchor_X1_modelVoltage : GoodIn wsX5_wouldAnchor wsX1_modelVoltage := goodIn_r _ [69, 33, 37, 70, 71, 72, 73, 26, 74, 36, 75, 76, 77, 78, 79, 40, 80, 81, 82, 83, 84, 28, 85, 86, 87, 88, 53, 89, 55, 57, 90, 91, 92, 93, 94, 95, 96, 97, 98, 99, 100, 101, 102, 103, 104, 5, 105, 106, 107, 108, 109, 110, 111, 200, 201, 202, 203, 204, 205, 206, 207, 208, 209, 210, 211, 212, 213, 214, 215, 216, 217, 218, 219] rfl (by decide +kernel)
set_option maxRecDepth 20000 in
theorem gX5_wouldAnchor_X1_modelVoltage : GoodIn wsX5_wouldAnchor (wsV RX5 121 RX1 yX1_modelVoltage wsX1_modelVoltage) := goodIn_app (goodIn_of _ (by decide +kernel)) ggX5_wouldAnchor_X1_modelVoltage
set_option maxRecDepth 20000 in
theorem ggX5_wouldAnchor_X1_treat : GoodIn wsX5_wouldAnchor wsX1_treat := goodIn_r _ [115, 28, 33, 48, 116, 117, 118, 26, 119, 37, 36, 38, 39, 40, 41, 120, 121, 95, 122, 42, 43, 123, 124, 125, 126, 80, 104, 5, 105, 106, 107, 108, 109, 110, 111, 127, 128, 129, 130, 131, 132, 133, 134, 135, 136, 137, 138, 139, 81, 82, 83, 84, 85, 140, 141, 142, 143, 144, 145, 146, 44, 76, 77, 78, 79, 147, 148, 149, 53, 150, 151, 87, 88, 89, 55, 57, 90, 91, 92, 93, 94, 96, 97, 98, 99, 152, 153, 154, 155, 46, 156, 157, 34, 158, 159, 160, 161, 75, 35, 162, 163, 164, 47, 165, 166, 167, 61, 168, 65, 169, 170, 171, 172, 173, 174, 175, 176, 63, 177, 178, 102, 179, 180, 181, 182, 183, 184, 185, 186, 187, 64, 30, 31, 32, 188, 189, 190, 191, 45, 192, 193, 194, 195, 49, 200, 201, 202, 203, 204, 205, 206, 207, 208, 209, 210, 211, 212, 213, 214, 215, 216, 217, 218, 219, 220, 221] rfl (by decide +kernel)
set_option maxRecDepth 20000 in
theorem gX5_wouldAnchor_X1_treat : GoodIn wsX5_wouldAnchor (wsV RX5 108 RX1 yX1_treat wsX1_treat) := goodIn_app (goodIn_of _ (by decide +kernel)) ggX5_wouldAnchor_X1_treat
theorem dX5_wouldAnchor_0 : decode cX5_wouldAnchor 0 = .ok (.iload_n 1, 1) := by decide +kernel
theorem dX5_wouldAnchor_1 : decode cX5_wouldAnchor 1 = .ok (.iload_n 2, 1) := by decide +kernel
theorem dX5_wouldAnchor_2 : decode cX5_wouldAnchor 2 = .ok (.iload_n 3, 1) := by decide +kernel
theorem dX5_wouldAnchor_3 : decode cX5_wouldAnchor 3 = .ok (.iload 4, 2) := by decide +kernel
theorem dX5_wouldAnchor_5 : decode cX5_wouldAnchor 5 = .ok (.invokestatic 117, 3) := by decide +kernel
theorem dX5_wouldAnchor_8 : decode cX5_wouldAnchor 8 = .ok (.aload_n 0, 1) := by decide +kernel
theorem dX5_wouldAnchor_9 : decode cX5_wouldAnchor 9 = .ok (.getfield 16, 3) := by decide +kernel
theorem dX5_wouldAnchor_12 : decode cX5_wouldAnchor 12 = .ok (.aload_n 0, 1) := by decide +kernel
theorem dX5_wouldAnchor_13 : decode cX5_wouldAnchor 13 = .ok (.getfield 10, 3) := by decide +kernel
theorem dX5_wouldAnchor_16 : decode cX5_wouldAnchor 16 = .ok (.invokevirtual 190, 3) := by decide +kernel
theorem dX5_wouldAnchor_19 : decode cX5_wouldAnchor 19 = .ok (.iconst 0, 1) := by decide +kernel
theorem dX5_wouldAnchor_20 : decode cX5_wouldAnchor 20 = .ok (.istore 5, 2) := by decide +kernel
theorem dX5_wouldAnchor_22 : decode cX5_wouldAnchor 22 = .ok (.iconst 0, 1) := by decide +kernel
theorem dX5_wouldAnchor_23 : decode cX5_wouldAnchor 23 = .ok (.istore 6, 2) := by decide +kernel
theorem dX5_wouldAnchor_25 : decode cX5_wouldAnchor 25 = .ok (.iload 6, 2) := by decide +kernel
theorem dX5_wouldAnchor_27 : decode cX5_wouldAnchor 27 = .ok (.iload 4, 2) := by decide +kernel
theorem dX5_wouldAnchor_29 : decode cX5_wouldAnchor 29 = .ok (.if_icmp .ge 32, 3) := by decide +kernel
theorem dX5_wouldAnchor_32 : decode cX5_wouldAnchor 32 = .ok (.iload 5, 2) := by decide +kernel
theorem dX5_wouldAnchor_34 : decode cX5_wouldAnchor 34 = .ok (.aload_n 0, 1) := by decide +kernel
theorem dX5_wouldAnchor_35 : decode cX5_wouldAnchor 35 = .ok (.getfield 16, 3) := by decide +kernel
theorem dX5_wouldAnchor_38 : decode cX5_wouldAnchor 38 = .ok (.iload_n 1, 1) := by decide +kernel
theorem dX5_wouldAnchor_39 : decode cX5_wouldAnchor 39 = .ok (.aload_n 0, 1) := by decide +kernel
theorem dX5_wouldAnchor_40 : decode cX5_wouldAnchor 40 = .ok (.getfield 16, 3) := by decide +kernel
theorem dX5_wouldAnchor_43 : decode cX5_wouldAnchor 43 = .ok (.iload_n 1, 1) := by decide +kernel
theorem dX5_wouldAnchor_44 : decode cX5_wouldAnchor 44 = .ok (.iload_n 3, 1) := by decide +kernel
theorem dX5_wouldAnchor_45 : decode cX5_wouldAnchor 45 = .ok (.invokevirtual 121, 3) := by decide +kernel
theorem dX5_wouldAnchor_48 : decode cX5_wouldAnchor 48 = .ok (.iload_n 2, 1) := by decide +kernel
theorem dX5_wouldAnchor_49 : decode cX5_wouldAnchor 49 = .ok (.invokevirtual 108, 3) := by decide +kernel
theorem dX5_wouldAnchor_52 : decode cX5_wouldAnchor 52 = .ok (.ior, 1) := by decide +kernel
theorem dX5_wouldAnchor_53 : decode cX5_wouldAnchor 53 = .ok (.istore 5, 2) := by decide +kernel
theorem dX5_wouldAnchor_55 : decode cX5_wouldAnchor 55 = .ok (.iinc 6 1, 3) := by decide +kernel
theorem dX5_wouldAnchor_58 : decode cX5_wouldAnchor 58 = .ok (.goto (-33), 3) := by decide +kernel
theorem dX5_wouldAnchor_61 : decode cX5_wouldAnchor 61 = .ok (.iload 5, 2) := by decide +kernel
theorem dX5_wouldAnchor_63 : decode cX5_wouldAnchor 63 = .ok (.ireturn, 1) := by decide +kernel
set_option maxRecDepth 20000 in
theorem ggX5_append_X5_requireWithin : GoodIn wsX5_append wsX5_requireWithin := goodIn_ca (goodIn_r _ [7, 8, 9, 10, 11, 6, 12] (by decide +kernel) (by decide +kernel)) (goodIn_sub (fun _ h => List.mem_cons_of_mem _ (List.mem_append_right _ h)) (by decide +kernel))
set_option maxRecDepth 20000 in
theorem gX5_append_X5_requireWithin : GoodIn wsX5_append (va_wsS RX5 33 yX5_requireWithin wsX5_requireWithin) := goodIn_app (goodIn_of _ (by decide +kernel)) ggX5_append_X5_requireWithin
set_option maxRecDepth 20000 in
theorem ggX5_append_X4_isFull : GoodIn wsX5_append wsX4_isFull := goodIn_r _ [17, 18, 32, 33, 34, 35, 36, 37, 38] rfl (by decide +kernel)
set_option maxRecDepth 20000 in
theorem gX5_append_X4_isFull : GoodIn wsX5_append (wsV RX5 193 RX4 yX4_isFull wsX4_isFull) := goodIn_app (goodIn_of _ (by decide +kernel)) ggX5_append_X4_isFull
set_option maxRecDepth 20000 in
theorem ggX5_append_X4_add : GoodIn wsX5_append wsX4_add := goodIn_r _ [22, 18, 23, 32, 33, 34, 35, 36, 37, 38] rfl (by decide +kernel)
set_option maxRecDepth 20000 in
theorem gX5_append_X4_add : GoodIn wsX5_append (wsV RX5 202 RX4 yX4_add wsX4_add) := goodIn_app (goodIn_of _ (by decide +kernel)) ggX5_append_X4_add
set_option maxRecDepth 20000 in
theorem ggX5_append_X4_size : GoodIn wsX5_append wsX4_size := goodIn_r _ [27, 18, 32, 33, 34, 35, 36, 37, 38] rfl (by decide +kernel)
set_option maxRecDepth 20000 in
theorem gX5_append_X4_size : GoodIn wsX5_append (wsV RX5 205 RX4 yX4_size wsX4_size) := goodIn_app (goodIn_of _ (by decide +kernel)) ggX5_append_X4_size
theorem dX5_append_0 : decode cX5_append 0 = .ok (.iload_n 1, 1) := by decide +kernel
theorem dX5_append_1 : decode cX5_append 1 = .ok (.iconst 0, 1) := by decide +kernel
theorem dX5_append_2 : decode cX5_append 2 = .ok (.bipush 127, 2) := by decide +kernel
theorem dX5_append_4 : decode cX5_append 4 = .ok (.invokestatic 33, 3) := by decide +kernel
theorem dX5_append_7 : decode cX5_append 7 = .ok (.aload_n 0, 1) := by decide +kernel
theorem dX5_append_8 : decode cX5_append 8 = .ok (.getfield 29, 3) := by decide +kernel
theorem dX5_append_11 : decode cX5_append 11 = .ok (.invokevirtual 193, 3) := by decide +kernel
theorem dX5_append_14 : decode cX5_append 14 = .ok (.ifCond .eq 13, 3) := by decide +kernel
theorem dX5_append_17 : decode cX5_append 17 = .ok (.new 197, 3) := by decide +kernel
theorem dX5_append_20 : decode cX5_append 20 = .ok (.dup, 1) := by decide +kernel
theorem dX5_append_21 : decode cX5_append 21 = .ok (.ldc 199, 2) := by decide +kernel
theorem dX5_append_23 : decode cX5_append 23 = .ok (.invokespecial 201, 3) := by decide +kernel
theorem dX5_append_26 : decode cX5_append 26 = .ok (.athrow, 1) := by decide +kernel
theorem dX5_append_27 : decode cX5_append 27 = .ok (.aload_n 0, 1) := by decide +kernel
theorem dX5_append_28 : decode cX5_append 28 = .ok (.getfield 29, 3) := by decide +kernel
theorem dX5_append_31 : decode cX5_append 31 = .ok (.iload_n 1, 1) := by decide +kernel
theorem dX5_append_32 : decode cX5_append 32 = .ok (.invokevirtual 202, 3) := by decide +kernel
theorem dX5_append_35 : decode cX5_append 35 = .ok (.aload_n 0, 1) := by decide +kernel
theorem dX5_append_36 : decode cX5_append 36 = .ok (.getfield 29, 3) := by decide +kernel
theorem dX5_append_39 : decode cX5_append 39 = .ok (.invokevirtual 205, 3) := by decide +kernel
theorem dX5_append_42 : decode cX5_append 42 = .ok (.ireturn, 1) := by decide +kernel
set_option maxRecDepth 20000 in
theorem ggX5_clearText_X4_size : GoodIn wsX5_clearText wsX4_size := goodIn_r _ [6, 7, 16, 17, 18, 19, 20, 21, 22] rfl (by decide +kernel)
set_option maxRecDepth 20000 in
theorem gX5_clearText_X4_size : GoodIn wsX5_clearText (wsV RX5 205 RX4 yX4_size wsX4_size) := goodIn_app (goodIn_of _ (by decide +kernel)) ggX5_clearText_X4_size
set_option maxRecDepth 20000 in
theorem ggX5_clearText_X4_empty : GoodIn wsX5_clearText wsX4_empty := goodIn_r _ [11, 7, 16, 17, 18, 19, 20, 21, 22] rfl (by decide +kernel)
set_option maxRecDepth 20000 in
theorem gX5_clearText_X4_empty : GoodIn wsX5_clearText (wsV RX5 206 RX4 yX4_empty wsX4_empty) := goodIn_app (goodIn_of _ (by decide +kernel)) ggX5_clearText_X4_empty
theorem dX5_clearText_0 : decode cX5_clearText 0 = .ok (.aload_n 0, 1) := by decide +kernel
theorem dX5_clearText_1 : decode cX5_clearText 1 = .ok (.getfield 29, 3) := by decide +kernel
theorem dX5_clearText_4 : decode cX5_clearText 4 = .ok (.invokevirtual 205, 3) := by decide +kernel
theorem dX5_clearText_7 : decode cX5_clearText 7 = .ok (.istore_n 1, 1) := by decide +kernel
theorem dX5_clearText_8 : decode cX5_clearText 8 = .ok (.aload_n 0, 1) := by decide +kernel
theorem dX5_clearText_9 : decode cX5_clearText 9 = .ok (.getfield 29, 3) := by decide +kernel
theorem dX5_clearText_12 : decode cX5_clearText 12 = .ok (.invokevirtual 206, 3) := by decide +kernel
theorem dX5_clearText_15 : decode cX5_clearText 15 = .ok (.iload_n 1, 1) := by decide +kernel
theorem dX5_clearText_16 : decode cX5_clearText 16 = .ok (.ireturn, 1) := by decide +kernel
set_option maxRecDepth 20000 in
theorem ggX5_replay_X4_read : GoodIn wsX5_replay wsX4_read := goodIn_r _ [8, 9, 10, 11, 12, 13, 14, 15, 16, 7, 17, 18, 19, 20, 21, 22, 23, 216, 217, 218, 219, 220, 221, 222] rfl (by decide +kernel)
set_option maxRecDepth 20000 in
theorem gX5_replay_X4_read : GoodIn wsX5_replay (wsV RX5 209 RX4 yX4_read wsX4_read) := goodIn_app (goodIn_of _ (by decide +kernel)) ggX5_replay_X4_read
set_option maxRecDepth 20000 in
theorem ggX5_replay_X4_measurements : GoodIn wsX5_replay wsX4_measurements := goodIn_r _ [27, 9, 216, 217, 218, 219, 220, 221, 222] rfl (by decide +kernel)
set_option maxRecDepth 20000 in
theorem gX5_replay_X4_measurements : GoodIn wsX5_replay (wsV RX5 212 RX4 yX4_measurements wsX4_measurements) := goodIn_app (goodIn_of _ (by decide +kernel)) ggX5_replay_X4_measurements
set_option maxRecDepth 20000 in
theorem ggX5_replay_X4_number : GoodIn wsX5_replay wsX4_number := goodIn_r _ [31, 23, 216, 217, 218, 219, 220, 221, 222] rfl (by decide +kernel)
set_option maxRecDepth 20000 in
theorem gX5_replay_X4_number : GoodIn wsX5_replay (wsV RX5 215 RX4 yX4_number wsX4_number) := goodIn_app (goodIn_of _ (by decide +kernel)) ggX5_replay_X4_number
set_option maxRecDepth 20000 in
theorem ggX5_replay_X5_isMeasurement : GoodIn wsX5_replay wsX5_isMeasurement := goodIn_r _ [35, 36, 37, 38, 39, 34, 40] rfl (by decide +kernel)
set_option maxRecDepth 20000 in
theorem gX5_replay_X5_isMeasurement : GoodIn wsX5_replay (va_wsS RX5 218 yX5_isMeasurement wsX5_isMeasurement) := goodIn_app (goodIn_of _ (by decide +kernel)) ggX5_replay_X5_isMeasurement
set_option maxRecDepth 20000 in
theorem ggX5_replay_X3_save : GoodIn wsX5_replay wsX3_save := goodIn_r _ [45, 46, 47, 48, 49, 50, 44, 51, 52, 53, 54, 55, 56, 57, 58, 59, 60, 61, 62, 63, 64, 65, 66, 67, 68, 69, 70, 71, 72, 73, 74, 75, 76, 77, 78, 79, 80, 81, 82, 83, 84, 85, 86, 87, 88, 89, 90, 91, 92, 93, 94, 223, 224, 225, 226, 227, 228, 229, 230, 231, 232, 233, 234, 235, 236, 237, 238, 239, 240, 241, 242, 243, 244, 245, 246] rfl (by decide +kernel)
set_option maxRecDepth 20000 in
theorem gX5_replay_X3_save : GoodIn wsX5_replay (wsV RX5 37 RX3 yX3_save wsX3_save) := goodIn_app (goodIn_of _ (by decide +kernel)) ggX5_replay_X3_save
set_option maxRecDepth 20000 in
theorem ggX5_replay_X1_treat : GoodIn wsX5_replay wsX1_treat := goodIn_r _ [98, 57, 62, 77, 99, 100, 101, 55, 102, 66, 65, 67, 68, 69, 70, 103, 104, 105, 106, 71, 72, 107, 108, 109, 110, 111, 112, 34, 113, 114, 115, 116, 117, 118, 119, 120, 121, 122, 123, 124, 125, 126, 127, 128, 129, 130, 131, 132, 133, 134, 135, 136, 137, 138, 139, 140, 141, 142, 143, 144, 73, 145, 146, 147, 148, 149, 150, 151, 82, 152, 153, 154, 155, 156, 84, 86, 157, 158, 159, 160, 161, 162, 163, 164, 165, 166, 167, 168, 169, 75, 170, 171, 63, 172, 173, 174, 175, 176, 64, 177, 178, 179, 76, 180, 181, 182, 90, 183, 94, 184, 185, 186, 187, 188, 189, 190, 191, 92, 192, 193, 194, 195, 196, 197, 198, 199, 200, 201, 202, 203, 93, 59, 60, 61, 204, 205, 206, 207, 74, 208, 209, 210, 211, 78, 225, 226, 227, 228, 229, 230, 231, 232, 233, 234, 235, 236, 237, 238, 239, 240, 241, 242, 243, 244, 245, 246] rfl (by decide +kernel)
set_option maxRecDepth 20000 in
theorem gX5_replay_X1_treat : GoodIn wsX5_replay (wsV RX5 108 RX1 yX1_treat wsX1_treat) := goodIn_app (goodIn_of _ (by decide +kernel)) ggX5_replay_X1_treat
theorem dX5_replay_0 : decode cX5_replay 0 = .ok (.aload_n 0, 1) := by decide +kernel
theorem dX5_replay_1 : decode cX5_replay 1 = .ok (.getfield 29, 3) := by decide +kernel
theorem dX5_replay_4 : decode cX5_replay 4 = .ok (.invokevirtual 209, 3) := by decide +kernel
theorem dX5_replay_7 : decode cX5_replay 7 = .ok (.istore_n 1, 1) := by decide +kernel
theorem dX5_replay_8 : decode cX5_replay 8 = .ok (.iload_n 1, 1) := by decide +kernel
theorem dX5_replay_9 : decode cX5_replay 9 = .ok (.iconst (-1), 1) := by decide +kernel
theorem dX5_replay_10 : decode cX5_replay 10 = .ok (.if_icmp .eq 8, 3) := by decide +kernel
theorem dX5_replay_13 : decode cX5_replay 13 = .ok (.bipush (-10), 2) := by decide +kernel
theorem dX5_replay_15 : decode cX5_replay 15 = .ok (.iload_n 1, 1) := by decide +kernel
theorem dX5_replay_16 : decode cX5_replay 16 = .ok (.isub, 1) := by decide +kernel
theorem dX5_replay_17 : decode cX5_replay 17 = .ok (.ireturn, 1) := by decide +kernel
theorem dX5_replay_18 : decode cX5_replay 18 = .ok (.aload_n 0, 1) := by decide +kernel
theorem dX5_replay_19 : decode cX5_replay 19 = .ok (.getfield 29, 3) := by decide +kernel
theorem dX5_replay_22 : decode cX5_replay 22 = .ok (.invokevirtual 212, 3) := by decide +kernel
theorem dX5_replay_25 : decode cX5_replay 25 = .ok (.istore_n 2, 1) := by decide +kernel
theorem dX5_replay_26 : decode cX5_replay 26 = .ok (.iconst 0, 1) := by decide +kernel
theorem dX5_replay_27 : decode cX5_replay 27 = .ok (.istore_n 3, 1) := by decide +kernel
theorem dX5_replay_28 : decode cX5_replay 28 = .ok (.iload_n 3, 1) := by decide +kernel
theorem dX5_replay_29 : decode cX5_replay 29 = .ok (.iload_n 2, 1) := by decide +kernel
theorem dX5_replay_30 : decode cX5_replay 30 = .ok (.if_icmp .ge 48, 3) := by decide +kernel
theorem dX5_replay_33 : decode cX5_replay 33 = .ok (.aload_n 0, 1) := by decide +kernel
theorem dX5_replay_34 : decode cX5_replay 34 = .ok (.getfield 29, 3) := by decide +kernel
theorem dX5_replay_37 : decode cX5_replay 37 = .ok (.iload_n 3, 1) := by decide +kernel
theorem dX5_replay_38 : decode cX5_replay 38 = .ok (.iconst 0, 1) := by decide +kernel
theorem dX5_replay_39 : decode cX5_replay 39 = .ok (.invokevirtual 215, 3) := by decide +kernel
theorem dX5_replay_42 : decode cX5_replay 42 = .ok (.aload_n 0, 1) := by decide +kernel
theorem dX5_replay_43 : decode cX5_replay 43 = .ok (.getfield 29, 3) := by decide +kernel
theorem dX5_replay_46 : decode cX5_replay 46 = .ok (.iload_n 3, 1) := by decide +kernel
theorem dX5_replay_47 : decode cX5_replay 47 = .ok (.iconst 1, 1) := by decide +kernel
theorem dX5_replay_48 : decode cX5_replay 48 = .ok (.invokevirtual 215, 3) := by decide +kernel
theorem dX5_replay_51 : decode cX5_replay 51 = .ok (.aload_n 0, 1) := by decide +kernel
theorem dX5_replay_52 : decode cX5_replay 52 = .ok (.getfield 29, 3) := by decide +kernel
theorem dX5_replay_55 : decode cX5_replay 55 = .ok (.iload_n 3, 1) := by decide +kernel
theorem dX5_replay_56 : decode cX5_replay 56 = .ok (.iconst 2, 1) := by decide +kernel
theorem dX5_replay_57 : decode cX5_replay 57 = .ok (.invokevirtual 215, 3) := by decide +kernel
theorem dX5_replay_60 : decode cX5_replay 60 = .ok (.invokestatic 218, 3) := by decide +kernel
theorem dX5_replay_63 : decode cX5_replay 63 = .ok (.ifCond .ne 9, 3) := by decide +kernel
theorem dX5_replay_66 : decode cX5_replay 66 = .ok (.sipush (-1000), 3) := by decide +kernel
theorem dX5_replay_69 : decode cX5_replay 69 = .ok (.iload_n 3, 1) := by decide +kernel
theorem dX5_replay_70 : decode cX5_replay 70 = .ok (.isub, 1) := by decide +kernel
theorem dX5_replay_71 : decode cX5_replay 71 = .ok (.ireturn, 1) := by decide +kernel
theorem dX5_replay_72 : decode cX5_replay 72 = .ok (.iinc 3 1, 3) := by decide +kernel
theorem dX5_replay_75 : decode cX5_replay 75 = .ok (.goto (-47), 3) := by decide +kernel
theorem dX5_replay_78 : decode cX5_replay 78 = .ok (.aload_n 0, 1) := by decide +kernel
theorem dX5_replay_79 : decode cX5_replay 79 = .ok (.getfield 22, 3) := by decide +kernel
theorem dX5_replay_82 : decode cX5_replay 82 = .ok (.aload_n 0, 1) := by decide +kernel
theorem dX5_replay_83 : decode cX5_replay 83 = .ok (.getfield 10, 3) := by decide +kernel
theorem dX5_replay_86 : decode cX5_replay 86 = .ok (.invokevirtual 37, 3) := by decide +kernel
theorem dX5_replay_89 : decode cX5_replay 89 = .ok (.iconst 0, 1) := by decide +kernel
theorem dX5_replay_90 : decode cX5_replay 90 = .ok (.istore_n 3, 1) := by decide +kernel
theorem dX5_replay_91 : decode cX5_replay 91 = .ok (.iload_n 3, 1) := by decide +kernel
theorem dX5_replay_92 : decode cX5_replay 92 = .ok (.iload_n 2, 1) := by decide +kernel
theorem dX5_replay_93 : decode cX5_replay 93 = .ok (.if_icmp .ge 44, 3) := by decide +kernel
theorem dX5_replay_96 : decode cX5_replay 96 = .ok (.aload_n 0, 1) := by decide +kernel
theorem dX5_replay_97 : decode cX5_replay 97 = .ok (.getfield 10, 3) := by decide +kernel
theorem dX5_replay_100 : decode cX5_replay 100 = .ok (.aload_n 0, 1) := by decide +kernel
theorem dX5_replay_101 : decode cX5_replay 101 = .ok (.getfield 29, 3) := by decide +kernel
theorem dX5_replay_104 : decode cX5_replay 104 = .ok (.iload_n 3, 1) := by decide +kernel
theorem dX5_replay_105 : decode cX5_replay 105 = .ok (.iconst 0, 1) := by decide +kernel
theorem dX5_replay_106 : decode cX5_replay 106 = .ok (.invokevirtual 215, 3) := by decide +kernel
theorem dX5_replay_109 : decode cX5_replay 109 = .ok (.aload_n 0, 1) := by decide +kernel
theorem dX5_replay_110 : decode cX5_replay 110 = .ok (.getfield 29, 3) := by decide +kernel
theorem dX5_replay_113 : decode cX5_replay 113 = .ok (.iload_n 3, 1) := by decide +kernel
theorem dX5_replay_114 : decode cX5_replay 114 = .ok (.iconst 1, 1) := by decide +kernel
theorem dX5_replay_115 : decode cX5_replay 115 = .ok (.invokevirtual 215, 3) := by decide +kernel
theorem dX5_replay_118 : decode cX5_replay 118 = .ok (.aload_n 0, 1) := by decide +kernel
theorem dX5_replay_119 : decode cX5_replay 119 = .ok (.getfield 29, 3) := by decide +kernel
theorem dX5_replay_122 : decode cX5_replay 122 = .ok (.iload_n 3, 1) := by decide +kernel
theorem dX5_replay_123 : decode cX5_replay 123 = .ok (.iconst 2, 1) := by decide +kernel
theorem dX5_replay_124 : decode cX5_replay 124 = .ok (.invokevirtual 215, 3) := by decide +kernel
theorem dX5_replay_127 : decode cX5_replay 127 = .ok (.invokevirtual 108, 3) := by decide +kernel
theorem dX5_replay_130 : decode cX5_replay 130 = .ok (.pop, 1) := by decide +kernel
theorem dX5_replay_131 : decode cX5_replay 131 = .ok (.iinc 3 1, 3) := by decide +kernel
theorem dX5_replay_134 : decode cX5_replay 134 = .ok (.goto (-43), 3) := by decide +kernel
theorem dX5_replay_137 : decode cX5_replay 137 = .ok (.iload_n 2, 1) := by decide +kernel
theorem dX5_replay_138 : decode cX5_replay 138 = .ok (.ireturn, 1) := by decide +kernel
set_option maxRecDepth 20000 in
theorem ggX5_undo_X3_size : GoodIn wsX5_undo wsX3_size := goodIn_r _ [9, 10, 63, 64] rfl (by decide +kernel)
set_option maxRecDepth 20000 in
theorem gX5_undo_X3_size : GoodIn wsX5_undo (wsV RX5 221 RX3 yX3_size wsX3_size) := goodIn_app (goodIn_of _ (by decide +kernel)) ggX5_undo_X3_size
set_option maxRecDepth 20000 in
theorem ggX5_undo_X3_restore : GoodIn wsX5_undo wsX3_restore := goodIn_r _ [14, 10, 15, 16, 17, 18, 19, 20, 21, 22, 23, 24, 25, 26, 27, 28, 29, 30, 31, 32, 33, 34, 35, 36, 37, 38, 39, 40, 41, 42, 43, 44, 45, 46, 47, 48, 49, 50, 51, 52, 53, 54, 55, 56, 57, 58, 63, 64, 65, 66, 67, 68, 69, 70, 71, 72, 73, 74, 75, 76, 77, 78, 79, 80, 81, 82, 83, 84, 85, 86] rfl (by decide +kernel)
set_option maxRecDepth 20000 in
theorem gX5_undo_X3_restore : GoodIn wsX5_undo (wsV RX5 224 RX3 yX3_restore wsX3_restore) := goodIn_app (goodIn_of _ (by decide +kernel)) ggX5_undo_X3_restore
theorem dX5_undo_0 : decode cX5_undo 0 = .ok (.aload_n 0, 1) := by decide +kernel
theorem dX5_undo_1 : decode cX5_undo 1 = .ok (.getfield 22, 3) := by decide +kernel
theorem dX5_undo_4 : decode cX5_undo 4 = .ok (.invokevirtual 221, 3) := by decide +kernel
theorem dX5_undo_7 : decode cX5_undo 7 = .ok (.ifCond .ne 13, 3) := by decide +kernel
theorem dX5_undo_10 : decode cX5_undo 10 = .ok (.new 197, 3) := by decide +kernel
theorem dX5_undo_13 : decode cX5_undo 13 = .ok (.dup, 1) := by decide +kernel
theorem dX5_undo_14 : decode cX5_undo 14 = .ok (.ldc 222, 2) := by decide +kernel
theorem dX5_undo_16 : decode cX5_undo 16 = .ok (.invokespecial 201, 3) := by decide +kernel
theorem dX5_undo_19 : decode cX5_undo 19 = .ok (.athrow, 1) := by decide +kernel
theorem dX5_undo_20 : decode cX5_undo 20 = .ok (.aload_n 0, 1) := by decide +kernel
theorem dX5_undo_21 : decode cX5_undo 21 = .ok (.getfield 22, 3) := by decide +kernel
theorem dX5_undo_24 : decode cX5_undo 24 = .ok (.aload_n 0, 1) := by decide +kernel
theorem dX5_undo_25 : decode cX5_undo 25 = .ok (.getfield 10, 3) := by decide +kernel
theorem dX5_undo_28 : decode cX5_undo 28 = .ok (.invokevirtual 224, 3) := by decide +kernel
theorem dX5_undo_31 : decode cX5_undo 31 = .ok (.aload_n 0, 1) := by decide +kernel
theorem dX5_undo_32 : decode cX5_undo 32 = .ok (.getfield 22, 3) := by decide +kernel
theorem dX5_undo_35 : decode cX5_undo 35 = .ok (.invokevirtual 221, 3) := by decide +kernel
theorem dX5_undo_38 : decode cX5_undo 38 = .ok (.ireturn, 1) := by decide +kernel
set_option maxRecDepth 20000 in
theorem ggX5_digest_X4_size : GoodIn wsX5_digest wsX4_size := goodIn_r _ [9, 10, 100, 101, 102, 103, 104, 105, 106] rfl (by decide +kernel)
set_option maxRecDepth 20000 in
theorem gX5_digest_X4_size : GoodIn wsX5_digest (wsV RX5 205 RX4 yX4_size wsX4_size) := goodIn_app (goodIn_of _ (by decide +kernel)) ggX5_digest_X4_size
set_option maxRecDepth 20000 in
theorem ggX5_digest_X5_mix : GoodIn wsX5_digest wsX5_mix := goodIn_r _ [14, 15] rfl (by decide +kernel)
set_option maxRecDepth 20000 in
theorem gX5_digest_X5_mix : GoodIn wsX5_digest (va_wsS RX5 229 yX5_mix wsX5_mix) := goodIn_app (goodIn_of _ (by decide +kernel)) ggX5_digest_X5_mix
set_option maxRecDepth 20000 in
theorem ggX5_digest_X1_mixInto : GoodIn wsX5_digest wsX1_mixInto := goodIn_r _ [20, 21, 22, 23, 12, 13, 14, 15, 24, 25, 26, 27, 28, 29, 30, 31, 32, 33, 19, 34, 35, 36, 37, 38, 39, 40, 41, 42, 43, 44, 45, 46, 47, 48, 49, 50, 51, 52, 53, 54, 55, 56, 57, 58, 59, 60, 82, 83, 84, 85, 86, 87, 88, 89, 90, 91, 92, 93, 94, 95, 96, 97, 98, 99, 107, 108] rfl (by decide +kernel)
set_option maxRecDepth 20000 in
theorem gX5_digest_X1_mixInto : GoodIn wsX5_digest (wsV RX5 233 RX1 yX1_mixInto wsX1_mixInto) := goodIn_app (goodIn_of _ (by decide +kernel)) ggX5_digest_X1_mixInto
set_option maxRecDepth 20000 in
theorem ggX5_digest_X0_mixInto : GoodIn wsX5_digest wsX0_mixInto := goodIn_r _ [65, 66, 67, 68, 69, 70, 71, 12, 13, 14, 15, 109, 110] rfl (by decide +kernel)
set_option maxRecDepth 20000 in
theorem gX5_digest_X0_mixInto : GoodIn wsX5_digest (wsV RX5 237 RX0 yX0_mixInto wsX0_mixInto) := goodIn_app (goodIn_of _ (by decide +kernel)) ggX5_digest_X0_mixInto
set_option maxRecDepth 20000 in
theorem ggX5_digest_X3_size : GoodIn wsX5_digest wsX3_size := goodIn_r _ [76, 77, 111, 112] rfl (by decide +kernel)
set_option maxRecDepth 20000 in
theorem gX5_digest_X3_size : GoodIn wsX5_digest (wsV RX5 221 RX3 yX3_size wsX3_size) := goodIn_app (goodIn_of _ (by decide +kernel)) ggX5_digest_X3_size
theorem dX5_digest_0 : decode cX5_digest 0 = .ok (.ldc2_w 227, 3) := by decide +kernel
theorem dX5_digest_3 : decode cX5_digest 3 = .ok (.aload_n 0, 1) := by decide +kernel
theorem dX5_digest_4 : decode cX5_digest 4 = .ok (.getfield 29, 3) := by decide +kernel
theorem dX5_digest_7 : decode cX5_digest 7 = .ok (.invokevirtual 205, 3) := by decide +kernel
theorem dX5_digest_10 : decode cX5_digest 10 = .ok (.i2l, 1) := by decide +kernel
theorem dX5_digest_11 : decode cX5_digest 11 = .ok (.invokestatic 229, 3) := by decide +kernel
theorem dX5_digest_14 : decode cX5_digest 14 = .ok (.lstore_n 1, 1) := by decide +kernel
theorem dX5_digest_15 : decode cX5_digest 15 = .ok (.aload_n 0, 1) := by decide +kernel
theorem dX5_digest_16 : decode cX5_digest 16 = .ok (.getfield 10, 3) := by decide +kernel
theorem dX5_digest_19 : decode cX5_digest 19 = .ok (.lload_n 1, 1) := by decide +kernel
theorem dX5_digest_20 : decode cX5_digest 20 = .ok (.invokevirtual 233, 3) := by decide +kernel
theorem dX5_digest_23 : decode cX5_digest 23 = .ok (.lstore_n 1, 1) := by decide +kernel
theorem dX5_digest_24 : decode cX5_digest 24 = .ok (.aload_n 0, 1) := by decide +kernel
theorem dX5_digest_25 : decode cX5_digest 25 = .ok (.getfield 10, 3) := by decide +kernel
theorem dX5_digest_28 : decode cX5_digest 28 = .ok (.getfield 41, 3) := by decide +kernel
theorem dX5_digest_31 : decode cX5_digest 31 = .ok (.lload_n 1, 1) := by decide +kernel
theorem dX5_digest_32 : decode cX5_digest 32 = .ok (.invokevirtual 237, 3) := by decide +kernel
theorem dX5_digest_35 : decode cX5_digest 35 = .ok (.lstore_n 1, 1) := by decide +kernel
theorem dX5_digest_36 : decode cX5_digest 36 = .ok (.lload_n 1, 1) := by decide +kernel
theorem dX5_digest_37 : decode cX5_digest 37 = .ok (.aload_n 0, 1) := by decide +kernel
theorem dX5_digest_38 : decode cX5_digest 38 = .ok (.getfield 22, 3) := by decide +kernel
theorem dX5_digest_41 : decode cX5_digest 41 = .ok (.invokevirtual 221, 3) := by decide +kernel
theorem dX5_digest_44 : decode cX5_digest 44 = .ok (.i2l, 1) := by decide +kernel
theorem dX5_digest_45 : decode cX5_digest 45 = .ok (.invokestatic 229, 3) := by decide +kernel
theorem dX5_digest_48 : decode cX5_digest 48 = .ok (.lreturn, 1) := by decide +kernel
theorem dX5_isWithin_0 : decode cX5_isWithin 0 = .ok (.iload_n 0, 1) := by decide +kernel
theorem dX5_isWithin_1 : decode cX5_isWithin 1 = .ok (.iload_n 1, 1) := by decide +kernel
theorem dX5_isWithin_2 : decode cX5_isWithin 2 = .ok (.if_icmp .lt 12, 3) := by decide +kernel
theorem dX5_isWithin_5 : decode cX5_isWithin 5 = .ok (.iload_n 0, 1) := by decide +kernel
theorem dX5_isWithin_6 : decode cX5_isWithin 6 = .ok (.iload_n 2, 1) := by decide +kernel
theorem dX5_isWithin_7 : decode cX5_isWithin 7 = .ok (.if_icmp .gt 7, 3) := by decide +kernel
theorem dX5_isWithin_10 : decode cX5_isWithin 10 = .ok (.iconst 1, 1) := by decide +kernel
theorem dX5_isWithin_11 : decode cX5_isWithin 11 = .ok (.goto 4, 3) := by decide +kernel
theorem dX5_isWithin_14 : decode cX5_isWithin 14 = .ok (.iconst 0, 1) := by decide +kernel
theorem dX5_isWithin_15 : decode cX5_isWithin 15 = .ok (.ireturn, 1) := by decide +kernel
set_option maxRecDepth 20000 in
theorem ggX5_isMeasurement_X5_isWithin : GoodIn wsX5_isMeasurement wsX5_isWithin := goodIn_r _ [6] rfl (by decide +kernel)
set_option maxRecDepth 20000 in
theorem gX5_isMeasurement_X5_isWithin : GoodIn wsX5_isMeasurement (va_wsS RX5 238 yX5_isWithin wsX5_isWithin) := goodIn_app (goodIn_of _ (by decide +kernel)) ggX5_isMeasurement_X5_isWithin
theorem dX5_isMeasurement_0 : decode cX5_isMeasurement 0 = .ok (.iload_n 0, 1) := by decide +kernel
theorem dX5_isMeasurement_1 : decode cX5_isMeasurement 1 = .ok (.ldc 165, 2) := by decide +kernel
theorem dX5_isMeasurement_3 : decode cX5_isMeasurement 3 = .ok (.ldc 166, 2) := by decide +kernel
theorem dX5_isMeasurement_5 : decode cX5_isMeasurement 5 = .ok (.invokestatic 238, 3) := by decide +kernel
theorem dX5_isMeasurement_8 : decode cX5_isMeasurement 8 = .ok (.ifCond .eq 29, 3) := by decide +kernel
theorem dX5_isMeasurement_11 : decode cX5_isMeasurement 11 = .ok (.iload_n 1, 1) := by decide +kernel
theorem dX5_isMeasurement_12 : decode cX5_isMeasurement 12 = .ok (.iconst 0, 1) := by decide +kernel
theorem dX5_isMeasurement_13 : decode cX5_isMeasurement 13 = .ok (.sipush 6000, 3) := by decide +kernel
theorem dX5_isMeasurement_16 : decode cX5_isMeasurement 16 = .ok (.invokestatic 238, 3) := by decide +kernel
theorem dX5_isMeasurement_19 : decode cX5_isMeasurement 19 = .ok (.ifCond .eq 18, 3) := by decide +kernel
theorem dX5_isMeasurement_22 : decode cX5_isMeasurement 22 = .ok (.iload_n 2, 1) := by decide +kernel
theorem dX5_isMeasurement_23 : decode cX5_isMeasurement 23 = .ok (.iconst 1, 1) := by decide +kernel
theorem dX5_isMeasurement_24 : decode cX5_isMeasurement 24 = .ok (.sipush 600, 3) := by decide +kernel
theorem dX5_isMeasurement_27 : decode cX5_isMeasurement 27 = .ok (.invokestatic 238, 3) := by decide +kernel
theorem dX5_isMeasurement_30 : decode cX5_isMeasurement 30 = .ok (.ifCond .eq 7, 3) := by decide +kernel
theorem dX5_isMeasurement_33 : decode cX5_isMeasurement 33 = .ok (.iconst 1, 1) := by decide +kernel
theorem dX5_isMeasurement_34 : decode cX5_isMeasurement 34 = .ok (.goto 4, 3) := by decide +kernel
theorem dX5_isMeasurement_37 : decode cX5_isMeasurement 37 = .ok (.iconst 0, 1) := by decide +kernel
theorem dX5_isMeasurement_38 : decode cX5_isMeasurement 38 = .ok (.ireturn, 1) := by decide +kernel
set_option maxRecDepth 20000 in
theorem ggX5_requireWithin_X5_isWithin : GoodIn wsX5_requireWithin wsX5_isWithin := goodIn_r _ [6] rfl (by decide +kernel)
set_option maxRecDepth 20000 in
theorem gX5_requireWithin_X5_isWithin : GoodIn wsX5_requireWithin (va_wsS RX5 238 yX5_isWithin wsX5_isWithin) := goodIn_app (goodIn_of _ (by decide +kernel)) ggX5_requireWithin_X5_isWithin
theorem dX5_requireWithin_0 : decode cX5_requireWithin 0 = .ok (.iload_n 0, 1) := by decide +kernel
theorem dX5_requireWithin_1 : decode cX5_requireWithin 1 = .ok (.iload_n 1, 1) := by decide +kernel
theorem dX5_requireWithin_2 : decode cX5_requireWithin 2 = .ok (.iload_n 2, 1) := by decide +kernel
theorem dX5_requireWithin_3 : decode cX5_requireWithin 3 = .ok (.invokestatic 238, 3) := by decide +kernel
theorem dX5_requireWithin_6 : decode cX5_requireWithin 6 = .ok (.ifCond .ne 13, 3) := by decide +kernel
theorem dX5_requireWithin_9 : decode cX5_requireWithin 9 = .ok (.new 88, 3) := by decide +kernel
theorem dX5_requireWithin_12 : decode cX5_requireWithin 12 = .ok (.dup, 1) := by decide +kernel
theorem dX5_requireWithin_13 : decode cX5_requireWithin 13 = .ok (.ldc 241, 2) := by decide +kernel
theorem dX5_requireWithin_15 : decode cX5_requireWithin 15 = .ok (.invokespecial 92, 3) := by decide +kernel
theorem dX5_requireWithin_18 : decode cX5_requireWithin 18 = .ok (.athrow, 1) := by decide +kernel
theorem dX5_requireWithin_19 : decode cX5_requireWithin 19 = .ok (.return_, 1) := by decide +kernel
theorem dX5_requirePoint_0 : decode cX5_requirePoint 0 = .ok (.iload_n 0, 1) := by decide +kernel
theorem dX5_requirePoint_1 : decode cX5_requirePoint 1 = .ok (.ifCond .lt 9, 3) := by decide +kernel
theorem dX5_requirePoint_4 : decode cX5_requirePoint 4 = .ok (.iload_n 0, 1) := by decide +kernel
theorem dX5_requirePoint_5 : decode cX5_requirePoint 5 = .ok (.bipush 11, 2) := by decide +kernel
theorem dX5_requirePoint_7 : decode cX5_requirePoint 7 = .ok (.if_icmp .lt 13, 3) := by decide +kernel
theorem dX5_requirePoint_10 : decode cX5_requirePoint 10 = .ok (.new 157, 3) := by decide +kernel
theorem dX5_requirePoint_13 : decode cX5_requirePoint 13 = .ok (.dup, 1) := by decide +kernel
theorem dX5_requirePoint_14 : decode cX5_requirePoint 14 = .ok (.ldc 243, 2) := by decide +kernel
theorem dX5_requirePoint_16 : decode cX5_requirePoint 16 = .ok (.invokespecial 161, 3) := by decide +kernel
theorem dX5_requirePoint_19 : decode cX5_requirePoint 19 = .ok (.athrow, 1) := by decide +kernel
theorem dX5_requirePoint_20 : decode cX5_requirePoint 20 = .ok (.return_, 1) := by decide +kernel
set_option maxRecDepth 20000 in
theorem ggX5_requireMeasurement_X5_isMeasurement : GoodIn wsX5_requireMeasurement wsX5_isMeasurement := goodIn_r _ [6, 7, 8, 9, 10, 5, 11] rfl (by decide +kernel)
set_option maxRecDepth 20000 in
theorem gX5_requireMeasurement_X5_isMeasurement : GoodIn wsX5_requireMeasurement (va_wsS RX5 218 yX5_isMeasurement wsX5_isMeasurement) := goodIn_app (goodIn_of _ (by decide +kernel)) ggX5_requireMeasurement_X5_isMeasurement
theorem dX5_requireMeasurement_0 : decode cX5_requireMeasurement 0 = .ok (.iload_n 0, 1) := by decide +kernel
theorem dX5_requireMeasurement_1 : decode cX5_requireMeasurement 1 = .ok (.iload_n 1, 1) := by decide +kernel
theorem dX5_requireMeasurement_2 : decode cX5_requireMeasurement 2 = .ok (.iload_n 2, 1) := by decide +kernel
theorem dX5_requireMeasurement_3 : decode cX5_requireMeasurement 3 = .ok (.invokestatic 218, 3) := by decide +kernel
theorem dX5_requireMeasurement_6 : decode cX5_requireMeasurement 6 = .ok (.ifCond .ne 13, 3) := by decide +kernel
theorem dX5_requireMeasurement_9 : decode cX5_requireMeasurement 9 = .ok (.new 88, 3) := by decide +kernel
theorem dX5_requireMeasurement_12 : decode cX5_requireMeasurement 12 = .ok (.dup, 1) := by decide +kernel
theorem dX5_requireMeasurement_13 : decode cX5_requireMeasurement 13 = .ok (.ldc 245, 2) := by decide +kernel
theorem dX5_requireMeasurement_15 : decode cX5_requireMeasurement 15 = .ok (.invokespecial 92, 3) := by decide +kernel
theorem dX5_requireMeasurement_18 : decode cX5_requireMeasurement 18 = .ok (.athrow, 1) := by decide +kernel
theorem dX5_requireMeasurement_19 : decode cX5_requireMeasurement 19 = .ok (.return_, 1) := by decide +kernel
set_option maxRecDepth 20000 in
theorem ggX5_requireModel_X5_requireMeasurement : GoodIn wsX5_requireModel wsX5_requireMeasurement := goodIn_ca (goodIn_r _ [4, 5, 6, 7, 8, 3, 9, 10, 11, 12, 13, 14] (by decide +kernel) (by decide +kernel)) (goodIn_sub (fun _ h => List.mem_cons_of_mem _ (List.mem_append_right _ h)) (by decide +kernel))
set_option maxRecDepth 20000 in
theorem gX5_requireModel_X5_requireMeasurement : GoodIn wsX5_requireModel (va_wsS RX5 105 yX5_requireMeasurement wsX5_requireMeasurement) := goodIn_app (goodIn_of _ (by decide +kernel)) ggX5_requireModel_X5_requireMeasurement
set_option maxRecDepth 20000 in
theorem ggX5_requireModel_X5_requireWithin : GoodIn wsX5_requireModel wsX5_requireWithin := goodIn_ca (goodIn_r _ [17, 5, 6, 12, 13, 3, 14] (by decide +kernel) (by decide +kernel)) (goodIn_sub (fun _ h => List.mem_cons_of_mem _ (List.mem_append_right _ h)) (by decide +kernel))
set_option maxRecDepth 20000 in
theorem gX5_requireModel_X5_requireWithin : GoodIn wsX5_requireModel (va_wsS RX5 33 yX5_requireWithin wsX5_requireWithin) := goodIn_app (goodIn_of _ (by decide +kernel)) ggX5_requireModel_X5_requireWithin
theorem dX5_requireModel_0 : decode cX5_requireModel 0 = .ok (.iload_n 0, 1) := by decide +kernel
theorem dX5_requireModel_1 : decode cX5_requireModel 1 = .ok (.iconst 0, 1) := by decide +kernel
theorem dX5_requireModel_2 : decode cX5_requireModel 2 = .ok (.iload_n 1, 1) := by decide +kernel
theorem dX5_requireModel_3 : decode cX5_requireModel 3 = .ok (.invokestatic 105, 3) := by decide +kernel
theorem dX5_requireModel_6 : decode cX5_requireModel 6 = .ok (.iload_n 2, 1) := by decide +kernel
theorem dX5_requireModel_7 : decode cX5_requireModel 7 = .ok (.iconst 0, 1) := by decide +kernel
theorem dX5_requireModel_8 : decode cX5_requireModel 8 = .ok (.sipush 1000, 3) := by decide +kernel
theorem dX5_requireModel_11 : decode cX5_requireModel 11 = .ok (.invokestatic 33, 3) := by decide +kernel
theorem dX5_requireModel_14 : decode cX5_requireModel 14 = .ok (.iload_n 3, 1) := by decide +kernel
theorem dX5_requireModel_15 : decode cX5_requireModel 15 = .ok (.iconst 0, 1) := by decide +kernel
theorem dX5_requireModel_16 : decode cX5_requireModel 16 = .ok (.sipush 500, 3) := by decide +kernel
theorem dX5_requireModel_19 : decode cX5_requireModel 19 = .ok (.invokestatic 33, 3) := by decide +kernel
theorem dX5_requireModel_22 : decode cX5_requireModel 22 = .ok (.return_, 1) := by decide +kernel
theorem dX5_clamp_0 : decode cX5_clamp 0 = .ok (.lload_n 0, 1) := by decide +kernel
theorem dX5_clamp_1 : decode cX5_clamp 1 = .ok (.lload_n 2, 1) := by decide +kernel
theorem dX5_clamp_2 : decode cX5_clamp 2 = .ok (.invokestatic 247, 3) := by decide +kernel
theorem dX5_clamp_5 : decode cX5_clamp 5 = .ok (.lload 4, 2) := by decide +kernel
theorem dX5_clamp_7 : decode cX5_clamp 7 = .ok (.invokestatic 252, 3) := by decide +kernel
theorem dX5_clamp_10 : decode cX5_clamp 10 = .ok (.lreturn, 1) := by decide +kernel
theorem dX5_mix_0 : decode cX5_mix 0 = .ok (.ldc2_w 255, 3) := by decide +kernel
theorem dX5_mix_3 : decode cX5_mix 3 = .ok (.lload_n 0, 1) := by decide +kernel
theorem dX5_mix_4 : decode cX5_mix 4 = .ok (.lmul, 1) := by decide +kernel
theorem dX5_mix_5 : decode cX5_mix 5 = .ok (.lload_n 2, 1) := by decide +kernel
theorem dX5_mix_6 : decode cX5_mix 6 = .ok (.ladd, 1) := by decide +kernel
theorem dX5_mix_7 : decode cX5_mix 7 = .ok (.lreturn, 1) := by decide +kernel
theorem dX5_bitsOf_0 : decode cX5_bitsOf 0 = .ok (.fload_n 0, 1) := by decide +kernel
theorem dX5_bitsOf_1 : decode cX5_bitsOf 1 = .ok (.fstore_n 1, 1) := by decide +kernel
theorem dX5_bitsOf_2 : decode cX5_bitsOf 2 = .ok (.bipush 127, 2) := by decide +kernel
theorem dX5_bitsOf_4 : decode cX5_bitsOf 4 = .ok (.istore_n 2, 1) := by decide +kernel
theorem dX5_bitsOf_5 : decode cX5_bitsOf 5 = .ok (.iconst 0, 1) := by decide +kernel
theorem dX5_bitsOf_6 : decode cX5_bitsOf 6 = .ok (.istore_n 3, 1) := by decide +kernel
theorem dX5_bitsOf_7 : decode cX5_bitsOf 7 = .ok (.iload_n 3, 1) := by decide +kernel
theorem dX5_bitsOf_8 : decode cX5_bitsOf 8 = .ok (.bipush 126, 2) := by decide +kernel
theorem dX5_bitsOf_10 : decode cX5_bitsOf 10 = .ok (.if_icmp .ge 22, 3) := by decide +kernel
theorem dX5_bitsOf_13 : decode cX5_bitsOf 13 = .ok (.fload_n 1, 1) := by decide +kernel
theorem dX5_bitsOf_14 : decode cX5_bitsOf 14 = .ok (.fconst 1, 1) := by decide +kernel
theorem dX5_bitsOf_15 : decode cX5_bitsOf 15 = .ok (.fcmp .g, 1) := by decide +kernel
theorem dX5_bitsOf_16 : decode cX5_bitsOf 16 = .ok (.ifCond .ge 16, 3) := by decide +kernel
theorem dX5_bitsOf_19 : decode cX5_bitsOf 19 = .ok (.fload_n 1, 1) := by decide +kernel
theorem dX5_bitsOf_20 : decode cX5_bitsOf 20 = .ok (.fconst 2, 1) := by decide +kernel
theorem dX5_bitsOf_21 : decode cX5_bitsOf 21 = .ok (.fmul, 1) := by decide +kernel
theorem dX5_bitsOf_22 : decode cX5_bitsOf 22 = .ok (.fstore_n 1, 1) := by decide +kernel
theorem dX5_bitsOf_23 : decode cX5_bitsOf 23 = .ok (.iinc 2 (-1), 3) := by decide +kernel
theorem dX5_bitsOf_26 : decode cX5_bitsOf 26 = .ok (.iinc 3 1, 3) := by decide +kernel
theorem dX5_bitsOf_29 : decode cX5_bitsOf 29 = .ok (.goto (-22), 3) := by decide +kernel
theorem dX5_bitsOf_32 : decode cX5_bitsOf 32 = .ok (.iload_n 2, 1) := by decide +kernel
theorem dX5_bitsOf_33 : decode cX5_bitsOf 33 = .ok (.bipush 23, 2) := by decide +kernel
theorem dX5_bitsOf_35 : decode cX5_bitsOf 35 = .ok (.ishl, 1) := by decide +kernel
theorem dX5_bitsOf_36 : decode cX5_bitsOf 36 = .ok (.fload_n 1, 1) := by decide +kernel
theorem dX5_bitsOf_37 : decode cX5_bitsOf 37 = .ok (.fconst 1, 1) := by decide +kernel
theorem dX5_bitsOf_38 : decode cX5_bitsOf 38 = .ok (.fsub, 1) := by decide +kernel
theorem dX5_bitsOf_39 : decode cX5_bitsOf 39 = .ok (.ldc_w 257, 3) := by decide +kernel
theorem dX5_bitsOf_42 : decode cX5_bitsOf 42 = .ok (.fmul, 1) := by decide +kernel
theorem dX5_bitsOf_43 : decode cX5_bitsOf 43 = .ok (.f2i, 1) := by decide +kernel
theorem dX5_bitsOf_44 : decode cX5_bitsOf 44 = .ok (.iadd, 1) := by decide +kernel
theorem dX5_bitsOf_45 : decode cX5_bitsOf 45 = .ok (.ireturn, 1) := by decide +kernel
theorem dJxf58ca_isNaN_12338_0 : decode cJxf58ca_isNaN_12338 0 = .ok (.fload_n 0, 1) := by decide +kernel
theorem dJxf58ca_isNaN_12338_1 : decode cJxf58ca_isNaN_12338 1 = .ok (.fload_n 0, 1) := by decide +kernel
theorem dJxf58ca_isNaN_12338_2 : decode cJxf58ca_isNaN_12338 2 = .ok (.fcmp .l, 1) := by decide +kernel
theorem dJxf58ca_isNaN_12338_3 : decode cJxf58ca_isNaN_12338 3 = .ok (.ifCond .eq 7, 3) := by decide +kernel
theorem dJxf58ca_isNaN_12338_6 : decode cJxf58ca_isNaN_12338 6 = .ok (.iconst 1, 1) := by decide +kernel
theorem dJxf58ca_isNaN_12338_7 : decode cJxf58ca_isNaN_12338 7 = .ok (.goto 4, 3) := by decide +kernel
theorem dJxf58ca_isNaN_12338_10 : decode cJxf58ca_isNaN_12338 10 = .ok (.iconst 0, 1) := by decide +kernel
theorem dJxf58ca_isNaN_12338_11 : decode cJxf58ca_isNaN_12338 11 = .ok (.ireturn, 1) := by decide +kernel
set_option maxRecDepth 20000 in
theorem ggJxf58ca_floatToIntBits_5c35a_Jxf58ca_isNaN_12338 : GoodIn wsJxf58ca_floatToIntBits_5c35a wsJxf58ca_isNaN_12338 := goodIn_r _ [9] rfl (by decide +kernel)
set_option maxRecDepth 20000 in
theorem gJxf58ca_floatToIntBits_5c35a_Jxf58ca_isNaN_12338 : GoodIn wsJxf58ca_floatToIntBits_5c35a (va_wsS RJxf58ca 59 yJxf58ca_isNaN_12338 wsJxf58ca_isNaN_12338) := goodIn_app (goodIn_of _ (by decide +kernel)) ggJxf58ca_floatToIntBits_5c35a_Jxf58ca_isNaN_12338
theorem dJxf58ca_floatToIntBits_5c35a_0 : decode cJxf58ca_floatToIntBits_5c35a 0 = .ok (.fload_n 0, 1) := by decide +kernel
theorem dJxf58ca_floatToIntBits_5c35a_1 : decode cJxf58ca_floatToIntBits_5c35a 1 = .ok (.invokestatic 59, 3) := by decide +kernel
theorem dJxf58ca_floatToIntBits_5c35a_4 : decode cJxf58ca_floatToIntBits_5c35a 4 = .ok (.ifCond .ne 8, 3) := by decide +kernel
theorem dJxf58ca_floatToIntBits_5c35a_7 : decode cJxf58ca_floatToIntBits_5c35a 7 = .ok (.fload_n 0, 1) := by decide +kernel
theorem dJxf58ca_floatToIntBits_5c35a_8 : decode cJxf58ca_floatToIntBits_5c35a 8 = .ok (.invokestatic 74, 3) := by decide +kernel
theorem dJxf58ca_floatToIntBits_5c35a_11 : decode cJxf58ca_floatToIntBits_5c35a 11 = .ok (.ireturn, 1) := by decide +kernel
theorem dJxf58ca_floatToIntBits_5c35a_12 : decode cJxf58ca_floatToIntBits_5c35a 12 = .ok (.ldc 77, 2) := by decide +kernel
theorem dJxf58ca_floatToIntBits_5c35a_14 : decode cJxf58ca_floatToIntBits_5c35a 14 = .ok (.ireturn, 1) := by decide +kernel
theorem dJ6_bitCount_0f7a4_0 : decode cJ6_bitCount_0f7a4 0 = .ok (.iload_n 0, 1) := by decide +kernel
theorem dJ6_bitCount_0f7a4_1 : decode cJ6_bitCount_0f7a4 1 = .ok (.iload_n 0, 1) := by decide +kernel
theorem dJ6_bitCount_0f7a4_2 : decode cJ6_bitCount_0f7a4 2 = .ok (.iconst 1, 1) := by decide +kernel
theorem dJ6_bitCount_0f7a4_3 : decode cJ6_bitCount_0f7a4 3 = .ok (.iushr, 1) := by decide +kernel
theorem dJ6_bitCount_0f7a4_4 : decode cJ6_bitCount_0f7a4 4 = .ok (.ldc_w 265, 3) := by decide +kernel
theorem dJ6_bitCount_0f7a4_7 : decode cJ6_bitCount_0f7a4 7 = .ok (.iand, 1) := by decide +kernel
theorem dJ6_bitCount_0f7a4_8 : decode cJ6_bitCount_0f7a4 8 = .ok (.isub, 1) := by decide +kernel
theorem dJ6_bitCount_0f7a4_9 : decode cJ6_bitCount_0f7a4 9 = .ok (.istore_n 0, 1) := by decide +kernel
theorem dJ6_bitCount_0f7a4_10 : decode cJ6_bitCount_0f7a4 10 = .ok (.iload_n 0, 1) := by decide +kernel
theorem dJ6_bitCount_0f7a4_11 : decode cJ6_bitCount_0f7a4 11 = .ok (.ldc_w 266, 3) := by decide +kernel
theorem dJ6_bitCount_0f7a4_14 : decode cJ6_bitCount_0f7a4 14 = .ok (.iand, 1) := by decide +kernel
theorem dJ6_bitCount_0f7a4_15 : decode cJ6_bitCount_0f7a4 15 = .ok (.iload_n 0, 1) := by decide +kernel
theorem dJ6_bitCount_0f7a4_16 : decode cJ6_bitCount_0f7a4 16 = .ok (.iconst 2, 1) := by decide +kernel
theorem dJ6_bitCount_0f7a4_17 : decode cJ6_bitCount_0f7a4 17 = .ok (.iushr, 1) := by decide +kernel
theorem dJ6_bitCount_0f7a4_18 : decode cJ6_bitCount_0f7a4 18 = .ok (.ldc_w 266, 3) := by decide +kernel
theorem dJ6_bitCount_0f7a4_21 : decode cJ6_bitCount_0f7a4 21 = .ok (.iand, 1) := by decide +kernel
theorem dJ6_bitCount_0f7a4_22 : decode cJ6_bitCount_0f7a4 22 = .ok (.iadd, 1) := by decide +kernel
theorem dJ6_bitCount_0f7a4_23 : decode cJ6_bitCount_0f7a4 23 = .ok (.istore_n 0, 1) := by decide +kernel
theorem dJ6_bitCount_0f7a4_24 : decode cJ6_bitCount_0f7a4 24 = .ok (.iload_n 0, 1) := by decide +kernel
theorem dJ6_bitCount_0f7a4_25 : decode cJ6_bitCount_0f7a4 25 = .ok (.iload_n 0, 1) := by decide +kernel
theorem dJ6_bitCount_0f7a4_26 : decode cJ6_bitCount_0f7a4 26 = .ok (.iconst 4, 1) := by decide +kernel
theorem dJ6_bitCount_0f7a4_27 : decode cJ6_bitCount_0f7a4 27 = .ok (.iushr, 1) := by decide +kernel
theorem dJ6_bitCount_0f7a4_28 : decode cJ6_bitCount_0f7a4 28 = .ok (.iadd, 1) := by decide +kernel
theorem dJ6_bitCount_0f7a4_29 : decode cJ6_bitCount_0f7a4 29 = .ok (.ldc_w 267, 3) := by decide +kernel
theorem dJ6_bitCount_0f7a4_32 : decode cJ6_bitCount_0f7a4 32 = .ok (.iand, 1) := by decide +kernel
theorem dJ6_bitCount_0f7a4_33 : decode cJ6_bitCount_0f7a4 33 = .ok (.istore_n 0, 1) := by decide +kernel
theorem dJ6_bitCount_0f7a4_34 : decode cJ6_bitCount_0f7a4 34 = .ok (.iload_n 0, 1) := by decide +kernel
theorem dJ6_bitCount_0f7a4_35 : decode cJ6_bitCount_0f7a4 35 = .ok (.iload_n 0, 1) := by decide +kernel
theorem dJ6_bitCount_0f7a4_36 : decode cJ6_bitCount_0f7a4 36 = .ok (.bipush 8, 2) := by decide +kernel
theorem dJ6_bitCount_0f7a4_38 : decode cJ6_bitCount_0f7a4 38 = .ok (.iushr, 1) := by decide +kernel
theorem dJ6_bitCount_0f7a4_39 : decode cJ6_bitCount_0f7a4 39 = .ok (.iadd, 1) := by decide +kernel
theorem dJ6_bitCount_0f7a4_40 : decode cJ6_bitCount_0f7a4 40 = .ok (.istore_n 0, 1) := by decide +kernel
theorem dJ6_bitCount_0f7a4_41 : decode cJ6_bitCount_0f7a4 41 = .ok (.iload_n 0, 1) := by decide +kernel
theorem dJ6_bitCount_0f7a4_42 : decode cJ6_bitCount_0f7a4 42 = .ok (.iload_n 0, 1) := by decide +kernel
theorem dJ6_bitCount_0f7a4_43 : decode cJ6_bitCount_0f7a4 43 = .ok (.bipush 16, 2) := by decide +kernel
theorem dJ6_bitCount_0f7a4_45 : decode cJ6_bitCount_0f7a4 45 = .ok (.iushr, 1) := by decide +kernel
theorem dJ6_bitCount_0f7a4_46 : decode cJ6_bitCount_0f7a4 46 = .ok (.iadd, 1) := by decide +kernel
theorem dJ6_bitCount_0f7a4_47 : decode cJ6_bitCount_0f7a4 47 = .ok (.istore_n 0, 1) := by decide +kernel
theorem dJ6_bitCount_0f7a4_48 : decode cJ6_bitCount_0f7a4 48 = .ok (.iload_n 0, 1) := by decide +kernel
theorem dJ6_bitCount_0f7a4_49 : decode cJ6_bitCount_0f7a4 49 = .ok (.bipush 63, 2) := by decide +kernel
theorem dJ6_bitCount_0f7a4_51 : decode cJ6_bitCount_0f7a4 51 = .ok (.iand, 1) := by decide +kernel
theorem dJ6_bitCount_0f7a4_52 : decode cJ6_bitCount_0f7a4 52 = .ok (.ireturn, 1) := by decide +kernel
theorem dJ9_floorDiv_7cf53_0 : decode cJ9_floorDiv_7cf53 0 = .ok (.iload_n 0, 1) := by decide +kernel
theorem dJ9_floorDiv_7cf53_1 : decode cJ9_floorDiv_7cf53 1 = .ok (.iload_n 1, 1) := by decide +kernel
theorem dJ9_floorDiv_7cf53_2 : decode cJ9_floorDiv_7cf53 2 = .ok (.idiv, 1) := by decide +kernel
theorem dJ9_floorDiv_7cf53_3 : decode cJ9_floorDiv_7cf53 3 = .ok (.istore_n 2, 1) := by decide +kernel
theorem dJ9_floorDiv_7cf53_4 : decode cJ9_floorDiv_7cf53 4 = .ok (.iload_n 0, 1) := by decide +kernel
theorem dJ9_floorDiv_7cf53_5 : decode cJ9_floorDiv_7cf53 5 = .ok (.iload_n 1, 1) := by decide +kernel
theorem dJ9_floorDiv_7cf53_6 : decode cJ9_floorDiv_7cf53 6 = .ok (.ixor, 1) := by decide +kernel
theorem dJ9_floorDiv_7cf53_7 : decode cJ9_floorDiv_7cf53 7 = .ok (.ifCond .ge 14, 3) := by decide +kernel
theorem dJ9_floorDiv_7cf53_10 : decode cJ9_floorDiv_7cf53 10 = .ok (.iload_n 2, 1) := by decide +kernel
theorem dJ9_floorDiv_7cf53_11 : decode cJ9_floorDiv_7cf53 11 = .ok (.iload_n 1, 1) := by decide +kernel
theorem dJ9_floorDiv_7cf53_12 : decode cJ9_floorDiv_7cf53 12 = .ok (.imul, 1) := by decide +kernel
theorem dJ9_floorDiv_7cf53_13 : decode cJ9_floorDiv_7cf53 13 = .ok (.iload_n 0, 1) := by decide +kernel
theorem dJ9_floorDiv_7cf53_14 : decode cJ9_floorDiv_7cf53 14 = .ok (.if_icmp .eq 7, 3) := by decide +kernel
theorem dJ9_floorDiv_7cf53_17 : decode cJ9_floorDiv_7cf53 17 = .ok (.iload_n 2, 1) := by decide +kernel
theorem dJ9_floorDiv_7cf53_18 : decode cJ9_floorDiv_7cf53 18 = .ok (.iconst 1, 1) := by decide +kernel
theorem dJ9_floorDiv_7cf53_19 : decode cJ9_floorDiv_7cf53 19 = .ok (.isub, 1) := by decide +kernel
theorem dJ9_floorDiv_7cf53_20 : decode cJ9_floorDiv_7cf53 20 = .ok (.ireturn, 1) := by decide +kernel
theorem dJ9_floorDiv_7cf53_21 : decode cJ9_floorDiv_7cf53 21 = .ok (.iload_n 2, 1) := by decide +kernel
theorem dJ9_floorDiv_7cf53_22 : decode cJ9_floorDiv_7cf53 22 = .ok (.ireturn, 1) := by decide +kernel
theorem dJ9_floorDiv_f86c9_0 : decode cJ9_floorDiv_f86c9 0 = .ok (.lload_n 0, 1) := by decide +kernel
theorem dJ9_floorDiv_f86c9_1 : decode cJ9_floorDiv_f86c9 1 = .ok (.lload_n 2, 1) := by decide +kernel
theorem dJ9_floorDiv_f86c9_2 : decode cJ9_floorDiv_f86c9 2 = .ok (.ldiv, 1) := by decide +kernel
theorem dJ9_floorDiv_f86c9_3 : decode cJ9_floorDiv_f86c9 3 = .ok (.lstore 4, 2) := by decide +kernel
theorem dJ9_floorDiv_f86c9_5 : decode cJ9_floorDiv_f86c9 5 = .ok (.lload_n 0, 1) := by decide +kernel
theorem dJ9_floorDiv_f86c9_6 : decode cJ9_floorDiv_f86c9 6 = .ok (.lload_n 2, 1) := by decide +kernel
theorem dJ9_floorDiv_f86c9_7 : decode cJ9_floorDiv_f86c9 7 = .ok (.lxor, 1) := by decide +kernel
theorem dJ9_floorDiv_f86c9_8 : decode cJ9_floorDiv_f86c9 8 = .ok (.lconst 0, 1) := by decide +kernel
theorem dJ9_floorDiv_f86c9_9 : decode cJ9_floorDiv_f86c9 9 = .ok (.lcmp, 1) := by decide +kernel
theorem dJ9_floorDiv_f86c9_10 : decode cJ9_floorDiv_f86c9 10 = .ok (.ifCond .ge 17, 3) := by decide +kernel
theorem dJ9_floorDiv_f86c9_13 : decode cJ9_floorDiv_f86c9 13 = .ok (.lload 4, 2) := by decide +kernel
theorem dJ9_floorDiv_f86c9_15 : decode cJ9_floorDiv_f86c9 15 = .ok (.lload_n 2, 1) := by decide +kernel
theorem dJ9_floorDiv_f86c9_16 : decode cJ9_floorDiv_f86c9 16 = .ok (.lmul, 1) := by decide +kernel
theorem dJ9_floorDiv_f86c9_17 : decode cJ9_floorDiv_f86c9 17 = .ok (.lload_n 0, 1) := by decide +kernel
theorem dJ9_floorDiv_f86c9_18 : decode cJ9_floorDiv_f86c9 18 = .ok (.lcmp, 1) := by decide +kernel
theorem dJ9_floorDiv_f86c9_19 : decode cJ9_floorDiv_f86c9 19 = .ok (.ifCond .eq 8, 3) := by decide +kernel
theorem dJ9_floorDiv_f86c9_22 : decode cJ9_floorDiv_f86c9 22 = .ok (.lload 4, 2) := by decide +kernel
theorem dJ9_floorDiv_f86c9_24 : decode cJ9_floorDiv_f86c9 24 = .ok (.lconst 1, 1) := by decide +kernel
theorem dJ9_floorDiv_f86c9_25 : decode cJ9_floorDiv_f86c9 25 = .ok (.lsub, 1) := by decide +kernel
theorem dJ9_floorDiv_f86c9_26 : decode cJ9_floorDiv_f86c9 26 = .ok (.lreturn, 1) := by decide +kernel
theorem dJ9_floorDiv_f86c9_27 : decode cJ9_floorDiv_f86c9 27 = .ok (.lload 4, 2) := by decide +kernel
theorem dJ9_floorDiv_f86c9_29 : decode cJ9_floorDiv_f86c9 29 = .ok (.lreturn, 1) := by decide +kernel
theorem dJ9_abs_0f7a4_0 : decode cJ9_abs_0f7a4 0 = .ok (.iload_n 0, 1) := by decide +kernel
theorem dJ9_abs_0f7a4_1 : decode cJ9_abs_0f7a4 1 = .ok (.ifCond .ge 8, 3) := by decide +kernel
theorem dJ9_abs_0f7a4_4 : decode cJ9_abs_0f7a4 4 = .ok (.iload_n 0, 1) := by decide +kernel
theorem dJ9_abs_0f7a4_5 : decode cJ9_abs_0f7a4 5 = .ok (.ineg, 1) := by decide +kernel
theorem dJ9_abs_0f7a4_6 : decode cJ9_abs_0f7a4 6 = .ok (.goto 4, 3) := by decide +kernel
theorem dJ9_abs_0f7a4_9 : decode cJ9_abs_0f7a4 9 = .ok (.iload_n 0, 1) := by decide +kernel
theorem dJ9_abs_0f7a4_10 : decode cJ9_abs_0f7a4 10 = .ok (.ireturn, 1) := by decide +kernel
theorem dJ9_abs_067f4_0 : decode cJ9_abs_067f4 0 = .ok (.lload_n 0, 1) := by decide +kernel
theorem dJ9_abs_067f4_1 : decode cJ9_abs_067f4 1 = .ok (.lconst 0, 1) := by decide +kernel
theorem dJ9_abs_067f4_2 : decode cJ9_abs_067f4 2 = .ok (.lcmp, 1) := by decide +kernel
theorem dJ9_abs_067f4_3 : decode cJ9_abs_067f4 3 = .ok (.ifCond .ge 8, 3) := by decide +kernel
theorem dJ9_abs_067f4_6 : decode cJ9_abs_067f4 6 = .ok (.lload_n 0, 1) := by decide +kernel
theorem dJ9_abs_067f4_7 : decode cJ9_abs_067f4 7 = .ok (.lneg, 1) := by decide +kernel
theorem dJ9_abs_067f4_8 : decode cJ9_abs_067f4 8 = .ok (.goto 4, 3) := by decide +kernel
theorem dJ9_abs_067f4_11 : decode cJ9_abs_067f4 11 = .ok (.lload_n 0, 1) := by decide +kernel
theorem dJ9_abs_067f4_12 : decode cJ9_abs_067f4 12 = .ok (.lreturn, 1) := by decide +kernel
theorem dJ9_max_7cf53_0 : decode cJ9_max_7cf53 0 = .ok (.iload_n 0, 1) := by decide +kernel
theorem dJ9_max_7cf53_1 : decode cJ9_max_7cf53 1 = .ok (.iload_n 1, 1) := by decide +kernel
theorem dJ9_max_7cf53_2 : decode cJ9_max_7cf53 2 = .ok (.if_icmp .lt 7, 3) := by decide +kernel
theorem dJ9_max_7cf53_5 : decode cJ9_max_7cf53 5 = .ok (.iload_n 0, 1) := by decide +kernel
theorem dJ9_max_7cf53_6 : decode cJ9_max_7cf53 6 = .ok (.goto 4, 3) := by decide +kernel
theorem dJ9_max_7cf53_9 : decode cJ9_max_7cf53 9 = .ok (.iload_n 1, 1) := by decide +kernel
theorem dJ9_max_7cf53_10 : decode cJ9_max_7cf53 10 = .ok (.ireturn, 1) := by decide +kernel
theorem dJ9_max_f86c9_0 : decode cJ9_max_f86c9 0 = .ok (.lload_n 0, 1) := by decide +kernel
theorem dJ9_max_f86c9_1 : decode cJ9_max_f86c9 1 = .ok (.lload_n 2, 1) := by decide +kernel
theorem dJ9_max_f86c9_2 : decode cJ9_max_f86c9 2 = .ok (.lcmp, 1) := by decide +kernel
theorem dJ9_max_f86c9_3 : decode cJ9_max_f86c9 3 = .ok (.ifCond .lt 7, 3) := by decide +kernel
theorem dJ9_max_f86c9_6 : decode cJ9_max_f86c9 6 = .ok (.lload_n 0, 1) := by decide +kernel
theorem dJ9_max_f86c9_7 : decode cJ9_max_f86c9 7 = .ok (.goto 4, 3) := by decide +kernel
theorem dJ9_max_f86c9_10 : decode cJ9_max_f86c9 10 = .ok (.lload_n 2, 1) := by decide +kernel
theorem dJ9_max_f86c9_11 : decode cJ9_max_f86c9 11 = .ok (.lreturn, 1) := by decide +kernel
theorem dJ9_min_7cf53_0 : decode cJ9_min_7cf53 0 = .ok (.iload_n 0, 1) := by decide +kernel
theorem dJ9_min_7cf53_1 : decode cJ9_min_7cf53 1 = .ok (.iload_n 1, 1) := by decide +kernel
theorem dJ9_min_7cf53_2 : decode cJ9_min_7cf53 2 = .ok (.if_icmp .gt 7, 3) := by decide +kernel
theorem dJ9_min_7cf53_5 : decode cJ9_min_7cf53 5 = .ok (.iload_n 0, 1) := by decide +kernel
theorem dJ9_min_7cf53_6 : decode cJ9_min_7cf53 6 = .ok (.goto 4, 3) := by decide +kernel
theorem dJ9_min_7cf53_9 : decode cJ9_min_7cf53 9 = .ok (.iload_n 1, 1) := by decide +kernel
theorem dJ9_min_7cf53_10 : decode cJ9_min_7cf53 10 = .ok (.ireturn, 1) := by decide +kernel
theorem dJ9_min_f86c9_0 : decode cJ9_min_f86c9 0 = .ok (.lload_n 0, 1) := by decide +kernel
theorem dJ9_min_f86c9_1 : decode cJ9_min_f86c9 1 = .ok (.lload_n 2, 1) := by decide +kernel
theorem dJ9_min_f86c9_2 : decode cJ9_min_f86c9 2 = .ok (.lcmp, 1) := by decide +kernel
theorem dJ9_min_f86c9_3 : decode cJ9_min_f86c9 3 = .ok (.ifCond .gt 7, 3) := by decide +kernel
theorem dJ9_min_f86c9_6 : decode cJ9_min_f86c9 6 = .ok (.lload_n 0, 1) := by decide +kernel
theorem dJ9_min_f86c9_7 : decode cJ9_min_f86c9 7 = .ok (.goto 4, 3) := by decide +kernel
theorem dJ9_min_f86c9_10 : decode cJ9_min_f86c9 10 = .ok (.lload_n 2, 1) := by decide +kernel
theorem dJ9_min_f86c9_11 : decode cJ9_min_f86c9 11 = .ok (.lreturn, 1) := by decide +kernel
