theorem dX0_init_0 : decode cX0_init 0 = .ok (.aload_n 0, 1) := by decide +kernel
theorem dX0_init_1 : decode cX0_init 1 = .ok (.invokespecial 3, 3) := by decide +kernel
theorem dX0_init_4 : decode cX0_init 4 = .ok (.aload_n 0, 1) := by decide +kernel
theorem dX0_init_5 : decode cX0_init 5 = .ok (.bipush 80, 2) := by decide +kernel
theorem dX0_init_7 : decode cX0_init 7 = .ok (.putfield 9, 3) := by decide +kernel
theorem dX0_init_10 : decode cX0_init 10 = .ok (.aload_n 0, 1) := by decide +kernel
theorem dX0_init_11 : decode cX0_init 11 = .ok (.bipush 10, 2) := by decide +kernel
theorem dX0_init_13 : decode cX0_init 13 = .ok (.putfield 15, 3) := by decide +kernel
theorem dX0_init_16 : decode cX0_init 16 = .ok (.aload_n 0, 1) := by decide +kernel
theorem dX0_init_17 : decode cX0_init 17 = .ok (.iconst 5, 1) := by decide +kernel
theorem dX0_init_18 : decode cX0_init 18 = .ok (.putfield 18, 3) := by decide +kernel
theorem dX0_init_21 : decode cX0_init 21 = .ok (.aload_n 0, 1) := by decide +kernel
theorem dX0_init_22 : decode cX0_init 22 = .ok (.sipush 1152, 3) := by decide +kernel
theorem dX0_init_25 : decode cX0_init 25 = .ok (.newarray .int, 2) := by decide +kernel
theorem dX0_init_27 : decode cX0_init 27 = .ok (.putfield 21, 3) := by decide +kernel
theorem dX0_init_30 : decode cX0_init 30 = .ok (.aload_n 0, 1) := by decide +kernel
theorem dX0_init_31 : decode cX0_init 31 = .ok (.sipush 1152, 3) := by decide +kernel
theorem dX0_init_34 : decode cX0_init 34 = .ok (.newarray .int, 2) := by decide +kernel
theorem dX0_init_36 : decode cX0_init 36 = .ok (.putfield 25, 3) := by decide +kernel
theorem dX0_init_39 : decode cX0_init 39 = .ok (.aload_n 0, 1) := by decide +kernel
theorem dX0_init_40 : decode cX0_init 40 = .ok (.sipush 1152, 3) := by decide +kernel
theorem dX0_init_43 : decode cX0_init 43 = .ok (.newarray .int, 2) := by decide +kernel
theorem dX0_init_45 : decode cX0_init 45 = .ok (.putfield 28, 3) := by decide +kernel
theorem dX0_init_48 : decode cX0_init 48 = .ok (.aload_n 0, 1) := by decide +kernel
theorem dX0_init_49 : decode cX0_init 49 = .ok (.bipush 64, 2) := by decide +kernel
theorem dX0_init_51 : decode cX0_init 51 = .ok (.newarray .int, 2) := by decide +kernel
theorem dX0_init_53 : decode cX0_init 53 = .ok (.putfield 31, 3) := by decide +kernel
theorem dX0_init_56 : decode cX0_init 56 = .ok (.aload_n 0, 1) := by decide +kernel
theorem dX0_init_57 : decode cX0_init 57 = .ok (.bipush 64, 2) := by decide +kernel
theorem dX0_init_59 : decode cX0_init 59 = .ok (.newarray .int, 2) := by decide +kernel
theorem dX0_init_61 : decode cX0_init 61 = .ok (.putfield 34, 3) := by decide +kernel
theorem dX0_init_64 : decode cX0_init 64 = .ok (.aload_n 0, 1) := by decide +kernel
theorem dX0_init_65 : decode cX0_init 65 = .ok (.getfield 21, 3) := by decide +kernel
theorem dX0_init_68 : decode cX0_init 68 = .ok (.iconst (-1), 1) := by decide +kernel
theorem dX0_init_69 : decode cX0_init 69 = .ok (.invokestatic 37, 3) := by decide +kernel
theorem dX0_init_72 : decode cX0_init 72 = .ok (.return_, 1) := by decide +kernel
set_option maxRecDepth 20000 in
theorem ggX0_setCosts_J7_fill_53178 : GoodIn wsX0_setCosts wsJ7_fill_53178 := goodIn_r _ [8] (by decide +kernel) (by decide +kernel)
set_option maxRecDepth 20000 in
theorem gX0_setCosts_J7_fill_53178 : GoodIn wsX0_setCosts (va_wsS RX0 37 yJ7_fill_53178 wsJ7_fill_53178) := goodIn_app (goodIn_of _ (by decide +kernel)) ggX0_setCosts_J7_fill_53178
theorem dX0_setCosts_0 : decode cX0_setCosts 0 = .ok (.aload_n 0, 1) := by decide +kernel
theorem dX0_setCosts_1 : decode cX0_setCosts 1 = .ok (.iload_n 1, 1) := by decide +kernel
theorem dX0_setCosts_2 : decode cX0_setCosts 2 = .ok (.putfield 9, 3) := by decide +kernel
theorem dX0_setCosts_5 : decode cX0_setCosts 5 = .ok (.aload_n 0, 1) := by decide +kernel
theorem dX0_setCosts_6 : decode cX0_setCosts 6 = .ok (.iload_n 2, 1) := by decide +kernel
theorem dX0_setCosts_7 : decode cX0_setCosts 7 = .ok (.putfield 15, 3) := by decide +kernel
theorem dX0_setCosts_10 : decode cX0_setCosts 10 = .ok (.aload_n 0, 1) := by decide +kernel
theorem dX0_setCosts_11 : decode cX0_setCosts 11 = .ok (.iload_n 3, 1) := by decide +kernel
theorem dX0_setCosts_12 : decode cX0_setCosts 12 = .ok (.putfield 18, 3) := by decide +kernel
theorem dX0_setCosts_15 : decode cX0_setCosts 15 = .ok (.aload_n 0, 1) := by decide +kernel
theorem dX0_setCosts_16 : decode cX0_setCosts 16 = .ok (.getfield 21, 3) := by decide +kernel
theorem dX0_setCosts_19 : decode cX0_setCosts 19 = .ok (.iconst (-1), 1) := by decide +kernel
theorem dX0_setCosts_20 : decode cX0_setCosts 20 = .ok (.invokestatic 37, 3) := by decide +kernel
theorem dX0_setCosts_23 : decode cX0_setCosts 23 = .ok (.return_, 1) := by decide +kernel
set_option maxRecDepth 20000 in
theorem ggX0_forgetJoinsOf_X0_slot : GoodIn wsX0_forgetJoinsOf wsX0_slot := goodIn_r _ [5] (by decide +kernel) (by decide +kernel)
set_option maxRecDepth 20000 in
theorem gX0_forgetJoinsOf_X0_slot : GoodIn wsX0_forgetJoinsOf (va_wsS RX0 43 yX0_slot wsX0_slot) := goodIn_app (goodIn_of _ (by decide +kernel)) ggX0_forgetJoinsOf_X0_slot
theorem dX0_forgetJoinsOf_0 : decode cX0_forgetJoinsOf 0 = .ok (.iconst 1, 1) := by decide +kernel
theorem dX0_forgetJoinsOf_1 : decode cX0_forgetJoinsOf 1 = .ok (.istore_n 2, 1) := by decide +kernel
theorem dX0_forgetJoinsOf_2 : decode cX0_forgetJoinsOf 2 = .ok (.iload_n 2, 1) := by decide +kernel
theorem dX0_forgetJoinsOf_3 : decode cX0_forgetJoinsOf 3 = .ok (.bipush 8, 2) := by decide +kernel
theorem dX0_forgetJoinsOf_5 : decode cX0_forgetJoinsOf 5 = .ok (.if_icmp .gt 47, 3) := by decide +kernel
theorem dX0_forgetJoinsOf_8 : decode cX0_forgetJoinsOf 8 = .ok (.iconst 0, 1) := by decide +kernel
theorem dX0_forgetJoinsOf_9 : decode cX0_forgetJoinsOf 9 = .ok (.istore_n 3, 1) := by decide +kernel
theorem dX0_forgetJoinsOf_10 : decode cX0_forgetJoinsOf 10 = .ok (.iload_n 3, 1) := by decide +kernel
theorem dX0_forgetJoinsOf_11 : decode cX0_forgetJoinsOf 11 = .ok (.bipush 12, 2) := by decide +kernel
theorem dX0_forgetJoinsOf_13 : decode cX0_forgetJoinsOf 13 = .ok (.if_icmp .ge 33, 3) := by decide +kernel
theorem dX0_forgetJoinsOf_16 : decode cX0_forgetJoinsOf 16 = .ok (.aload_n 0, 1) := by decide +kernel
theorem dX0_forgetJoinsOf_17 : decode cX0_forgetJoinsOf 17 = .ok (.getfield 21, 3) := by decide +kernel
theorem dX0_forgetJoinsOf_20 : decode cX0_forgetJoinsOf 20 = .ok (.iload_n 1, 1) := by decide +kernel
theorem dX0_forgetJoinsOf_21 : decode cX0_forgetJoinsOf 21 = .ok (.iload_n 3, 1) := by decide +kernel
theorem dX0_forgetJoinsOf_22 : decode cX0_forgetJoinsOf 22 = .ok (.iload_n 2, 1) := by decide +kernel
theorem dX0_forgetJoinsOf_23 : decode cX0_forgetJoinsOf 23 = .ok (.invokestatic 43, 3) := by decide +kernel
theorem dX0_forgetJoinsOf_26 : decode cX0_forgetJoinsOf 26 = .ok (.iconst (-1), 1) := by decide +kernel
theorem dX0_forgetJoinsOf_27 : decode cX0_forgetJoinsOf 27 = .ok (.iastore, 1) := by decide +kernel
theorem dX0_forgetJoinsOf_28 : decode cX0_forgetJoinsOf 28 = .ok (.aload_n 0, 1) := by decide +kernel
theorem dX0_forgetJoinsOf_29 : decode cX0_forgetJoinsOf 29 = .ok (.getfield 21, 3) := by decide +kernel
theorem dX0_forgetJoinsOf_32 : decode cX0_forgetJoinsOf 32 = .ok (.iload_n 3, 1) := by decide +kernel
theorem dX0_forgetJoinsOf_33 : decode cX0_forgetJoinsOf 33 = .ok (.iload_n 1, 1) := by decide +kernel
theorem dX0_forgetJoinsOf_34 : decode cX0_forgetJoinsOf 34 = .ok (.iload_n 2, 1) := by decide +kernel
theorem dX0_forgetJoinsOf_35 : decode cX0_forgetJoinsOf 35 = .ok (.invokestatic 43, 3) := by decide +kernel
theorem dX0_forgetJoinsOf_38 : decode cX0_forgetJoinsOf 38 = .ok (.iconst (-1), 1) := by decide +kernel
theorem dX0_forgetJoinsOf_39 : decode cX0_forgetJoinsOf 39 = .ok (.iastore, 1) := by decide +kernel
theorem dX0_forgetJoinsOf_40 : decode cX0_forgetJoinsOf 40 = .ok (.iinc 3 1, 3) := by decide +kernel
theorem dX0_forgetJoinsOf_43 : decode cX0_forgetJoinsOf 43 = .ok (.goto (-33), 3) := by decide +kernel
theorem dX0_forgetJoinsOf_46 : decode cX0_forgetJoinsOf 46 = .ok (.iinc 2 1, 3) := by decide +kernel
theorem dX0_forgetJoinsOf_49 : decode cX0_forgetJoinsOf 49 = .ok (.goto (-47), 3) := by decide +kernel
theorem dX0_forgetJoinsOf_52 : decode cX0_forgetJoinsOf 52 = .ok (.return_, 1) := by decide +kernel
set_option maxRecDepth 20000 in
theorem ggX0_slotOf_X0_slot : GoodIn wsX0_slotOf wsX0_slot := goodIn_r _ [6] (by decide +kernel) (by decide +kernel)
set_option maxRecDepth 20000 in
theorem gX0_slotOf_X0_slot : GoodIn wsX0_slotOf (va_wsS RX0 43 yX0_slot wsX0_slot) := goodIn_app (goodIn_of _ (by decide +kernel)) ggX0_slotOf_X0_slot
set_option maxRecDepth 20000 in
theorem ggX0_slotOf_X0_seekJoin : GoodIn wsX0_slotOf wsX0_seekJoin := goodIn_r _ [10, 11, 12, 13, 14, 15, 2, 16, 17, 18, 5, 19, 20, 21, 22, 23, 24, 25, 26, 27, 28, 29, 30, 31, 32, 33, 34, 35, 36, 37, 38, 39, 40, 41, 42, 43, 44, 45, 46, 47, 48, 49, 50, 51, 52, 53, 54, 55, 56, 57, 58, 59, 60, 61, 62, 63, 64, 65, 66, 67, 68, 69, 70, 71, 72, 73, 74, 94, 95, 96, 97, 98, 99, 100, 101, 75, 76, 77, 78, 79, 80, 81, 82, 83, 84, 85, 86, 87, 88, 89, 90, 91, 92, 93] (by decide +kernel) (by decide +kernel)
set_option maxRecDepth 20000 in
theorem gX0_slotOf_X0_seekJoin : GoodIn wsX0_slotOf (wsV RX0 52 RX0 yX0_seekJoin wsX0_seekJoin) := goodIn_app (goodIn_of _ (by decide +kernel)) ggX0_slotOf_X0_seekJoin
theorem dX0_slotOf_0 : decode cX0_slotOf 0 = .ok (.aload_n 1, 1) := by decide +kernel
theorem dX0_slotOf_1 : decode cX0_slotOf 1 = .ok (.getfield 47, 3) := by decide +kernel
theorem dX0_slotOf_4 : decode cX0_slotOf 4 = .ok (.aload_n 2, 1) := by decide +kernel
theorem dX0_slotOf_5 : decode cX0_slotOf 5 = .ok (.getfield 47, 3) := by decide +kernel
theorem dX0_slotOf_8 : decode cX0_slotOf 8 = .ok (.iload_n 3, 1) := by decide +kernel
theorem dX0_slotOf_9 : decode cX0_slotOf 9 = .ok (.invokestatic 43, 3) := by decide +kernel
theorem dX0_slotOf_12 : decode cX0_slotOf 12 = .ok (.istore 4, 2) := by decide +kernel
theorem dX0_slotOf_14 : decode cX0_slotOf 14 = .ok (.aload_n 0, 1) := by decide +kernel
theorem dX0_slotOf_15 : decode cX0_slotOf 15 = .ok (.getfield 21, 3) := by decide +kernel
theorem dX0_slotOf_18 : decode cX0_slotOf 18 = .ok (.iload 4, 2) := by decide +kernel
theorem dX0_slotOf_20 : decode cX0_slotOf 20 = .ok (.iaload, 1) := by decide +kernel
theorem dX0_slotOf_21 : decode cX0_slotOf 21 = .ok (.iconst (-1), 1) := by decide +kernel
theorem dX0_slotOf_22 : decode cX0_slotOf 22 = .ok (.if_icmp .ne 12, 3) := by decide +kernel
theorem dX0_slotOf_25 : decode cX0_slotOf 25 = .ok (.aload_n 0, 1) := by decide +kernel
theorem dX0_slotOf_26 : decode cX0_slotOf 26 = .ok (.aload_n 1, 1) := by decide +kernel
theorem dX0_slotOf_27 : decode cX0_slotOf 27 = .ok (.aload_n 2, 1) := by decide +kernel
theorem dX0_slotOf_28 : decode cX0_slotOf 28 = .ok (.iload_n 3, 1) := by decide +kernel
theorem dX0_slotOf_29 : decode cX0_slotOf 29 = .ok (.iload 4, 2) := by decide +kernel
theorem dX0_slotOf_31 : decode cX0_slotOf 31 = .ok (.invokevirtual 52, 3) := by decide +kernel
theorem dX0_slotOf_34 : decode cX0_slotOf 34 = .ok (.iload 4, 2) := by decide +kernel
theorem dX0_slotOf_36 : decode cX0_slotOf 36 = .ok (.ireturn, 1) := by decide +kernel
set_option maxRecDepth 20000 in
theorem ggX0_bentBy_X5_blend : GoodIn wsX0_bentBy wsX5_blend := goodIn_r _ [10, 11, 12, 13, 14] (by decide +kernel) (by decide +kernel)
set_option maxRecDepth 20000 in
theorem gX0_bentBy_X5_blend_n59 : GoodIn wsX0_bentBy (wsX5_blend) := ggX0_bentBy_X5_blend
set_option maxRecDepth 20000 in
theorem ggX0_bentBy_X5_bendOf : GoodIn wsX0_bentBy wsX5_bendOf := goodIn_r _ [16, 17, 3, 4, 5, 18, 19, 20] (by decide +kernel) (by decide +kernel)
set_option maxRecDepth 20000 in
theorem gX0_bentBy_X5_bendOf_n69 : GoodIn wsX0_bentBy (wsX5_bendOf) := ggX0_bentBy_X5_bendOf
theorem dX0_bentBy_0 : decode cX0_bentBy 0 = .ok (.iconst 0, 1) := by decide +kernel
theorem dX0_bentBy_1 : decode cX0_bentBy 1 = .ok (.istore 7, 2) := by decide +kernel
theorem dX0_bentBy_3 : decode cX0_bentBy 3 = .ok (.iconst 0, 1) := by decide +kernel
theorem dX0_bentBy_4 : decode cX0_bentBy 4 = .ok (.istore 8, 2) := by decide +kernel
theorem dX0_bentBy_6 : decode cX0_bentBy 6 = .ok (.iload 8, 2) := by decide +kernel
theorem dX0_bentBy_8 : decode cX0_bentBy 8 = .ok (.iconst 4, 1) := by decide +kernel
theorem dX0_bentBy_9 : decode cX0_bentBy 9 = .ok (.iload_n 3, 1) := by decide +kernel
theorem dX0_bentBy_10 : decode cX0_bentBy 10 = .ok (.imul, 1) := by decide +kernel
theorem dX0_bentBy_11 : decode cX0_bentBy 11 = .ok (.if_icmp .ge 97, 3) := by decide +kernel
theorem dX0_bentBy_14 : decode cX0_bentBy 14 = .ok (.aload_n 1, 1) := by decide +kernel
theorem dX0_bentBy_15 : decode cX0_bentBy 15 = .ok (.getfield 56, 3) := by decide +kernel
theorem dX0_bentBy_18 : decode cX0_bentBy 18 = .ok (.iconst 4, 1) := by decide +kernel
theorem dX0_bentBy_19 : decode cX0_bentBy 19 = .ok (.iload 4, 2) := by decide +kernel
theorem dX0_bentBy_21 : decode cX0_bentBy 21 = .ok (.imul, 1) := by decide +kernel
theorem dX0_bentBy_22 : decode cX0_bentBy 22 = .ok (.iload 8, 2) := by decide +kernel
theorem dX0_bentBy_24 : decode cX0_bentBy 24 = .ok (.iadd, 1) := by decide +kernel
theorem dX0_bentBy_25 : decode cX0_bentBy 25 = .ok (.iaload, 1) := by decide +kernel
theorem dX0_bentBy_26 : decode cX0_bentBy 26 = .ok (.istore 9, 2) := by decide +kernel
theorem dX0_bentBy_28 : decode cX0_bentBy 28 = .ok (.aload_n 2, 1) := by decide +kernel
theorem dX0_bentBy_29 : decode cX0_bentBy 29 = .ok (.getfield 56, 3) := by decide +kernel
theorem dX0_bentBy_32 : decode cX0_bentBy 32 = .ok (.iconst 4, 1) := by decide +kernel
theorem dX0_bentBy_33 : decode cX0_bentBy 33 = .ok (.iload 5, 2) := by decide +kernel
theorem dX0_bentBy_35 : decode cX0_bentBy 35 = .ok (.imul, 1) := by decide +kernel
theorem dX0_bentBy_36 : decode cX0_bentBy 36 = .ok (.iload 8, 2) := by decide +kernel
theorem dX0_bentBy_38 : decode cX0_bentBy 38 = .ok (.iadd, 1) := by decide +kernel
theorem dX0_bentBy_39 : decode cX0_bentBy 39 = .ok (.iaload, 1) := by decide +kernel
theorem dX0_bentBy_40 : decode cX0_bentBy 40 = .ok (.istore 10, 2) := by decide +kernel
theorem dX0_bentBy_42 : decode cX0_bentBy 42 = .ok (.iload 9, 2) := by decide +kernel
theorem dX0_bentBy_44 : decode cX0_bentBy 44 = .ok (.iload 10, 2) := by decide +kernel
theorem dX0_bentBy_46 : decode cX0_bentBy 46 = .ok (.iload 8, 2) := by decide +kernel
theorem dX0_bentBy_48 : decode cX0_bentBy 48 = .ok (.iload_n 3, 1) := by decide +kernel
theorem dX0_bentBy_49 : decode cX0_bentBy 49 = .ok (.invokestatic 59, 3) := by decide +kernel
theorem dX0_bentBy_52 : decode cX0_bentBy 52 = .ok (.istore 11, 2) := by decide +kernel
theorem dX0_bentBy_54 : decode cX0_bentBy 54 = .ok (.iload 7, 2) := by decide +kernel
theorem dX0_bentBy_56 : decode cX0_bentBy 56 = .ok (.iload 11, 2) := by decide +kernel
theorem dX0_bentBy_58 : decode cX0_bentBy 58 = .ok (.iload 9, 2) := by decide +kernel
theorem dX0_bentBy_60 : decode cX0_bentBy 60 = .ok (.isub, 1) := by decide +kernel
theorem dX0_bentBy_61 : decode cX0_bentBy 61 = .ok (.invokestatic 63, 3) := by decide +kernel
theorem dX0_bentBy_64 : decode cX0_bentBy 64 = .ok (.iload 11, 2) := by decide +kernel
theorem dX0_bentBy_66 : decode cX0_bentBy 66 = .ok (.iload 10, 2) := by decide +kernel
theorem dX0_bentBy_68 : decode cX0_bentBy 68 = .ok (.isub, 1) := by decide +kernel
theorem dX0_bentBy_69 : decode cX0_bentBy 69 = .ok (.invokestatic 63, 3) := by decide +kernel
theorem dX0_bentBy_72 : decode cX0_bentBy 72 = .ok (.iadd, 1) := by decide +kernel
theorem dX0_bentBy_73 : decode cX0_bentBy 73 = .ok (.iadd, 1) := by decide +kernel
theorem dX0_bentBy_74 : decode cX0_bentBy 74 = .ok (.istore 7, 2) := by decide +kernel
theorem dX0_bentBy_76 : decode cX0_bentBy 76 = .ok (.iload 7, 2) := by decide +kernel
theorem dX0_bentBy_78 : decode cX0_bentBy 78 = .ok (.iload 6, 2) := by decide +kernel
theorem dX0_bentBy_80 : decode cX0_bentBy 80 = .ok (.if_icmp .ge 19, 3) := by decide +kernel
theorem dX0_bentBy_83 : decode cX0_bentBy 83 = .ok (.iload 9, 2) := by decide +kernel
theorem dX0_bentBy_85 : decode cX0_bentBy 85 = .ok (.iload 10, 2) := by decide +kernel
theorem dX0_bentBy_87 : decode cX0_bentBy 87 = .ok (.iload 11, 2) := by decide +kernel
theorem dX0_bentBy_89 : decode cX0_bentBy 89 = .ok (.invokestatic 69, 3) := by decide +kernel
theorem dX0_bentBy_92 : decode cX0_bentBy 92 = .ok (.aload_n 0, 1) := by decide +kernel
theorem dX0_bentBy_93 : decode cX0_bentBy 93 = .ok (.getfield 9, 3) := by decide +kernel
theorem dX0_bentBy_96 : decode cX0_bentBy 96 = .ok (.if_icmp .le 6, 3) := by decide +kernel
theorem dX0_bentBy_99 : decode cX0_bentBy 99 = .ok (.ldc 72, 2) := by decide +kernel
theorem dX0_bentBy_101 : decode cX0_bentBy 101 = .ok (.ireturn, 1) := by decide +kernel
theorem dX0_bentBy_102 : decode cX0_bentBy 102 = .ok (.iinc 8 1, 3) := by decide +kernel
theorem dX0_bentBy_105 : decode cX0_bentBy 105 = .ok (.goto (-99), 3) := by decide +kernel
theorem dX0_bentBy_108 : decode cX0_bentBy 108 = .ok (.iload 7, 2) := by decide +kernel
theorem dX0_bentBy_110 : decode cX0_bentBy 110 = .ok (.ireturn, 1) := by decide +kernel
theorem dX0_apart_0 : decode cX0_apart 0 = .ok (.aload_n 1, 1) := by decide +kernel
theorem dX0_apart_1 : decode cX0_apart 1 = .ok (.getfield 73, 3) := by decide +kernel
theorem dX0_apart_4 : decode cX0_apart 4 = .ok (.bipush 12, 2) := by decide +kernel
theorem dX0_apart_6 : decode cX0_apart 6 = .ok (.irem, 1) := by decide +kernel
theorem dX0_apart_7 : decode cX0_apart 7 = .ok (.aload_n 2, 1) := by decide +kernel
theorem dX0_apart_8 : decode cX0_apart 8 = .ok (.getfield 73, 3) := by decide +kernel
theorem dX0_apart_11 : decode cX0_apart 11 = .ok (.bipush 12, 2) := by decide +kernel
theorem dX0_apart_13 : decode cX0_apart 13 = .ok (.irem, 1) := by decide +kernel
theorem dX0_apart_14 : decode cX0_apart 14 = .ok (.isub, 1) := by decide +kernel
theorem dX0_apart_15 : decode cX0_apart 15 = .ok (.invokestatic 63, 3) := by decide +kernel
theorem dX0_apart_18 : decode cX0_apart 18 = .ok (.istore_n 3, 1) := by decide +kernel
theorem dX0_apart_19 : decode cX0_apart 19 = .ok (.iload_n 3, 1) := by decide +kernel
theorem dX0_apart_20 : decode cX0_apart 20 = .ok (.bipush 12, 2) := by decide +kernel
theorem dX0_apart_22 : decode cX0_apart 22 = .ok (.iload_n 3, 1) := by decide +kernel
theorem dX0_apart_23 : decode cX0_apart 23 = .ok (.isub, 1) := by decide +kernel
theorem dX0_apart_24 : decode cX0_apart 24 = .ok (.invokestatic 76, 3) := by decide +kernel
theorem dX0_apart_27 : decode cX0_apart 27 = .ok (.aload_n 1, 1) := by decide +kernel
theorem dX0_apart_28 : decode cX0_apart 28 = .ok (.getfield 73, 3) := by decide +kernel
theorem dX0_apart_31 : decode cX0_apart 31 = .ok (.bipush 12, 2) := by decide +kernel
theorem dX0_apart_33 : decode cX0_apart 33 = .ok (.idiv, 1) := by decide +kernel
theorem dX0_apart_34 : decode cX0_apart 34 = .ok (.aload_n 2, 1) := by decide +kernel
theorem dX0_apart_35 : decode cX0_apart 35 = .ok (.getfield 73, 3) := by decide +kernel
theorem dX0_apart_38 : decode cX0_apart 38 = .ok (.bipush 12, 2) := by decide +kernel
theorem dX0_apart_40 : decode cX0_apart 40 = .ok (.idiv, 1) := by decide +kernel
theorem dX0_apart_41 : decode cX0_apart 41 = .ok (.if_icmp .ne 7, 3) := by decide +kernel
theorem dX0_apart_44 : decode cX0_apart 44 = .ok (.iconst 0, 1) := by decide +kernel
theorem dX0_apart_45 : decode cX0_apart 45 = .ok (.goto 4, 3) := by decide +kernel
theorem dX0_apart_48 : decode cX0_apart 48 = .ok (.iconst 1, 1) := by decide +kernel
theorem dX0_apart_49 : decode cX0_apart 49 = .ok (.iadd, 1) := by decide +kernel
theorem dX0_apart_50 : decode cX0_apart 50 = .ok (.istore 4, 2) := by decide +kernel
theorem dX0_apart_52 : decode cX0_apart 52 = .ok (.aload_n 0, 1) := by decide +kernel
theorem dX0_apart_53 : decode cX0_apart 53 = .ok (.getfield 15, 3) := by decide +kernel
theorem dX0_apart_56 : decode cX0_apart 56 = .ok (.iload 4, 2) := by decide +kernel
theorem dX0_apart_58 : decode cX0_apart 58 = .ok (.imul, 1) := by decide +kernel
theorem dX0_apart_59 : decode cX0_apart 59 = .ok (.aload_n 0, 1) := by decide +kernel
theorem dX0_apart_60 : decode cX0_apart 60 = .ok (.getfield 18, 3) := by decide +kernel
theorem dX0_apart_63 : decode cX0_apart 63 = .ok (.aload_n 1, 1) := by decide +kernel
theorem dX0_apart_64 : decode cX0_apart 64 = .ok (.getfield 80, 3) := by decide +kernel
theorem dX0_apart_67 : decode cX0_apart 67 = .ok (.aload_n 2, 1) := by decide +kernel
theorem dX0_apart_68 : decode cX0_apart 68 = .ok (.getfield 80, 3) := by decide +kernel
theorem dX0_apart_71 : decode cX0_apart 71 = .ok (.isub, 1) := by decide +kernel
theorem dX0_apart_72 : decode cX0_apart 72 = .ok (.invokestatic 63, 3) := by decide +kernel
theorem dX0_apart_75 : decode cX0_apart 75 = .ok (.imul, 1) := by decide +kernel
theorem dX0_apart_76 : decode cX0_apart 76 = .ok (.iadd, 1) := by decide +kernel
theorem dX0_apart_77 : decode cX0_apart 77 = .ok (.ireturn, 1) := by decide +kernel
theorem dX0_slot_0 : decode cX0_slot 0 = .ok (.iload_n 2, 1) := by decide +kernel
theorem dX0_slot_1 : decode cX0_slot 1 = .ok (.iconst 1, 1) := by decide +kernel
theorem dX0_slot_2 : decode cX0_slot 2 = .ok (.isub, 1) := by decide +kernel
theorem dX0_slot_3 : decode cX0_slot 3 = .ok (.bipush 12, 2) := by decide +kernel
theorem dX0_slot_5 : decode cX0_slot 5 = .ok (.imul, 1) := by decide +kernel
theorem dX0_slot_6 : decode cX0_slot 6 = .ok (.iload_n 0, 1) := by decide +kernel
theorem dX0_slot_7 : decode cX0_slot 7 = .ok (.iadd, 1) := by decide +kernel
theorem dX0_slot_8 : decode cX0_slot 8 = .ok (.bipush 12, 2) := by decide +kernel
theorem dX0_slot_10 : decode cX0_slot 10 = .ok (.imul, 1) := by decide +kernel
theorem dX0_slot_11 : decode cX0_slot 11 = .ok (.iload_n 1, 1) := by decide +kernel
theorem dX0_slot_12 : decode cX0_slot 12 = .ok (.iadd, 1) := by decide +kernel
theorem dX0_slot_13 : decode cX0_slot 13 = .ok (.ireturn, 1) := by decide +kernel
set_option maxRecDepth 20000 in
theorem ggX0_seekJoin_X0_listLate : GoodIn wsX0_seekJoin wsX0_listLate := goodIn_r _ [11, 12, 2, 13, 14, 10, 15, 16, 17, 18, 19, 20, 21, 22, 23, 24, 25, 26, 27, 28, 75, 76, 77, 78, 79, 80, 81, 82, 83, 84, 85, 86, 87, 88, 89, 90, 91, 92, 93, 67, 68, 69, 70, 71, 72, 73, 74] (by decide +kernel) (by decide +kernel)
set_option maxRecDepth 20000 in
theorem gX0_seekJoin_X0_listLate : GoodIn wsX0_seekJoin (wsV RX0 83 RX0 yX0_listLate wsX0_listLate) := goodIn_app (goodIn_of _ (by decide +kernel)) ggX0_seekJoin_X0_listLate
set_option maxRecDepth 20000 in
theorem ggX0_seekJoin_X0_listEarly : GoodIn wsX0_seekJoin wsX0_listEarly := goodIn_r _ [32, 12, 3, 13, 14, 10, 15, 16, 17, 18, 19, 20, 21, 22, 23, 24, 25, 26, 27, 28, 75, 76, 77, 78, 79, 80, 81, 82, 83, 84, 85, 86, 87, 88, 89, 90, 91, 92, 93, 67, 68, 69, 70, 71, 72, 73, 74] (by decide +kernel) (by decide +kernel)
set_option maxRecDepth 20000 in
theorem gX0_seekJoin_X0_listEarly : GoodIn wsX0_seekJoin (wsV RX0 87 RX0 yX0_listEarly wsX0_listEarly) := goodIn_app (goodIn_of _ (by decide +kernel)) ggX0_seekJoin_X0_listEarly
set_option maxRecDepth 20000 in
theorem ggX0_seekJoin_X0_bentBy : GoodIn wsX0_seekJoin wsX0_bentBy := goodIn_r _ [36, 37, 38, 39, 40, 41, 42, 1, 43, 44, 45, 46, 47, 48, 49, 50, 51, 52, 53, 54, 55, 75, 76, 77, 78, 79, 80, 81, 82, 83, 84, 85, 86, 87, 88, 89, 90, 91, 92, 93, 67, 68, 69, 70, 71, 72, 73, 74] (by decide +kernel) (by decide +kernel)
set_option maxRecDepth 20000 in
theorem gX0_seekJoin_X0_bentBy : GoodIn wsX0_seekJoin (wsV RX0 90 RX0 yX0_bentBy wsX0_bentBy) := goodIn_app (goodIn_of _ (by decide +kernel)) ggX0_seekJoin_X0_bentBy
set_option maxRecDepth 20000 in
theorem ggX0_seekJoin_X0_apart : GoodIn wsX0_seekJoin wsX0_apart := goodIn_r _ [59, 60, 38, 39, 40, 41, 61, 62, 63, 64, 65, 66, 75, 76, 77, 78, 79, 80, 81, 82, 83, 84, 85, 86, 87, 88, 89, 90, 91, 92, 93, 67, 68, 69, 70, 71, 72, 73, 74] (by decide +kernel) (by decide +kernel)
set_option maxRecDepth 20000 in
theorem gX0_seekJoin_X0_apart : GoodIn wsX0_seekJoin (wsV RX0 94 RX0 yX0_apart wsX0_apart) := goodIn_app (goodIn_of _ (by decide +kernel)) ggX0_seekJoin_X0_apart
theorem dX0_seekJoin_0 : decode cX0_seekJoin 0 = .ok (.aload_n 0, 1) := by decide +kernel
theorem dX0_seekJoin_1 : decode cX0_seekJoin 1 = .ok (.aload_n 1, 1) := by decide +kernel
theorem dX0_seekJoin_2 : decode cX0_seekJoin 2 = .ok (.iload_n 3, 1) := by decide +kernel
theorem dX0_seekJoin_3 : decode cX0_seekJoin 3 = .ok (.invokevirtual 83, 3) := by decide +kernel
theorem dX0_seekJoin_6 : decode cX0_seekJoin 6 = .ok (.istore 5, 2) := by decide +kernel
theorem dX0_seekJoin_8 : decode cX0_seekJoin 8 = .ok (.aload_n 0, 1) := by decide +kernel
theorem dX0_seekJoin_9 : decode cX0_seekJoin 9 = .ok (.aload_n 2, 1) := by decide +kernel
theorem dX0_seekJoin_10 : decode cX0_seekJoin 10 = .ok (.iload_n 3, 1) := by decide +kernel
theorem dX0_seekJoin_11 : decode cX0_seekJoin 11 = .ok (.invokevirtual 87, 3) := by decide +kernel
theorem dX0_seekJoin_14 : decode cX0_seekJoin 14 = .ok (.istore 6, 2) := by decide +kernel
theorem dX0_seekJoin_16 : decode cX0_seekJoin 16 = .ok (.ldc 72, 2) := by decide +kernel
theorem dX0_seekJoin_18 : decode cX0_seekJoin 18 = .ok (.istore 7, 2) := by decide +kernel
theorem dX0_seekJoin_20 : decode cX0_seekJoin 20 = .ok (.iconst 0, 1) := by decide +kernel
theorem dX0_seekJoin_21 : decode cX0_seekJoin 21 = .ok (.istore 8, 2) := by decide +kernel
theorem dX0_seekJoin_23 : decode cX0_seekJoin 23 = .ok (.iload 8, 2) := by decide +kernel
theorem dX0_seekJoin_25 : decode cX0_seekJoin 25 = .ok (.iload 5, 2) := by decide +kernel
theorem dX0_seekJoin_27 : decode cX0_seekJoin 27 = .ok (.if_icmp .ge 89, 3) := by decide +kernel
theorem dX0_seekJoin_30 : decode cX0_seekJoin 30 = .ok (.iconst 0, 1) := by decide +kernel
theorem dX0_seekJoin_31 : decode cX0_seekJoin 31 = .ok (.istore 9, 2) := by decide +kernel
theorem dX0_seekJoin_33 : decode cX0_seekJoin 33 = .ok (.iload 9, 2) := by decide +kernel
theorem dX0_seekJoin_35 : decode cX0_seekJoin 35 = .ok (.iload 6, 2) := by decide +kernel
theorem dX0_seekJoin_37 : decode cX0_seekJoin 37 = .ok (.if_icmp .ge 73, 3) := by decide +kernel
theorem dX0_seekJoin_40 : decode cX0_seekJoin 40 = .ok (.aload_n 0, 1) := by decide +kernel
theorem dX0_seekJoin_41 : decode cX0_seekJoin 41 = .ok (.aload_n 1, 1) := by decide +kernel
theorem dX0_seekJoin_42 : decode cX0_seekJoin 42 = .ok (.aload_n 2, 1) := by decide +kernel
theorem dX0_seekJoin_43 : decode cX0_seekJoin 43 = .ok (.iload_n 3, 1) := by decide +kernel
theorem dX0_seekJoin_44 : decode cX0_seekJoin 44 = .ok (.aload_n 0, 1) := by decide +kernel
theorem dX0_seekJoin_45 : decode cX0_seekJoin 45 = .ok (.getfield 31, 3) := by decide +kernel
theorem dX0_seekJoin_48 : decode cX0_seekJoin 48 = .ok (.iload 8, 2) := by decide +kernel
theorem dX0_seekJoin_50 : decode cX0_seekJoin 50 = .ok (.iaload, 1) := by decide +kernel
theorem dX0_seekJoin_51 : decode cX0_seekJoin 51 = .ok (.aload_n 0, 1) := by decide +kernel
theorem dX0_seekJoin_52 : decode cX0_seekJoin 52 = .ok (.getfield 34, 3) := by decide +kernel
theorem dX0_seekJoin_55 : decode cX0_seekJoin 55 = .ok (.iload 9, 2) := by decide +kernel
theorem dX0_seekJoin_57 : decode cX0_seekJoin 57 = .ok (.iaload, 1) := by decide +kernel
theorem dX0_seekJoin_58 : decode cX0_seekJoin 58 = .ok (.iload 7, 2) := by decide +kernel
theorem dX0_seekJoin_60 : decode cX0_seekJoin 60 = .ok (.invokevirtual 90, 3) := by decide +kernel
theorem dX0_seekJoin_63 : decode cX0_seekJoin 63 = .ok (.istore 10, 2) := by decide +kernel
theorem dX0_seekJoin_65 : decode cX0_seekJoin 65 = .ok (.iload 10, 2) := by decide +kernel
theorem dX0_seekJoin_67 : decode cX0_seekJoin 67 = .ok (.iload 7, 2) := by decide +kernel
theorem dX0_seekJoin_69 : decode cX0_seekJoin 69 = .ok (.if_icmp .ge 35, 3) := by decide +kernel
theorem dX0_seekJoin_72 : decode cX0_seekJoin 72 = .ok (.iload 10, 2) := by decide +kernel
theorem dX0_seekJoin_74 : decode cX0_seekJoin 74 = .ok (.istore 7, 2) := by decide +kernel
theorem dX0_seekJoin_76 : decode cX0_seekJoin 76 = .ok (.aload_n 0, 1) := by decide +kernel
theorem dX0_seekJoin_77 : decode cX0_seekJoin 77 = .ok (.getfield 25, 3) := by decide +kernel
theorem dX0_seekJoin_80 : decode cX0_seekJoin 80 = .ok (.iload 4, 2) := by decide +kernel
theorem dX0_seekJoin_82 : decode cX0_seekJoin 82 = .ok (.aload_n 0, 1) := by decide +kernel
theorem dX0_seekJoin_83 : decode cX0_seekJoin 83 = .ok (.getfield 31, 3) := by decide +kernel
theorem dX0_seekJoin_86 : decode cX0_seekJoin 86 = .ok (.iload 8, 2) := by decide +kernel
theorem dX0_seekJoin_88 : decode cX0_seekJoin 88 = .ok (.iaload, 1) := by decide +kernel
theorem dX0_seekJoin_89 : decode cX0_seekJoin 89 = .ok (.iastore, 1) := by decide +kernel
theorem dX0_seekJoin_90 : decode cX0_seekJoin 90 = .ok (.aload_n 0, 1) := by decide +kernel
theorem dX0_seekJoin_91 : decode cX0_seekJoin 91 = .ok (.getfield 28, 3) := by decide +kernel
theorem dX0_seekJoin_94 : decode cX0_seekJoin 94 = .ok (.iload 4, 2) := by decide +kernel
theorem dX0_seekJoin_96 : decode cX0_seekJoin 96 = .ok (.aload_n 0, 1) := by decide +kernel
theorem dX0_seekJoin_97 : decode cX0_seekJoin 97 = .ok (.getfield 34, 3) := by decide +kernel
theorem dX0_seekJoin_100 : decode cX0_seekJoin 100 = .ok (.iload 9, 2) := by decide +kernel
theorem dX0_seekJoin_102 : decode cX0_seekJoin 102 = .ok (.iaload, 1) := by decide +kernel
theorem dX0_seekJoin_103 : decode cX0_seekJoin 103 = .ok (.iastore, 1) := by decide +kernel
theorem dX0_seekJoin_104 : decode cX0_seekJoin 104 = .ok (.iinc 9 1, 3) := by decide +kernel
theorem dX0_seekJoin_107 : decode cX0_seekJoin 107 = .ok (.goto (-74), 3) := by decide +kernel
theorem dX0_seekJoin_110 : decode cX0_seekJoin 110 = .ok (.iinc 8 1, 3) := by decide +kernel
theorem dX0_seekJoin_113 : decode cX0_seekJoin 113 = .ok (.goto (-90), 3) := by decide +kernel
theorem dX0_seekJoin_116 : decode cX0_seekJoin 116 = .ok (.aload_n 0, 1) := by decide +kernel
theorem dX0_seekJoin_117 : decode cX0_seekJoin 117 = .ok (.getfield 21, 3) := by decide +kernel
theorem dX0_seekJoin_120 : decode cX0_seekJoin 120 = .ok (.iload 4, 2) := by decide +kernel
theorem dX0_seekJoin_122 : decode cX0_seekJoin 122 = .ok (.iload 7, 2) := by decide +kernel
theorem dX0_seekJoin_124 : decode cX0_seekJoin 124 = .ok (.ldc 72, 2) := by decide +kernel
theorem dX0_seekJoin_126 : decode cX0_seekJoin 126 = .ok (.if_icmp .ne 8, 3) := by decide +kernel
theorem dX0_seekJoin_129 : decode cX0_seekJoin 129 = .ok (.ldc 72, 2) := by decide +kernel
theorem dX0_seekJoin_131 : decode cX0_seekJoin 131 = .ok (.goto 12, 3) := by decide +kernel
theorem dX0_seekJoin_134 : decode cX0_seekJoin 134 = .ok (.iload 7, 2) := by decide +kernel
theorem dX0_seekJoin_136 : decode cX0_seekJoin 136 = .ok (.aload_n 0, 1) := by decide +kernel
theorem dX0_seekJoin_137 : decode cX0_seekJoin 137 = .ok (.aload_n 1, 1) := by decide +kernel
theorem dX0_seekJoin_138 : decode cX0_seekJoin 138 = .ok (.aload_n 2, 1) := by decide +kernel
theorem dX0_seekJoin_139 : decode cX0_seekJoin 139 = .ok (.invokevirtual 94, 3) := by decide +kernel
theorem dX0_seekJoin_142 : decode cX0_seekJoin 142 = .ok (.iadd, 1) := by decide +kernel
theorem dX0_seekJoin_143 : decode cX0_seekJoin 143 = .ok (.iastore, 1) := by decide +kernel
theorem dX0_seekJoin_144 : decode cX0_seekJoin 144 = .ok (.return_, 1) := by decide +kernel
set_option maxRecDepth 20000 in
theorem ggX0_listLate_X0_canBegin : GoodIn wsX0_listLate wsX0_canBegin := goodIn_r _ [6, 7, 8, 9, 10, 11, 12, 13, 14, 20, 21, 22, 23, 24, 25, 26, 27, 28, 29, 30, 31, 32, 33, 34, 35, 36, 37, 38] (by decide +kernel) (by decide +kernel)
set_option maxRecDepth 20000 in
theorem gX0_listLate_X0_canBegin : GoodIn wsX0_listLate (va_wsS RX0 101 yX0_canBegin wsX0_canBegin) := goodIn_app (goodIn_of _ (by decide +kernel)) ggX0_listLate_X0_canBegin
set_option maxRecDepth 20000 in
theorem ggX0_listLate_X3_soundsAlike : GoodIn wsX0_listLate wsX3_soundsAlike := goodIn_r _ [18, 19, 20, 21, 22, 23, 24, 25, 26, 27, 28, 29, 30, 31, 32, 33, 34, 35, 36, 37, 38] (by decide +kernel) (by decide +kernel)
set_option maxRecDepth 20000 in
theorem gX0_listLate_X3_soundsAlike : GoodIn wsX0_listLate (wsV RX0 105 RX3 yX3_soundsAlike wsX3_soundsAlike) := goodIn_app (goodIn_of _ (by decide +kernel)) ggX0_listLate_X3_soundsAlike
theorem dX0_listLate_0 : decode cX0_listLate 0 = .ok (.iconst 0, 1) := by decide +kernel
theorem dX0_listLate_1 : decode cX0_listLate 1 = .ok (.istore_n 3, 1) := by decide +kernel
theorem dX0_listLate_2 : decode cX0_listLate 2 = .ok (.aload_n 1, 1) := by decide +kernel
theorem dX0_listLate_3 : decode cX0_listLate 3 = .ok (.getfield 98, 3) := by decide +kernel
theorem dX0_listLate_6 : decode cX0_listLate 6 = .ok (.iload_n 2, 1) := by decide +kernel
theorem dX0_listLate_7 : decode cX0_listLate 7 = .ok (.isub, 1) := by decide +kernel
theorem dX0_listLate_8 : decode cX0_listLate 8 = .ok (.istore 4, 2) := by decide +kernel
theorem dX0_listLate_10 : decode cX0_listLate 10 = .ok (.iload 4, 2) := by decide +kernel
theorem dX0_listLate_12 : decode cX0_listLate 12 = .ok (.ifCond .lt 52, 3) := by decide +kernel
theorem dX0_listLate_15 : decode cX0_listLate 15 = .ok (.aload_n 1, 1) := by decide +kernel
theorem dX0_listLate_16 : decode cX0_listLate 16 = .ok (.iload 4, 2) := by decide +kernel
theorem dX0_listLate_18 : decode cX0_listLate 18 = .ok (.iload_n 2, 1) := by decide +kernel
theorem dX0_listLate_19 : decode cX0_listLate 19 = .ok (.invokestatic 101, 3) := by decide +kernel
theorem dX0_listLate_22 : decode cX0_listLate 22 = .ok (.ifCond .eq 36, 3) := by decide +kernel
theorem dX0_listLate_25 : decode cX0_listLate 25 = .ok (.iload_n 3, 1) := by decide +kernel
theorem dX0_listLate_26 : decode cX0_listLate 26 = .ok (.ifCond .eq 21, 3) := by decide +kernel
theorem dX0_listLate_29 : decode cX0_listLate 29 = .ok (.aload_n 1, 1) := by decide +kernel
theorem dX0_listLate_30 : decode cX0_listLate 30 = .ok (.iload 4, 2) := by decide +kernel
theorem dX0_listLate_32 : decode cX0_listLate 32 = .ok (.aload_n 0, 1) := by decide +kernel
theorem dX0_listLate_33 : decode cX0_listLate 33 = .ok (.getfield 31, 3) := by decide +kernel
theorem dX0_listLate_36 : decode cX0_listLate 36 = .ok (.iload_n 3, 1) := by decide +kernel
theorem dX0_listLate_37 : decode cX0_listLate 37 = .ok (.iconst 1, 1) := by decide +kernel
theorem dX0_listLate_38 : decode cX0_listLate 38 = .ok (.isub, 1) := by decide +kernel
theorem dX0_listLate_39 : decode cX0_listLate 39 = .ok (.iaload, 1) := by decide +kernel
theorem dX0_listLate_40 : decode cX0_listLate 40 = .ok (.iload_n 2, 1) := by decide +kernel
theorem dX0_listLate_41 : decode cX0_listLate 41 = .ok (.invokevirtual 105, 3) := by decide +kernel
theorem dX0_listLate_44 : decode cX0_listLate 44 = .ok (.ifCond .ne 14, 3) := by decide +kernel
theorem dX0_listLate_47 : decode cX0_listLate 47 = .ok (.aload_n 0, 1) := by decide +kernel
theorem dX0_listLate_48 : decode cX0_listLate 48 = .ok (.getfield 31, 3) := by decide +kernel
theorem dX0_listLate_51 : decode cX0_listLate 51 = .ok (.iload_n 3, 1) := by decide +kernel
theorem dX0_listLate_52 : decode cX0_listLate 52 = .ok (.iload 4, 2) := by decide +kernel
theorem dX0_listLate_54 : decode cX0_listLate 54 = .ok (.iastore, 1) := by decide +kernel
theorem dX0_listLate_55 : decode cX0_listLate 55 = .ok (.iinc 3 1, 3) := by decide +kernel
theorem dX0_listLate_58 : decode cX0_listLate 58 = .ok (.iinc 4 (-1), 3) := by decide +kernel
theorem dX0_listLate_61 : decode cX0_listLate 61 = .ok (.goto (-51), 3) := by decide +kernel
theorem dX0_listLate_64 : decode cX0_listLate 64 = .ok (.iload_n 3, 1) := by decide +kernel
theorem dX0_listLate_65 : decode cX0_listLate 65 = .ok (.ireturn, 1) := by decide +kernel
set_option maxRecDepth 20000 in
theorem ggX0_listEarly_X0_canBegin : GoodIn wsX0_listEarly wsX0_canBegin := goodIn_r _ [6, 7, 8, 9, 10, 11, 12, 13, 14, 20, 21, 22, 23, 24, 25, 26, 27, 28, 29, 30, 31, 32, 33, 34, 35, 36, 37, 38] (by decide +kernel) (by decide +kernel)
set_option maxRecDepth 20000 in
theorem gX0_listEarly_X0_canBegin : GoodIn wsX0_listEarly (va_wsS RX0 101 yX0_canBegin wsX0_canBegin) := goodIn_app (goodIn_of _ (by decide +kernel)) ggX0_listEarly_X0_canBegin
set_option maxRecDepth 20000 in
theorem ggX0_listEarly_X3_soundsAlike : GoodIn wsX0_listEarly wsX3_soundsAlike := goodIn_r _ [18, 19, 20, 21, 22, 23, 24, 25, 26, 27, 28, 29, 30, 31, 32, 33, 34, 35, 36, 37, 38] (by decide +kernel) (by decide +kernel)
set_option maxRecDepth 20000 in
theorem gX0_listEarly_X3_soundsAlike : GoodIn wsX0_listEarly (wsV RX0 105 RX3 yX3_soundsAlike wsX3_soundsAlike) := goodIn_app (goodIn_of _ (by decide +kernel)) ggX0_listEarly_X3_soundsAlike
theorem dX0_listEarly_0 : decode cX0_listEarly 0 = .ok (.iconst 0, 1) := by decide +kernel
theorem dX0_listEarly_1 : decode cX0_listEarly 1 = .ok (.istore_n 3, 1) := by decide +kernel
theorem dX0_listEarly_2 : decode cX0_listEarly 2 = .ok (.iconst 0, 1) := by decide +kernel
theorem dX0_listEarly_3 : decode cX0_listEarly 3 = .ok (.istore 4, 2) := by decide +kernel
theorem dX0_listEarly_5 : decode cX0_listEarly 5 = .ok (.iload 4, 2) := by decide +kernel
theorem dX0_listEarly_7 : decode cX0_listEarly 7 = .ok (.aload_n 1, 1) := by decide +kernel
theorem dX0_listEarly_8 : decode cX0_listEarly 8 = .ok (.getfield 98, 3) := by decide +kernel
theorem dX0_listEarly_11 : decode cX0_listEarly 11 = .ok (.iload_n 2, 1) := by decide +kernel
theorem dX0_listEarly_12 : decode cX0_listEarly 12 = .ok (.isub, 1) := by decide +kernel
theorem dX0_listEarly_13 : decode cX0_listEarly 13 = .ok (.if_icmp .gt 52, 3) := by decide +kernel
theorem dX0_listEarly_16 : decode cX0_listEarly 16 = .ok (.aload_n 1, 1) := by decide +kernel
theorem dX0_listEarly_17 : decode cX0_listEarly 17 = .ok (.iload 4, 2) := by decide +kernel
theorem dX0_listEarly_19 : decode cX0_listEarly 19 = .ok (.iload_n 2, 1) := by decide +kernel
theorem dX0_listEarly_20 : decode cX0_listEarly 20 = .ok (.invokestatic 101, 3) := by decide +kernel
theorem dX0_listEarly_23 : decode cX0_listEarly 23 = .ok (.ifCond .eq 36, 3) := by decide +kernel
theorem dX0_listEarly_26 : decode cX0_listEarly 26 = .ok (.iload_n 3, 1) := by decide +kernel
theorem dX0_listEarly_27 : decode cX0_listEarly 27 = .ok (.ifCond .eq 21, 3) := by decide +kernel
theorem dX0_listEarly_30 : decode cX0_listEarly 30 = .ok (.aload_n 1, 1) := by decide +kernel
theorem dX0_listEarly_31 : decode cX0_listEarly 31 = .ok (.iload 4, 2) := by decide +kernel
theorem dX0_listEarly_33 : decode cX0_listEarly 33 = .ok (.aload_n 0, 1) := by decide +kernel
theorem dX0_listEarly_34 : decode cX0_listEarly 34 = .ok (.getfield 34, 3) := by decide +kernel
theorem dX0_listEarly_37 : decode cX0_listEarly 37 = .ok (.iload_n 3, 1) := by decide +kernel
theorem dX0_listEarly_38 : decode cX0_listEarly 38 = .ok (.iconst 1, 1) := by decide +kernel
theorem dX0_listEarly_39 : decode cX0_listEarly 39 = .ok (.isub, 1) := by decide +kernel
theorem dX0_listEarly_40 : decode cX0_listEarly 40 = .ok (.iaload, 1) := by decide +kernel
theorem dX0_listEarly_41 : decode cX0_listEarly 41 = .ok (.iload_n 2, 1) := by decide +kernel
theorem dX0_listEarly_42 : decode cX0_listEarly 42 = .ok (.invokevirtual 105, 3) := by decide +kernel
theorem dX0_listEarly_45 : decode cX0_listEarly 45 = .ok (.ifCond .ne 14, 3) := by decide +kernel
theorem dX0_listEarly_48 : decode cX0_listEarly 48 = .ok (.aload_n 0, 1) := by decide +kernel
theorem dX0_listEarly_49 : decode cX0_listEarly 49 = .ok (.getfield 34, 3) := by decide +kernel
theorem dX0_listEarly_52 : decode cX0_listEarly 52 = .ok (.iload_n 3, 1) := by decide +kernel
theorem dX0_listEarly_53 : decode cX0_listEarly 53 = .ok (.iload 4, 2) := by decide +kernel
theorem dX0_listEarly_55 : decode cX0_listEarly 55 = .ok (.iastore, 1) := by decide +kernel
theorem dX0_listEarly_56 : decode cX0_listEarly 56 = .ok (.iinc 3 1, 3) := by decide +kernel
theorem dX0_listEarly_59 : decode cX0_listEarly 59 = .ok (.iinc 4 1, 3) := by decide +kernel
theorem dX0_listEarly_62 : decode cX0_listEarly 62 = .ok (.goto (-57), 3) := by decide +kernel
theorem dX0_listEarly_65 : decode cX0_listEarly 65 = .ok (.iload_n 3, 1) := by decide +kernel
theorem dX0_listEarly_66 : decode cX0_listEarly 66 = .ok (.ireturn, 1) := by decide +kernel
set_option maxRecDepth 20000 in
theorem ggX0_canBegin_X3_beginsPhrase : GoodIn wsX0_canBegin wsX3_beginsPhrase := goodIn_r _ [6, 7, 8, 9, 10, 11, 12, 13, 14, 15, 16, 17, 18, 19, 20, 21, 22, 23, 24, 25, 26, 27] (by decide +kernel) (by decide +kernel)
set_option maxRecDepth 20000 in
theorem gX0_canBegin_X3_beginsPhrase : GoodIn wsX0_canBegin (wsV RX0 112 RX3 yX3_beginsPhrase wsX3_beginsPhrase) := goodIn_app (goodIn_of _ (by decide +kernel)) ggX0_canBegin_X3_beginsPhrase
theorem dX0_canBegin_0 : decode cX0_canBegin 0 = .ok (.aload_n 0, 1) := by decide +kernel
theorem dX0_canBegin_1 : decode cX0_canBegin 1 = .ok (.getfield 109, 3) := by decide +kernel
theorem dX0_canBegin_4 : decode cX0_canBegin 4 = .ok (.iload_n 1, 1) := by decide +kernel
theorem dX0_canBegin_5 : decode cX0_canBegin 5 = .ok (.iaload, 1) := by decide +kernel
theorem dX0_canBegin_6 : decode cX0_canBegin 6 = .ok (.iload_n 2, 1) := by decide +kernel
theorem dX0_canBegin_7 : decode cX0_canBegin 7 = .ok (.if_icmp .lt 15, 3) := by decide +kernel
theorem dX0_canBegin_10 : decode cX0_canBegin 10 = .ok (.aload_n 0, 1) := by decide +kernel
theorem dX0_canBegin_11 : decode cX0_canBegin 11 = .ok (.iload_n 1, 1) := by decide +kernel
theorem dX0_canBegin_12 : decode cX0_canBegin 12 = .ok (.invokevirtual 112, 3) := by decide +kernel
theorem dX0_canBegin_15 : decode cX0_canBegin 15 = .ok (.ifCond .eq 7, 3) := by decide +kernel
theorem dX0_canBegin_18 : decode cX0_canBegin 18 = .ok (.iconst 1, 1) := by decide +kernel
theorem dX0_canBegin_19 : decode cX0_canBegin 19 = .ok (.goto 4, 3) := by decide +kernel
theorem dX0_canBegin_22 : decode cX0_canBegin 22 = .ok (.iconst 0, 1) := by decide +kernel
theorem dX0_canBegin_23 : decode cX0_canBegin 23 = .ok (.ireturn, 1) := by decide +kernel
theorem dX1_init_0 : decode cX1_init 0 = .ok (.aload_n 0, 1) := by decide +kernel
theorem dX1_init_1 : decode cX1_init 1 = .ok (.invokespecial 3, 3) := by decide +kernel
theorem dX1_init_4 : decode cX1_init 4 = .ok (.aload_n 0, 1) := by decide +kernel
theorem dX1_init_5 : decode cX1_init 5 = .ok (.iconst 0, 1) := by decide +kernel
theorem dX1_init_6 : decode cX1_init 6 = .ok (.putfield 9, 3) := by decide +kernel
theorem dX1_init_9 : decode cX1_init 9 = .ok (.aload_n 0, 1) := by decide +kernel
theorem dX1_init_10 : decode cX1_init 10 = .ok (.bipush 33, 2) := by decide +kernel
theorem dX1_init_12 : decode cX1_init 12 = .ok (.newarray .int, 2) := by decide +kernel
theorem dX1_init_14 : decode cX1_init 14 = .ok (.putfield 15, 3) := by decide +kernel
theorem dX1_init_17 : decode cX1_init 17 = .ok (.aload_n 0, 1) := by decide +kernel
theorem dX1_init_18 : decode cX1_init 18 = .ok (.bipush 32, 2) := by decide +kernel
theorem dX1_init_20 : decode cX1_init 20 = .ok (.newarray .int, 2) := by decide +kernel
theorem dX1_init_22 : decode cX1_init 22 = .ok (.putfield 19, 3) := by decide +kernel
theorem dX1_init_25 : decode cX1_init 25 = .ok (.aload_n 0, 1) := by decide +kernel
theorem dX1_init_26 : decode cX1_init 26 = .ok (.bipush 32, 2) := by decide +kernel
theorem dX1_init_28 : decode cX1_init 28 = .ok (.newarray .int, 2) := by decide +kernel
theorem dX1_init_30 : decode cX1_init 30 = .ok (.putfield 22, 3) := by decide +kernel
theorem dX1_init_33 : decode cX1_init 33 = .ok (.return_, 1) := by decide +kernel
set_option maxRecDepth 20000 in
theorem ggX1_keep_X5_blend : GoodIn wsX1_keep wsX5_blend := goodIn_r _ [8, 9, 10, 11, 12] (by decide +kernel) (by decide +kernel)
set_option maxRecDepth 20000 in
theorem gX1_keep_X5_blend_n30 : GoodIn wsX1_keep (wsX5_blend) := ggX1_keep_X5_blend
set_option maxRecDepth 20000 in
theorem ggX1_keep_X5_bendOf : GoodIn wsX1_keep wsX5_bendOf := goodIn_r _ [14, 15, 16, 17, 18, 19, 20, 21] (by decide +kernel) (by decide +kernel)
set_option maxRecDepth 20000 in
theorem gX1_keep_X5_bendOf_n34 : GoodIn wsX1_keep (wsX5_bendOf) := ggX1_keep_X5_bendOf
theorem dX1_keep_0 : decode cX1_keep 0 = .ok (.aload_n 0, 1) := by decide +kernel
theorem dX1_keep_1 : decode cX1_keep 1 = .ok (.iconst 4, 1) := by decide +kernel
theorem dX1_keep_2 : decode cX1_keep 2 = .ok (.iload_n 3, 1) := by decide +kernel
theorem dX1_keep_3 : decode cX1_keep 3 = .ok (.imul, 1) := by decide +kernel
theorem dX1_keep_4 : decode cX1_keep 4 = .ok (.putfield 9, 3) := by decide +kernel
theorem dX1_keep_7 : decode cX1_keep 7 = .ok (.aload_n 0, 1) := by decide +kernel
theorem dX1_keep_8 : decode cX1_keep 8 = .ok (.getfield 15, 3) := by decide +kernel
theorem dX1_keep_11 : decode cX1_keep 11 = .ok (.iconst 0, 1) := by decide +kernel
theorem dX1_keep_12 : decode cX1_keep 12 = .ok (.iconst 0, 1) := by decide +kernel
theorem dX1_keep_13 : decode cX1_keep 13 = .ok (.iastore, 1) := by decide +kernel
theorem dX1_keep_14 : decode cX1_keep 14 = .ok (.iconst 0, 1) := by decide +kernel
theorem dX1_keep_15 : decode cX1_keep 15 = .ok (.istore 6, 2) := by decide +kernel
theorem dX1_keep_17 : decode cX1_keep 17 = .ok (.iload 6, 2) := by decide +kernel
theorem dX1_keep_19 : decode cX1_keep 19 = .ok (.aload_n 0, 1) := by decide +kernel
theorem dX1_keep_20 : decode cX1_keep 20 = .ok (.getfield 9, 3) := by decide +kernel
theorem dX1_keep_23 : decode cX1_keep 23 = .ok (.if_icmp .ge 99, 3) := by decide +kernel
theorem dX1_keep_26 : decode cX1_keep 26 = .ok (.aload_n 1, 1) := by decide +kernel
theorem dX1_keep_27 : decode cX1_keep 27 = .ok (.getfield 25, 3) := by decide +kernel
theorem dX1_keep_30 : decode cX1_keep 30 = .ok (.iconst 4, 1) := by decide +kernel
theorem dX1_keep_31 : decode cX1_keep 31 = .ok (.iload 4, 2) := by decide +kernel
theorem dX1_keep_33 : decode cX1_keep 33 = .ok (.imul, 1) := by decide +kernel
theorem dX1_keep_34 : decode cX1_keep 34 = .ok (.iload 6, 2) := by decide +kernel
theorem dX1_keep_36 : decode cX1_keep 36 = .ok (.iadd, 1) := by decide +kernel
theorem dX1_keep_37 : decode cX1_keep 37 = .ok (.iaload, 1) := by decide +kernel
theorem dX1_keep_38 : decode cX1_keep 38 = .ok (.istore 7, 2) := by decide +kernel
theorem dX1_keep_40 : decode cX1_keep 40 = .ok (.aload_n 2, 1) := by decide +kernel
theorem dX1_keep_41 : decode cX1_keep 41 = .ok (.getfield 25, 3) := by decide +kernel
theorem dX1_keep_44 : decode cX1_keep 44 = .ok (.iconst 4, 1) := by decide +kernel
theorem dX1_keep_45 : decode cX1_keep 45 = .ok (.iload 5, 2) := by decide +kernel
theorem dX1_keep_47 : decode cX1_keep 47 = .ok (.imul, 1) := by decide +kernel
theorem dX1_keep_48 : decode cX1_keep 48 = .ok (.iload 6, 2) := by decide +kernel
theorem dX1_keep_50 : decode cX1_keep 50 = .ok (.iadd, 1) := by decide +kernel
theorem dX1_keep_51 : decode cX1_keep 51 = .ok (.iaload, 1) := by decide +kernel
theorem dX1_keep_52 : decode cX1_keep 52 = .ok (.istore 8, 2) := by decide +kernel
theorem dX1_keep_54 : decode cX1_keep 54 = .ok (.aload_n 0, 1) := by decide +kernel
theorem dX1_keep_55 : decode cX1_keep 55 = .ok (.getfield 19, 3) := by decide +kernel
theorem dX1_keep_58 : decode cX1_keep 58 = .ok (.iload 6, 2) := by decide +kernel
theorem dX1_keep_60 : decode cX1_keep 60 = .ok (.iload 7, 2) := by decide +kernel
theorem dX1_keep_62 : decode cX1_keep 62 = .ok (.iload 8, 2) := by decide +kernel
theorem dX1_keep_64 : decode cX1_keep 64 = .ok (.iload 6, 2) := by decide +kernel
theorem dX1_keep_66 : decode cX1_keep 66 = .ok (.iload_n 3, 1) := by decide +kernel
theorem dX1_keep_67 : decode cX1_keep 67 = .ok (.invokestatic 30, 3) := by decide +kernel
theorem dX1_keep_70 : decode cX1_keep 70 = .ok (.iastore, 1) := by decide +kernel
theorem dX1_keep_71 : decode cX1_keep 71 = .ok (.aload_n 0, 1) := by decide +kernel
theorem dX1_keep_72 : decode cX1_keep 72 = .ok (.getfield 22, 3) := by decide +kernel
theorem dX1_keep_75 : decode cX1_keep 75 = .ok (.iload 6, 2) := by decide +kernel
theorem dX1_keep_77 : decode cX1_keep 77 = .ok (.iload 7, 2) := by decide +kernel
theorem dX1_keep_79 : decode cX1_keep 79 = .ok (.iload 8, 2) := by decide +kernel
theorem dX1_keep_81 : decode cX1_keep 81 = .ok (.aload_n 0, 1) := by decide +kernel
theorem dX1_keep_82 : decode cX1_keep 82 = .ok (.getfield 19, 3) := by decide +kernel
theorem dX1_keep_85 : decode cX1_keep 85 = .ok (.iload 6, 2) := by decide +kernel
theorem dX1_keep_87 : decode cX1_keep 87 = .ok (.iaload, 1) := by decide +kernel
theorem dX1_keep_88 : decode cX1_keep 88 = .ok (.invokestatic 34, 3) := by decide +kernel
theorem dX1_keep_91 : decode cX1_keep 91 = .ok (.iastore, 1) := by decide +kernel
theorem dX1_keep_92 : decode cX1_keep 92 = .ok (.aload_n 0, 1) := by decide +kernel
theorem dX1_keep_93 : decode cX1_keep 93 = .ok (.getfield 15, 3) := by decide +kernel
theorem dX1_keep_96 : decode cX1_keep 96 = .ok (.iload 6, 2) := by decide +kernel
theorem dX1_keep_98 : decode cX1_keep 98 = .ok (.iconst 1, 1) := by decide +kernel
theorem dX1_keep_99 : decode cX1_keep 99 = .ok (.iadd, 1) := by decide +kernel
theorem dX1_keep_100 : decode cX1_keep 100 = .ok (.aload_n 0, 1) := by decide +kernel
theorem dX1_keep_101 : decode cX1_keep 101 = .ok (.getfield 15, 3) := by decide +kernel
theorem dX1_keep_104 : decode cX1_keep 104 = .ok (.iload 6, 2) := by decide +kernel
theorem dX1_keep_106 : decode cX1_keep 106 = .ok (.iaload, 1) := by decide +kernel
theorem dX1_keep_107 : decode cX1_keep 107 = .ok (.aload_n 0, 1) := by decide +kernel
theorem dX1_keep_108 : decode cX1_keep 108 = .ok (.getfield 19, 3) := by decide +kernel
theorem dX1_keep_111 : decode cX1_keep 111 = .ok (.iload 6, 2) := by decide +kernel
theorem dX1_keep_113 : decode cX1_keep 113 = .ok (.iaload, 1) := by decide +kernel
theorem dX1_keep_114 : decode cX1_keep 114 = .ok (.iadd, 1) := by decide +kernel
theorem dX1_keep_115 : decode cX1_keep 115 = .ok (.iastore, 1) := by decide +kernel
theorem dX1_keep_116 : decode cX1_keep 116 = .ok (.iinc 6 1, 3) := by decide +kernel
theorem dX1_keep_119 : decode cX1_keep 119 = .ok (.goto (-102), 3) := by decide +kernel
theorem dX1_keep_122 : decode cX1_keep 122 = .ok (.return_, 1) := by decide +kernel
set_option maxRecDepth 20000 in
theorem ggX1_tell_X5_within : GoodIn wsX1_tell wsX5_within := goodIn_r _ [7] (by decide +kernel) (by decide +kernel)
set_option maxRecDepth 20000 in
theorem gX1_tell_X5_within_n38 : GoodIn wsX1_tell (wsX5_within) := ggX1_tell_X5_within
theorem dX1_tell_0 : decode cX1_tell 0 = .ok (.aload_n 0, 1) := by decide +kernel
theorem dX1_tell_1 : decode cX1_tell 1 = .ok (.getfield 9, 3) := by decide +kernel
theorem dX1_tell_4 : decode cX1_tell 4 = .ok (.ifCond .eq 28, 3) := by decide +kernel
theorem dX1_tell_7 : decode cX1_tell 7 = .ok (.iload_n 1, 1) := by decide +kernel
theorem dX1_tell_8 : decode cX1_tell 8 = .ok (.iconst 0, 1) := by decide +kernel
theorem dX1_tell_9 : decode cX1_tell 9 = .ok (.iload_n 2, 1) := by decide +kernel
theorem dX1_tell_10 : decode cX1_tell 10 = .ok (.ifCond .ne 10, 3) := by decide +kernel
theorem dX1_tell_13 : decode cX1_tell 13 = .ok (.aload_n 0, 1) := by decide +kernel
theorem dX1_tell_14 : decode cX1_tell 14 = .ok (.getfield 9, 3) := by decide +kernel
theorem dX1_tell_17 : decode cX1_tell 17 = .ok (.goto 9, 3) := by decide +kernel
theorem dX1_tell_20 : decode cX1_tell 20 = .ok (.aload_n 0, 1) := by decide +kernel
theorem dX1_tell_21 : decode cX1_tell 21 = .ok (.getfield 9, 3) := by decide +kernel
theorem dX1_tell_24 : decode cX1_tell 24 = .ok (.iconst 1, 1) := by decide +kernel
theorem dX1_tell_25 : decode cX1_tell 25 = .ok (.isub, 1) := by decide +kernel
theorem dX1_tell_26 : decode cX1_tell 26 = .ok (.invokestatic 38, 3) := by decide +kernel
theorem dX1_tell_29 : decode cX1_tell 29 = .ok (.ifCond .ne 5, 3) := by decide +kernel
theorem dX1_tell_32 : decode cX1_tell 32 = .ok (.iconst (-1), 1) := by decide +kernel
theorem dX1_tell_33 : decode cX1_tell 33 = .ok (.ireturn, 1) := by decide +kernel
theorem dX1_tell_34 : decode cX1_tell 34 = .ok (.iload_n 2, 1) := by decide +kernel
theorem dX1_tell_35 : decode cX1_tell 35 = .ok (.tableswitch 46 0 2 #[25, 32, 39], 25) := by decide +kernel
theorem dX1_tell_60 : decode cX1_tell 60 = .ok (.aload_n 0, 1) := by decide +kernel
theorem dX1_tell_61 : decode cX1_tell 61 = .ok (.getfield 15, 3) := by decide +kernel
theorem dX1_tell_64 : decode cX1_tell 64 = .ok (.iload_n 1, 1) := by decide +kernel
theorem dX1_tell_65 : decode cX1_tell 65 = .ok (.iaload, 1) := by decide +kernel
theorem dX1_tell_66 : decode cX1_tell 66 = .ok (.ireturn, 1) := by decide +kernel
theorem dX1_tell_67 : decode cX1_tell 67 = .ok (.aload_n 0, 1) := by decide +kernel
theorem dX1_tell_68 : decode cX1_tell 68 = .ok (.getfield 19, 3) := by decide +kernel
theorem dX1_tell_71 : decode cX1_tell 71 = .ok (.iload_n 1, 1) := by decide +kernel
theorem dX1_tell_72 : decode cX1_tell 72 = .ok (.iaload, 1) := by decide +kernel
theorem dX1_tell_73 : decode cX1_tell 73 = .ok (.ireturn, 1) := by decide +kernel
theorem dX1_tell_74 : decode cX1_tell 74 = .ok (.aload_n 0, 1) := by decide +kernel
theorem dX1_tell_75 : decode cX1_tell 75 = .ok (.getfield 22, 3) := by decide +kernel
theorem dX1_tell_78 : decode cX1_tell 78 = .ok (.iload_n 1, 1) := by decide +kernel
theorem dX1_tell_79 : decode cX1_tell 79 = .ok (.iaload, 1) := by decide +kernel
theorem dX1_tell_80 : decode cX1_tell 80 = .ok (.ireturn, 1) := by decide +kernel
theorem dX1_tell_81 : decode cX1_tell 81 = .ok (.iconst (-1), 1) := by decide +kernel
theorem dX1_tell_82 : decode cX1_tell 82 = .ok (.ireturn, 1) := by decide +kernel
theorem dX2_init_0 : decode cX2_init 0 = .ok (.aload_n 0, 1) := by decide +kernel
theorem dX2_init_1 : decode cX2_init 1 = .ok (.invokespecial 3, 3) := by decide +kernel
theorem dX2_init_4 : decode cX2_init 4 = .ok (.aload_n 0, 1) := by decide +kernel
theorem dX2_init_5 : decode cX2_init 5 = .ok (.bipush 12, 2) := by decide +kernel
theorem dX2_init_7 : decode cX2_init 7 = .ok (.anewarray 9, 3) := by decide +kernel
theorem dX2_init_10 : decode cX2_init 10 = .ok (.putfield 11, 3) := by decide +kernel
theorem dX2_init_13 : decode cX2_init 13 = .ok (.aload_n 0, 1) := by decide +kernel
theorem dX2_init_14 : decode cX2_init 14 = .ok (.iconst 0, 1) := by decide +kernel
theorem dX2_init_15 : decode cX2_init 15 = .ok (.putfield 17, 3) := by decide +kernel
theorem dX2_init_18 : decode cX2_init 18 = .ok (.aload_n 0, 1) := by decide +kernel
theorem dX2_init_19 : decode cX2_init 19 = .ok (.sipush 144, 3) := by decide +kernel
theorem dX2_init_22 : decode cX2_init 22 = .ok (.newarray .int, 2) := by decide +kernel
theorem dX2_init_24 : decode cX2_init 24 = .ok (.putfield 21, 3) := by decide +kernel
theorem dX2_init_27 : decode cX2_init 27 = .ok (.aload_n 0, 1) := by decide +kernel
theorem dX2_init_28 : decode cX2_init 28 = .ok (.bipush 12, 2) := by decide +kernel
theorem dX2_init_30 : decode cX2_init 30 = .ok (.newarray .boolean, 2) := by decide +kernel
theorem dX2_init_32 : decode cX2_init 32 = .ok (.putfield 25, 3) := by decide +kernel
theorem dX2_init_35 : decode cX2_init 35 = .ok (.aload_n 0, 1) := by decide +kernel
theorem dX2_init_36 : decode cX2_init 36 = .ok (.iconst 0, 1) := by decide +kernel
theorem dX2_init_37 : decode cX2_init 37 = .ok (.newarray .int, 2) := by decide +kernel
theorem dX2_init_39 : decode cX2_init 39 = .ok (.putfield 29, 3) := by decide +kernel
theorem dX2_init_42 : decode cX2_init 42 = .ok (.aload_n 0, 1) := by decide +kernel
theorem dX2_init_43 : decode cX2_init 43 = .ok (.ldc 32, 2) := by decide +kernel
theorem dX2_init_45 : decode cX2_init 45 = .ok (.putfield 33, 3) := by decide +kernel
theorem dX2_init_48 : decode cX2_init 48 = .ok (.aload_n 0, 1) := by decide +kernel
theorem dX2_init_49 : decode cX2_init 49 = .ok (.bipush 12, 2) := by decide +kernel
theorem dX2_init_51 : decode cX2_init 51 = .ok (.newarray .int, 2) := by decide +kernel
theorem dX2_init_53 : decode cX2_init 53 = .ok (.putfield 36, 3) := by decide +kernel
theorem dX2_init_56 : decode cX2_init 56 = .ok (.aload_n 0, 1) := by decide +kernel
theorem dX2_init_57 : decode cX2_init 57 = .ok (.iconst 0, 1) := by decide +kernel
theorem dX2_init_58 : decode cX2_init 58 = .ok (.putfield 39, 3) := by decide +kernel
theorem dX2_init_61 : decode cX2_init 61 = .ok (.return_, 1) := by decide +kernel
theorem dX2_gather_0 : decode cX2_gather 0 = .ok (.aload_n 0, 1) := by decide +kernel
theorem dX2_gather_1 : decode cX2_gather 1 = .ok (.iconst 0, 1) := by decide +kernel
theorem dX2_gather_2 : decode cX2_gather 2 = .ok (.putfield 17, 3) := by decide +kernel
theorem dX2_gather_5 : decode cX2_gather 5 = .ok (.iconst 0, 1) := by decide +kernel
theorem dX2_gather_6 : decode cX2_gather 6 = .ok (.istore_n 2, 1) := by decide +kernel
theorem dX2_gather_7 : decode cX2_gather 7 = .ok (.iload_n 2, 1) := by decide +kernel
theorem dX2_gather_8 : decode cX2_gather 8 = .ok (.bipush 12, 2) := by decide +kernel
theorem dX2_gather_10 : decode cX2_gather 10 = .ok (.if_icmp .ge 37, 3) := by decide +kernel
theorem dX2_gather_13 : decode cX2_gather 13 = .ok (.aload_n 1, 1) := by decide +kernel
theorem dX2_gather_14 : decode cX2_gather 14 = .ok (.iload_n 2, 1) := by decide +kernel
theorem dX2_gather_15 : decode cX2_gather 15 = .ok (.aaload, 1) := by decide +kernel
theorem dX2_gather_16 : decode cX2_gather 16 = .ok (.ifnull 25, 3) := by decide +kernel
theorem dX2_gather_19 : decode cX2_gather 19 = .ok (.aload_n 0, 1) := by decide +kernel
theorem dX2_gather_20 : decode cX2_gather 20 = .ok (.getfield 11, 3) := by decide +kernel
theorem dX2_gather_23 : decode cX2_gather 23 = .ok (.aload_n 0, 1) := by decide +kernel
theorem dX2_gather_24 : decode cX2_gather 24 = .ok (.getfield 17, 3) := by decide +kernel
theorem dX2_gather_27 : decode cX2_gather 27 = .ok (.aload_n 1, 1) := by decide +kernel
theorem dX2_gather_28 : decode cX2_gather 28 = .ok (.iload_n 2, 1) := by decide +kernel
theorem dX2_gather_29 : decode cX2_gather 29 = .ok (.aaload, 1) := by decide +kernel
theorem dX2_gather_30 : decode cX2_gather 30 = .ok (.aastore, 1) := by decide +kernel
theorem dX2_gather_31 : decode cX2_gather 31 = .ok (.aload_n 0, 1) := by decide +kernel
theorem dX2_gather_32 : decode cX2_gather 32 = .ok (.dup, 1) := by decide +kernel
theorem dX2_gather_33 : decode cX2_gather 33 = .ok (.getfield 17, 3) := by decide +kernel
theorem dX2_gather_36 : decode cX2_gather 36 = .ok (.iconst 1, 1) := by decide +kernel
theorem dX2_gather_37 : decode cX2_gather 37 = .ok (.iadd, 1) := by decide +kernel
theorem dX2_gather_38 : decode cX2_gather 38 = .ok (.putfield 17, 3) := by decide +kernel
theorem dX2_gather_41 : decode cX2_gather 41 = .ok (.iinc 2 1, 3) := by decide +kernel
theorem dX2_gather_44 : decode cX2_gather 44 = .ok (.goto (-37), 3) := by decide +kernel
theorem dX2_gather_47 : decode cX2_gather 47 = .ok (.return_, 1) := by decide +kernel
set_option maxRecDepth 20000 in
theorem ggX2_seekOrder_X2_weighSet : GoodIn wsX2_seekOrder wsX2_weighSet := goodIn_r _ [9, 1, 2, 10, 11, 12, 13, 8, 14, 15, 16, 17, 18, 19, 33, 34, 35, 36, 37, 38, 39, 40] (by decide +kernel) (by decide +kernel)
set_option maxRecDepth 20000 in
theorem gX2_seekOrder_X2_weighSet : GoodIn wsX2_seekOrder (wsV RX2 42 RX2 yX2_weighSet wsX2_weighSet) := goodIn_app (goodIn_of _ (by decide +kernel)) ggX2_seekOrder_X2_weighSet
set_option maxRecDepth 20000 in
theorem ggX2_seekOrder_X2_leastFirst : GoodIn wsX2_seekOrder wsX2_leastFirst := goodIn_r _ [23, 10, 1, 2, 24, 33, 34, 35, 36, 37, 38, 39, 40] (by decide +kernel) (by decide +kernel)
set_option maxRecDepth 20000 in
theorem gX2_seekOrder_X2_leastFirst : GoodIn wsX2_seekOrder (wsV RX2 46 RX2 yX2_leastFirst wsX2_leastFirst) := goodIn_app (goodIn_of _ (by decide +kernel)) ggX2_seekOrder_X2_leastFirst
set_option maxRecDepth 20000 in
theorem ggX2_seekOrder_X2_keepOrder : GoodIn wsX2_seekOrder wsX2_keepOrder := goodIn_r _ [28, 29, 30, 31, 1, 32, 11, 12, 13, 8, 14, 10, 15, 16, 17, 18, 19, 2, 33, 34, 35, 36, 37, 38, 39, 40, 41, 42, 43, 44, 45, 46, 47, 48, 49, 50, 51, 52, 53, 54, 55, 56, 57, 58, 59] (by decide +kernel) (by decide +kernel)
set_option maxRecDepth 20000 in
theorem gX2_seekOrder_X2_keepOrder : GoodIn wsX2_seekOrder (wsV RX2 50 RX2 yX2_keepOrder wsX2_keepOrder) := goodIn_app (goodIn_of _ (by decide +kernel)) ggX2_seekOrder_X2_keepOrder
theorem dX2_seekOrder_0 : decode cX2_seekOrder 0 = .ok (.iconst 1, 1) := by decide +kernel
theorem dX2_seekOrder_1 : decode cX2_seekOrder 1 = .ok (.aload_n 0, 1) := by decide +kernel
theorem dX2_seekOrder_2 : decode cX2_seekOrder 2 = .ok (.getfield 17, 3) := by decide +kernel
theorem dX2_seekOrder_5 : decode cX2_seekOrder 5 = .ok (.ishl, 1) := by decide +kernel
theorem dX2_seekOrder_6 : decode cX2_seekOrder 6 = .ok (.iconst 1, 1) := by decide +kernel
theorem dX2_seekOrder_7 : decode cX2_seekOrder 7 = .ok (.isub, 1) := by decide +kernel
theorem dX2_seekOrder_8 : decode cX2_seekOrder 8 = .ok (.istore_n 1, 1) := by decide +kernel
theorem dX2_seekOrder_9 : decode cX2_seekOrder 9 = .ok (.aload_n 0, 1) := by decide +kernel
theorem dX2_seekOrder_10 : decode cX2_seekOrder 10 = .ok (.getfield 29, 3) := by decide +kernel
theorem dX2_seekOrder_13 : decode cX2_seekOrder 13 = .ok (.arraylength, 1) := by decide +kernel
theorem dX2_seekOrder_14 : decode cX2_seekOrder 14 = .ok (.iload_n 1, 1) := by decide +kernel
theorem dX2_seekOrder_15 : decode cX2_seekOrder 15 = .ok (.iconst 1, 1) := by decide +kernel
theorem dX2_seekOrder_16 : decode cX2_seekOrder 16 = .ok (.iadd, 1) := by decide +kernel
theorem dX2_seekOrder_17 : decode cX2_seekOrder 17 = .ok (.aload_n 0, 1) := by decide +kernel
theorem dX2_seekOrder_18 : decode cX2_seekOrder 18 = .ok (.getfield 17, 3) := by decide +kernel
theorem dX2_seekOrder_21 : decode cX2_seekOrder 21 = .ok (.imul, 1) := by decide +kernel
theorem dX2_seekOrder_22 : decode cX2_seekOrder 22 = .ok (.if_icmp .ge 17, 3) := by decide +kernel
theorem dX2_seekOrder_25 : decode cX2_seekOrder 25 = .ok (.aload_n 0, 1) := by decide +kernel
theorem dX2_seekOrder_26 : decode cX2_seekOrder 26 = .ok (.iload_n 1, 1) := by decide +kernel
theorem dX2_seekOrder_27 : decode cX2_seekOrder 27 = .ok (.iconst 1, 1) := by decide +kernel
theorem dX2_seekOrder_28 : decode cX2_seekOrder 28 = .ok (.iadd, 1) := by decide +kernel
theorem dX2_seekOrder_29 : decode cX2_seekOrder 29 = .ok (.aload_n 0, 1) := by decide +kernel
theorem dX2_seekOrder_30 : decode cX2_seekOrder 30 = .ok (.getfield 17, 3) := by decide +kernel
theorem dX2_seekOrder_33 : decode cX2_seekOrder 33 = .ok (.imul, 1) := by decide +kernel
theorem dX2_seekOrder_34 : decode cX2_seekOrder 34 = .ok (.newarray .int, 2) := by decide +kernel
theorem dX2_seekOrder_36 : decode cX2_seekOrder 36 = .ok (.putfield 29, 3) := by decide +kernel
theorem dX2_seekOrder_39 : decode cX2_seekOrder 39 = .ok (.iconst 0, 1) := by decide +kernel
theorem dX2_seekOrder_40 : decode cX2_seekOrder 40 = .ok (.istore_n 2, 1) := by decide +kernel
theorem dX2_seekOrder_41 : decode cX2_seekOrder 41 = .ok (.iload_n 2, 1) := by decide +kernel
theorem dX2_seekOrder_42 : decode cX2_seekOrder 42 = .ok (.aload_n 0, 1) := by decide +kernel
theorem dX2_seekOrder_43 : decode cX2_seekOrder 43 = .ok (.getfield 17, 3) := by decide +kernel
theorem dX2_seekOrder_46 : decode cX2_seekOrder 46 = .ok (.if_icmp .ge 23, 3) := by decide +kernel
theorem dX2_seekOrder_49 : decode cX2_seekOrder 49 = .ok (.aload_n 0, 1) := by decide +kernel
theorem dX2_seekOrder_50 : decode cX2_seekOrder 50 = .ok (.getfield 29, 3) := by decide +kernel
theorem dX2_seekOrder_53 : decode cX2_seekOrder 53 = .ok (.iload_n 1, 1) := by decide +kernel
theorem dX2_seekOrder_54 : decode cX2_seekOrder 54 = .ok (.aload_n 0, 1) := by decide +kernel
theorem dX2_seekOrder_55 : decode cX2_seekOrder 55 = .ok (.getfield 17, 3) := by decide +kernel
theorem dX2_seekOrder_58 : decode cX2_seekOrder 58 = .ok (.imul, 1) := by decide +kernel
theorem dX2_seekOrder_59 : decode cX2_seekOrder 59 = .ok (.iload_n 2, 1) := by decide +kernel
theorem dX2_seekOrder_60 : decode cX2_seekOrder 60 = .ok (.iadd, 1) := by decide +kernel
theorem dX2_seekOrder_61 : decode cX2_seekOrder 61 = .ok (.iconst 0, 1) := by decide +kernel
theorem dX2_seekOrder_62 : decode cX2_seekOrder 62 = .ok (.iastore, 1) := by decide +kernel
theorem dX2_seekOrder_63 : decode cX2_seekOrder 63 = .ok (.iinc 2 1, 3) := by decide +kernel
theorem dX2_seekOrder_66 : decode cX2_seekOrder 66 = .ok (.goto (-25), 3) := by decide +kernel
theorem dX2_seekOrder_69 : decode cX2_seekOrder 69 = .ok (.iload_n 1, 1) := by decide +kernel
theorem dX2_seekOrder_70 : decode cX2_seekOrder 70 = .ok (.iconst 1, 1) := by decide +kernel
theorem dX2_seekOrder_71 : decode cX2_seekOrder 71 = .ok (.isub, 1) := by decide +kernel
theorem dX2_seekOrder_72 : decode cX2_seekOrder 72 = .ok (.istore_n 2, 1) := by decide +kernel
theorem dX2_seekOrder_73 : decode cX2_seekOrder 73 = .ok (.iload_n 2, 1) := by decide +kernel
theorem dX2_seekOrder_74 : decode cX2_seekOrder 74 = .ok (.ifCond .le 14, 3) := by decide +kernel
theorem dX2_seekOrder_77 : decode cX2_seekOrder 77 = .ok (.aload_n 0, 1) := by decide +kernel
theorem dX2_seekOrder_78 : decode cX2_seekOrder 78 = .ok (.iload_n 2, 1) := by decide +kernel
theorem dX2_seekOrder_79 : decode cX2_seekOrder 79 = .ok (.invokevirtual 42, 3) := by decide +kernel
theorem dX2_seekOrder_82 : decode cX2_seekOrder 82 = .ok (.iinc 2 (-1), 3) := by decide +kernel
theorem dX2_seekOrder_85 : decode cX2_seekOrder 85 = .ok (.goto (-12), 3) := by decide +kernel
theorem dX2_seekOrder_88 : decode cX2_seekOrder 88 = .ok (.aload_n 0, 1) := by decide +kernel
theorem dX2_seekOrder_89 : decode cX2_seekOrder 89 = .ok (.invokevirtual 46, 3) := by decide +kernel
theorem dX2_seekOrder_92 : decode cX2_seekOrder 92 = .ok (.istore_n 2, 1) := by decide +kernel
theorem dX2_seekOrder_93 : decode cX2_seekOrder 93 = .ok (.iload_n 2, 1) := by decide +kernel
theorem dX2_seekOrder_94 : decode cX2_seekOrder 94 = .ok (.iconst (-1), 1) := by decide +kernel
theorem dX2_seekOrder_95 : decode cX2_seekOrder 95 = .ok (.if_icmp .ne 5, 3) := by decide +kernel
theorem dX2_seekOrder_98 : decode cX2_seekOrder 98 = .ok (.iconst 0, 1) := by decide +kernel
theorem dX2_seekOrder_99 : decode cX2_seekOrder 99 = .ok (.ireturn, 1) := by decide +kernel
theorem dX2_seekOrder_100 : decode cX2_seekOrder 100 = .ok (.aload_n 0, 1) := by decide +kernel
theorem dX2_seekOrder_101 : decode cX2_seekOrder 101 = .ok (.aload_n 0, 1) := by decide +kernel
theorem dX2_seekOrder_102 : decode cX2_seekOrder 102 = .ok (.getfield 29, 3) := by decide +kernel
theorem dX2_seekOrder_105 : decode cX2_seekOrder 105 = .ok (.iconst 1, 1) := by decide +kernel
theorem dX2_seekOrder_106 : decode cX2_seekOrder 106 = .ok (.iload_n 2, 1) := by decide +kernel
theorem dX2_seekOrder_107 : decode cX2_seekOrder 107 = .ok (.ishl, 1) := by decide +kernel
theorem dX2_seekOrder_108 : decode cX2_seekOrder 108 = .ok (.aload_n 0, 1) := by decide +kernel
theorem dX2_seekOrder_109 : decode cX2_seekOrder 109 = .ok (.getfield 17, 3) := by decide +kernel
theorem dX2_seekOrder_112 : decode cX2_seekOrder 112 = .ok (.imul, 1) := by decide +kernel
theorem dX2_seekOrder_113 : decode cX2_seekOrder 113 = .ok (.iload_n 2, 1) := by decide +kernel
theorem dX2_seekOrder_114 : decode cX2_seekOrder 114 = .ok (.iadd, 1) := by decide +kernel
theorem dX2_seekOrder_115 : decode cX2_seekOrder 115 = .ok (.iaload, 1) := by decide +kernel
theorem dX2_seekOrder_116 : decode cX2_seekOrder 116 = .ok (.putfield 33, 3) := by decide +kernel
theorem dX2_seekOrder_119 : decode cX2_seekOrder 119 = .ok (.aload_n 0, 1) := by decide +kernel
theorem dX2_seekOrder_120 : decode cX2_seekOrder 120 = .ok (.iload_n 2, 1) := by decide +kernel
theorem dX2_seekOrder_121 : decode cX2_seekOrder 121 = .ok (.invokevirtual 50, 3) := by decide +kernel
theorem dX2_seekOrder_124 : decode cX2_seekOrder 124 = .ok (.iconst 1, 1) := by decide +kernel
theorem dX2_seekOrder_125 : decode cX2_seekOrder 125 = .ok (.ireturn, 1) := by decide +kernel
set_option maxRecDepth 20000 in
theorem ggX2_weighSet_X2_leastNext : GoodIn wsX2_weighSet wsX2_leastNext := goodIn_r _ [8, 3, 1, 9, 10, 11, 12, 7, 13, 2, 14, 15, 16, 17, 18, 19, 20, 21] (by decide +kernel) (by decide +kernel)
set_option maxRecDepth 20000 in
theorem gX2_weighSet_X2_leastNext : GoodIn wsX2_weighSet (wsV RX2 53 RX2 yX2_leastNext wsX2_leastNext) := goodIn_app (goodIn_of _ (by decide +kernel)) ggX2_weighSet_X2_leastNext
set_option maxRecDepth 20000 in
theorem ggX2_weighSet_X2_costOver : GoodIn wsX2_weighSet wsX2_costOver := goodIn_r _ [13, 2, 1, 3, 9, 14, 15, 16, 17, 18, 19, 20, 21] (by decide +kernel) (by decide +kernel)
set_option maxRecDepth 20000 in
theorem gX2_weighSet_X2_costOver : GoodIn wsX2_weighSet (wsV RX2 57 RX2 yX2_costOver wsX2_costOver) := goodIn_app (goodIn_of _ (by decide +kernel)) ggX2_weighSet_X2_costOver
theorem dX2_weighSet_0 : decode cX2_weighSet 0 = .ok (.iconst 0, 1) := by decide +kernel
theorem dX2_weighSet_1 : decode cX2_weighSet 1 = .ok (.istore_n 2, 1) := by decide +kernel
theorem dX2_weighSet_2 : decode cX2_weighSet 2 = .ok (.iload_n 2, 1) := by decide +kernel
theorem dX2_weighSet_3 : decode cX2_weighSet 3 = .ok (.aload_n 0, 1) := by decide +kernel
theorem dX2_weighSet_4 : decode cX2_weighSet 4 = .ok (.getfield 17, 3) := by decide +kernel
theorem dX2_weighSet_7 : decode cX2_weighSet 7 = .ok (.if_icmp .ge 55, 3) := by decide +kernel
theorem dX2_weighSet_10 : decode cX2_weighSet 10 = .ok (.iload_n 1, 1) := by decide +kernel
theorem dX2_weighSet_11 : decode cX2_weighSet 11 = .ok (.iload_n 2, 1) := by decide +kernel
theorem dX2_weighSet_12 : decode cX2_weighSet 12 = .ok (.ishr, 1) := by decide +kernel
theorem dX2_weighSet_13 : decode cX2_weighSet 13 = .ok (.iconst 1, 1) := by decide +kernel
theorem dX2_weighSet_14 : decode cX2_weighSet 14 = .ok (.iand, 1) := by decide +kernel
theorem dX2_weighSet_15 : decode cX2_weighSet 15 = .ok (.iconst 1, 1) := by decide +kernel
theorem dX2_weighSet_16 : decode cX2_weighSet 16 = .ok (.if_icmp .ne 40, 3) := by decide +kernel
theorem dX2_weighSet_19 : decode cX2_weighSet 19 = .ok (.aload_n 0, 1) := by decide +kernel
theorem dX2_weighSet_20 : decode cX2_weighSet 20 = .ok (.iload_n 1, 1) := by decide +kernel
theorem dX2_weighSet_21 : decode cX2_weighSet 21 = .ok (.iload_n 2, 1) := by decide +kernel
theorem dX2_weighSet_22 : decode cX2_weighSet 22 = .ok (.invokevirtual 53, 3) := by decide +kernel
theorem dX2_weighSet_25 : decode cX2_weighSet 25 = .ok (.istore_n 3, 1) := by decide +kernel
theorem dX2_weighSet_26 : decode cX2_weighSet 26 = .ok (.aload_n 0, 1) := by decide +kernel
theorem dX2_weighSet_27 : decode cX2_weighSet 27 = .ok (.getfield 29, 3) := by decide +kernel
theorem dX2_weighSet_30 : decode cX2_weighSet 30 = .ok (.iload_n 1, 1) := by decide +kernel
theorem dX2_weighSet_31 : decode cX2_weighSet 31 = .ok (.aload_n 0, 1) := by decide +kernel
theorem dX2_weighSet_32 : decode cX2_weighSet 32 = .ok (.getfield 17, 3) := by decide +kernel
theorem dX2_weighSet_35 : decode cX2_weighSet 35 = .ok (.imul, 1) := by decide +kernel
theorem dX2_weighSet_36 : decode cX2_weighSet 36 = .ok (.iload_n 2, 1) := by decide +kernel
theorem dX2_weighSet_37 : decode cX2_weighSet 37 = .ok (.iadd, 1) := by decide +kernel
theorem dX2_weighSet_38 : decode cX2_weighSet 38 = .ok (.iload_n 3, 1) := by decide +kernel
theorem dX2_weighSet_39 : decode cX2_weighSet 39 = .ok (.iconst (-1), 1) := by decide +kernel
theorem dX2_weighSet_40 : decode cX2_weighSet 40 = .ok (.if_icmp .ne 8, 3) := by decide +kernel
theorem dX2_weighSet_43 : decode cX2_weighSet 43 = .ok (.ldc 32, 2) := by decide +kernel
theorem dX2_weighSet_45 : decode cX2_weighSet 45 = .ok (.goto 10, 3) := by decide +kernel
theorem dX2_weighSet_48 : decode cX2_weighSet 48 = .ok (.aload_n 0, 1) := by decide +kernel
theorem dX2_weighSet_49 : decode cX2_weighSet 49 = .ok (.iload_n 1, 1) := by decide +kernel
theorem dX2_weighSet_50 : decode cX2_weighSet 50 = .ok (.iload_n 2, 1) := by decide +kernel
theorem dX2_weighSet_51 : decode cX2_weighSet 51 = .ok (.iload_n 3, 1) := by decide +kernel
theorem dX2_weighSet_52 : decode cX2_weighSet 52 = .ok (.invokevirtual 57, 3) := by decide +kernel
theorem dX2_weighSet_55 : decode cX2_weighSet 55 = .ok (.iastore, 1) := by decide +kernel
theorem dX2_weighSet_56 : decode cX2_weighSet 56 = .ok (.iinc 2 1, 3) := by decide +kernel
theorem dX2_weighSet_59 : decode cX2_weighSet 59 = .ok (.goto (-57), 3) := by decide +kernel
theorem dX2_weighSet_62 : decode cX2_weighSet 62 = .ok (.return_, 1) := by decide +kernel
theorem dX2_leastFirst_0 : decode cX2_leastFirst 0 = .ok (.iconst (-1), 1) := by decide +kernel
theorem dX2_leastFirst_1 : decode cX2_leastFirst 1 = .ok (.istore_n 1, 1) := by decide +kernel
theorem dX2_leastFirst_2 : decode cX2_leastFirst 2 = .ok (.ldc 32, 2) := by decide +kernel
theorem dX2_leastFirst_4 : decode cX2_leastFirst 4 = .ok (.istore_n 2, 1) := by decide +kernel
theorem dX2_leastFirst_5 : decode cX2_leastFirst 5 = .ok (.iconst 0, 1) := by decide +kernel
theorem dX2_leastFirst_6 : decode cX2_leastFirst 6 = .ok (.istore_n 3, 1) := by decide +kernel
theorem dX2_leastFirst_7 : decode cX2_leastFirst 7 = .ok (.iload_n 3, 1) := by decide +kernel
theorem dX2_leastFirst_8 : decode cX2_leastFirst 8 = .ok (.aload_n 0, 1) := by decide +kernel
theorem dX2_leastFirst_9 : decode cX2_leastFirst 9 = .ok (.getfield 17, 3) := by decide +kernel
theorem dX2_leastFirst_12 : decode cX2_leastFirst 12 = .ok (.if_icmp .ge 46, 3) := by decide +kernel
theorem dX2_leastFirst_15 : decode cX2_leastFirst 15 = .ok (.aload_n 0, 1) := by decide +kernel
theorem dX2_leastFirst_16 : decode cX2_leastFirst 16 = .ok (.getfield 29, 3) := by decide +kernel
theorem dX2_leastFirst_19 : decode cX2_leastFirst 19 = .ok (.iconst 1, 1) := by decide +kernel
theorem dX2_leastFirst_20 : decode cX2_leastFirst 20 = .ok (.iload_n 3, 1) := by decide +kernel
theorem dX2_leastFirst_21 : decode cX2_leastFirst 21 = .ok (.ishl, 1) := by decide +kernel
theorem dX2_leastFirst_22 : decode cX2_leastFirst 22 = .ok (.aload_n 0, 1) := by decide +kernel
theorem dX2_leastFirst_23 : decode cX2_leastFirst 23 = .ok (.getfield 17, 3) := by decide +kernel
theorem dX2_leastFirst_26 : decode cX2_leastFirst 26 = .ok (.imul, 1) := by decide +kernel
theorem dX2_leastFirst_27 : decode cX2_leastFirst 27 = .ok (.iload_n 3, 1) := by decide +kernel
theorem dX2_leastFirst_28 : decode cX2_leastFirst 28 = .ok (.iadd, 1) := by decide +kernel
theorem dX2_leastFirst_29 : decode cX2_leastFirst 29 = .ok (.iaload, 1) := by decide +kernel
theorem dX2_leastFirst_30 : decode cX2_leastFirst 30 = .ok (.istore 4, 2) := by decide +kernel
theorem dX2_leastFirst_32 : decode cX2_leastFirst 32 = .ok (.aload_n 0, 1) := by decide +kernel
theorem dX2_leastFirst_33 : decode cX2_leastFirst 33 = .ok (.getfield 25, 3) := by decide +kernel
theorem dX2_leastFirst_36 : decode cX2_leastFirst 36 = .ok (.iload_n 3, 1) := by decide +kernel
theorem dX2_leastFirst_37 : decode cX2_leastFirst 37 = .ok (.baload, 1) := by decide +kernel
theorem dX2_leastFirst_38 : decode cX2_leastFirst 38 = .ok (.ifCond .eq 14, 3) := by decide +kernel
theorem dX2_leastFirst_41 : decode cX2_leastFirst 41 = .ok (.iload 4, 2) := by decide +kernel
theorem dX2_leastFirst_43 : decode cX2_leastFirst 43 = .ok (.iload_n 2, 1) := by decide +kernel
theorem dX2_leastFirst_44 : decode cX2_leastFirst 44 = .ok (.if_icmp .ge 8, 3) := by decide +kernel
theorem dX2_leastFirst_47 : decode cX2_leastFirst 47 = .ok (.iload 4, 2) := by decide +kernel
theorem dX2_leastFirst_49 : decode cX2_leastFirst 49 = .ok (.istore_n 2, 1) := by decide +kernel
theorem dX2_leastFirst_50 : decode cX2_leastFirst 50 = .ok (.iload_n 3, 1) := by decide +kernel
theorem dX2_leastFirst_51 : decode cX2_leastFirst 51 = .ok (.istore_n 1, 1) := by decide +kernel
theorem dX2_leastFirst_52 : decode cX2_leastFirst 52 = .ok (.iinc 3 1, 3) := by decide +kernel
theorem dX2_leastFirst_55 : decode cX2_leastFirst 55 = .ok (.goto (-48), 3) := by decide +kernel
theorem dX2_leastFirst_58 : decode cX2_leastFirst 58 = .ok (.iload_n 1, 1) := by decide +kernel
theorem dX2_leastFirst_59 : decode cX2_leastFirst 59 = .ok (.ireturn, 1) := by decide +kernel
set_option maxRecDepth 20000 in
theorem ggX2_leastNext_X2_costOver : GoodIn wsX2_leastNext wsX2_costOver := goodIn_r _ [8, 9, 2, 1, 3, 10, 11, 12, 13, 14, 15, 16, 17] (by decide +kernel) (by decide +kernel)
set_option maxRecDepth 20000 in
theorem gX2_leastNext_X2_costOver : GoodIn wsX2_leastNext (wsV RX2 57 RX2 yX2_costOver wsX2_costOver) := goodIn_app (goodIn_of _ (by decide +kernel)) ggX2_leastNext_X2_costOver
theorem dX2_leastNext_0 : decode cX2_leastNext 0 = .ok (.iconst (-1), 1) := by decide +kernel
theorem dX2_leastNext_1 : decode cX2_leastNext 1 = .ok (.istore_n 3, 1) := by decide +kernel
theorem dX2_leastNext_2 : decode cX2_leastNext 2 = .ok (.ldc 32, 2) := by decide +kernel
theorem dX2_leastNext_4 : decode cX2_leastNext 4 = .ok (.istore 4, 2) := by decide +kernel
theorem dX2_leastNext_6 : decode cX2_leastNext 6 = .ok (.iconst 0, 1) := by decide +kernel
theorem dX2_leastNext_7 : decode cX2_leastNext 7 = .ok (.istore 5, 2) := by decide +kernel
theorem dX2_leastNext_9 : decode cX2_leastNext 9 = .ok (.iload 5, 2) := by decide +kernel
theorem dX2_leastNext_11 : decode cX2_leastNext 11 = .ok (.aload_n 0, 1) := by decide +kernel
theorem dX2_leastNext_12 : decode cX2_leastNext 12 = .ok (.getfield 17, 3) := by decide +kernel
theorem dX2_leastNext_15 : decode cX2_leastNext 15 = .ok (.if_icmp .ge 59, 3) := by decide +kernel
theorem dX2_leastNext_18 : decode cX2_leastNext 18 = .ok (.iload_n 1, 1) := by decide +kernel
theorem dX2_leastNext_19 : decode cX2_leastNext 19 = .ok (.iload 5, 2) := by decide +kernel
theorem dX2_leastNext_21 : decode cX2_leastNext 21 = .ok (.ishr, 1) := by decide +kernel
theorem dX2_leastNext_22 : decode cX2_leastNext 22 = .ok (.iconst 1, 1) := by decide +kernel
theorem dX2_leastNext_23 : decode cX2_leastNext 23 = .ok (.iand, 1) := by decide +kernel
theorem dX2_leastNext_24 : decode cX2_leastNext 24 = .ok (.ifCond .ne 44, 3) := by decide +kernel
theorem dX2_leastNext_27 : decode cX2_leastNext 27 = .ok (.aload_n 0, 1) := by decide +kernel
theorem dX2_leastNext_28 : decode cX2_leastNext 28 = .ok (.getfield 21, 3) := by decide +kernel
theorem dX2_leastNext_31 : decode cX2_leastNext 31 = .ok (.iload_n 2, 1) := by decide +kernel
theorem dX2_leastNext_32 : decode cX2_leastNext 32 = .ok (.bipush 12, 2) := by decide +kernel
theorem dX2_leastNext_34 : decode cX2_leastNext 34 = .ok (.imul, 1) := by decide +kernel
theorem dX2_leastNext_35 : decode cX2_leastNext 35 = .ok (.iload 5, 2) := by decide +kernel
theorem dX2_leastNext_37 : decode cX2_leastNext 37 = .ok (.iadd, 1) := by decide +kernel
theorem dX2_leastNext_38 : decode cX2_leastNext 38 = .ok (.iaload, 1) := by decide +kernel
theorem dX2_leastNext_39 : decode cX2_leastNext 39 = .ok (.ldc 32, 2) := by decide +kernel
theorem dX2_leastNext_41 : decode cX2_leastNext 41 = .ok (.if_icmp .ge 27, 3) := by decide +kernel
theorem dX2_leastNext_44 : decode cX2_leastNext 44 = .ok (.aload_n 0, 1) := by decide +kernel
theorem dX2_leastNext_45 : decode cX2_leastNext 45 = .ok (.iload_n 1, 1) := by decide +kernel
theorem dX2_leastNext_46 : decode cX2_leastNext 46 = .ok (.iload_n 2, 1) := by decide +kernel
theorem dX2_leastNext_47 : decode cX2_leastNext 47 = .ok (.iload 5, 2) := by decide +kernel
theorem dX2_leastNext_49 : decode cX2_leastNext 49 = .ok (.invokevirtual 57, 3) := by decide +kernel
theorem dX2_leastNext_52 : decode cX2_leastNext 52 = .ok (.istore 6, 2) := by decide +kernel
theorem dX2_leastNext_54 : decode cX2_leastNext 54 = .ok (.iload 6, 2) := by decide +kernel
theorem dX2_leastNext_56 : decode cX2_leastNext 56 = .ok (.iload 4, 2) := by decide +kernel
theorem dX2_leastNext_58 : decode cX2_leastNext 58 = .ok (.if_icmp .ge 10, 3) := by decide +kernel
theorem dX2_leastNext_61 : decode cX2_leastNext 61 = .ok (.iload 6, 2) := by decide +kernel
theorem dX2_leastNext_63 : decode cX2_leastNext 63 = .ok (.istore 4, 2) := by decide +kernel
theorem dX2_leastNext_65 : decode cX2_leastNext 65 = .ok (.iload 5, 2) := by decide +kernel
theorem dX2_leastNext_67 : decode cX2_leastNext 67 = .ok (.istore_n 3, 1) := by decide +kernel
theorem dX2_leastNext_68 : decode cX2_leastNext 68 = .ok (.iinc 5 1, 3) := by decide +kernel
theorem dX2_leastNext_71 : decode cX2_leastNext 71 = .ok (.goto (-62), 3) := by decide +kernel
theorem dX2_leastNext_74 : decode cX2_leastNext 74 = .ok (.iload_n 3, 1) := by decide +kernel
theorem dX2_leastNext_75 : decode cX2_leastNext 75 = .ok (.ireturn, 1) := by decide +kernel
theorem dX2_costOver_0 : decode cX2_costOver 0 = .ok (.aload_n 0, 1) := by decide +kernel
theorem dX2_costOver_1 : decode cX2_costOver 1 = .ok (.getfield 29, 3) := by decide +kernel
theorem dX2_costOver_4 : decode cX2_costOver 4 = .ok (.iload_n 1, 1) := by decide +kernel
theorem dX2_costOver_5 : decode cX2_costOver 5 = .ok (.iconst 1, 1) := by decide +kernel
theorem dX2_costOver_6 : decode cX2_costOver 6 = .ok (.iload_n 3, 1) := by decide +kernel
theorem dX2_costOver_7 : decode cX2_costOver 7 = .ok (.ishl, 1) := by decide +kernel
theorem dX2_costOver_8 : decode cX2_costOver 8 = .ok (.ior, 1) := by decide +kernel
theorem dX2_costOver_9 : decode cX2_costOver 9 = .ok (.aload_n 0, 1) := by decide +kernel
theorem dX2_costOver_10 : decode cX2_costOver 10 = .ok (.getfield 17, 3) := by decide +kernel
theorem dX2_costOver_13 : decode cX2_costOver 13 = .ok (.imul, 1) := by decide +kernel
theorem dX2_costOver_14 : decode cX2_costOver 14 = .ok (.iload_n 3, 1) := by decide +kernel
theorem dX2_costOver_15 : decode cX2_costOver 15 = .ok (.iadd, 1) := by decide +kernel
theorem dX2_costOver_16 : decode cX2_costOver 16 = .ok (.iaload, 1) := by decide +kernel
theorem dX2_costOver_17 : decode cX2_costOver 17 = .ok (.istore 4, 2) := by decide +kernel
theorem dX2_costOver_19 : decode cX2_costOver 19 = .ok (.iload 4, 2) := by decide +kernel
theorem dX2_costOver_21 : decode cX2_costOver 21 = .ok (.ldc 32, 2) := by decide +kernel
theorem dX2_costOver_23 : decode cX2_costOver 23 = .ok (.if_icmp .ne 8, 3) := by decide +kernel
theorem dX2_costOver_26 : decode cX2_costOver 26 = .ok (.ldc 32, 2) := by decide +kernel
theorem dX2_costOver_28 : decode cX2_costOver 28 = .ok (.goto 17, 3) := by decide +kernel
theorem dX2_costOver_31 : decode cX2_costOver 31 = .ok (.aload_n 0, 1) := by decide +kernel
theorem dX2_costOver_32 : decode cX2_costOver 32 = .ok (.getfield 21, 3) := by decide +kernel
theorem dX2_costOver_35 : decode cX2_costOver 35 = .ok (.iload_n 2, 1) := by decide +kernel
theorem dX2_costOver_36 : decode cX2_costOver 36 = .ok (.bipush 12, 2) := by decide +kernel
theorem dX2_costOver_38 : decode cX2_costOver 38 = .ok (.imul, 1) := by decide +kernel
theorem dX2_costOver_39 : decode cX2_costOver 39 = .ok (.iload_n 3, 1) := by decide +kernel
theorem dX2_costOver_40 : decode cX2_costOver 40 = .ok (.iadd, 1) := by decide +kernel
theorem dX2_costOver_41 : decode cX2_costOver 41 = .ok (.iaload, 1) := by decide +kernel
theorem dX2_costOver_42 : decode cX2_costOver 42 = .ok (.iload 4, 2) := by decide +kernel
theorem dX2_costOver_44 : decode cX2_costOver 44 = .ok (.iadd, 1) := by decide +kernel
theorem dX2_costOver_45 : decode cX2_costOver 45 = .ok (.ireturn, 1) := by decide +kernel
set_option maxRecDepth 20000 in
theorem ggX2_keepOrder_X2_leastNext : GoodIn wsX2_keepOrder wsX2_leastNext := goodIn_r _ [10, 11, 4, 12, 13, 14, 15, 9, 16, 17, 18, 19, 20, 21, 22, 23, 24, 25] (by decide +kernel) (by decide +kernel)
set_option maxRecDepth 20000 in
theorem gX2_keepOrder_X2_leastNext : GoodIn wsX2_keepOrder (wsV RX2 53 RX2 yX2_leastNext wsX2_leastNext) := goodIn_app (goodIn_of _ (by decide +kernel)) ggX2_keepOrder_X2_leastNext
theorem dX2_keepOrder_0 : decode cX2_keepOrder 0 = .ok (.iconst 1, 1) := by decide +kernel
theorem dX2_keepOrder_1 : decode cX2_keepOrder 1 = .ok (.iload_n 1, 1) := by decide +kernel
theorem dX2_keepOrder_2 : decode cX2_keepOrder 2 = .ok (.ishl, 1) := by decide +kernel
theorem dX2_keepOrder_3 : decode cX2_keepOrder 3 = .ok (.istore_n 2, 1) := by decide +kernel
theorem dX2_keepOrder_4 : decode cX2_keepOrder 4 = .ok (.iload_n 1, 1) := by decide +kernel
theorem dX2_keepOrder_5 : decode cX2_keepOrder 5 = .ok (.istore_n 3, 1) := by decide +kernel
theorem dX2_keepOrder_6 : decode cX2_keepOrder 6 = .ok (.aload_n 0, 1) := by decide +kernel
theorem dX2_keepOrder_7 : decode cX2_keepOrder 7 = .ok (.getfield 36, 3) := by decide +kernel
theorem dX2_keepOrder_10 : decode cX2_keepOrder 10 = .ok (.iconst 0, 1) := by decide +kernel
theorem dX2_keepOrder_11 : decode cX2_keepOrder 11 = .ok (.aload_n 0, 1) := by decide +kernel
theorem dX2_keepOrder_12 : decode cX2_keepOrder 12 = .ok (.getfield 11, 3) := by decide +kernel
theorem dX2_keepOrder_15 : decode cX2_keepOrder 15 = .ok (.iload_n 1, 1) := by decide +kernel
theorem dX2_keepOrder_16 : decode cX2_keepOrder 16 = .ok (.aaload, 1) := by decide +kernel
theorem dX2_keepOrder_17 : decode cX2_keepOrder 17 = .ok (.getfield 61, 3) := by decide +kernel
theorem dX2_keepOrder_20 : decode cX2_keepOrder 20 = .ok (.iastore, 1) := by decide +kernel
theorem dX2_keepOrder_21 : decode cX2_keepOrder 21 = .ok (.iconst 1, 1) := by decide +kernel
theorem dX2_keepOrder_22 : decode cX2_keepOrder 22 = .ok (.istore 4, 2) := by decide +kernel
theorem dX2_keepOrder_24 : decode cX2_keepOrder 24 = .ok (.iload 4, 2) := by decide +kernel
theorem dX2_keepOrder_26 : decode cX2_keepOrder 26 = .ok (.aload_n 0, 1) := by decide +kernel
theorem dX2_keepOrder_27 : decode cX2_keepOrder 27 = .ok (.getfield 17, 3) := by decide +kernel
theorem dX2_keepOrder_30 : decode cX2_keepOrder 30 = .ok (.if_icmp .ge 51, 3) := by decide +kernel
theorem dX2_keepOrder_33 : decode cX2_keepOrder 33 = .ok (.aload_n 0, 1) := by decide +kernel
theorem dX2_keepOrder_34 : decode cX2_keepOrder 34 = .ok (.iload_n 2, 1) := by decide +kernel
theorem dX2_keepOrder_35 : decode cX2_keepOrder 35 = .ok (.iload_n 3, 1) := by decide +kernel
theorem dX2_keepOrder_36 : decode cX2_keepOrder 36 = .ok (.invokevirtual 53, 3) := by decide +kernel
theorem dX2_keepOrder_39 : decode cX2_keepOrder 39 = .ok (.istore 5, 2) := by decide +kernel
theorem dX2_keepOrder_41 : decode cX2_keepOrder 41 = .ok (.iload 5, 2) := by decide +kernel
theorem dX2_keepOrder_43 : decode cX2_keepOrder 43 = .ok (.iconst (-1), 1) := by decide +kernel
theorem dX2_keepOrder_44 : decode cX2_keepOrder 44 = .ok (.if_icmp .ne 4, 3) := by decide +kernel
theorem dX2_keepOrder_47 : decode cX2_keepOrder 47 = .ok (.return_, 1) := by decide +kernel
theorem dX2_keepOrder_48 : decode cX2_keepOrder 48 = .ok (.iload_n 2, 1) := by decide +kernel
theorem dX2_keepOrder_49 : decode cX2_keepOrder 49 = .ok (.iconst 1, 1) := by decide +kernel
theorem dX2_keepOrder_50 : decode cX2_keepOrder 50 = .ok (.iload 5, 2) := by decide +kernel
theorem dX2_keepOrder_52 : decode cX2_keepOrder 52 = .ok (.ishl, 1) := by decide +kernel
theorem dX2_keepOrder_53 : decode cX2_keepOrder 53 = .ok (.ior, 1) := by decide +kernel
theorem dX2_keepOrder_54 : decode cX2_keepOrder 54 = .ok (.istore_n 2, 1) := by decide +kernel
theorem dX2_keepOrder_55 : decode cX2_keepOrder 55 = .ok (.iload 5, 2) := by decide +kernel
theorem dX2_keepOrder_57 : decode cX2_keepOrder 57 = .ok (.istore_n 3, 1) := by decide +kernel
theorem dX2_keepOrder_58 : decode cX2_keepOrder 58 = .ok (.aload_n 0, 1) := by decide +kernel
theorem dX2_keepOrder_59 : decode cX2_keepOrder 59 = .ok (.getfield 36, 3) := by decide +kernel
theorem dX2_keepOrder_62 : decode cX2_keepOrder 62 = .ok (.iload 4, 2) := by decide +kernel
theorem dX2_keepOrder_64 : decode cX2_keepOrder 64 = .ok (.aload_n 0, 1) := by decide +kernel
theorem dX2_keepOrder_65 : decode cX2_keepOrder 65 = .ok (.getfield 11, 3) := by decide +kernel
theorem dX2_keepOrder_68 : decode cX2_keepOrder 68 = .ok (.iload 5, 2) := by decide +kernel
theorem dX2_keepOrder_70 : decode cX2_keepOrder 70 = .ok (.aaload, 1) := by decide +kernel
theorem dX2_keepOrder_71 : decode cX2_keepOrder 71 = .ok (.getfield 61, 3) := by decide +kernel
theorem dX2_keepOrder_74 : decode cX2_keepOrder 74 = .ok (.iastore, 1) := by decide +kernel
theorem dX2_keepOrder_75 : decode cX2_keepOrder 75 = .ok (.iinc 4 1, 3) := by decide +kernel
theorem dX2_keepOrder_78 : decode cX2_keepOrder 78 = .ok (.goto (-54), 3) := by decide +kernel
theorem dX2_keepOrder_81 : decode cX2_keepOrder 81 = .ok (.aload_n 0, 1) := by decide +kernel
theorem dX2_keepOrder_82 : decode cX2_keepOrder 82 = .ok (.aload_n 0, 1) := by decide +kernel
theorem dX2_keepOrder_83 : decode cX2_keepOrder 83 = .ok (.getfield 17, 3) := by decide +kernel
theorem dX2_keepOrder_86 : decode cX2_keepOrder 86 = .ok (.putfield 39, 3) := by decide +kernel
theorem dX2_keepOrder_89 : decode cX2_keepOrder 89 = .ok (.return_, 1) := by decide +kernel
set_option maxRecDepth 20000 in
theorem ggX3_init_J7_fill_53178 : GoodIn wsX3_init wsJ7_fill_53178 := goodIn_r _ [26] (by decide +kernel) (by decide +kernel)
set_option maxRecDepth 20000 in
theorem gX3_init_J7_fill_53178 : GoodIn wsX3_init (va_wsS RX3 67 yJ7_fill_53178 wsJ7_fill_53178) := goodIn_app (goodIn_of _ (by decide +kernel)) ggX3_init_J7_fill_53178
set_option maxRecDepth 20000 in
theorem ggX3_init_X3_layOutBeats : GoodIn wsX3_init wsX3_layOutBeats := goodIn_r _ [31, 20, 12, 11, 13, 32, 33, 34, 30, 35, 19, 21, 22, 36, 37, 38, 39, 40, 41, 42, 43, 44, 45, 46, 56, 57, 58, 59, 60, 61, 62, 63, 64, 65, 66, 67, 68, 69, 70, 71, 72, 73, 74] (by decide +kernel) (by decide +kernel)
set_option maxRecDepth 20000 in
theorem gX3_init_X3_layOutBeats : GoodIn wsX3_init (wsV RX3 73 RX3 yX3_layOutBeats wsX3_layOutBeats) := goodIn_app (goodIn_of _ (by decide +kernel)) ggX3_init_X3_layOutBeats
set_option maxRecDepth 20000 in
theorem ggX3_init_X3_layOutPlayedBars : GoodIn wsX3_init wsX3_layOutPlayedBars := goodIn_r _ [50, 20, 9, 8, 7, 51, 14, 15, 11, 12, 17, 13, 16, 52, 53, 54, 30, 55, 56, 57, 58, 59, 60, 61, 62, 63, 64, 65, 66, 67, 68, 69, 70, 71, 72, 73, 74] (by decide +kernel) (by decide +kernel)
set_option maxRecDepth 20000 in
theorem gX3_init_X3_layOutPlayedBars : GoodIn wsX3_init (wsV RX3 76 RX3 yX3_layOutPlayedBars wsX3_layOutPlayedBars) := goodIn_app (goodIn_of _ (by decide +kernel)) ggX3_init_X3_layOutPlayedBars
theorem dX3_init_0 : decode cX3_init 0 = .ok (.aload_n 0, 1) := by decide +kernel
theorem dX3_init_1 : decode cX3_init 1 = .ok (.invokespecial 3, 3) := by decide +kernel
theorem dX3_init_4 : decode cX3_init 4 = .ok (.aload_n 0, 1) := by decide +kernel
theorem dX3_init_5 : decode cX3_init 5 = .ok (.iconst 0, 1) := by decide +kernel
theorem dX3_init_6 : decode cX3_init 6 = .ok (.putfield 9, 3) := by decide +kernel
theorem dX3_init_9 : decode cX3_init 9 = .ok (.aload_n 0, 1) := by decide +kernel
theorem dX3_init_10 : decode cX3_init 10 = .ok (.iconst 0, 1) := by decide +kernel
theorem dX3_init_11 : decode cX3_init 11 = .ok (.putfield 15, 3) := by decide +kernel
theorem dX3_init_14 : decode cX3_init 14 = .ok (.aload_n 0, 1) := by decide +kernel
theorem dX3_init_15 : decode cX3_init 15 = .ok (.iconst 4, 1) := by decide +kernel
theorem dX3_init_16 : decode cX3_init 16 = .ok (.putfield 18, 3) := by decide +kernel
theorem dX3_init_19 : decode cX3_init 19 = .ok (.aload_n 0, 1) := by decide +kernel
theorem dX3_init_20 : decode cX3_init 20 = .ok (.iconst 0, 1) := by decide +kernel
theorem dX3_init_21 : decode cX3_init 21 = .ok (.putfield 21, 3) := by decide +kernel
theorem dX3_init_24 : decode cX3_init 24 = .ok (.aload_n 0, 1) := by decide +kernel
theorem dX3_init_25 : decode cX3_init 25 = .ok (.iconst 0, 1) := by decide +kernel
theorem dX3_init_26 : decode cX3_init 26 = .ok (.putfield 24, 3) := by decide +kernel
theorem dX3_init_29 : decode cX3_init 29 = .ok (.aload_n 0, 1) := by decide +kernel
theorem dX3_init_30 : decode cX3_init 30 = .ok (.iconst 1, 1) := by decide +kernel
theorem dX3_init_31 : decode cX3_init 31 = .ok (.putfield 27, 3) := by decide +kernel
theorem dX3_init_34 : decode cX3_init 34 = .ok (.aload_n 0, 1) := by decide +kernel
theorem dX3_init_35 : decode cX3_init 35 = .ok (.bipush 64, 2) := by decide +kernel
theorem dX3_init_37 : decode cX3_init 37 = .ok (.newarray .int, 2) := by decide +kernel
theorem dX3_init_39 : decode cX3_init 39 = .ok (.putfield 30, 3) := by decide +kernel
theorem dX3_init_42 : decode cX3_init 42 = .ok (.aload_n 0, 1) := by decide +kernel
theorem dX3_init_43 : decode cX3_init 43 = .ok (.bipush 65, 2) := by decide +kernel
theorem dX3_init_45 : decode cX3_init 45 = .ok (.newarray .int, 2) := by decide +kernel
theorem dX3_init_47 : decode cX3_init 47 = .ok (.putfield 34, 3) := by decide +kernel
theorem dX3_init_50 : decode cX3_init 50 = .ok (.aload_n 0, 1) := by decide +kernel
theorem dX3_init_51 : decode cX3_init 51 = .ok (.sipush 257, 3) := by decide +kernel
theorem dX3_init_54 : decode cX3_init 54 = .ok (.newarray .int, 2) := by decide +kernel
theorem dX3_init_56 : decode cX3_init 56 = .ok (.putfield 37, 3) := by decide +kernel
theorem dX3_init_59 : decode cX3_init 59 = .ok (.aload_n 0, 1) := by decide +kernel
theorem dX3_init_60 : decode cX3_init 60 = .ok (.bipush 64, 2) := by decide +kernel
theorem dX3_init_62 : decode cX3_init 62 = .ok (.newarray .int, 2) := by decide +kernel
theorem dX3_init_64 : decode cX3_init 64 = .ok (.putfield 40, 3) := by decide +kernel
theorem dX3_init_67 : decode cX3_init 67 = .ok (.aload_n 0, 1) := by decide +kernel
theorem dX3_init_68 : decode cX3_init 68 = .ok (.bipush 65, 2) := by decide +kernel
theorem dX3_init_70 : decode cX3_init 70 = .ok (.newarray .int, 2) := by decide +kernel
theorem dX3_init_72 : decode cX3_init 72 = .ok (.putfield 43, 3) := by decide +kernel
theorem dX3_init_75 : decode cX3_init 75 = .ok (.aload_n 0, 1) := by decide +kernel
theorem dX3_init_76 : decode cX3_init 76 = .ok (.bipush 65, 2) := by decide +kernel
theorem dX3_init_78 : decode cX3_init 78 = .ok (.newarray .int, 2) := by decide +kernel
theorem dX3_init_80 : decode cX3_init 80 = .ok (.putfield 46, 3) := by decide +kernel
theorem dX3_init_83 : decode cX3_init 83 = .ok (.aload_n 0, 1) := by decide +kernel
theorem dX3_init_84 : decode cX3_init 84 = .ok (.sipush 256, 3) := by decide +kernel
theorem dX3_init_87 : decode cX3_init 87 = .ok (.newarray .int, 2) := by decide +kernel
theorem dX3_init_89 : decode cX3_init 89 = .ok (.putfield 49, 3) := by decide +kernel
theorem dX3_init_92 : decode cX3_init 92 = .ok (.aload_n 0, 1) := by decide +kernel
theorem dX3_init_93 : decode cX3_init 93 = .ok (.iload_n 1, 1) := by decide +kernel
theorem dX3_init_94 : decode cX3_init 94 = .ok (.putfield 52, 3) := by decide +kernel
theorem dX3_init_97 : decode cX3_init 97 = .ok (.aload_n 0, 1) := by decide +kernel
theorem dX3_init_98 : decode cX3_init 98 = .ok (.iload_n 2, 1) := by decide +kernel
theorem dX3_init_99 : decode cX3_init 99 = .ok (.putfield 55, 3) := by decide +kernel
theorem dX3_init_102 : decode cX3_init 102 = .ok (.aload_n 0, 1) := by decide +kernel
theorem dX3_init_103 : decode cX3_init 103 = .ok (.iload_n 3, 1) := by decide +kernel
theorem dX3_init_104 : decode cX3_init 104 = .ok (.putfield 58, 3) := by decide +kernel
theorem dX3_init_107 : decode cX3_init 107 = .ok (.aload_n 0, 1) := by decide +kernel
theorem dX3_init_108 : decode cX3_init 108 = .ok (.iload 4, 2) := by decide +kernel
theorem dX3_init_110 : decode cX3_init 110 = .ok (.putfield 61, 3) := by decide +kernel
theorem dX3_init_113 : decode cX3_init 113 = .ok (.aload_n 0, 1) := by decide +kernel
theorem dX3_init_114 : decode cX3_init 114 = .ok (.iload_n 2, 1) := by decide +kernel
theorem dX3_init_115 : decode cX3_init 115 = .ok (.ifCond .ne 7, 3) := by decide +kernel
theorem dX3_init_118 : decode cX3_init 118 = .ok (.iconst 0, 1) := by decide +kernel
theorem dX3_init_119 : decode cX3_init 119 = .ok (.goto 5, 3) := by decide +kernel
theorem dX3_init_122 : decode cX3_init 122 = .ok (.iload 5, 2) := by decide +kernel
theorem dX3_init_124 : decode cX3_init 124 = .ok (.putfield 64, 3) := by decide +kernel
theorem dX3_init_127 : decode cX3_init 127 = .ok (.aload_n 0, 1) := by decide +kernel
theorem dX3_init_128 : decode cX3_init 128 = .ok (.getfield 30, 3) := by decide +kernel
theorem dX3_init_131 : decode cX3_init 131 = .ok (.iconst 4, 1) := by decide +kernel
theorem dX3_init_132 : decode cX3_init 132 = .ok (.invokestatic 67, 3) := by decide +kernel
theorem dX3_init_135 : decode cX3_init 135 = .ok (.aload_n 0, 1) := by decide +kernel
theorem dX3_init_136 : decode cX3_init 136 = .ok (.invokevirtual 73, 3) := by decide +kernel
theorem dX3_init_139 : decode cX3_init 139 = .ok (.aload_n 0, 1) := by decide +kernel
theorem dX3_init_140 : decode cX3_init 140 = .ok (.invokevirtual 76, 3) := by decide +kernel
theorem dX3_init_143 : decode cX3_init 143 = .ok (.return_, 1) := by decide +kernel
set_option maxRecDepth 20000 in
theorem ggX3_setBeats_X3_layOutBeats : GoodIn wsX3_setBeats wsX3_layOutBeats := goodIn_r _ [6, 7, 8, 1, 9, 10, 11, 12, 5, 13, 14, 15, 16, 17, 18, 19, 20, 21, 22, 23, 24, 25, 26, 27, 44, 45, 46, 47, 48, 49, 50, 51, 52, 53, 54, 55, 56, 57, 58, 59, 60, 61, 62] (by decide +kernel) (by decide +kernel)
set_option maxRecDepth 20000 in
theorem gX3_setBeats_X3_layOutBeats : GoodIn wsX3_setBeats (wsV RX3 73 RX3 yX3_layOutBeats wsX3_layOutBeats) := goodIn_app (goodIn_of _ (by decide +kernel)) ggX3_setBeats_X3_layOutBeats
set_option maxRecDepth 20000 in
theorem ggX3_setBeats_X3_layOutPlayedBars : GoodIn wsX3_setBeats wsX3_layOutPlayedBars := goodIn_r _ [31, 7, 32, 33, 34, 35, 36, 37, 1, 8, 38, 9, 39, 40, 41, 42, 5, 43, 44, 45, 46, 47, 48, 49, 50, 51, 52, 53, 54, 55, 56, 57, 58, 59, 60, 61, 62] (by decide +kernel) (by decide +kernel)
set_option maxRecDepth 20000 in
theorem gX3_setBeats_X3_layOutPlayedBars : GoodIn wsX3_setBeats (wsV RX3 76 RX3 yX3_layOutPlayedBars wsX3_layOutPlayedBars) := goodIn_app (goodIn_of _ (by decide +kernel)) ggX3_setBeats_X3_layOutPlayedBars
theorem dX3_setBeats_0 : decode cX3_setBeats 0 = .ok (.aload_n 0, 1) := by decide +kernel
theorem dX3_setBeats_1 : decode cX3_setBeats 1 = .ok (.getfield 30, 3) := by decide +kernel
theorem dX3_setBeats_4 : decode cX3_setBeats 4 = .ok (.iload_n 1, 1) := by decide +kernel
theorem dX3_setBeats_5 : decode cX3_setBeats 5 = .ok (.iload_n 2, 1) := by decide +kernel
theorem dX3_setBeats_6 : decode cX3_setBeats 6 = .ok (.iastore, 1) := by decide +kernel
theorem dX3_setBeats_7 : decode cX3_setBeats 7 = .ok (.aload_n 0, 1) := by decide +kernel
theorem dX3_setBeats_8 : decode cX3_setBeats 8 = .ok (.invokevirtual 73, 3) := by decide +kernel
theorem dX3_setBeats_11 : decode cX3_setBeats 11 = .ok (.aload_n 0, 1) := by decide +kernel
theorem dX3_setBeats_12 : decode cX3_setBeats 12 = .ok (.invokevirtual 76, 3) := by decide +kernel
theorem dX3_setBeats_15 : decode cX3_setBeats 15 = .ok (.return_, 1) := by decide +kernel
set_option maxRecDepth 20000 in
theorem ggX3_canLoop_X5_within : GoodIn wsX3_canLoop wsX5_within := goodIn_r _ [4] (by decide +kernel) (by decide +kernel)
set_option maxRecDepth 20000 in
theorem gX3_canLoop_X5_within_n79 : GoodIn wsX3_canLoop (wsX5_within) := ggX3_canLoop_X5_within
theorem dX3_canLoop_0 : decode cX3_canLoop 0 = .ok (.iload_n 1, 1) := by decide +kernel
theorem dX3_canLoop_1 : decode cX3_canLoop 1 = .ok (.ifCond .lt 48, 3) := by decide +kernel
theorem dX3_canLoop_4 : decode cX3_canLoop 4 = .ok (.iload_n 1, 1) := by decide +kernel
theorem dX3_canLoop_5 : decode cX3_canLoop 5 = .ok (.iload_n 2, 1) := by decide +kernel
theorem dX3_canLoop_6 : decode cX3_canLoop 6 = .ok (.if_icmp .gt 43, 3) := by decide +kernel
theorem dX3_canLoop_9 : decode cX3_canLoop 9 = .ok (.iload_n 2, 1) := by decide +kernel
theorem dX3_canLoop_10 : decode cX3_canLoop 10 = .ok (.aload_n 0, 1) := by decide +kernel
theorem dX3_canLoop_11 : decode cX3_canLoop 11 = .ok (.getfield 58, 3) := by decide +kernel
theorem dX3_canLoop_14 : decode cX3_canLoop 14 = .ok (.if_icmp .ge 35, 3) := by decide +kernel
theorem dX3_canLoop_17 : decode cX3_canLoop 17 = .ok (.iload_n 3, 1) := by decide +kernel
theorem dX3_canLoop_18 : decode cX3_canLoop 18 = .ok (.iconst 1, 1) := by decide +kernel
theorem dX3_canLoop_19 : decode cX3_canLoop 19 = .ok (.iconst 4, 1) := by decide +kernel
theorem dX3_canLoop_20 : decode cX3_canLoop 20 = .ok (.invokestatic 79, 3) := by decide +kernel
theorem dX3_canLoop_23 : decode cX3_canLoop 23 = .ok (.ifCond .eq 26, 3) := by decide +kernel
theorem dX3_canLoop_26 : decode cX3_canLoop 26 = .ok (.aload_n 0, 1) := by decide +kernel
theorem dX3_canLoop_27 : decode cX3_canLoop 27 = .ok (.getfield 58, 3) := by decide +kernel
theorem dX3_canLoop_30 : decode cX3_canLoop 30 = .ok (.iload_n 3, 1) := by decide +kernel
theorem dX3_canLoop_31 : decode cX3_canLoop 31 = .ok (.iconst 1, 1) := by decide +kernel
theorem dX3_canLoop_32 : decode cX3_canLoop 32 = .ok (.isub, 1) := by decide +kernel
theorem dX3_canLoop_33 : decode cX3_canLoop 33 = .ok (.iload_n 2, 1) := by decide +kernel
theorem dX3_canLoop_34 : decode cX3_canLoop 34 = .ok (.iload_n 1, 1) := by decide +kernel
theorem dX3_canLoop_35 : decode cX3_canLoop 35 = .ok (.isub, 1) := by decide +kernel
theorem dX3_canLoop_36 : decode cX3_canLoop 36 = .ok (.iconst 1, 1) := by decide +kernel
theorem dX3_canLoop_37 : decode cX3_canLoop 37 = .ok (.iadd, 1) := by decide +kernel
theorem dX3_canLoop_38 : decode cX3_canLoop 38 = .ok (.imul, 1) := by decide +kernel
theorem dX3_canLoop_39 : decode cX3_canLoop 39 = .ok (.iadd, 1) := by decide +kernel
theorem dX3_canLoop_40 : decode cX3_canLoop 40 = .ok (.bipush 64, 2) := by decide +kernel
theorem dX3_canLoop_42 : decode cX3_canLoop 42 = .ok (.if_icmp .gt 7, 3) := by decide +kernel
theorem dX3_canLoop_45 : decode cX3_canLoop 45 = .ok (.iconst 1, 1) := by decide +kernel
theorem dX3_canLoop_46 : decode cX3_canLoop 46 = .ok (.goto 4, 3) := by decide +kernel
theorem dX3_canLoop_49 : decode cX3_canLoop 49 = .ok (.iconst 0, 1) := by decide +kernel
theorem dX3_canLoop_50 : decode cX3_canLoop 50 = .ok (.ireturn, 1) := by decide +kernel
set_option maxRecDepth 20000 in
theorem ggX3_setLoop_X3_layOutPlayedBars : GoodIn wsX3_setLoop wsX3_layOutPlayedBars := goodIn_r _ [8, 9, 3, 2, 1, 10, 11, 12, 13, 14, 15, 16, 17, 18, 19, 20, 7, 21, 22, 23, 24, 25, 26, 27, 28, 29, 30, 31, 32, 33, 34, 35, 36, 37, 38, 39, 40] (by decide +kernel) (by decide +kernel)
set_option maxRecDepth 20000 in
theorem gX3_setLoop_X3_layOutPlayedBars : GoodIn wsX3_setLoop (wsV RX3 76 RX3 yX3_layOutPlayedBars wsX3_layOutPlayedBars) := goodIn_app (goodIn_of _ (by decide +kernel)) ggX3_setLoop_X3_layOutPlayedBars
theorem dX3_setLoop_0 : decode cX3_setLoop 0 = .ok (.aload_n 0, 1) := by decide +kernel
theorem dX3_setLoop_1 : decode cX3_setLoop 1 = .ok (.iload_n 1, 1) := by decide +kernel
theorem dX3_setLoop_2 : decode cX3_setLoop 2 = .ok (.putfield 21, 3) := by decide +kernel
theorem dX3_setLoop_5 : decode cX3_setLoop 5 = .ok (.aload_n 0, 1) := by decide +kernel
theorem dX3_setLoop_6 : decode cX3_setLoop 6 = .ok (.iload_n 2, 1) := by decide +kernel
theorem dX3_setLoop_7 : decode cX3_setLoop 7 = .ok (.putfield 24, 3) := by decide +kernel
theorem dX3_setLoop_10 : decode cX3_setLoop 10 = .ok (.aload_n 0, 1) := by decide +kernel
theorem dX3_setLoop_11 : decode cX3_setLoop 11 = .ok (.iload_n 3, 1) := by decide +kernel
theorem dX3_setLoop_12 : decode cX3_setLoop 12 = .ok (.putfield 27, 3) := by decide +kernel
theorem dX3_setLoop_15 : decode cX3_setLoop 15 = .ok (.aload_n 0, 1) := by decide +kernel
theorem dX3_setLoop_16 : decode cX3_setLoop 16 = .ok (.invokevirtual 76, 3) := by decide +kernel
theorem dX3_setLoop_19 : decode cX3_setLoop 19 = .ok (.return_, 1) := by decide +kernel
theorem dX3_beats_0 : decode cX3_beats 0 = .ok (.aload_n 0, 1) := by decide +kernel
theorem dX3_beats_1 : decode cX3_beats 1 = .ok (.getfield 34, 3) := by decide +kernel
theorem dX3_beats_4 : decode cX3_beats 4 = .ok (.aload_n 0, 1) := by decide +kernel
theorem dX3_beats_5 : decode cX3_beats 5 = .ok (.getfield 58, 3) := by decide +kernel
theorem dX3_beats_8 : decode cX3_beats 8 = .ok (.iaload, 1) := by decide +kernel
theorem dX3_beats_9 : decode cX3_beats 9 = .ok (.ireturn, 1) := by decide +kernel
theorem dX3_brokenBars_0 : decode cX3_brokenBars 0 = .ok (.iconst 0, 1) := by decide +kernel
theorem dX3_brokenBars_1 : decode cX3_brokenBars 1 = .ok (.istore_n 1, 1) := by decide +kernel
theorem dX3_brokenBars_2 : decode cX3_brokenBars 2 = .ok (.iconst 0, 1) := by decide +kernel
theorem dX3_brokenBars_3 : decode cX3_brokenBars 3 = .ok (.istore_n 2, 1) := by decide +kernel
theorem dX3_brokenBars_4 : decode cX3_brokenBars 4 = .ok (.iload_n 2, 1) := by decide +kernel
theorem dX3_brokenBars_5 : decode cX3_brokenBars 5 = .ok (.aload_n 0, 1) := by decide +kernel
theorem dX3_brokenBars_6 : decode cX3_brokenBars 6 = .ok (.getfield 58, 3) := by decide +kernel
theorem dX3_brokenBars_9 : decode cX3_brokenBars 9 = .ok (.if_icmp .ge 27, 3) := by decide +kernel
theorem dX3_brokenBars_12 : decode cX3_brokenBars 12 = .ok (.iload_n 1, 1) := by decide +kernel
theorem dX3_brokenBars_13 : decode cX3_brokenBars 13 = .ok (.aload_n 0, 1) := by decide +kernel
theorem dX3_brokenBars_14 : decode cX3_brokenBars 14 = .ok (.getfield 30, 3) := by decide +kernel
theorem dX3_brokenBars_17 : decode cX3_brokenBars 17 = .ok (.iload_n 2, 1) := by decide +kernel
theorem dX3_brokenBars_18 : decode cX3_brokenBars 18 = .ok (.iaload, 1) := by decide +kernel
theorem dX3_brokenBars_19 : decode cX3_brokenBars 19 = .ok (.iconst 4, 1) := by decide +kernel
theorem dX3_brokenBars_20 : decode cX3_brokenBars 20 = .ok (.if_icmp .ge 7, 3) := by decide +kernel
theorem dX3_brokenBars_23 : decode cX3_brokenBars 23 = .ok (.iconst 1, 1) := by decide +kernel
theorem dX3_brokenBars_24 : decode cX3_brokenBars 24 = .ok (.goto 4, 3) := by decide +kernel
theorem dX3_brokenBars_27 : decode cX3_brokenBars 27 = .ok (.iconst 0, 1) := by decide +kernel
theorem dX3_brokenBars_28 : decode cX3_brokenBars 28 = .ok (.iadd, 1) := by decide +kernel
theorem dX3_brokenBars_29 : decode cX3_brokenBars 29 = .ok (.istore_n 1, 1) := by decide +kernel
theorem dX3_brokenBars_30 : decode cX3_brokenBars 30 = .ok (.iinc 2 1, 3) := by decide +kernel
theorem dX3_brokenBars_33 : decode cX3_brokenBars 33 = .ok (.goto (-29), 3) := by decide +kernel
theorem dX3_brokenBars_36 : decode cX3_brokenBars 36 = .ok (.iload_n 1, 1) := by decide +kernel
theorem dX3_brokenBars_37 : decode cX3_brokenBars 37 = .ok (.ireturn, 1) := by decide +kernel
theorem dX3_beginsPhrase_0 : decode cX3_beginsPhrase 0 = .ok (.aload_n 0, 1) := by decide +kernel
theorem dX3_beginsPhrase_1 : decode cX3_beginsPhrase 1 = .ok (.getfield 40, 3) := by decide +kernel
theorem dX3_beginsPhrase_4 : decode cX3_beginsPhrase 4 = .ok (.iload_n 1, 1) := by decide +kernel
theorem dX3_beginsPhrase_5 : decode cX3_beginsPhrase 5 = .ok (.iaload, 1) := by decide +kernel
theorem dX3_beginsPhrase_6 : decode cX3_beginsPhrase 6 = .ok (.aload_n 0, 1) := by decide +kernel
theorem dX3_beginsPhrase_7 : decode cX3_beginsPhrase 7 = .ok (.getfield 18, 3) := by decide +kernel
theorem dX3_beginsPhrase_10 : decode cX3_beginsPhrase 10 = .ok (.irem, 1) := by decide +kernel
theorem dX3_beginsPhrase_11 : decode cX3_beginsPhrase 11 = .ok (.ifCond .ne 7, 3) := by decide +kernel
theorem dX3_beginsPhrase_14 : decode cX3_beginsPhrase 14 = .ok (.iconst 1, 1) := by decide +kernel
theorem dX3_beginsPhrase_15 : decode cX3_beginsPhrase 15 = .ok (.goto 4, 3) := by decide +kernel
theorem dX3_beginsPhrase_18 : decode cX3_beginsPhrase 18 = .ok (.iconst 0, 1) := by decide +kernel
theorem dX3_beginsPhrase_19 : decode cX3_beginsPhrase 19 = .ok (.ireturn, 1) := by decide +kernel
theorem dX3_soundsAlike_0 : decode cX3_soundsAlike 0 = .ok (.iconst 0, 1) := by decide +kernel
theorem dX3_soundsAlike_1 : decode cX3_soundsAlike 1 = .ok (.istore 4, 2) := by decide +kernel
theorem dX3_soundsAlike_3 : decode cX3_soundsAlike 3 = .ok (.iload 4, 2) := by decide +kernel
theorem dX3_soundsAlike_5 : decode cX3_soundsAlike 5 = .ok (.iconst 4, 1) := by decide +kernel
theorem dX3_soundsAlike_6 : decode cX3_soundsAlike 6 = .ok (.iload_n 3, 1) := by decide +kernel
theorem dX3_soundsAlike_7 : decode cX3_soundsAlike 7 = .ok (.imul, 1) := by decide +kernel
theorem dX3_soundsAlike_8 : decode cX3_soundsAlike 8 = .ok (.if_icmp .ge 36, 3) := by decide +kernel
theorem dX3_soundsAlike_11 : decode cX3_soundsAlike 11 = .ok (.aload_n 0, 1) := by decide +kernel
theorem dX3_soundsAlike_12 : decode cX3_soundsAlike 12 = .ok (.getfield 49, 3) := by decide +kernel
theorem dX3_soundsAlike_15 : decode cX3_soundsAlike 15 = .ok (.iconst 4, 1) := by decide +kernel
theorem dX3_soundsAlike_16 : decode cX3_soundsAlike 16 = .ok (.iload_n 1, 1) := by decide +kernel
theorem dX3_soundsAlike_17 : decode cX3_soundsAlike 17 = .ok (.imul, 1) := by decide +kernel
theorem dX3_soundsAlike_18 : decode cX3_soundsAlike 18 = .ok (.iload 4, 2) := by decide +kernel
theorem dX3_soundsAlike_20 : decode cX3_soundsAlike 20 = .ok (.iadd, 1) := by decide +kernel
theorem dX3_soundsAlike_21 : decode cX3_soundsAlike 21 = .ok (.iaload, 1) := by decide +kernel
theorem dX3_soundsAlike_22 : decode cX3_soundsAlike 22 = .ok (.aload_n 0, 1) := by decide +kernel
theorem dX3_soundsAlike_23 : decode cX3_soundsAlike 23 = .ok (.getfield 49, 3) := by decide +kernel
theorem dX3_soundsAlike_26 : decode cX3_soundsAlike 26 = .ok (.iconst 4, 1) := by decide +kernel
theorem dX3_soundsAlike_27 : decode cX3_soundsAlike 27 = .ok (.iload_n 2, 1) := by decide +kernel
theorem dX3_soundsAlike_28 : decode cX3_soundsAlike 28 = .ok (.imul, 1) := by decide +kernel
theorem dX3_soundsAlike_29 : decode cX3_soundsAlike 29 = .ok (.iload 4, 2) := by decide +kernel
theorem dX3_soundsAlike_31 : decode cX3_soundsAlike 31 = .ok (.iadd, 1) := by decide +kernel
theorem dX3_soundsAlike_32 : decode cX3_soundsAlike 32 = .ok (.iaload, 1) := by decide +kernel
theorem dX3_soundsAlike_33 : decode cX3_soundsAlike 33 = .ok (.if_icmp .eq 5, 3) := by decide +kernel
theorem dX3_soundsAlike_36 : decode cX3_soundsAlike 36 = .ok (.iconst 0, 1) := by decide +kernel
theorem dX3_soundsAlike_37 : decode cX3_soundsAlike 37 = .ok (.ireturn, 1) := by decide +kernel
theorem dX3_soundsAlike_38 : decode cX3_soundsAlike 38 = .ok (.iinc 4 1, 3) := by decide +kernel
theorem dX3_soundsAlike_41 : decode cX3_soundsAlike 41 = .ok (.goto (-38), 3) := by decide +kernel
theorem dX3_soundsAlike_44 : decode cX3_soundsAlike 44 = .ok (.iconst 1, 1) := by decide +kernel
theorem dX3_soundsAlike_45 : decode cX3_soundsAlike 45 = .ok (.ireturn, 1) := by decide +kernel
set_option maxRecDepth 20000 in
theorem ggX3_layOutBeats_X3_lasting : GoodIn wsX3_layOutBeats wsX3_lasting := goodIn_r _ [9, 10, 11, 12, 13, 14, 15, 16, 17, 18, 19, 20, 21, 22, 23, 24, 25, 26, 27, 28, 29, 30, 31, 32, 33, 34, 35, 36, 37, 38, 39, 40, 41, 42] (by decide +kernel) (by decide +kernel)
set_option maxRecDepth 20000 in
theorem gX3_layOutBeats_X3_lasting : GoodIn wsX3_layOutBeats (wsV RX3 83 RX3 yX3_lasting wsX3_lasting) := goodIn_app (goodIn_of _ (by decide +kernel)) ggX3_layOutBeats_X3_lasting
theorem dX3_layOutBeats_0 : decode cX3_layOutBeats 0 = .ok (.iconst 0, 1) := by decide +kernel
theorem dX3_layOutBeats_1 : decode cX3_layOutBeats 1 = .ok (.istore_n 1, 1) := by decide +kernel
theorem dX3_layOutBeats_2 : decode cX3_layOutBeats 2 = .ok (.iconst 0, 1) := by decide +kernel
theorem dX3_layOutBeats_3 : decode cX3_layOutBeats 3 = .ok (.istore_n 2, 1) := by decide +kernel
theorem dX3_layOutBeats_4 : decode cX3_layOutBeats 4 = .ok (.iconst 0, 1) := by decide +kernel
theorem dX3_layOutBeats_5 : decode cX3_layOutBeats 5 = .ok (.istore_n 3, 1) := by decide +kernel
theorem dX3_layOutBeats_6 : decode cX3_layOutBeats 6 = .ok (.iload_n 3, 1) := by decide +kernel
theorem dX3_layOutBeats_7 : decode cX3_layOutBeats 7 = .ok (.aload_n 0, 1) := by decide +kernel
theorem dX3_layOutBeats_8 : decode cX3_layOutBeats 8 = .ok (.getfield 58, 3) := by decide +kernel
theorem dX3_layOutBeats_11 : decode cX3_layOutBeats 11 = .ok (.if_icmp .ge 54, 3) := by decide +kernel
theorem dX3_layOutBeats_14 : decode cX3_layOutBeats 14 = .ok (.aload_n 0, 1) := by decide +kernel
theorem dX3_layOutBeats_15 : decode cX3_layOutBeats 15 = .ok (.getfield 34, 3) := by decide +kernel
theorem dX3_layOutBeats_18 : decode cX3_layOutBeats 18 = .ok (.iload_n 3, 1) := by decide +kernel
theorem dX3_layOutBeats_19 : decode cX3_layOutBeats 19 = .ok (.iload_n 1, 1) := by decide +kernel
theorem dX3_layOutBeats_20 : decode cX3_layOutBeats 20 = .ok (.iastore, 1) := by decide +kernel
theorem dX3_layOutBeats_21 : decode cX3_layOutBeats 21 = .ok (.iconst 0, 1) := by decide +kernel
theorem dX3_layOutBeats_22 : decode cX3_layOutBeats 22 = .ok (.istore 4, 2) := by decide +kernel
theorem dX3_layOutBeats_24 : decode cX3_layOutBeats 24 = .ok (.iload 4, 2) := by decide +kernel
theorem dX3_layOutBeats_26 : decode cX3_layOutBeats 26 = .ok (.aload_n 0, 1) := by decide +kernel
theorem dX3_layOutBeats_27 : decode cX3_layOutBeats 27 = .ok (.getfield 30, 3) := by decide +kernel
theorem dX3_layOutBeats_30 : decode cX3_layOutBeats 30 = .ok (.iload_n 3, 1) := by decide +kernel
theorem dX3_layOutBeats_31 : decode cX3_layOutBeats 31 = .ok (.iaload, 1) := by decide +kernel
theorem dX3_layOutBeats_32 : decode cX3_layOutBeats 32 = .ok (.if_icmp .ge 27, 3) := by decide +kernel
theorem dX3_layOutBeats_35 : decode cX3_layOutBeats 35 = .ok (.aload_n 0, 1) := by decide +kernel
theorem dX3_layOutBeats_36 : decode cX3_layOutBeats 36 = .ok (.getfield 37, 3) := by decide +kernel
theorem dX3_layOutBeats_39 : decode cX3_layOutBeats 39 = .ok (.iload_n 1, 1) := by decide +kernel
theorem dX3_layOutBeats_40 : decode cX3_layOutBeats 40 = .ok (.iload_n 2, 1) := by decide +kernel
theorem dX3_layOutBeats_41 : decode cX3_layOutBeats 41 = .ok (.iastore, 1) := by decide +kernel
theorem dX3_layOutBeats_42 : decode cX3_layOutBeats 42 = .ok (.iload_n 2, 1) := by decide +kernel
theorem dX3_layOutBeats_43 : decode cX3_layOutBeats 43 = .ok (.aload_n 0, 1) := by decide +kernel
theorem dX3_layOutBeats_44 : decode cX3_layOutBeats 44 = .ok (.iload_n 1, 1) := by decide +kernel
theorem dX3_layOutBeats_45 : decode cX3_layOutBeats 45 = .ok (.invokevirtual 83, 3) := by decide +kernel
theorem dX3_layOutBeats_48 : decode cX3_layOutBeats 48 = .ok (.iadd, 1) := by decide +kernel
theorem dX3_layOutBeats_49 : decode cX3_layOutBeats 49 = .ok (.istore_n 2, 1) := by decide +kernel
theorem dX3_layOutBeats_50 : decode cX3_layOutBeats 50 = .ok (.iinc 1 1, 3) := by decide +kernel
theorem dX3_layOutBeats_53 : decode cX3_layOutBeats 53 = .ok (.iinc 4 1, 3) := by decide +kernel
theorem dX3_layOutBeats_56 : decode cX3_layOutBeats 56 = .ok (.goto (-32), 3) := by decide +kernel
theorem dX3_layOutBeats_59 : decode cX3_layOutBeats 59 = .ok (.iinc 3 1, 3) := by decide +kernel
theorem dX3_layOutBeats_62 : decode cX3_layOutBeats 62 = .ok (.goto (-56), 3) := by decide +kernel
theorem dX3_layOutBeats_65 : decode cX3_layOutBeats 65 = .ok (.aload_n 0, 1) := by decide +kernel
theorem dX3_layOutBeats_66 : decode cX3_layOutBeats 66 = .ok (.getfield 34, 3) := by decide +kernel
theorem dX3_layOutBeats_69 : decode cX3_layOutBeats 69 = .ok (.aload_n 0, 1) := by decide +kernel
theorem dX3_layOutBeats_70 : decode cX3_layOutBeats 70 = .ok (.getfield 58, 3) := by decide +kernel
theorem dX3_layOutBeats_73 : decode cX3_layOutBeats 73 = .ok (.iload_n 1, 1) := by decide +kernel
theorem dX3_layOutBeats_74 : decode cX3_layOutBeats 74 = .ok (.iastore, 1) := by decide +kernel
theorem dX3_layOutBeats_75 : decode cX3_layOutBeats 75 = .ok (.aload_n 0, 1) := by decide +kernel
theorem dX3_layOutBeats_76 : decode cX3_layOutBeats 76 = .ok (.getfield 37, 3) := by decide +kernel
theorem dX3_layOutBeats_79 : decode cX3_layOutBeats 79 = .ok (.iload_n 1, 1) := by decide +kernel
theorem dX3_layOutBeats_80 : decode cX3_layOutBeats 80 = .ok (.iload_n 2, 1) := by decide +kernel
theorem dX3_layOutBeats_81 : decode cX3_layOutBeats 81 = .ok (.iastore, 1) := by decide +kernel
theorem dX3_layOutBeats_82 : decode cX3_layOutBeats 82 = .ok (.return_, 1) := by decide +kernel
set_option maxRecDepth 20000 in
theorem ggX3_layOutPlayedBars_X3_barPlayed : GoodIn wsX3_layOutPlayedBars wsX3_barPlayed := goodIn_r _ [17, 3, 4, 2, 18, 19, 20, 21, 22, 23, 24, 25, 26, 27, 28, 29, 30, 31, 32, 33, 34, 35, 36] (by decide +kernel) (by decide +kernel)
set_option maxRecDepth 20000 in
theorem gX3_layOutPlayedBars_X3_barPlayed : GoodIn wsX3_layOutPlayedBars (wsV RX3 90 RX3 yX3_barPlayed wsX3_barPlayed) := goodIn_app (goodIn_of _ (by decide +kernel)) ggX3_layOutPlayedBars_X3_barPlayed
theorem dX3_layOutPlayedBars_0 : decode cX3_layOutPlayedBars 0 = .ok (.aload_n 0, 1) := by decide +kernel
theorem dX3_layOutPlayedBars_1 : decode cX3_layOutPlayedBars 1 = .ok (.aload_n 0, 1) := by decide +kernel
theorem dX3_layOutPlayedBars_2 : decode cX3_layOutPlayedBars 2 = .ok (.getfield 58, 3) := by decide +kernel
theorem dX3_layOutPlayedBars_5 : decode cX3_layOutPlayedBars 5 = .ok (.aload_n 0, 1) := by decide +kernel
theorem dX3_layOutPlayedBars_6 : decode cX3_layOutPlayedBars 6 = .ok (.getfield 27, 3) := by decide +kernel
theorem dX3_layOutPlayedBars_9 : decode cX3_layOutPlayedBars 9 = .ok (.iconst 1, 1) := by decide +kernel
theorem dX3_layOutPlayedBars_10 : decode cX3_layOutPlayedBars 10 = .ok (.isub, 1) := by decide +kernel
theorem dX3_layOutPlayedBars_11 : decode cX3_layOutPlayedBars 11 = .ok (.aload_n 0, 1) := by decide +kernel
theorem dX3_layOutPlayedBars_12 : decode cX3_layOutPlayedBars 12 = .ok (.getfield 24, 3) := by decide +kernel
theorem dX3_layOutPlayedBars_15 : decode cX3_layOutPlayedBars 15 = .ok (.aload_n 0, 1) := by decide +kernel
theorem dX3_layOutPlayedBars_16 : decode cX3_layOutPlayedBars 16 = .ok (.getfield 21, 3) := by decide +kernel
theorem dX3_layOutPlayedBars_19 : decode cX3_layOutPlayedBars 19 = .ok (.isub, 1) := by decide +kernel
theorem dX3_layOutPlayedBars_20 : decode cX3_layOutPlayedBars 20 = .ok (.iconst 1, 1) := by decide +kernel
theorem dX3_layOutPlayedBars_21 : decode cX3_layOutPlayedBars 21 = .ok (.iadd, 1) := by decide +kernel
theorem dX3_layOutPlayedBars_22 : decode cX3_layOutPlayedBars 22 = .ok (.imul, 1) := by decide +kernel
theorem dX3_layOutPlayedBars_23 : decode cX3_layOutPlayedBars 23 = .ok (.iadd, 1) := by decide +kernel
theorem dX3_layOutPlayedBars_24 : decode cX3_layOutPlayedBars 24 = .ok (.putfield 87, 3) := by decide +kernel
theorem dX3_layOutPlayedBars_27 : decode cX3_layOutPlayedBars 27 = .ok (.iconst 0, 1) := by decide +kernel
theorem dX3_layOutPlayedBars_28 : decode cX3_layOutPlayedBars 28 = .ok (.istore_n 1, 1) := by decide +kernel
theorem dX3_layOutPlayedBars_29 : decode cX3_layOutPlayedBars 29 = .ok (.iconst 0, 1) := by decide +kernel
theorem dX3_layOutPlayedBars_30 : decode cX3_layOutPlayedBars 30 = .ok (.istore_n 2, 1) := by decide +kernel
theorem dX3_layOutPlayedBars_31 : decode cX3_layOutPlayedBars 31 = .ok (.iload_n 2, 1) := by decide +kernel
theorem dX3_layOutPlayedBars_32 : decode cX3_layOutPlayedBars 32 = .ok (.aload_n 0, 1) := by decide +kernel
theorem dX3_layOutPlayedBars_33 : decode cX3_layOutPlayedBars 33 = .ok (.getfield 87, 3) := by decide +kernel
theorem dX3_layOutPlayedBars_36 : decode cX3_layOutPlayedBars 36 = .ok (.if_icmp .ge 102, 3) := by decide +kernel
theorem dX3_layOutPlayedBars_39 : decode cX3_layOutPlayedBars 39 = .ok (.aload_n 0, 1) := by decide +kernel
theorem dX3_layOutPlayedBars_40 : decode cX3_layOutPlayedBars 40 = .ok (.iload_n 2, 1) := by decide +kernel
theorem dX3_layOutPlayedBars_41 : decode cX3_layOutPlayedBars 41 = .ok (.invokevirtual 90, 3) := by decide +kernel
theorem dX3_layOutPlayedBars_44 : decode cX3_layOutPlayedBars 44 = .ok (.istore_n 3, 1) := by decide +kernel
theorem dX3_layOutPlayedBars_45 : decode cX3_layOutPlayedBars 45 = .ok (.aload_n 0, 1) := by decide +kernel
theorem dX3_layOutPlayedBars_46 : decode cX3_layOutPlayedBars 46 = .ok (.getfield 40, 3) := by decide +kernel
theorem dX3_layOutPlayedBars_49 : decode cX3_layOutPlayedBars 49 = .ok (.iload_n 2, 1) := by decide +kernel
theorem dX3_layOutPlayedBars_50 : decode cX3_layOutPlayedBars 50 = .ok (.iload_n 3, 1) := by decide +kernel
theorem dX3_layOutPlayedBars_51 : decode cX3_layOutPlayedBars 51 = .ok (.iastore, 1) := by decide +kernel
theorem dX3_layOutPlayedBars_52 : decode cX3_layOutPlayedBars 52 = .ok (.aload_n 0, 1) := by decide +kernel
theorem dX3_layOutPlayedBars_53 : decode cX3_layOutPlayedBars 53 = .ok (.getfield 43, 3) := by decide +kernel
theorem dX3_layOutPlayedBars_56 : decode cX3_layOutPlayedBars 56 = .ok (.iload_n 2, 1) := by decide +kernel
theorem dX3_layOutPlayedBars_57 : decode cX3_layOutPlayedBars 57 = .ok (.iload_n 1, 1) := by decide +kernel
theorem dX3_layOutPlayedBars_58 : decode cX3_layOutPlayedBars 58 = .ok (.iastore, 1) := by decide +kernel
theorem dX3_layOutPlayedBars_59 : decode cX3_layOutPlayedBars 59 = .ok (.iconst 0, 1) := by decide +kernel
theorem dX3_layOutPlayedBars_60 : decode cX3_layOutPlayedBars 60 = .ok (.istore 4, 2) := by decide +kernel
theorem dX3_layOutPlayedBars_62 : decode cX3_layOutPlayedBars 62 = .ok (.iload 4, 2) := by decide +kernel
theorem dX3_layOutPlayedBars_64 : decode cX3_layOutPlayedBars 64 = .ok (.aload_n 0, 1) := by decide +kernel
theorem dX3_layOutPlayedBars_65 : decode cX3_layOutPlayedBars 65 = .ok (.getfield 30, 3) := by decide +kernel
theorem dX3_layOutPlayedBars_68 : decode cX3_layOutPlayedBars 68 = .ok (.iload_n 3, 1) := by decide +kernel
theorem dX3_layOutPlayedBars_69 : decode cX3_layOutPlayedBars 69 = .ok (.iaload, 1) := by decide +kernel
theorem dX3_layOutPlayedBars_70 : decode cX3_layOutPlayedBars 70 = .ok (.if_icmp .ge 62, 3) := by decide +kernel
theorem dX3_layOutPlayedBars_73 : decode cX3_layOutPlayedBars 73 = .ok (.aload_n 0, 1) := by decide +kernel
theorem dX3_layOutPlayedBars_74 : decode cX3_layOutPlayedBars 74 = .ok (.getfield 34, 3) := by decide +kernel
theorem dX3_layOutPlayedBars_77 : decode cX3_layOutPlayedBars 77 = .ok (.iload_n 3, 1) := by decide +kernel
theorem dX3_layOutPlayedBars_78 : decode cX3_layOutPlayedBars 78 = .ok (.iaload, 1) := by decide +kernel
theorem dX3_layOutPlayedBars_79 : decode cX3_layOutPlayedBars 79 = .ok (.iload 4, 2) := by decide +kernel
theorem dX3_layOutPlayedBars_81 : decode cX3_layOutPlayedBars 81 = .ok (.iadd, 1) := by decide +kernel
theorem dX3_layOutPlayedBars_82 : decode cX3_layOutPlayedBars 82 = .ok (.istore 5, 2) := by decide +kernel
theorem dX3_layOutPlayedBars_84 : decode cX3_layOutPlayedBars 84 = .ok (.aload_n 0, 1) := by decide +kernel
theorem dX3_layOutPlayedBars_85 : decode cX3_layOutPlayedBars 85 = .ok (.getfield 49, 3) := by decide +kernel
theorem dX3_layOutPlayedBars_88 : decode cX3_layOutPlayedBars 88 = .ok (.iconst 4, 1) := by decide +kernel
theorem dX3_layOutPlayedBars_89 : decode cX3_layOutPlayedBars 89 = .ok (.iload_n 2, 1) := by decide +kernel
theorem dX3_layOutPlayedBars_90 : decode cX3_layOutPlayedBars 90 = .ok (.imul, 1) := by decide +kernel
theorem dX3_layOutPlayedBars_91 : decode cX3_layOutPlayedBars 91 = .ok (.iload 4, 2) := by decide +kernel
theorem dX3_layOutPlayedBars_93 : decode cX3_layOutPlayedBars 93 = .ok (.iadd, 1) := by decide +kernel
theorem dX3_layOutPlayedBars_94 : decode cX3_layOutPlayedBars 94 = .ok (.aload_n 0, 1) := by decide +kernel
theorem dX3_layOutPlayedBars_95 : decode cX3_layOutPlayedBars 95 = .ok (.getfield 37, 3) := by decide +kernel
theorem dX3_layOutPlayedBars_98 : decode cX3_layOutPlayedBars 98 = .ok (.iload 5, 2) := by decide +kernel
theorem dX3_layOutPlayedBars_100 : decode cX3_layOutPlayedBars 100 = .ok (.iconst 1, 1) := by decide +kernel
theorem dX3_layOutPlayedBars_101 : decode cX3_layOutPlayedBars 101 = .ok (.iadd, 1) := by decide +kernel
theorem dX3_layOutPlayedBars_102 : decode cX3_layOutPlayedBars 102 = .ok (.iaload, 1) := by decide +kernel
theorem dX3_layOutPlayedBars_103 : decode cX3_layOutPlayedBars 103 = .ok (.aload_n 0, 1) := by decide +kernel
theorem dX3_layOutPlayedBars_104 : decode cX3_layOutPlayedBars 104 = .ok (.getfield 37, 3) := by decide +kernel
theorem dX3_layOutPlayedBars_107 : decode cX3_layOutPlayedBars 107 = .ok (.iload 5, 2) := by decide +kernel
theorem dX3_layOutPlayedBars_109 : decode cX3_layOutPlayedBars 109 = .ok (.iaload, 1) := by decide +kernel
theorem dX3_layOutPlayedBars_110 : decode cX3_layOutPlayedBars 110 = .ok (.isub, 1) := by decide +kernel
theorem dX3_layOutPlayedBars_111 : decode cX3_layOutPlayedBars 111 = .ok (.iastore, 1) := by decide +kernel
theorem dX3_layOutPlayedBars_112 : decode cX3_layOutPlayedBars 112 = .ok (.iload_n 1, 1) := by decide +kernel
theorem dX3_layOutPlayedBars_113 : decode cX3_layOutPlayedBars 113 = .ok (.aload_n 0, 1) := by decide +kernel
theorem dX3_layOutPlayedBars_114 : decode cX3_layOutPlayedBars 114 = .ok (.getfield 49, 3) := by decide +kernel
theorem dX3_layOutPlayedBars_117 : decode cX3_layOutPlayedBars 117 = .ok (.iconst 4, 1) := by decide +kernel
theorem dX3_layOutPlayedBars_118 : decode cX3_layOutPlayedBars 118 = .ok (.iload_n 2, 1) := by decide +kernel
theorem dX3_layOutPlayedBars_119 : decode cX3_layOutPlayedBars 119 = .ok (.imul, 1) := by decide +kernel
theorem dX3_layOutPlayedBars_120 : decode cX3_layOutPlayedBars 120 = .ok (.iload 4, 2) := by decide +kernel
theorem dX3_layOutPlayedBars_122 : decode cX3_layOutPlayedBars 122 = .ok (.iadd, 1) := by decide +kernel
theorem dX3_layOutPlayedBars_123 : decode cX3_layOutPlayedBars 123 = .ok (.iaload, 1) := by decide +kernel
theorem dX3_layOutPlayedBars_124 : decode cX3_layOutPlayedBars 124 = .ok (.iadd, 1) := by decide +kernel
theorem dX3_layOutPlayedBars_125 : decode cX3_layOutPlayedBars 125 = .ok (.istore_n 1, 1) := by decide +kernel
theorem dX3_layOutPlayedBars_126 : decode cX3_layOutPlayedBars 126 = .ok (.iinc 4 1, 3) := by decide +kernel
theorem dX3_layOutPlayedBars_129 : decode cX3_layOutPlayedBars 129 = .ok (.goto (-67), 3) := by decide +kernel
theorem dX3_layOutPlayedBars_132 : decode cX3_layOutPlayedBars 132 = .ok (.iinc 2 1, 3) := by decide +kernel
theorem dX3_layOutPlayedBars_135 : decode cX3_layOutPlayedBars 135 = .ok (.goto (-104), 3) := by decide +kernel
theorem dX3_layOutPlayedBars_138 : decode cX3_layOutPlayedBars 138 = .ok (.aload_n 0, 1) := by decide +kernel
theorem dX3_layOutPlayedBars_139 : decode cX3_layOutPlayedBars 139 = .ok (.getfield 43, 3) := by decide +kernel
theorem dX3_layOutPlayedBars_142 : decode cX3_layOutPlayedBars 142 = .ok (.aload_n 0, 1) := by decide +kernel
theorem dX3_layOutPlayedBars_143 : decode cX3_layOutPlayedBars 143 = .ok (.getfield 87, 3) := by decide +kernel
theorem dX3_layOutPlayedBars_146 : decode cX3_layOutPlayedBars 146 = .ok (.iload_n 1, 1) := by decide +kernel
theorem dX3_layOutPlayedBars_147 : decode cX3_layOutPlayedBars 147 = .ok (.iastore, 1) := by decide +kernel
theorem dX3_layOutPlayedBars_148 : decode cX3_layOutPlayedBars 148 = .ok (.aload_n 0, 1) := by decide +kernel
theorem dX3_layOutPlayedBars_149 : decode cX3_layOutPlayedBars 149 = .ok (.getfield 46, 3) := by decide +kernel
theorem dX3_layOutPlayedBars_152 : decode cX3_layOutPlayedBars 152 = .ok (.aload_n 0, 1) := by decide +kernel
theorem dX3_layOutPlayedBars_153 : decode cX3_layOutPlayedBars 153 = .ok (.getfield 87, 3) := by decide +kernel
theorem dX3_layOutPlayedBars_156 : decode cX3_layOutPlayedBars 156 = .ok (.iconst 0, 1) := by decide +kernel
theorem dX3_layOutPlayedBars_157 : decode cX3_layOutPlayedBars 157 = .ok (.iastore, 1) := by decide +kernel
theorem dX3_layOutPlayedBars_158 : decode cX3_layOutPlayedBars 158 = .ok (.aload_n 0, 1) := by decide +kernel
theorem dX3_layOutPlayedBars_159 : decode cX3_layOutPlayedBars 159 = .ok (.getfield 87, 3) := by decide +kernel
theorem dX3_layOutPlayedBars_162 : decode cX3_layOutPlayedBars 162 = .ok (.iconst 1, 1) := by decide +kernel
theorem dX3_layOutPlayedBars_163 : decode cX3_layOutPlayedBars 163 = .ok (.isub, 1) := by decide +kernel
theorem dX3_layOutPlayedBars_164 : decode cX3_layOutPlayedBars 164 = .ok (.istore_n 2, 1) := by decide +kernel
theorem dX3_layOutPlayedBars_165 : decode cX3_layOutPlayedBars 165 = .ok (.iload_n 2, 1) := by decide +kernel
theorem dX3_layOutPlayedBars_166 : decode cX3_layOutPlayedBars 166 = .ok (.ifCond .lt 44, 3) := by decide +kernel
theorem dX3_layOutPlayedBars_169 : decode cX3_layOutPlayedBars 169 = .ok (.aload_n 0, 1) := by decide +kernel
theorem dX3_layOutPlayedBars_170 : decode cX3_layOutPlayedBars 170 = .ok (.getfield 46, 3) := by decide +kernel
theorem dX3_layOutPlayedBars_173 : decode cX3_layOutPlayedBars 173 = .ok (.iload_n 2, 1) := by decide +kernel
theorem dX3_layOutPlayedBars_174 : decode cX3_layOutPlayedBars 174 = .ok (.aload_n 0, 1) := by decide +kernel
theorem dX3_layOutPlayedBars_175 : decode cX3_layOutPlayedBars 175 = .ok (.getfield 30, 3) := by decide +kernel
theorem dX3_layOutPlayedBars_178 : decode cX3_layOutPlayedBars 178 = .ok (.aload_n 0, 1) := by decide +kernel
theorem dX3_layOutPlayedBars_179 : decode cX3_layOutPlayedBars 179 = .ok (.getfield 40, 3) := by decide +kernel
theorem dX3_layOutPlayedBars_182 : decode cX3_layOutPlayedBars 182 = .ok (.iload_n 2, 1) := by decide +kernel
theorem dX3_layOutPlayedBars_183 : decode cX3_layOutPlayedBars 183 = .ok (.iaload, 1) := by decide +kernel
theorem dX3_layOutPlayedBars_184 : decode cX3_layOutPlayedBars 184 = .ok (.iaload, 1) := by decide +kernel
theorem dX3_layOutPlayedBars_185 : decode cX3_layOutPlayedBars 185 = .ok (.iconst 4, 1) := by decide +kernel
theorem dX3_layOutPlayedBars_186 : decode cX3_layOutPlayedBars 186 = .ok (.if_icmp .ne 16, 3) := by decide +kernel
theorem dX3_layOutPlayedBars_189 : decode cX3_layOutPlayedBars 189 = .ok (.aload_n 0, 1) := by decide +kernel
theorem dX3_layOutPlayedBars_190 : decode cX3_layOutPlayedBars 190 = .ok (.getfield 46, 3) := by decide +kernel
theorem dX3_layOutPlayedBars_193 : decode cX3_layOutPlayedBars 193 = .ok (.iload_n 2, 1) := by decide +kernel
theorem dX3_layOutPlayedBars_194 : decode cX3_layOutPlayedBars 194 = .ok (.iconst 1, 1) := by decide +kernel
theorem dX3_layOutPlayedBars_195 : decode cX3_layOutPlayedBars 195 = .ok (.iadd, 1) := by decide +kernel
theorem dX3_layOutPlayedBars_196 : decode cX3_layOutPlayedBars 196 = .ok (.iaload, 1) := by decide +kernel
theorem dX3_layOutPlayedBars_197 : decode cX3_layOutPlayedBars 197 = .ok (.iconst 1, 1) := by decide +kernel
theorem dX3_layOutPlayedBars_198 : decode cX3_layOutPlayedBars 198 = .ok (.iadd, 1) := by decide +kernel
theorem dX3_layOutPlayedBars_199 : decode cX3_layOutPlayedBars 199 = .ok (.goto 4, 3) := by decide +kernel
theorem dX3_layOutPlayedBars_202 : decode cX3_layOutPlayedBars 202 = .ok (.iconst 0, 1) := by decide +kernel
theorem dX3_layOutPlayedBars_203 : decode cX3_layOutPlayedBars 203 = .ok (.iastore, 1) := by decide +kernel
theorem dX3_layOutPlayedBars_204 : decode cX3_layOutPlayedBars 204 = .ok (.iinc 2 (-1), 3) := by decide +kernel
theorem dX3_layOutPlayedBars_207 : decode cX3_layOutPlayedBars 207 = .ok (.goto (-42), 3) := by decide +kernel
theorem dX3_layOutPlayedBars_210 : decode cX3_layOutPlayedBars 210 = .ok (.return_, 1) := by decide +kernel
set_option maxRecDepth 20000 in
theorem ggX3_lasting_J9_floorDiv_7cf53 : GoodIn wsX3_lasting wsJ9_floorDiv_7cf53 := goodIn_r _ [14] (by decide +kernel) (by decide +kernel)
set_option maxRecDepth 20000 in
theorem gX3_lasting_J9_floorDiv_7cf53 : GoodIn wsX3_lasting (va_wsS RX3 93 yJ9_floorDiv_7cf53 wsJ9_floorDiv_7cf53) := goodIn_app (goodIn_of _ (by decide +kernel)) ggX3_lasting_J9_floorDiv_7cf53
theorem dX3_lasting_0 : decode cX3_lasting 0 = .ok (.aload_n 0, 1) := by decide +kernel
theorem dX3_lasting_1 : decode cX3_lasting 1 = .ok (.getfield 55, 3) := by decide +kernel
theorem dX3_lasting_4 : decode cX3_lasting 4 = .ok (.lookupswitch 84 #[(1, 28), (2, 56)], 28) := by decide +kernel
theorem dX3_lasting_32 : decode cX3_lasting 32 = .ok (.iload_n 1, 1) := by decide +kernel
theorem dX3_lasting_33 : decode cX3_lasting 33 = .ok (.iconst 2, 1) := by decide +kernel
theorem dX3_lasting_34 : decode cX3_lasting 34 = .ok (.irem, 1) := by decide +kernel
theorem dX3_lasting_35 : decode cX3_lasting 35 = .ok (.ifCond .ne 15, 3) := by decide +kernel
theorem dX3_lasting_38 : decode cX3_lasting 38 = .ok (.aload_n 0, 1) := by decide +kernel
theorem dX3_lasting_39 : decode cX3_lasting 39 = .ok (.getfield 61, 3) := by decide +kernel
theorem dX3_lasting_42 : decode cX3_lasting 42 = .ok (.aload_n 0, 1) := by decide +kernel
theorem dX3_lasting_43 : decode cX3_lasting 43 = .ok (.getfield 64, 3) := by decide +kernel
theorem dX3_lasting_46 : decode cX3_lasting 46 = .ok (.iadd, 1) := by decide +kernel
theorem dX3_lasting_47 : decode cX3_lasting 47 = .ok (.goto 12, 3) := by decide +kernel
theorem dX3_lasting_50 : decode cX3_lasting 50 = .ok (.aload_n 0, 1) := by decide +kernel
theorem dX3_lasting_51 : decode cX3_lasting 51 = .ok (.getfield 61, 3) := by decide +kernel
theorem dX3_lasting_54 : decode cX3_lasting 54 = .ok (.aload_n 0, 1) := by decide +kernel
theorem dX3_lasting_55 : decode cX3_lasting 55 = .ok (.getfield 64, 3) := by decide +kernel
theorem dX3_lasting_58 : decode cX3_lasting 58 = .ok (.isub, 1) := by decide +kernel
theorem dX3_lasting_59 : decode cX3_lasting 59 = .ok (.ireturn, 1) := by decide +kernel
theorem dX3_lasting_60 : decode cX3_lasting 60 = .ok (.bipush 20, 2) := by decide +kernel
theorem dX3_lasting_62 : decode cX3_lasting 62 = .ok (.sipush 400, 3) := by decide +kernel
theorem dX3_lasting_65 : decode cX3_lasting 65 = .ok (.aload_n 0, 1) := by decide +kernel
theorem dX3_lasting_66 : decode cX3_lasting 66 = .ok (.getfield 61, 3) := by decide +kernel
theorem dX3_lasting_69 : decode cX3_lasting 69 = .ok (.iload_n 1, 1) := by decide +kernel
theorem dX3_lasting_70 : decode cX3_lasting 70 = .ok (.aload_n 0, 1) := by decide +kernel
theorem dX3_lasting_71 : decode cX3_lasting 71 = .ok (.getfield 64, 3) := by decide +kernel
theorem dX3_lasting_74 : decode cX3_lasting 74 = .ok (.imul, 1) := by decide +kernel
theorem dX3_lasting_75 : decode cX3_lasting 75 = .ok (.bipush 16, 2) := by decide +kernel
theorem dX3_lasting_77 : decode cX3_lasting 77 = .ok (.invokestatic 93, 3) := by decide +kernel
theorem dX3_lasting_80 : decode cX3_lasting 80 = .ok (.iadd, 1) := by decide +kernel
theorem dX3_lasting_81 : decode cX3_lasting 81 = .ok (.invokestatic 99, 3) := by decide +kernel
theorem dX3_lasting_84 : decode cX3_lasting 84 = .ok (.invokestatic 102, 3) := by decide +kernel
theorem dX3_lasting_87 : decode cX3_lasting 87 = .ok (.ireturn, 1) := by decide +kernel
theorem dX3_lasting_88 : decode cX3_lasting 88 = .ok (.aload_n 0, 1) := by decide +kernel
theorem dX3_lasting_89 : decode cX3_lasting 89 = .ok (.getfield 61, 3) := by decide +kernel
theorem dX3_lasting_92 : decode cX3_lasting 92 = .ok (.ireturn, 1) := by decide +kernel
theorem dX3_barPlayed_0 : decode cX3_barPlayed 0 = .ok (.aload_n 0, 1) := by decide +kernel
theorem dX3_barPlayed_1 : decode cX3_barPlayed 1 = .ok (.getfield 24, 3) := by decide +kernel
theorem dX3_barPlayed_4 : decode cX3_barPlayed 4 = .ok (.aload_n 0, 1) := by decide +kernel
theorem dX3_barPlayed_5 : decode cX3_barPlayed 5 = .ok (.getfield 21, 3) := by decide +kernel
theorem dX3_barPlayed_8 : decode cX3_barPlayed 8 = .ok (.isub, 1) := by decide +kernel
theorem dX3_barPlayed_9 : decode cX3_barPlayed 9 = .ok (.iconst 1, 1) := by decide +kernel
theorem dX3_barPlayed_10 : decode cX3_barPlayed 10 = .ok (.iadd, 1) := by decide +kernel
theorem dX3_barPlayed_11 : decode cX3_barPlayed 11 = .ok (.istore_n 2, 1) := by decide +kernel
theorem dX3_barPlayed_12 : decode cX3_barPlayed 12 = .ok (.iload_n 1, 1) := by decide +kernel
theorem dX3_barPlayed_13 : decode cX3_barPlayed 13 = .ok (.aload_n 0, 1) := by decide +kernel
theorem dX3_barPlayed_14 : decode cX3_barPlayed 14 = .ok (.getfield 21, 3) := by decide +kernel
theorem dX3_barPlayed_17 : decode cX3_barPlayed 17 = .ok (.if_icmp .ge 5, 3) := by decide +kernel
theorem dX3_barPlayed_20 : decode cX3_barPlayed 20 = .ok (.iload_n 1, 1) := by decide +kernel
theorem dX3_barPlayed_21 : decode cX3_barPlayed 21 = .ok (.ireturn, 1) := by decide +kernel
theorem dX3_barPlayed_22 : decode cX3_barPlayed 22 = .ok (.iload_n 1, 1) := by decide +kernel
theorem dX3_barPlayed_23 : decode cX3_barPlayed 23 = .ok (.aload_n 0, 1) := by decide +kernel
theorem dX3_barPlayed_24 : decode cX3_barPlayed 24 = .ok (.getfield 21, 3) := by decide +kernel
theorem dX3_barPlayed_27 : decode cX3_barPlayed 27 = .ok (.aload_n 0, 1) := by decide +kernel
theorem dX3_barPlayed_28 : decode cX3_barPlayed 28 = .ok (.getfield 27, 3) := by decide +kernel
theorem dX3_barPlayed_31 : decode cX3_barPlayed 31 = .ok (.iload_n 2, 1) := by decide +kernel
theorem dX3_barPlayed_32 : decode cX3_barPlayed 32 = .ok (.imul, 1) := by decide +kernel
theorem dX3_barPlayed_33 : decode cX3_barPlayed 33 = .ok (.iadd, 1) := by decide +kernel
theorem dX3_barPlayed_34 : decode cX3_barPlayed 34 = .ok (.if_icmp .ge 17, 3) := by decide +kernel
theorem dX3_barPlayed_37 : decode cX3_barPlayed 37 = .ok (.aload_n 0, 1) := by decide +kernel
theorem dX3_barPlayed_38 : decode cX3_barPlayed 38 = .ok (.getfield 21, 3) := by decide +kernel
theorem dX3_barPlayed_41 : decode cX3_barPlayed 41 = .ok (.iload_n 1, 1) := by decide +kernel
theorem dX3_barPlayed_42 : decode cX3_barPlayed 42 = .ok (.aload_n 0, 1) := by decide +kernel
theorem dX3_barPlayed_43 : decode cX3_barPlayed 43 = .ok (.getfield 21, 3) := by decide +kernel
theorem dX3_barPlayed_46 : decode cX3_barPlayed 46 = .ok (.isub, 1) := by decide +kernel
theorem dX3_barPlayed_47 : decode cX3_barPlayed 47 = .ok (.iload_n 2, 1) := by decide +kernel
theorem dX3_barPlayed_48 : decode cX3_barPlayed 48 = .ok (.irem, 1) := by decide +kernel
theorem dX3_barPlayed_49 : decode cX3_barPlayed 49 = .ok (.iadd, 1) := by decide +kernel
theorem dX3_barPlayed_50 : decode cX3_barPlayed 50 = .ok (.ireturn, 1) := by decide +kernel
theorem dX3_barPlayed_51 : decode cX3_barPlayed 51 = .ok (.iload_n 1, 1) := by decide +kernel
theorem dX3_barPlayed_52 : decode cX3_barPlayed 52 = .ok (.aload_n 0, 1) := by decide +kernel
theorem dX3_barPlayed_53 : decode cX3_barPlayed 53 = .ok (.getfield 27, 3) := by decide +kernel
theorem dX3_barPlayed_56 : decode cX3_barPlayed 56 = .ok (.iconst 1, 1) := by decide +kernel
theorem dX3_barPlayed_57 : decode cX3_barPlayed 57 = .ok (.isub, 1) := by decide +kernel
theorem dX3_barPlayed_58 : decode cX3_barPlayed 58 = .ok (.iload_n 2, 1) := by decide +kernel
theorem dX3_barPlayed_59 : decode cX3_barPlayed 59 = .ok (.imul, 1) := by decide +kernel
theorem dX3_barPlayed_60 : decode cX3_barPlayed 60 = .ok (.isub, 1) := by decide +kernel
theorem dX3_barPlayed_61 : decode cX3_barPlayed 61 = .ok (.ireturn, 1) := by decide +kernel
theorem dX4_init_0 : decode cX4_init 0 = .ok (.aload_n 0, 1) := by decide +kernel
theorem dX4_init_1 : decode cX4_init 1 = .ok (.invokespecial 3, 3) := by decide +kernel
theorem dX4_init_4 : decode cX4_init 4 = .ok (.aload_n 0, 1) := by decide +kernel
theorem dX4_init_5 : decode cX4_init 5 = .ok (.bipush 60, 2) := by decide +kernel
theorem dX4_init_7 : decode cX4_init 7 = .ok (.newarray .int, 2) := by decide +kernel
theorem dX4_init_9 : decode cX4_init 9 = .ok (.putfield 11, 3) := by decide +kernel
theorem dX4_init_12 : decode cX4_init 12 = .ok (.aload_n 0, 1) := by decide +kernel
theorem dX4_init_13 : decode cX4_init 13 = .ok (.iconst 0, 1) := by decide +kernel
theorem dX4_init_14 : decode cX4_init 14 = .ok (.putfield 15, 3) := by decide +kernel
theorem dX4_init_17 : decode cX4_init 17 = .ok (.aload_n 0, 1) := by decide +kernel
theorem dX4_init_18 : decode cX4_init 18 = .ok (.bipush 60, 2) := by decide +kernel
theorem dX4_init_20 : decode cX4_init 20 = .ok (.newarray .int, 2) := by decide +kernel
theorem dX4_init_22 : decode cX4_init 22 = .ok (.putfield 19, 3) := by decide +kernel
theorem dX4_init_25 : decode cX4_init 25 = .ok (.aload_n 0, 1) := by decide +kernel
theorem dX4_init_26 : decode cX4_init 26 = .ok (.bipush 60, 2) := by decide +kernel
theorem dX4_init_28 : decode cX4_init 28 = .ok (.newarray .int, 2) := by decide +kernel
theorem dX4_init_30 : decode cX4_init 30 = .ok (.putfield 22, 3) := by decide +kernel
theorem dX4_init_33 : decode cX4_init 33 = .ok (.aload_n 0, 1) := by decide +kernel
theorem dX4_init_34 : decode cX4_init 34 = .ok (.bipush 60, 2) := by decide +kernel
theorem dX4_init_36 : decode cX4_init 36 = .ok (.newarray .int, 2) := by decide +kernel
theorem dX4_init_38 : decode cX4_init 38 = .ok (.putfield 25, 3) := by decide +kernel
theorem dX4_init_41 : decode cX4_init 41 = .ok (.aload_n 0, 1) := by decide +kernel
theorem dX4_init_42 : decode cX4_init 42 = .ok (.iconst 0, 1) := by decide +kernel
theorem dX4_init_43 : decode cX4_init 43 = .ok (.putfield 28, 3) := by decide +kernel
theorem dX4_init_46 : decode cX4_init 46 = .ok (.return_, 1) := by decide +kernel
set_option maxRecDepth 20000 in
theorem ggX4_add_X5_within : GoodIn wsX4_add wsX5_within := goodIn_r _ [6] (by decide +kernel) (by decide +kernel)
set_option maxRecDepth 20000 in
theorem gX4_add_X5_within_n32 : GoodIn wsX4_add (wsX5_within) := ggX4_add_X5_within
theorem dX4_add_0 : decode cX4_add 0 = .ok (.aload_n 0, 1) := by decide +kernel
theorem dX4_add_1 : decode cX4_add 1 = .ok (.getfield 15, 3) := by decide +kernel
theorem dX4_add_4 : decode cX4_add 4 = .ok (.bipush 60, 2) := by decide +kernel
theorem dX4_add_6 : decode cX4_add 6 = .ok (.if_icmp .ge 35, 3) := by decide +kernel
theorem dX4_add_9 : decode cX4_add 9 = .ok (.iload_n 1, 1) := by decide +kernel
theorem dX4_add_10 : decode cX4_add 10 = .ok (.iconst 0, 1) := by decide +kernel
theorem dX4_add_11 : decode cX4_add 11 = .ok (.ldc 31, 2) := by decide +kernel
theorem dX4_add_13 : decode cX4_add 13 = .ok (.invokestatic 32, 3) := by decide +kernel
theorem dX4_add_16 : decode cX4_add 16 = .ok (.ifCond .eq 25, 3) := by decide +kernel
theorem dX4_add_19 : decode cX4_add 19 = .ok (.aload_n 0, 1) := by decide +kernel
theorem dX4_add_20 : decode cX4_add 20 = .ok (.getfield 15, 3) := by decide +kernel
theorem dX4_add_23 : decode cX4_add 23 = .ok (.ifCond .le 20, 3) := by decide +kernel
theorem dX4_add_26 : decode cX4_add 26 = .ok (.iload_n 1, 1) := by decide +kernel
theorem dX4_add_27 : decode cX4_add 27 = .ok (.aload_n 0, 1) := by decide +kernel
theorem dX4_add_28 : decode cX4_add 28 = .ok (.getfield 11, 3) := by decide +kernel
theorem dX4_add_31 : decode cX4_add 31 = .ok (.aload_n 0, 1) := by decide +kernel
theorem dX4_add_32 : decode cX4_add 32 = .ok (.getfield 15, 3) := by decide +kernel
theorem dX4_add_35 : decode cX4_add 35 = .ok (.iconst 1, 1) := by decide +kernel
theorem dX4_add_36 : decode cX4_add 36 = .ok (.isub, 1) := by decide +kernel
theorem dX4_add_37 : decode cX4_add 37 = .ok (.iaload, 1) := by decide +kernel
theorem dX4_add_38 : decode cX4_add 38 = .ok (.if_icmp .gt 5, 3) := by decide +kernel
theorem dX4_add_41 : decode cX4_add 41 = .ok (.iconst (-1), 1) := by decide +kernel
theorem dX4_add_42 : decode cX4_add 42 = .ok (.ireturn, 1) := by decide +kernel
theorem dX4_add_43 : decode cX4_add 43 = .ok (.aload_n 0, 1) := by decide +kernel
theorem dX4_add_44 : decode cX4_add 44 = .ok (.getfield 11, 3) := by decide +kernel
theorem dX4_add_47 : decode cX4_add 47 = .ok (.aload_n 0, 1) := by decide +kernel
theorem dX4_add_48 : decode cX4_add 48 = .ok (.getfield 15, 3) := by decide +kernel
theorem dX4_add_51 : decode cX4_add 51 = .ok (.iload_n 1, 1) := by decide +kernel
theorem dX4_add_52 : decode cX4_add 52 = .ok (.iastore, 1) := by decide +kernel
theorem dX4_add_53 : decode cX4_add 53 = .ok (.aload_n 0, 1) := by decide +kernel
theorem dX4_add_54 : decode cX4_add 54 = .ok (.dup, 1) := by decide +kernel
theorem dX4_add_55 : decode cX4_add 55 = .ok (.getfield 15, 3) := by decide +kernel
theorem dX4_add_58 : decode cX4_add 58 = .ok (.iconst 1, 1) := by decide +kernel
theorem dX4_add_59 : decode cX4_add 59 = .ok (.iadd, 1) := by decide +kernel
theorem dX4_add_60 : decode cX4_add 60 = .ok (.putfield 15, 3) := by decide +kernel
theorem dX4_add_63 : decode cX4_add 63 = .ok (.aload_n 0, 1) := by decide +kernel
theorem dX4_add_64 : decode cX4_add 64 = .ok (.getfield 15, 3) := by decide +kernel
theorem dX4_add_67 : decode cX4_add 67 = .ok (.ireturn, 1) := by decide +kernel
theorem dX4_empty_0 : decode cX4_empty 0 = .ok (.aload_n 0, 1) := by decide +kernel
theorem dX4_empty_1 : decode cX4_empty 1 = .ok (.getfield 15, 3) := by decide +kernel
theorem dX4_empty_4 : decode cX4_empty 4 = .ok (.istore_n 1, 1) := by decide +kernel
theorem dX4_empty_5 : decode cX4_empty 5 = .ok (.aload_n 0, 1) := by decide +kernel
theorem dX4_empty_6 : decode cX4_empty 6 = .ok (.iconst 0, 1) := by decide +kernel
theorem dX4_empty_7 : decode cX4_empty 7 = .ok (.putfield 15, 3) := by decide +kernel
theorem dX4_empty_10 : decode cX4_empty 10 = .ok (.iload_n 1, 1) := by decide +kernel
theorem dX4_empty_11 : decode cX4_empty 11 = .ok (.ireturn, 1) := by decide +kernel
set_option maxRecDepth 20000 in
theorem ggX4_foundStroke_X5_within : GoodIn wsX4_foundStroke wsX5_within := goodIn_r _ [5] (by decide +kernel) (by decide +kernel)
set_option maxRecDepth 20000 in
theorem gX4_foundStroke_X5_within_n32 : GoodIn wsX4_foundStroke (wsX5_within) := ggX4_foundStroke_X5_within
theorem dX4_foundStroke_0 : decode cX4_foundStroke 0 = .ok (.iload_n 1, 1) := by decide +kernel
theorem dX4_foundStroke_1 : decode cX4_foundStroke 1 = .ok (.iconst 0, 1) := by decide +kernel
theorem dX4_foundStroke_2 : decode cX4_foundStroke 2 = .ok (.aload_n 0, 1) := by decide +kernel
theorem dX4_foundStroke_3 : decode cX4_foundStroke 3 = .ok (.getfield 28, 3) := by decide +kernel
theorem dX4_foundStroke_6 : decode cX4_foundStroke 6 = .ok (.iconst 1, 1) := by decide +kernel
theorem dX4_foundStroke_7 : decode cX4_foundStroke 7 = .ok (.isub, 1) := by decide +kernel
theorem dX4_foundStroke_8 : decode cX4_foundStroke 8 = .ok (.invokestatic 32, 3) := by decide +kernel
theorem dX4_foundStroke_11 : decode cX4_foundStroke 11 = .ok (.ifCond .eq 12, 3) := by decide +kernel
theorem dX4_foundStroke_14 : decode cX4_foundStroke 14 = .ok (.aload_n 0, 1) := by decide +kernel
theorem dX4_foundStroke_15 : decode cX4_foundStroke 15 = .ok (.getfield 25, 3) := by decide +kernel
theorem dX4_foundStroke_18 : decode cX4_foundStroke 18 = .ok (.iload_n 1, 1) := by decide +kernel
theorem dX4_foundStroke_19 : decode cX4_foundStroke 19 = .ok (.iaload, 1) := by decide +kernel
theorem dX4_foundStroke_20 : decode cX4_foundStroke 20 = .ok (.goto 4, 3) := by decide +kernel
theorem dX4_foundStroke_23 : decode cX4_foundStroke 23 = .ok (.iconst (-1), 1) := by decide +kernel
theorem dX4_foundStroke_24 : decode cX4_foundStroke 24 = .ok (.ireturn, 1) := by decide +kernel
set_option maxRecDepth 20000 in
theorem ggX4_seekBeats_X4_chooseNext : GoodIn wsX4_seekBeats wsX4_chooseNext := goodIn_r _ [7, 2, 8, 9, 1, 10, 11, 12, 6, 13, 14, 15, 16, 17, 18, 19, 20, 27, 28, 29, 30, 31, 32] (by decide +kernel) (by decide +kernel)
set_option maxRecDepth 20000 in
theorem gX4_seekBeats_X4_chooseNext : GoodIn wsX4_seekBeats (wsV RX4 36 RX4 yX4_chooseNext wsX4_chooseNext) := goodIn_app (goodIn_of _ (by decide +kernel)) ggX4_seekBeats_X4_chooseNext
set_option maxRecDepth 20000 in
theorem ggX4_seekBeats_X4_keepBeats : GoodIn wsX4_seekBeats wsX4_keepBeats := goodIn_r _ [24, 25, 1, 26, 9, 27, 28, 29, 30, 31, 32] (by decide +kernel) (by decide +kernel)
set_option maxRecDepth 20000 in
theorem gX4_seekBeats_X4_keepBeats : GoodIn wsX4_seekBeats (wsV RX4 40 RX4 yX4_keepBeats wsX4_keepBeats) := goodIn_app (goodIn_of _ (by decide +kernel)) ggX4_seekBeats_X4_keepBeats
theorem dX4_seekBeats_0 : decode cX4_seekBeats 0 = .ok (.aload_n 0, 1) := by decide +kernel
theorem dX4_seekBeats_1 : decode cX4_seekBeats 1 = .ok (.getfield 15, 3) := by decide +kernel
theorem dX4_seekBeats_4 : decode cX4_seekBeats 4 = .ok (.ifCond .ne 5, 3) := by decide +kernel
theorem dX4_seekBeats_7 : decode cX4_seekBeats 7 = .ok (.iconst (-1), 1) := by decide +kernel
theorem dX4_seekBeats_8 : decode cX4_seekBeats 8 = .ok (.ireturn, 1) := by decide +kernel
theorem dX4_seekBeats_9 : decode cX4_seekBeats 9 = .ok (.aload_n 0, 1) := by decide +kernel
theorem dX4_seekBeats_10 : decode cX4_seekBeats 10 = .ok (.getfield 15, 3) := by decide +kernel
theorem dX4_seekBeats_13 : decode cX4_seekBeats 13 = .ok (.iconst 1, 1) := by decide +kernel
theorem dX4_seekBeats_14 : decode cX4_seekBeats 14 = .ok (.isub, 1) := by decide +kernel
theorem dX4_seekBeats_15 : decode cX4_seekBeats 15 = .ok (.istore 4, 2) := by decide +kernel
theorem dX4_seekBeats_17 : decode cX4_seekBeats 17 = .ok (.iload 4, 2) := by decide +kernel
theorem dX4_seekBeats_19 : decode cX4_seekBeats 19 = .ok (.ifCond .lt 18, 3) := by decide +kernel
theorem dX4_seekBeats_22 : decode cX4_seekBeats 22 = .ok (.aload_n 0, 1) := by decide +kernel
theorem dX4_seekBeats_23 : decode cX4_seekBeats 23 = .ok (.iload 4, 2) := by decide +kernel
theorem dX4_seekBeats_25 : decode cX4_seekBeats 25 = .ok (.iload_n 1, 1) := by decide +kernel
theorem dX4_seekBeats_26 : decode cX4_seekBeats 26 = .ok (.iload_n 2, 1) := by decide +kernel
theorem dX4_seekBeats_27 : decode cX4_seekBeats 27 = .ok (.iload_n 3, 1) := by decide +kernel
theorem dX4_seekBeats_28 : decode cX4_seekBeats 28 = .ok (.invokevirtual 36, 3) := by decide +kernel
theorem dX4_seekBeats_31 : decode cX4_seekBeats 31 = .ok (.iinc 4 (-1), 3) := by decide +kernel
theorem dX4_seekBeats_34 : decode cX4_seekBeats 34 = .ok (.goto (-17), 3) := by decide +kernel
theorem dX4_seekBeats_37 : decode cX4_seekBeats 37 = .ok (.iconst 0, 1) := by decide +kernel
theorem dX4_seekBeats_38 : decode cX4_seekBeats 38 = .ok (.istore 4, 2) := by decide +kernel
theorem dX4_seekBeats_40 : decode cX4_seekBeats 40 = .ok (.iconst 1, 1) := by decide +kernel
theorem dX4_seekBeats_41 : decode cX4_seekBeats 41 = .ok (.istore 5, 2) := by decide +kernel
theorem dX4_seekBeats_43 : decode cX4_seekBeats 43 = .ok (.iload 5, 2) := by decide +kernel
theorem dX4_seekBeats_45 : decode cX4_seekBeats 45 = .ok (.aload_n 0, 1) := by decide +kernel
theorem dX4_seekBeats_46 : decode cX4_seekBeats 46 = .ok (.getfield 15, 3) := by decide +kernel
theorem dX4_seekBeats_49 : decode cX4_seekBeats 49 = .ok (.if_icmp .ge 40, 3) := by decide +kernel
theorem dX4_seekBeats_52 : decode cX4_seekBeats 52 = .ok (.iload 5, 2) := by decide +kernel
theorem dX4_seekBeats_54 : decode cX4_seekBeats 54 = .ok (.iload_n 3, 1) := by decide +kernel
theorem dX4_seekBeats_55 : decode cX4_seekBeats 55 = .ok (.imul, 1) := by decide +kernel
theorem dX4_seekBeats_56 : decode cX4_seekBeats 56 = .ok (.aload_n 0, 1) := by decide +kernel
theorem dX4_seekBeats_57 : decode cX4_seekBeats 57 = .ok (.getfield 19, 3) := by decide +kernel
theorem dX4_seekBeats_60 : decode cX4_seekBeats 60 = .ok (.iload 5, 2) := by decide +kernel
theorem dX4_seekBeats_62 : decode cX4_seekBeats 62 = .ok (.iaload, 1) := by decide +kernel
theorem dX4_seekBeats_63 : decode cX4_seekBeats 63 = .ok (.iadd, 1) := by decide +kernel
theorem dX4_seekBeats_64 : decode cX4_seekBeats 64 = .ok (.iload 4, 2) := by decide +kernel
theorem dX4_seekBeats_66 : decode cX4_seekBeats 66 = .ok (.iload_n 3, 1) := by decide +kernel
theorem dX4_seekBeats_67 : decode cX4_seekBeats 67 = .ok (.imul, 1) := by decide +kernel
theorem dX4_seekBeats_68 : decode cX4_seekBeats 68 = .ok (.aload_n 0, 1) := by decide +kernel
theorem dX4_seekBeats_69 : decode cX4_seekBeats 69 = .ok (.getfield 19, 3) := by decide +kernel
theorem dX4_seekBeats_72 : decode cX4_seekBeats 72 = .ok (.iload 4, 2) := by decide +kernel
theorem dX4_seekBeats_74 : decode cX4_seekBeats 74 = .ok (.iaload, 1) := by decide +kernel
theorem dX4_seekBeats_75 : decode cX4_seekBeats 75 = .ok (.iadd, 1) := by decide +kernel
theorem dX4_seekBeats_76 : decode cX4_seekBeats 76 = .ok (.if_icmp .ge 7, 3) := by decide +kernel
theorem dX4_seekBeats_79 : decode cX4_seekBeats 79 = .ok (.iload 5, 2) := by decide +kernel
theorem dX4_seekBeats_81 : decode cX4_seekBeats 81 = .ok (.istore 4, 2) := by decide +kernel
theorem dX4_seekBeats_83 : decode cX4_seekBeats 83 = .ok (.iinc 5 1, 3) := by decide +kernel
theorem dX4_seekBeats_86 : decode cX4_seekBeats 86 = .ok (.goto (-43), 3) := by decide +kernel
theorem dX4_seekBeats_89 : decode cX4_seekBeats 89 = .ok (.aload_n 0, 1) := by decide +kernel
theorem dX4_seekBeats_90 : decode cX4_seekBeats 90 = .ok (.iload 4, 2) := by decide +kernel
theorem dX4_seekBeats_92 : decode cX4_seekBeats 92 = .ok (.invokevirtual 40, 3) := by decide +kernel
theorem dX4_seekBeats_95 : decode cX4_seekBeats 95 = .ok (.iload 4, 2) := by decide +kernel
theorem dX4_seekBeats_97 : decode cX4_seekBeats 97 = .ok (.iload_n 3, 1) := by decide +kernel
theorem dX4_seekBeats_98 : decode cX4_seekBeats 98 = .ok (.imul, 1) := by decide +kernel
theorem dX4_seekBeats_99 : decode cX4_seekBeats 99 = .ok (.aload_n 0, 1) := by decide +kernel
theorem dX4_seekBeats_100 : decode cX4_seekBeats 100 = .ok (.getfield 19, 3) := by decide +kernel
theorem dX4_seekBeats_103 : decode cX4_seekBeats 103 = .ok (.iload 4, 2) := by decide +kernel
theorem dX4_seekBeats_105 : decode cX4_seekBeats 105 = .ok (.iaload, 1) := by decide +kernel
theorem dX4_seekBeats_106 : decode cX4_seekBeats 106 = .ok (.iadd, 1) := by decide +kernel
theorem dX4_seekBeats_107 : decode cX4_seekBeats 107 = .ok (.ireturn, 1) := by decide +kernel
set_option maxRecDepth 20000 in
theorem ggX4_chooseNext_X4_gapCost : GoodIn wsX4_chooseNext wsX4_gapCost := goodIn_r _ [9, 10, 11, 12, 13, 14, 15, 16] (by decide +kernel) (by decide +kernel)
set_option maxRecDepth 20000 in
theorem gX4_chooseNext_X4_gapCost : GoodIn wsX4_chooseNext (va_wsS RX4 45 yX4_gapCost wsX4_gapCost) := goodIn_app (goodIn_of _ (by decide +kernel)) ggX4_chooseNext_X4_gapCost
theorem dX4_chooseNext_0 : decode cX4_chooseNext 0 = .ok (.aload_n 0, 1) := by decide +kernel
theorem dX4_chooseNext_1 : decode cX4_chooseNext 1 = .ok (.getfield 19, 3) := by decide +kernel
theorem dX4_chooseNext_4 : decode cX4_chooseNext 4 = .ok (.iload_n 1, 1) := by decide +kernel
theorem dX4_chooseNext_5 : decode cX4_chooseNext 5 = .ok (.ldc 44, 2) := by decide +kernel
theorem dX4_chooseNext_7 : decode cX4_chooseNext 7 = .ok (.iastore, 1) := by decide +kernel
theorem dX4_chooseNext_8 : decode cX4_chooseNext 8 = .ok (.aload_n 0, 1) := by decide +kernel
theorem dX4_chooseNext_9 : decode cX4_chooseNext 9 = .ok (.getfield 22, 3) := by decide +kernel
theorem dX4_chooseNext_12 : decode cX4_chooseNext 12 = .ok (.iload_n 1, 1) := by decide +kernel
theorem dX4_chooseNext_13 : decode cX4_chooseNext 13 = .ok (.aload_n 0, 1) := by decide +kernel
theorem dX4_chooseNext_14 : decode cX4_chooseNext 14 = .ok (.getfield 15, 3) := by decide +kernel
theorem dX4_chooseNext_17 : decode cX4_chooseNext 17 = .ok (.iastore, 1) := by decide +kernel
theorem dX4_chooseNext_18 : decode cX4_chooseNext 18 = .ok (.iload_n 1, 1) := by decide +kernel
theorem dX4_chooseNext_19 : decode cX4_chooseNext 19 = .ok (.iconst 1, 1) := by decide +kernel
theorem dX4_chooseNext_20 : decode cX4_chooseNext 20 = .ok (.iadd, 1) := by decide +kernel
theorem dX4_chooseNext_21 : decode cX4_chooseNext 21 = .ok (.istore 5, 2) := by decide +kernel
theorem dX4_chooseNext_23 : decode cX4_chooseNext 23 = .ok (.iload 5, 2) := by decide +kernel
theorem dX4_chooseNext_25 : decode cX4_chooseNext 25 = .ok (.aload_n 0, 1) := by decide +kernel
theorem dX4_chooseNext_26 : decode cX4_chooseNext 26 = .ok (.getfield 15, 3) := by decide +kernel
theorem dX4_chooseNext_29 : decode cX4_chooseNext 29 = .ok (.if_icmp .ge 75, 3) := by decide +kernel
theorem dX4_chooseNext_32 : decode cX4_chooseNext 32 = .ok (.iload 5, 2) := by decide +kernel
theorem dX4_chooseNext_34 : decode cX4_chooseNext 34 = .ok (.iload_n 1, 1) := by decide +kernel
theorem dX4_chooseNext_35 : decode cX4_chooseNext 35 = .ok (.isub, 1) := by decide +kernel
theorem dX4_chooseNext_36 : decode cX4_chooseNext 36 = .ok (.iconst 1, 1) := by decide +kernel
theorem dX4_chooseNext_37 : decode cX4_chooseNext 37 = .ok (.isub, 1) := by decide +kernel
theorem dX4_chooseNext_38 : decode cX4_chooseNext 38 = .ok (.iload 4, 2) := by decide +kernel
theorem dX4_chooseNext_40 : decode cX4_chooseNext 40 = .ok (.imul, 1) := by decide +kernel
theorem dX4_chooseNext_41 : decode cX4_chooseNext 41 = .ok (.aload_n 0, 1) := by decide +kernel
theorem dX4_chooseNext_42 : decode cX4_chooseNext 42 = .ok (.getfield 11, 3) := by decide +kernel
theorem dX4_chooseNext_45 : decode cX4_chooseNext 45 = .ok (.iload 5, 2) := by decide +kernel
theorem dX4_chooseNext_47 : decode cX4_chooseNext 47 = .ok (.iaload, 1) := by decide +kernel
theorem dX4_chooseNext_48 : decode cX4_chooseNext 48 = .ok (.aload_n 0, 1) := by decide +kernel
theorem dX4_chooseNext_49 : decode cX4_chooseNext 49 = .ok (.getfield 11, 3) := by decide +kernel
theorem dX4_chooseNext_52 : decode cX4_chooseNext 52 = .ok (.iload_n 1, 1) := by decide +kernel
theorem dX4_chooseNext_53 : decode cX4_chooseNext 53 = .ok (.iaload, 1) := by decide +kernel
theorem dX4_chooseNext_54 : decode cX4_chooseNext 54 = .ok (.isub, 1) := by decide +kernel
theorem dX4_chooseNext_55 : decode cX4_chooseNext 55 = .ok (.iload_n 2, 1) := by decide +kernel
theorem dX4_chooseNext_56 : decode cX4_chooseNext 56 = .ok (.iload_n 3, 1) := by decide +kernel
theorem dX4_chooseNext_57 : decode cX4_chooseNext 57 = .ok (.invokestatic 45, 3) := by decide +kernel
theorem dX4_chooseNext_60 : decode cX4_chooseNext 60 = .ok (.iadd, 1) := by decide +kernel
theorem dX4_chooseNext_61 : decode cX4_chooseNext 61 = .ok (.aload_n 0, 1) := by decide +kernel
theorem dX4_chooseNext_62 : decode cX4_chooseNext 62 = .ok (.getfield 19, 3) := by decide +kernel
theorem dX4_chooseNext_65 : decode cX4_chooseNext 65 = .ok (.iload 5, 2) := by decide +kernel
theorem dX4_chooseNext_67 : decode cX4_chooseNext 67 = .ok (.iaload, 1) := by decide +kernel
theorem dX4_chooseNext_68 : decode cX4_chooseNext 68 = .ok (.iadd, 1) := by decide +kernel
theorem dX4_chooseNext_69 : decode cX4_chooseNext 69 = .ok (.istore 6, 2) := by decide +kernel
theorem dX4_chooseNext_71 : decode cX4_chooseNext 71 = .ok (.iload 6, 2) := by decide +kernel
theorem dX4_chooseNext_73 : decode cX4_chooseNext 73 = .ok (.aload_n 0, 1) := by decide +kernel
theorem dX4_chooseNext_74 : decode cX4_chooseNext 74 = .ok (.getfield 19, 3) := by decide +kernel
theorem dX4_chooseNext_77 : decode cX4_chooseNext 77 = .ok (.iload_n 1, 1) := by decide +kernel
theorem dX4_chooseNext_78 : decode cX4_chooseNext 78 = .ok (.iaload, 1) := by decide +kernel
theorem dX4_chooseNext_79 : decode cX4_chooseNext 79 = .ok (.if_icmp .ge 19, 3) := by decide +kernel
theorem dX4_chooseNext_82 : decode cX4_chooseNext 82 = .ok (.aload_n 0, 1) := by decide +kernel
theorem dX4_chooseNext_83 : decode cX4_chooseNext 83 = .ok (.getfield 19, 3) := by decide +kernel
theorem dX4_chooseNext_86 : decode cX4_chooseNext 86 = .ok (.iload_n 1, 1) := by decide +kernel
theorem dX4_chooseNext_87 : decode cX4_chooseNext 87 = .ok (.iload 6, 2) := by decide +kernel
theorem dX4_chooseNext_89 : decode cX4_chooseNext 89 = .ok (.iastore, 1) := by decide +kernel
theorem dX4_chooseNext_90 : decode cX4_chooseNext 90 = .ok (.aload_n 0, 1) := by decide +kernel
theorem dX4_chooseNext_91 : decode cX4_chooseNext 91 = .ok (.getfield 22, 3) := by decide +kernel
theorem dX4_chooseNext_94 : decode cX4_chooseNext 94 = .ok (.iload_n 1, 1) := by decide +kernel
theorem dX4_chooseNext_95 : decode cX4_chooseNext 95 = .ok (.iload 5, 2) := by decide +kernel
theorem dX4_chooseNext_97 : decode cX4_chooseNext 97 = .ok (.iastore, 1) := by decide +kernel
theorem dX4_chooseNext_98 : decode cX4_chooseNext 98 = .ok (.iinc 5 1, 3) := by decide +kernel
theorem dX4_chooseNext_101 : decode cX4_chooseNext 101 = .ok (.goto (-78), 3) := by decide +kernel
theorem dX4_chooseNext_104 : decode cX4_chooseNext 104 = .ok (.aload_n 0, 1) := by decide +kernel
theorem dX4_chooseNext_105 : decode cX4_chooseNext 105 = .ok (.getfield 15, 3) := by decide +kernel
theorem dX4_chooseNext_108 : decode cX4_chooseNext 108 = .ok (.iconst 1, 1) := by decide +kernel
theorem dX4_chooseNext_109 : decode cX4_chooseNext 109 = .ok (.isub, 1) := by decide +kernel
theorem dX4_chooseNext_110 : decode cX4_chooseNext 110 = .ok (.iload_n 1, 1) := by decide +kernel
theorem dX4_chooseNext_111 : decode cX4_chooseNext 111 = .ok (.isub, 1) := by decide +kernel
theorem dX4_chooseNext_112 : decode cX4_chooseNext 112 = .ok (.iload 4, 2) := by decide +kernel
theorem dX4_chooseNext_114 : decode cX4_chooseNext 114 = .ok (.imul, 1) := by decide +kernel
theorem dX4_chooseNext_115 : decode cX4_chooseNext 115 = .ok (.istore 5, 2) := by decide +kernel
theorem dX4_chooseNext_117 : decode cX4_chooseNext 117 = .ok (.iload 5, 2) := by decide +kernel
theorem dX4_chooseNext_119 : decode cX4_chooseNext 119 = .ok (.aload_n 0, 1) := by decide +kernel
theorem dX4_chooseNext_120 : decode cX4_chooseNext 120 = .ok (.getfield 19, 3) := by decide +kernel
theorem dX4_chooseNext_123 : decode cX4_chooseNext 123 = .ok (.iload_n 1, 1) := by decide +kernel
theorem dX4_chooseNext_124 : decode cX4_chooseNext 124 = .ok (.iaload, 1) := by decide +kernel
theorem dX4_chooseNext_125 : decode cX4_chooseNext 125 = .ok (.if_icmp .ge 21, 3) := by decide +kernel
theorem dX4_chooseNext_128 : decode cX4_chooseNext 128 = .ok (.aload_n 0, 1) := by decide +kernel
theorem dX4_chooseNext_129 : decode cX4_chooseNext 129 = .ok (.getfield 19, 3) := by decide +kernel
theorem dX4_chooseNext_132 : decode cX4_chooseNext 132 = .ok (.iload_n 1, 1) := by decide +kernel
theorem dX4_chooseNext_133 : decode cX4_chooseNext 133 = .ok (.iload 5, 2) := by decide +kernel
theorem dX4_chooseNext_135 : decode cX4_chooseNext 135 = .ok (.iastore, 1) := by decide +kernel
theorem dX4_chooseNext_136 : decode cX4_chooseNext 136 = .ok (.aload_n 0, 1) := by decide +kernel
theorem dX4_chooseNext_137 : decode cX4_chooseNext 137 = .ok (.getfield 22, 3) := by decide +kernel
theorem dX4_chooseNext_140 : decode cX4_chooseNext 140 = .ok (.iload_n 1, 1) := by decide +kernel
theorem dX4_chooseNext_141 : decode cX4_chooseNext 141 = .ok (.aload_n 0, 1) := by decide +kernel
theorem dX4_chooseNext_142 : decode cX4_chooseNext 142 = .ok (.getfield 15, 3) := by decide +kernel
theorem dX4_chooseNext_145 : decode cX4_chooseNext 145 = .ok (.iastore, 1) := by decide +kernel
theorem dX4_chooseNext_146 : decode cX4_chooseNext 146 = .ok (.return_, 1) := by decide +kernel
theorem dX4_gapCost_0 : decode cX4_gapCost 0 = .ok (.iconst 1, 1) := by decide +kernel
theorem dX4_gapCost_1 : decode cX4_gapCost 1 = .ok (.iconst 2, 1) := by decide +kernel
theorem dX4_gapCost_2 : decode cX4_gapCost 2 = .ok (.iload_n 0, 1) := by decide +kernel
theorem dX4_gapCost_3 : decode cX4_gapCost 3 = .ok (.imul, 1) := by decide +kernel
theorem dX4_gapCost_4 : decode cX4_gapCost 4 = .ok (.iload_n 1, 1) := by decide +kernel
theorem dX4_gapCost_5 : decode cX4_gapCost 5 = .ok (.iadd, 1) := by decide +kernel
theorem dX4_gapCost_6 : decode cX4_gapCost 6 = .ok (.iconst 1, 1) := by decide +kernel
theorem dX4_gapCost_7 : decode cX4_gapCost 7 = .ok (.isub, 1) := by decide +kernel
theorem dX4_gapCost_8 : decode cX4_gapCost 8 = .ok (.iconst 2, 1) := by decide +kernel
theorem dX4_gapCost_9 : decode cX4_gapCost 9 = .ok (.iload_n 1, 1) := by decide +kernel
theorem dX4_gapCost_10 : decode cX4_gapCost 10 = .ok (.imul, 1) := by decide +kernel
theorem dX4_gapCost_11 : decode cX4_gapCost 11 = .ok (.idiv, 1) := by decide +kernel
theorem dX4_gapCost_12 : decode cX4_gapCost 12 = .ok (.invokestatic 49, 3) := by decide +kernel
theorem dX4_gapCost_15 : decode cX4_gapCost 15 = .ok (.istore_n 3, 1) := by decide +kernel
theorem dX4_gapCost_16 : decode cX4_gapCost 16 = .ok (.iload_n 0, 1) := by decide +kernel
theorem dX4_gapCost_17 : decode cX4_gapCost 17 = .ok (.iload_n 3, 1) := by decide +kernel
theorem dX4_gapCost_18 : decode cX4_gapCost 18 = .ok (.iload_n 1, 1) := by decide +kernel
theorem dX4_gapCost_19 : decode cX4_gapCost 19 = .ok (.imul, 1) := by decide +kernel
theorem dX4_gapCost_20 : decode cX4_gapCost 20 = .ok (.isub, 1) := by decide +kernel
theorem dX4_gapCost_21 : decode cX4_gapCost 21 = .ok (.invokestatic 55, 3) := by decide +kernel
theorem dX4_gapCost_24 : decode cX4_gapCost 24 = .ok (.iload_n 3, 1) := by decide +kernel
theorem dX4_gapCost_25 : decode cX4_gapCost 25 = .ok (.iconst 1, 1) := by decide +kernel
theorem dX4_gapCost_26 : decode cX4_gapCost 26 = .ok (.isub, 1) := by decide +kernel
theorem dX4_gapCost_27 : decode cX4_gapCost 27 = .ok (.iload_n 2, 1) := by decide +kernel
theorem dX4_gapCost_28 : decode cX4_gapCost 28 = .ok (.imul, 1) := by decide +kernel
theorem dX4_gapCost_29 : decode cX4_gapCost 29 = .ok (.iadd, 1) := by decide +kernel
theorem dX4_gapCost_30 : decode cX4_gapCost 30 = .ok (.ireturn, 1) := by decide +kernel
theorem dX4_keepBeats_0 : decode cX4_keepBeats 0 = .ok (.aload_n 0, 1) := by decide +kernel
theorem dX4_keepBeats_1 : decode cX4_keepBeats 1 = .ok (.iconst 0, 1) := by decide +kernel
theorem dX4_keepBeats_2 : decode cX4_keepBeats 2 = .ok (.putfield 28, 3) := by decide +kernel
theorem dX4_keepBeats_5 : decode cX4_keepBeats 5 = .ok (.iload_n 1, 1) := by decide +kernel
theorem dX4_keepBeats_6 : decode cX4_keepBeats 6 = .ok (.istore_n 2, 1) := by decide +kernel
theorem dX4_keepBeats_7 : decode cX4_keepBeats 7 = .ok (.iload_n 1, 1) := by decide +kernel
theorem dX4_keepBeats_8 : decode cX4_keepBeats 8 = .ok (.istore_n 3, 1) := by decide +kernel
theorem dX4_keepBeats_9 : decode cX4_keepBeats 9 = .ok (.iload_n 3, 1) := by decide +kernel
theorem dX4_keepBeats_10 : decode cX4_keepBeats 10 = .ok (.aload_n 0, 1) := by decide +kernel
theorem dX4_keepBeats_11 : decode cX4_keepBeats 11 = .ok (.getfield 15, 3) := by decide +kernel
theorem dX4_keepBeats_14 : decode cX4_keepBeats 14 = .ok (.if_icmp .ge 41, 3) := by decide +kernel
theorem dX4_keepBeats_17 : decode cX4_keepBeats 17 = .ok (.iload_n 3, 1) := by decide +kernel
theorem dX4_keepBeats_18 : decode cX4_keepBeats 18 = .ok (.iload_n 2, 1) := by decide +kernel
theorem dX4_keepBeats_19 : decode cX4_keepBeats 19 = .ok (.if_icmp .ne 30, 3) := by decide +kernel
theorem dX4_keepBeats_22 : decode cX4_keepBeats 22 = .ok (.aload_n 0, 1) := by decide +kernel
theorem dX4_keepBeats_23 : decode cX4_keepBeats 23 = .ok (.getfield 25, 3) := by decide +kernel
theorem dX4_keepBeats_26 : decode cX4_keepBeats 26 = .ok (.aload_n 0, 1) := by decide +kernel
theorem dX4_keepBeats_27 : decode cX4_keepBeats 27 = .ok (.getfield 28, 3) := by decide +kernel
theorem dX4_keepBeats_30 : decode cX4_keepBeats 30 = .ok (.iload_n 3, 1) := by decide +kernel
theorem dX4_keepBeats_31 : decode cX4_keepBeats 31 = .ok (.iastore, 1) := by decide +kernel
theorem dX4_keepBeats_32 : decode cX4_keepBeats 32 = .ok (.aload_n 0, 1) := by decide +kernel
theorem dX4_keepBeats_33 : decode cX4_keepBeats 33 = .ok (.dup, 1) := by decide +kernel
theorem dX4_keepBeats_34 : decode cX4_keepBeats 34 = .ok (.getfield 28, 3) := by decide +kernel
theorem dX4_keepBeats_37 : decode cX4_keepBeats 37 = .ok (.iconst 1, 1) := by decide +kernel
theorem dX4_keepBeats_38 : decode cX4_keepBeats 38 = .ok (.iadd, 1) := by decide +kernel
theorem dX4_keepBeats_39 : decode cX4_keepBeats 39 = .ok (.putfield 28, 3) := by decide +kernel
theorem dX4_keepBeats_42 : decode cX4_keepBeats 42 = .ok (.aload_n 0, 1) := by decide +kernel
theorem dX4_keepBeats_43 : decode cX4_keepBeats 43 = .ok (.getfield 22, 3) := by decide +kernel
theorem dX4_keepBeats_46 : decode cX4_keepBeats 46 = .ok (.iload_n 3, 1) := by decide +kernel
theorem dX4_keepBeats_47 : decode cX4_keepBeats 47 = .ok (.iaload, 1) := by decide +kernel
theorem dX4_keepBeats_48 : decode cX4_keepBeats 48 = .ok (.istore_n 2, 1) := by decide +kernel
theorem dX4_keepBeats_49 : decode cX4_keepBeats 49 = .ok (.iinc 3 1, 3) := by decide +kernel
theorem dX4_keepBeats_52 : decode cX4_keepBeats 52 = .ok (.goto (-43), 3) := by decide +kernel
theorem dX4_keepBeats_55 : decode cX4_keepBeats 55 = .ok (.return_, 1) := by decide +kernel
set_option maxRecDepth 20000 in
theorem ggX5_init_X4_init : GoodIn wsX5_init wsX4_init := goodIn_r _ [25, 26, 2, 3, 6, 27, 28, 29, 30, 31, 32, 76, 77, 78, 79, 80, 81] (by decide +kernel) (by decide +kernel)
set_option maxRecDepth 20000 in
theorem gX5_init_X4_init_n21 : GoodIn wsX5_init (wsX4_init) := ggX5_init_X4_init
set_option maxRecDepth 20000 in
theorem ggX5_init_X0_init : GoodIn wsX5_init wsX0_init := goodIn_r _ [35, 36, 2, 3, 37, 38, 39, 6, 40, 41, 42, 43, 44, 45, 46, 47, 48, 82, 83, 84, 85, 86, 87, 88, 89] (by decide +kernel) (by decide +kernel)
set_option maxRecDepth 20000 in
theorem gX5_init_X0_init : GoodIn wsX5_init (wsX0_init) := ggX5_init_X0_init
set_option maxRecDepth 20000 in
theorem ggX5_init_X1_init : GoodIn wsX5_init wsX1_init := goodIn_r _ [50, 51, 2, 3, 52, 6, 53, 54, 55, 90, 91, 92, 93] (by decide +kernel) (by decide +kernel)
set_option maxRecDepth 20000 in
theorem gX5_init_X1_init_n35 : GoodIn wsX5_init (wsX1_init) := ggX5_init_X1_init
set_option maxRecDepth 20000 in
theorem ggX5_init_X2_init : GoodIn wsX5_init wsX2_init := goodIn_r _ [57, 58, 2, 3, 59, 60, 61, 6, 62, 63, 64, 65, 66, 67, 68, 69, 94, 95, 96, 97, 98, 99, 100, 101] (by decide +kernel) (by decide +kernel)
set_option maxRecDepth 20000 in
theorem gX5_init_X2_init_n42 : GoodIn wsX5_init (wsX2_init) := ggX5_init_X2_init
theorem dX5_init_0 : decode cX5_init 0 = .ok (.aload_n 0, 1) := by decide +kernel
theorem dX5_init_1 : decode cX5_init 1 = .ok (.invokespecial 1, 3) := by decide +kernel
theorem dX5_init_4 : decode cX5_init 4 = .ok (.aload_n 0, 1) := by decide +kernel
theorem dX5_init_5 : decode cX5_init 5 = .ok (.bipush 12, 2) := by decide +kernel
theorem dX5_init_7 : decode cX5_init 7 = .ok (.anewarray 9, 3) := by decide +kernel
theorem dX5_init_10 : decode cX5_init 10 = .ok (.putfield 11, 3) := by decide +kernel
theorem dX5_init_13 : decode cX5_init 13 = .ok (.aload_n 0, 1) := by decide +kernel
theorem dX5_init_14 : decode cX5_init 14 = .ok (.sipush 144, 3) := by decide +kernel
theorem dX5_init_17 : decode cX5_init 17 = .ok (.newarray .int, 2) := by decide +kernel
theorem dX5_init_19 : decode cX5_init 19 = .ok (.putfield 15, 3) := by decide +kernel
theorem dX5_init_22 : decode cX5_init 22 = .ok (.aload_n 0, 1) := by decide +kernel
theorem dX5_init_23 : decode cX5_init 23 = .ok (.new 19, 3) := by decide +kernel
theorem dX5_init_26 : decode cX5_init 26 = .ok (.dup, 1) := by decide +kernel
theorem dX5_init_27 : decode cX5_init 27 = .ok (.invokespecial 21, 3) := by decide +kernel
theorem dX5_init_30 : decode cX5_init 30 = .ok (.putfield 22, 3) := by decide +kernel
theorem dX5_init_33 : decode cX5_init 33 = .ok (.aload_n 0, 1) := by decide +kernel
theorem dX5_init_34 : decode cX5_init 34 = .ok (.new 26, 3) := by decide +kernel
theorem dX5_init_37 : decode cX5_init 37 = .ok (.dup, 1) := by decide +kernel
theorem dX5_init_38 : decode cX5_init 38 = .ok (.invokespecial 28, 3) := by decide +kernel
theorem dX5_init_41 : decode cX5_init 41 = .ok (.putfield 29, 3) := by decide +kernel
theorem dX5_init_44 : decode cX5_init 44 = .ok (.aload_n 0, 1) := by decide +kernel
theorem dX5_init_45 : decode cX5_init 45 = .ok (.new 33, 3) := by decide +kernel
theorem dX5_init_48 : decode cX5_init 48 = .ok (.dup, 1) := by decide +kernel
theorem dX5_init_49 : decode cX5_init 49 = .ok (.invokespecial 35, 3) := by decide +kernel
theorem dX5_init_52 : decode cX5_init 52 = .ok (.putfield 36, 3) := by decide +kernel
theorem dX5_init_55 : decode cX5_init 55 = .ok (.aload_n 0, 1) := by decide +kernel
theorem dX5_init_56 : decode cX5_init 56 = .ok (.new 40, 3) := by decide +kernel
theorem dX5_init_59 : decode cX5_init 59 = .ok (.dup, 1) := by decide +kernel
theorem dX5_init_60 : decode cX5_init 60 = .ok (.invokespecial 42, 3) := by decide +kernel
theorem dX5_init_63 : decode cX5_init 63 = .ok (.putfield 43, 3) := by decide +kernel
theorem dX5_init_66 : decode cX5_init 66 = .ok (.return_, 1) := by decide +kernel
set_option maxRecDepth 20000 in
theorem ggX5_song_X5_within : GoodIn wsX5_song wsX5_within := goodIn_r _ [8] (by decide +kernel) (by decide +kernel)
set_option maxRecDepth 20000 in
theorem gX5_song_X5_within : GoodIn wsX5_song (va_wsS RX5 47 yX5_within wsX5_within) := goodIn_app (goodIn_of _ (by decide +kernel)) ggX5_song_X5_within
