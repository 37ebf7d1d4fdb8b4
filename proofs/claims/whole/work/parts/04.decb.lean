set_option maxRecDepth 20000 in
theorem ggX5_song_X5_canBeSong : GoodIn wsX5_song wsX5_canBeSong := goodIn_r _ [11, 5, 6, 7, 8] (by decide +kernel) (by decide +kernel)
set_option maxRecDepth 20000 in
theorem gX5_song_X5_canBeSong : GoodIn wsX5_song (va_wsS RX5 51 yX5_canBeSong wsX5_canBeSong) := goodIn_app (goodIn_of _ (by decide +kernel)) ggX5_song_X5_canBeSong
set_option maxRecDepth 20000 in
theorem ggX5_song_X5_forgetSong : GoodIn wsX5_song wsX5_forgetSong := goodIn_r _ [15, 16, 17, 18, 19, 20, 21, 22, 23, 24, 25, 26, 84, 85, 86, 87, 88, 89, 109, 110, 111, 112, 113, 114, 115, 116] (by decide +kernel) (by decide +kernel)
set_option maxRecDepth 20000 in
theorem gX5_song_X5_forgetSong : GoodIn wsX5_song (wsV RX5 55 RX5 yX5_forgetSong wsX5_forgetSong) := goodIn_app (goodIn_of _ (by decide +kernel)) ggX5_song_X5_forgetSong
set_option maxRecDepth 20000 in
theorem ggX5_song_X3_init : GoodIn wsX5_song wsX3_init := goodIn_r _ [29, 30, 31, 32, 33, 34, 35, 36, 37, 38, 39, 40, 41, 42, 43, 44, 45, 46, 47, 48, 49, 50, 51, 52, 53, 54, 55, 56, 57, 58, 4, 59, 60, 61, 62, 63, 64, 65, 66, 67, 68, 69, 70, 71, 72, 73, 74, 75, 76, 77, 78, 79, 80, 81, 82, 83, 90, 91, 92, 93, 94, 95, 96, 97, 98, 99, 100, 101, 102, 103, 104, 105, 106, 107, 108] (by decide +kernel) (by decide +kernel)
set_option maxRecDepth 20000 in
theorem gX5_song_X3_init : GoodIn wsX5_song (wsX3_init) := ggX5_song_X3_init
theorem dX5_song_0 : decode cX5_song 0 = .ok (.iload_n 1, 1) := by decide +kernel
theorem dX5_song_1 : decode cX5_song 1 = .ok (.iconst 0, 1) := by decide +kernel
theorem dX5_song_2 : decode cX5_song 2 = .ok (.bipush 11, 2) := by decide +kernel
theorem dX5_song_4 : decode cX5_song 4 = .ok (.invokestatic 47, 3) := by decide +kernel
theorem dX5_song_7 : decode cX5_song 7 = .ok (.ifCond .eq 15, 3) := by decide +kernel
theorem dX5_song_10 : decode cX5_song 10 = .ok (.iload_n 2, 1) := by decide +kernel
theorem dX5_song_11 : decode cX5_song 11 = .ok (.iload_n 3, 1) := by decide +kernel
theorem dX5_song_12 : decode cX5_song 12 = .ok (.iload 4, 2) := by decide +kernel
theorem dX5_song_14 : decode cX5_song 14 = .ok (.iload 5, 2) := by decide +kernel
theorem dX5_song_16 : decode cX5_song 16 = .ok (.invokestatic 51, 3) := by decide +kernel
theorem dX5_song_19 : decode cX5_song 19 = .ok (.ifCond .ne 5, 3) := by decide +kernel
theorem dX5_song_22 : decode cX5_song 22 = .ok (.iconst 0, 1) := by decide +kernel
theorem dX5_song_23 : decode cX5_song 23 = .ok (.ireturn, 1) := by decide +kernel
theorem dX5_song_24 : decode cX5_song 24 = .ok (.aload_n 0, 1) := by decide +kernel
theorem dX5_song_25 : decode cX5_song 25 = .ok (.iload_n 1, 1) := by decide +kernel
theorem dX5_song_26 : decode cX5_song 26 = .ok (.invokevirtual 55, 3) := by decide +kernel
theorem dX5_song_29 : decode cX5_song 29 = .ok (.aload_n 0, 1) := by decide +kernel
theorem dX5_song_30 : decode cX5_song 30 = .ok (.getfield 11, 3) := by decide +kernel
theorem dX5_song_33 : decode cX5_song 33 = .ok (.iload_n 1, 1) := by decide +kernel
theorem dX5_song_34 : decode cX5_song 34 = .ok (.new 9, 3) := by decide +kernel
theorem dX5_song_37 : decode cX5_song 37 = .ok (.dup, 1) := by decide +kernel
theorem dX5_song_38 : decode cX5_song 38 = .ok (.iload_n 1, 1) := by decide +kernel
theorem dX5_song_39 : decode cX5_song 39 = .ok (.iload_n 2, 1) := by decide +kernel
theorem dX5_song_40 : decode cX5_song 40 = .ok (.iload_n 3, 1) := by decide +kernel
theorem dX5_song_41 : decode cX5_song 41 = .ok (.iload 4, 2) := by decide +kernel
theorem dX5_song_43 : decode cX5_song 43 = .ok (.iload 5, 2) := by decide +kernel
theorem dX5_song_45 : decode cX5_song 45 = .ok (.invokespecial 59, 3) := by decide +kernel
theorem dX5_song_48 : decode cX5_song 48 = .ok (.aastore, 1) := by decide +kernel
theorem dX5_song_49 : decode cX5_song 49 = .ok (.iconst 1, 1) := by decide +kernel
theorem dX5_song_50 : decode cX5_song 50 = .ok (.ireturn, 1) := by decide +kernel
set_option maxRecDepth 20000 in
theorem ggX5_about_X5_songAt : GoodIn wsX5_about wsX5_songAt := goodIn_r _ [9, 10, 11, 12, 8, 13, 42, 43, 44, 45, 46, 47] (by decide +kernel) (by decide +kernel)
set_option maxRecDepth 20000 in
theorem gX5_about_X5_songAt : GoodIn wsX5_about (wsV RX5 62 RX5 yX5_songAt wsX5_songAt) := goodIn_app (goodIn_of _ (by decide +kernel)) ggX5_about_X5_songAt
set_option maxRecDepth 20000 in
theorem ggX5_about_X5_within : GoodIn wsX5_about wsX5_within := goodIn_r _ [13] (by decide +kernel) (by decide +kernel)
set_option maxRecDepth 20000 in
theorem gX5_about_X5_within : GoodIn wsX5_about (va_wsS RX5 47 yX5_within wsX5_within) := goodIn_app (goodIn_of _ (by decide +kernel)) ggX5_about_X5_within
set_option maxRecDepth 20000 in
theorem ggX5_about_X0_forgetJoinsOf : GoodIn wsX5_about wsX0_forgetJoinsOf := goodIn_r _ [18, 19, 20, 21, 17, 22, 48, 49, 50, 51, 52, 53, 54, 55] (by decide +kernel) (by decide +kernel)
set_option maxRecDepth 20000 in
theorem gX5_about_X0_forgetJoinsOf : GoodIn wsX5_about (wsV RX5 76 RX0 yX0_forgetJoinsOf wsX0_forgetJoinsOf) := goodIn_app (goodIn_of _ (by decide +kernel)) ggX5_about_X0_forgetJoinsOf
theorem dX5_about_0 : decode cX5_about 0 = .ok (.aload_n 0, 1) := by decide +kernel
theorem dX5_about_1 : decode cX5_about 1 = .ok (.iload_n 1, 1) := by decide +kernel
theorem dX5_about_2 : decode cX5_about 2 = .ok (.invokevirtual 62, 3) := by decide +kernel
theorem dX5_about_5 : decode cX5_about 5 = .ok (.astore 5, 2) := by decide +kernel
theorem dX5_about_7 : decode cX5_about 7 = .ok (.aload 5, 2) := by decide +kernel
theorem dX5_about_9 : decode cX5_about 9 = .ok (.ifnull 34, 3) := by decide +kernel
theorem dX5_about_12 : decode cX5_about 12 = .ok (.iload_n 2, 1) := by decide +kernel
theorem dX5_about_13 : decode cX5_about 13 = .ok (.iconst 0, 1) := by decide +kernel
theorem dX5_about_14 : decode cX5_about 14 = .ok (.bipush 23, 2) := by decide +kernel
theorem dX5_about_16 : decode cX5_about 16 = .ok (.invokestatic 47, 3) := by decide +kernel
theorem dX5_about_19 : decode cX5_about 19 = .ok (.ifCond .eq 24, 3) := by decide +kernel
theorem dX5_about_22 : decode cX5_about 22 = .ok (.iload_n 3, 1) := by decide +kernel
theorem dX5_about_23 : decode cX5_about 23 = .ok (.iconst 0, 1) := by decide +kernel
theorem dX5_about_24 : decode cX5_about 24 = .ok (.bipush 9, 2) := by decide +kernel
theorem dX5_about_26 : decode cX5_about 26 = .ok (.invokestatic 47, 3) := by decide +kernel
theorem dX5_about_29 : decode cX5_about 29 = .ok (.ifCond .eq 14, 3) := by decide +kernel
theorem dX5_about_32 : decode cX5_about 32 = .ok (.iload 4, 2) := by decide +kernel
theorem dX5_about_34 : decode cX5_about 34 = .ok (.iconst 1, 1) := by decide +kernel
theorem dX5_about_35 : decode cX5_about 35 = .ok (.bipush 16, 2) := by decide +kernel
theorem dX5_about_37 : decode cX5_about 37 = .ok (.invokestatic 47, 3) := by decide +kernel
theorem dX5_about_40 : decode cX5_about 40 = .ok (.ifCond .ne 5, 3) := by decide +kernel
theorem dX5_about_43 : decode cX5_about 43 = .ok (.iconst 0, 1) := by decide +kernel
theorem dX5_about_44 : decode cX5_about 44 = .ok (.ireturn, 1) := by decide +kernel
theorem dX5_about_45 : decode cX5_about 45 = .ok (.aload 5, 2) := by decide +kernel
theorem dX5_about_47 : decode cX5_about 47 = .ok (.iload_n 2, 1) := by decide +kernel
theorem dX5_about_48 : decode cX5_about 48 = .ok (.putfield 66, 3) := by decide +kernel
theorem dX5_about_51 : decode cX5_about 51 = .ok (.aload 5, 2) := by decide +kernel
theorem dX5_about_53 : decode cX5_about 53 = .ok (.iload_n 3, 1) := by decide +kernel
theorem dX5_about_54 : decode cX5_about 54 = .ok (.putfield 70, 3) := by decide +kernel
theorem dX5_about_57 : decode cX5_about 57 = .ok (.aload 5, 2) := by decide +kernel
theorem dX5_about_59 : decode cX5_about 59 = .ok (.iload 4, 2) := by decide +kernel
theorem dX5_about_61 : decode cX5_about 61 = .ok (.putfield 73, 3) := by decide +kernel
theorem dX5_about_64 : decode cX5_about 64 = .ok (.aload_n 0, 1) := by decide +kernel
theorem dX5_about_65 : decode cX5_about 65 = .ok (.getfield 29, 3) := by decide +kernel
theorem dX5_about_68 : decode cX5_about 68 = .ok (.iload_n 1, 1) := by decide +kernel
theorem dX5_about_69 : decode cX5_about 69 = .ok (.invokevirtual 76, 3) := by decide +kernel
theorem dX5_about_72 : decode cX5_about 72 = .ok (.iconst 1, 1) := by decide +kernel
theorem dX5_about_73 : decode cX5_about 73 = .ok (.ireturn, 1) := by decide +kernel
set_option maxRecDepth 20000 in
theorem ggX5_bar_X5_songAt : GoodIn wsX5_bar wsX5_songAt := goodIn_r _ [7, 8, 9, 10, 6, 11, 87, 88, 89, 90, 91, 92] (by decide +kernel) (by decide +kernel)
set_option maxRecDepth 20000 in
theorem gX5_bar_X5_songAt : GoodIn wsX5_bar (wsV RX5 62 RX5 yX5_songAt wsX5_songAt) := goodIn_app (goodIn_of _ (by decide +kernel)) ggX5_bar_X5_songAt
set_option maxRecDepth 20000 in
theorem ggX5_bar_X5_within : GoodIn wsX5_bar wsX5_within := goodIn_r _ [11] (by decide +kernel) (by decide +kernel)
set_option maxRecDepth 20000 in
theorem gX5_bar_X5_within : GoodIn wsX5_bar (va_wsS RX5 47 yX5_within wsX5_within) := goodIn_app (goodIn_of _ (by decide +kernel)) ggX5_bar_X5_within
set_option maxRecDepth 20000 in
theorem ggX5_bar_X3_setBeats : GoodIn wsX5_bar wsX3_setBeats := goodIn_r _ [16, 17, 18, 19, 20, 15, 21, 22, 23, 24, 25, 26, 27, 28, 29, 30, 31, 32, 33, 34, 35, 36, 37, 38, 39, 40, 41, 42, 43, 44, 45, 46, 47, 48, 49, 50, 51, 52, 53, 54, 55, 56, 57, 58, 68, 69, 70, 71, 72, 73, 74, 75, 76, 77, 78, 79, 80, 81, 82, 83, 84, 85, 86] (by decide +kernel) (by decide +kernel)
set_option maxRecDepth 20000 in
theorem gX5_bar_X3_setBeats : GoodIn wsX5_bar (wsV RX5 82 RX3 yX3_setBeats wsX3_setBeats) := goodIn_app (goodIn_of _ (by decide +kernel)) ggX5_bar_X3_setBeats
set_option maxRecDepth 20000 in
theorem ggX5_bar_X0_forgetJoinsOf : GoodIn wsX5_bar wsX0_forgetJoinsOf := goodIn_r _ [63, 64, 65, 66, 62, 67, 93, 94, 95, 96, 97, 98, 99, 100] (by decide +kernel) (by decide +kernel)
set_option maxRecDepth 20000 in
theorem gX5_bar_X0_forgetJoinsOf : GoodIn wsX5_bar (wsV RX5 76 RX0 yX0_forgetJoinsOf wsX0_forgetJoinsOf) := goodIn_app (goodIn_of _ (by decide +kernel)) ggX5_bar_X0_forgetJoinsOf
theorem dX5_bar_0 : decode cX5_bar 0 = .ok (.aload_n 0, 1) := by decide +kernel
theorem dX5_bar_1 : decode cX5_bar 1 = .ok (.iload_n 1, 1) := by decide +kernel
theorem dX5_bar_2 : decode cX5_bar 2 = .ok (.invokevirtual 62, 3) := by decide +kernel
theorem dX5_bar_5 : decode cX5_bar 5 = .ok (.astore 4, 2) := by decide +kernel
theorem dX5_bar_7 : decode cX5_bar 7 = .ok (.aload 4, 2) := by decide +kernel
theorem dX5_bar_9 : decode cX5_bar 9 = .ok (.ifnull 27, 3) := by decide +kernel
theorem dX5_bar_12 : decode cX5_bar 12 = .ok (.iload_n 2, 1) := by decide +kernel
theorem dX5_bar_13 : decode cX5_bar 13 = .ok (.iconst 0, 1) := by decide +kernel
theorem dX5_bar_14 : decode cX5_bar 14 = .ok (.aload 4, 2) := by decide +kernel
theorem dX5_bar_16 : decode cX5_bar 16 = .ok (.getfield 79, 3) := by decide +kernel
theorem dX5_bar_19 : decode cX5_bar 19 = .ok (.iconst 1, 1) := by decide +kernel
theorem dX5_bar_20 : decode cX5_bar 20 = .ok (.isub, 1) := by decide +kernel
theorem dX5_bar_21 : decode cX5_bar 21 = .ok (.invokestatic 47, 3) := by decide +kernel
theorem dX5_bar_24 : decode cX5_bar 24 = .ok (.ifCond .eq 12, 3) := by decide +kernel
theorem dX5_bar_27 : decode cX5_bar 27 = .ok (.iload_n 3, 1) := by decide +kernel
theorem dX5_bar_28 : decode cX5_bar 28 = .ok (.iconst 1, 1) := by decide +kernel
theorem dX5_bar_29 : decode cX5_bar 29 = .ok (.iconst 4, 1) := by decide +kernel
theorem dX5_bar_30 : decode cX5_bar 30 = .ok (.invokestatic 47, 3) := by decide +kernel
theorem dX5_bar_33 : decode cX5_bar 33 = .ok (.ifCond .ne 5, 3) := by decide +kernel
theorem dX5_bar_36 : decode cX5_bar 36 = .ok (.iconst 0, 1) := by decide +kernel
theorem dX5_bar_37 : decode cX5_bar 37 = .ok (.ireturn, 1) := by decide +kernel
theorem dX5_bar_38 : decode cX5_bar 38 = .ok (.aload 4, 2) := by decide +kernel
theorem dX5_bar_40 : decode cX5_bar 40 = .ok (.iload_n 2, 1) := by decide +kernel
theorem dX5_bar_41 : decode cX5_bar 41 = .ok (.iload_n 3, 1) := by decide +kernel
theorem dX5_bar_42 : decode cX5_bar 42 = .ok (.invokevirtual 82, 3) := by decide +kernel
theorem dX5_bar_45 : decode cX5_bar 45 = .ok (.aload_n 0, 1) := by decide +kernel
theorem dX5_bar_46 : decode cX5_bar 46 = .ok (.getfield 29, 3) := by decide +kernel
theorem dX5_bar_49 : decode cX5_bar 49 = .ok (.iload_n 1, 1) := by decide +kernel
theorem dX5_bar_50 : decode cX5_bar 50 = .ok (.invokevirtual 76, 3) := by decide +kernel
theorem dX5_bar_53 : decode cX5_bar 53 = .ok (.iconst 1, 1) := by decide +kernel
theorem dX5_bar_54 : decode cX5_bar 54 = .ok (.ireturn, 1) := by decide +kernel
set_option maxRecDepth 20000 in
theorem ggX5_loop_X5_songAt : GoodIn wsX5_loop wsX5_songAt := goodIn_r _ [6, 7, 8, 9, 5, 10, 49, 50, 51, 52, 53, 54] (by decide +kernel) (by decide +kernel)
set_option maxRecDepth 20000 in
theorem gX5_loop_X5_songAt : GoodIn wsX5_loop (wsV RX5 62 RX5 yX5_songAt wsX5_songAt) := goodIn_app (goodIn_of _ (by decide +kernel)) ggX5_loop_X5_songAt
set_option maxRecDepth 20000 in
theorem ggX5_loop_X3_canLoop : GoodIn wsX5_loop wsX3_canLoop := goodIn_r _ [15, 16, 9, 5, 10, 55, 56, 57, 58, 59, 60, 61, 62, 63, 64, 65, 66, 67, 68, 69, 70, 71, 72, 73] (by decide +kernel) (by decide +kernel)
set_option maxRecDepth 20000 in
theorem gX5_loop_X3_canLoop : GoodIn wsX5_loop (wsV RX5 86 RX3 yX3_canLoop wsX3_canLoop) := goodIn_app (goodIn_of _ (by decide +kernel)) ggX5_loop_X3_canLoop
set_option maxRecDepth 20000 in
theorem ggX5_loop_X3_setLoop : GoodIn wsX5_loop wsX3_setLoop := goodIn_r _ [20, 21, 22, 23, 24, 25, 26, 14, 27, 16, 28, 29, 30, 31, 32, 33, 34, 35, 36, 37, 38, 39, 55, 56, 57, 58, 59, 60, 61, 62, 63, 64, 65, 66, 67, 68, 69, 70, 71, 72, 73] (by decide +kernel) (by decide +kernel)
set_option maxRecDepth 20000 in
theorem gX5_loop_X3_setLoop : GoodIn wsX5_loop (wsV RX5 89 RX3 yX3_setLoop wsX3_setLoop) := goodIn_app (goodIn_of _ (by decide +kernel)) ggX5_loop_X3_setLoop
set_option maxRecDepth 20000 in
theorem ggX5_loop_X0_forgetJoinsOf : GoodIn wsX5_loop wsX0_forgetJoinsOf := goodIn_r _ [44, 45, 46, 47, 43, 48, 74, 75, 76, 77, 78, 79, 80, 81] (by decide +kernel) (by decide +kernel)
set_option maxRecDepth 20000 in
theorem gX5_loop_X0_forgetJoinsOf : GoodIn wsX5_loop (wsV RX5 76 RX0 yX0_forgetJoinsOf wsX0_forgetJoinsOf) := goodIn_app (goodIn_of _ (by decide +kernel)) ggX5_loop_X0_forgetJoinsOf
theorem dX5_loop_0 : decode cX5_loop 0 = .ok (.aload_n 0, 1) := by decide +kernel
theorem dX5_loop_1 : decode cX5_loop 1 = .ok (.iload_n 1, 1) := by decide +kernel
theorem dX5_loop_2 : decode cX5_loop 2 = .ok (.invokevirtual 62, 3) := by decide +kernel
theorem dX5_loop_5 : decode cX5_loop 5 = .ok (.astore 5, 2) := by decide +kernel
theorem dX5_loop_7 : decode cX5_loop 7 = .ok (.aload 5, 2) := by decide +kernel
theorem dX5_loop_9 : decode cX5_loop 9 = .ok (.ifnull 15, 3) := by decide +kernel
theorem dX5_loop_12 : decode cX5_loop 12 = .ok (.aload 5, 2) := by decide +kernel
theorem dX5_loop_14 : decode cX5_loop 14 = .ok (.iload_n 2, 1) := by decide +kernel
theorem dX5_loop_15 : decode cX5_loop 15 = .ok (.iload_n 3, 1) := by decide +kernel
theorem dX5_loop_16 : decode cX5_loop 16 = .ok (.iload 4, 2) := by decide +kernel
theorem dX5_loop_18 : decode cX5_loop 18 = .ok (.invokevirtual 86, 3) := by decide +kernel
theorem dX5_loop_21 : decode cX5_loop 21 = .ok (.ifCond .ne 5, 3) := by decide +kernel
theorem dX5_loop_24 : decode cX5_loop 24 = .ok (.iconst 0, 1) := by decide +kernel
theorem dX5_loop_25 : decode cX5_loop 25 = .ok (.ireturn, 1) := by decide +kernel
theorem dX5_loop_26 : decode cX5_loop 26 = .ok (.aload 5, 2) := by decide +kernel
theorem dX5_loop_28 : decode cX5_loop 28 = .ok (.iload_n 2, 1) := by decide +kernel
theorem dX5_loop_29 : decode cX5_loop 29 = .ok (.iload_n 3, 1) := by decide +kernel
theorem dX5_loop_30 : decode cX5_loop 30 = .ok (.iload 4, 2) := by decide +kernel
theorem dX5_loop_32 : decode cX5_loop 32 = .ok (.invokevirtual 89, 3) := by decide +kernel
theorem dX5_loop_35 : decode cX5_loop 35 = .ok (.aload_n 0, 1) := by decide +kernel
theorem dX5_loop_36 : decode cX5_loop 36 = .ok (.getfield 29, 3) := by decide +kernel
theorem dX5_loop_39 : decode cX5_loop 39 = .ok (.iload_n 1, 1) := by decide +kernel
theorem dX5_loop_40 : decode cX5_loop 40 = .ok (.invokevirtual 76, 3) := by decide +kernel
theorem dX5_loop_43 : decode cX5_loop 43 = .ok (.iconst 1, 1) := by decide +kernel
theorem dX5_loop_44 : decode cX5_loop 44 = .ok (.ireturn, 1) := by decide +kernel
set_option maxRecDepth 20000 in
theorem ggX5_drop_X5_songAt : GoodIn wsX5_drop wsX5_songAt := goodIn_r _ [6, 1, 7, 8, 5, 9, 25, 26, 27, 28, 29, 30] (by decide +kernel) (by decide +kernel)
set_option maxRecDepth 20000 in
theorem gX5_drop_X5_songAt : GoodIn wsX5_drop (wsV RX5 62 RX5 yX5_songAt wsX5_songAt) := goodIn_app (goodIn_of _ (by decide +kernel)) ggX5_drop_X5_songAt
set_option maxRecDepth 20000 in
theorem ggX5_drop_X5_forgetSong : GoodIn wsX5_drop wsX5_forgetSong := goodIn_r _ [13, 14, 15, 16, 17, 18, 19, 20, 21, 22, 23, 24, 25, 26, 27, 28, 29, 30, 31, 32, 33, 34, 35, 36, 37, 38] (by decide +kernel) (by decide +kernel)
set_option maxRecDepth 20000 in
theorem gX5_drop_X5_forgetSong : GoodIn wsX5_drop (wsV RX5 55 RX5 yX5_forgetSong wsX5_forgetSong) := goodIn_app (goodIn_of _ (by decide +kernel)) ggX5_drop_X5_forgetSong
theorem dX5_drop_0 : decode cX5_drop 0 = .ok (.aload_n 0, 1) := by decide +kernel
theorem dX5_drop_1 : decode cX5_drop 1 = .ok (.iload_n 1, 1) := by decide +kernel
theorem dX5_drop_2 : decode cX5_drop 2 = .ok (.invokevirtual 62, 3) := by decide +kernel
theorem dX5_drop_5 : decode cX5_drop 5 = .ok (.ifnonnull 5, 3) := by decide +kernel
theorem dX5_drop_8 : decode cX5_drop 8 = .ok (.iconst 0, 1) := by decide +kernel
theorem dX5_drop_9 : decode cX5_drop 9 = .ok (.ireturn, 1) := by decide +kernel
theorem dX5_drop_10 : decode cX5_drop 10 = .ok (.aload_n 0, 1) := by decide +kernel
theorem dX5_drop_11 : decode cX5_drop 11 = .ok (.iload_n 1, 1) := by decide +kernel
theorem dX5_drop_12 : decode cX5_drop 12 = .ok (.invokevirtual 55, 3) := by decide +kernel
theorem dX5_drop_15 : decode cX5_drop 15 = .ok (.aload_n 0, 1) := by decide +kernel
theorem dX5_drop_16 : decode cX5_drop 16 = .ok (.getfield 11, 3) := by decide +kernel
theorem dX5_drop_19 : decode cX5_drop 19 = .ok (.iload_n 1, 1) := by decide +kernel
theorem dX5_drop_20 : decode cX5_drop 20 = .ok (.aconst_null, 1) := by decide +kernel
theorem dX5_drop_21 : decode cX5_drop 21 = .ok (.aastore, 1) := by decide +kernel
theorem dX5_drop_22 : decode cX5_drop 22 = .ok (.iconst 1, 1) := by decide +kernel
theorem dX5_drop_23 : decode cX5_drop 23 = .ok (.ireturn, 1) := by decide +kernel
set_option maxRecDepth 20000 in
theorem ggX5_of_X5_songAt : GoodIn wsX5_of wsX5_songAt := goodIn_r _ [13, 14, 15, 16, 12, 17, 49, 50, 51, 52, 53, 54] (by decide +kernel) (by decide +kernel)
set_option maxRecDepth 20000 in
theorem gX5_of_X5_songAt : GoodIn wsX5_of (wsV RX5 62 RX5 yX5_songAt wsX5_songAt) := goodIn_app (goodIn_of _ (by decide +kernel)) ggX5_of_X5_songAt
set_option maxRecDepth 20000 in
theorem ggX5_of_X3_beats : GoodIn wsX5_of wsX3_beats := goodIn_r _ [22, 23, 24, 30, 31, 32, 33, 34, 35, 36, 37, 38, 39, 40, 41, 42, 43, 44, 45, 46, 47, 48] (by decide +kernel) (by decide +kernel)
set_option maxRecDepth 20000 in
theorem gX5_of_X3_beats : GoodIn wsX5_of (wsV RX5 105 RX3 yX3_beats wsX3_beats) := goodIn_app (goodIn_of _ (by decide +kernel)) ggX5_of_X3_beats
set_option maxRecDepth 20000 in
theorem ggX5_of_X3_brokenBars : GoodIn wsX5_of wsX3_brokenBars := goodIn_r _ [28, 24, 29, 30, 31, 32, 33, 34, 35, 36, 37, 38, 39, 40, 41, 42, 43, 44, 45, 46, 47, 48] (by decide +kernel) (by decide +kernel)
set_option maxRecDepth 20000 in
theorem gX5_of_X3_brokenBars : GoodIn wsX5_of (wsV RX5 109 RX3 yX3_brokenBars wsX3_brokenBars) := goodIn_app (goodIn_of _ (by decide +kernel)) ggX5_of_X3_brokenBars
theorem dX5_of_0 : decode cX5_of 0 = .ok (.aload_n 0, 1) := by decide +kernel
theorem dX5_of_1 : decode cX5_of 1 = .ok (.iload_n 1, 1) := by decide +kernel
theorem dX5_of_2 : decode cX5_of 2 = .ok (.invokevirtual 62, 3) := by decide +kernel
theorem dX5_of_5 : decode cX5_of 5 = .ok (.astore_n 3, 1) := by decide +kernel
theorem dX5_of_6 : decode cX5_of 6 = .ok (.aload_n 3, 1) := by decide +kernel
theorem dX5_of_7 : decode cX5_of 7 = .ok (.ifnonnull 7, 3) := by decide +kernel
theorem dX5_of_10 : decode cX5_of 10 = .ok (.sipush (-1000), 3) := by decide +kernel
theorem dX5_of_13 : decode cX5_of 13 = .ok (.ireturn, 1) := by decide +kernel
theorem dX5_of_14 : decode cX5_of 14 = .ok (.iload_n 2, 1) := by decide +kernel
theorem dX5_of_15 : decode cX5_of 15 = .ok (.tableswitch 103 0 9 #[53, 58, 63, 68, 73, 78, 83, 88, 93, 98], 53) := by decide +kernel
theorem dX5_of_68 : decode cX5_of 68 = .ok (.aload_n 3, 1) := by decide +kernel
theorem dX5_of_69 : decode cX5_of 69 = .ok (.getfield 93, 3) := by decide +kernel
theorem dX5_of_72 : decode cX5_of 72 = .ok (.ireturn, 1) := by decide +kernel
theorem dX5_of_73 : decode cX5_of 73 = .ok (.aload_n 3, 1) := by decide +kernel
theorem dX5_of_74 : decode cX5_of 74 = .ok (.getfield 79, 3) := by decide +kernel
theorem dX5_of_77 : decode cX5_of 77 = .ok (.ireturn, 1) := by decide +kernel
theorem dX5_of_78 : decode cX5_of 78 = .ok (.aload_n 3, 1) := by decide +kernel
theorem dX5_of_79 : decode cX5_of 79 = .ok (.getfield 96, 3) := by decide +kernel
theorem dX5_of_82 : decode cX5_of 82 = .ok (.ireturn, 1) := by decide +kernel
theorem dX5_of_83 : decode cX5_of 83 = .ok (.aload_n 3, 1) := by decide +kernel
theorem dX5_of_84 : decode cX5_of 84 = .ok (.getfield 99, 3) := by decide +kernel
theorem dX5_of_87 : decode cX5_of 87 = .ok (.ireturn, 1) := by decide +kernel
theorem dX5_of_88 : decode cX5_of 88 = .ok (.aload_n 3, 1) := by decide +kernel
theorem dX5_of_89 : decode cX5_of 89 = .ok (.getfield 66, 3) := by decide +kernel
theorem dX5_of_92 : decode cX5_of 92 = .ok (.ireturn, 1) := by decide +kernel
theorem dX5_of_93 : decode cX5_of 93 = .ok (.aload_n 3, 1) := by decide +kernel
theorem dX5_of_94 : decode cX5_of 94 = .ok (.getfield 70, 3) := by decide +kernel
theorem dX5_of_97 : decode cX5_of 97 = .ok (.ireturn, 1) := by decide +kernel
theorem dX5_of_98 : decode cX5_of 98 = .ok (.aload_n 3, 1) := by decide +kernel
theorem dX5_of_99 : decode cX5_of 99 = .ok (.getfield 73, 3) := by decide +kernel
theorem dX5_of_102 : decode cX5_of 102 = .ok (.ireturn, 1) := by decide +kernel
theorem dX5_of_103 : decode cX5_of 103 = .ok (.aload_n 3, 1) := by decide +kernel
theorem dX5_of_104 : decode cX5_of 104 = .ok (.getfield 102, 3) := by decide +kernel
theorem dX5_of_107 : decode cX5_of 107 = .ok (.ireturn, 1) := by decide +kernel
theorem dX5_of_108 : decode cX5_of 108 = .ok (.aload_n 3, 1) := by decide +kernel
theorem dX5_of_109 : decode cX5_of 109 = .ok (.invokevirtual 105, 3) := by decide +kernel
theorem dX5_of_112 : decode cX5_of 112 = .ok (.ireturn, 1) := by decide +kernel
theorem dX5_of_113 : decode cX5_of 113 = .ok (.aload_n 3, 1) := by decide +kernel
theorem dX5_of_114 : decode cX5_of 114 = .ok (.invokevirtual 109, 3) := by decide +kernel
theorem dX5_of_117 : decode cX5_of 117 = .ok (.ireturn, 1) := by decide +kernel
theorem dX5_of_118 : decode cX5_of 118 = .ok (.sipush (-1000), 3) := by decide +kernel
theorem dX5_of_121 : decode cX5_of 121 = .ok (.ireturn, 1) := by decide +kernel
set_option maxRecDepth 20000 in
theorem ggX5_beat_X5_songAt : GoodIn wsX5_beat wsX5_songAt := goodIn_r _ [6, 7, 8, 9, 5, 10, 37, 38, 39, 40, 41, 42] (by decide +kernel) (by decide +kernel)
set_option maxRecDepth 20000 in
theorem gX5_beat_X5_songAt : GoodIn wsX5_beat (wsV RX5 62 RX5 yX5_songAt wsX5_songAt) := goodIn_app (goodIn_of _ (by decide +kernel)) ggX5_beat_X5_songAt
set_option maxRecDepth 20000 in
theorem ggX5_beat_X3_beats : GoodIn wsX5_beat wsX3_beats := goodIn_r _ [15, 16, 17, 18, 19, 20, 21, 22, 23, 24, 25, 26, 27, 28, 29, 30, 31, 32, 33, 34, 35, 36] (by decide +kernel) (by decide +kernel)
set_option maxRecDepth 20000 in
theorem gX5_beat_X3_beats : GoodIn wsX5_beat (wsV RX5 105 RX3 yX3_beats wsX3_beats) := goodIn_app (goodIn_of _ (by decide +kernel)) ggX5_beat_X3_beats
set_option maxRecDepth 20000 in
theorem ggX5_beat_X5_within : GoodIn wsX5_beat wsX5_within := goodIn_r _ [10] (by decide +kernel) (by decide +kernel)
set_option maxRecDepth 20000 in
theorem gX5_beat_X5_within : GoodIn wsX5_beat (va_wsS RX5 47 yX5_within wsX5_within) := goodIn_app (goodIn_of _ (by decide +kernel)) ggX5_beat_X5_within
theorem dX5_beat_0 : decode cX5_beat 0 = .ok (.aload_n 0, 1) := by decide +kernel
theorem dX5_beat_1 : decode cX5_beat 1 = .ok (.iload_n 1, 1) := by decide +kernel
theorem dX5_beat_2 : decode cX5_beat 2 = .ok (.invokevirtual 62, 3) := by decide +kernel
theorem dX5_beat_5 : decode cX5_beat 5 = .ok (.astore_n 3, 1) := by decide +kernel
theorem dX5_beat_6 : decode cX5_beat 6 = .ok (.aload_n 3, 1) := by decide +kernel
theorem dX5_beat_7 : decode cX5_beat 7 = .ok (.ifnull 15, 3) := by decide +kernel
theorem dX5_beat_10 : decode cX5_beat 10 = .ok (.iload_n 2, 1) := by decide +kernel
theorem dX5_beat_11 : decode cX5_beat 11 = .ok (.iconst 0, 1) := by decide +kernel
theorem dX5_beat_12 : decode cX5_beat 12 = .ok (.aload_n 3, 1) := by decide +kernel
theorem dX5_beat_13 : decode cX5_beat 13 = .ok (.invokevirtual 105, 3) := by decide +kernel
theorem dX5_beat_16 : decode cX5_beat 16 = .ok (.invokestatic 47, 3) := by decide +kernel
theorem dX5_beat_19 : decode cX5_beat 19 = .ok (.ifCond .ne 5, 3) := by decide +kernel
theorem dX5_beat_22 : decode cX5_beat 22 = .ok (.iconst (-1), 1) := by decide +kernel
theorem dX5_beat_23 : decode cX5_beat 23 = .ok (.ireturn, 1) := by decide +kernel
theorem dX5_beat_24 : decode cX5_beat 24 = .ok (.aload_n 3, 1) := by decide +kernel
theorem dX5_beat_25 : decode cX5_beat 25 = .ok (.getfield 112, 3) := by decide +kernel
theorem dX5_beat_28 : decode cX5_beat 28 = .ok (.iload_n 2, 1) := by decide +kernel
theorem dX5_beat_29 : decode cX5_beat 29 = .ok (.iaload, 1) := by decide +kernel
theorem dX5_beat_30 : decode cX5_beat 30 = .ok (.ireturn, 1) := by decide +kernel
set_option maxRecDepth 20000 in
theorem ggX5_played_X5_songAt : GoodIn wsX5_played wsX5_songAt := goodIn_r _ [9, 10, 11, 12, 8, 13, 33, 34, 35, 36, 37, 38] (by decide +kernel) (by decide +kernel)
set_option maxRecDepth 20000 in
theorem gX5_played_X5_songAt : GoodIn wsX5_played (wsV RX5 62 RX5 yX5_songAt wsX5_songAt) := goodIn_app (goodIn_of _ (by decide +kernel)) ggX5_played_X5_songAt
set_option maxRecDepth 20000 in
theorem ggX5_played_X5_within : GoodIn wsX5_played wsX5_within := goodIn_r _ [13] (by decide +kernel) (by decide +kernel)
set_option maxRecDepth 20000 in
theorem gX5_played_X5_within : GoodIn wsX5_played (va_wsS RX5 47 yX5_within wsX5_within) := goodIn_app (goodIn_of _ (by decide +kernel)) ggX5_played_X5_within
theorem dX5_played_0 : decode cX5_played 0 = .ok (.aload_n 0, 1) := by decide +kernel
theorem dX5_played_1 : decode cX5_played 1 = .ok (.iload_n 1, 1) := by decide +kernel
theorem dX5_played_2 : decode cX5_played 2 = .ok (.invokevirtual 62, 3) := by decide +kernel
theorem dX5_played_5 : decode cX5_played 5 = .ok (.astore 4, 2) := by decide +kernel
theorem dX5_played_7 : decode cX5_played 7 = .ok (.aload 4, 2) := by decide +kernel
theorem dX5_played_9 : decode cX5_played 9 = .ok (.ifnull 18, 3) := by decide +kernel
theorem dX5_played_12 : decode cX5_played 12 = .ok (.iload_n 2, 1) := by decide +kernel
theorem dX5_played_13 : decode cX5_played 13 = .ok (.iconst 0, 1) := by decide +kernel
theorem dX5_played_14 : decode cX5_played 14 = .ok (.aload 4, 2) := by decide +kernel
theorem dX5_played_16 : decode cX5_played 16 = .ok (.getfield 102, 3) := by decide +kernel
theorem dX5_played_19 : decode cX5_played 19 = .ok (.iconst 1, 1) := by decide +kernel
theorem dX5_played_20 : decode cX5_played 20 = .ok (.isub, 1) := by decide +kernel
theorem dX5_played_21 : decode cX5_played 21 = .ok (.invokestatic 47, 3) := by decide +kernel
theorem dX5_played_24 : decode cX5_played 24 = .ok (.ifCond .ne 5, 3) := by decide +kernel
theorem dX5_played_27 : decode cX5_played 27 = .ok (.iconst (-1), 1) := by decide +kernel
theorem dX5_played_28 : decode cX5_played 28 = .ok (.ireturn, 1) := by decide +kernel
theorem dX5_played_29 : decode cX5_played 29 = .ok (.iload_n 3, 1) := by decide +kernel
theorem dX5_played_30 : decode cX5_played 30 = .ok (.tableswitch 56 0 2 #[26, 34, 42], 26) := by decide +kernel
theorem dX5_played_56 : decode cX5_played 56 = .ok (.aload 4, 2) := by decide +kernel
theorem dX5_played_58 : decode cX5_played 58 = .ok (.getfield 115, 3) := by decide +kernel
theorem dX5_played_61 : decode cX5_played 61 = .ok (.iload_n 2, 1) := by decide +kernel
theorem dX5_played_62 : decode cX5_played 62 = .ok (.iaload, 1) := by decide +kernel
theorem dX5_played_63 : decode cX5_played 63 = .ok (.ireturn, 1) := by decide +kernel
theorem dX5_played_64 : decode cX5_played 64 = .ok (.aload 4, 2) := by decide +kernel
theorem dX5_played_66 : decode cX5_played 66 = .ok (.getfield 118, 3) := by decide +kernel
theorem dX5_played_69 : decode cX5_played 69 = .ok (.iload_n 2, 1) := by decide +kernel
theorem dX5_played_70 : decode cX5_played 70 = .ok (.iaload, 1) := by decide +kernel
theorem dX5_played_71 : decode cX5_played 71 = .ok (.ireturn, 1) := by decide +kernel
theorem dX5_played_72 : decode cX5_played 72 = .ok (.aload 4, 2) := by decide +kernel
theorem dX5_played_74 : decode cX5_played 74 = .ok (.getfield 121, 3) := by decide +kernel
theorem dX5_played_77 : decode cX5_played 77 = .ok (.aload 4, 2) := by decide +kernel
theorem dX5_played_79 : decode cX5_played 79 = .ok (.getfield 115, 3) := by decide +kernel
theorem dX5_played_82 : decode cX5_played 82 = .ok (.iload_n 2, 1) := by decide +kernel
theorem dX5_played_83 : decode cX5_played 83 = .ok (.iaload, 1) := by decide +kernel
theorem dX5_played_84 : decode cX5_played 84 = .ok (.iaload, 1) := by decide +kernel
theorem dX5_played_85 : decode cX5_played 85 = .ok (.ireturn, 1) := by decide +kernel
theorem dX5_played_86 : decode cX5_played 86 = .ok (.iconst (-1), 1) := by decide +kernel
theorem dX5_played_87 : decode cX5_played 87 = .ok (.ireturn, 1) := by decide +kernel
set_option maxRecDepth 20000 in
theorem ggX5_length_X5_songAt : GoodIn wsX5_length wsX5_songAt := goodIn_r _ [7, 8, 9, 10, 6, 11, 31, 32, 33, 34, 35, 36] (by decide +kernel) (by decide +kernel)
set_option maxRecDepth 20000 in
theorem gX5_length_X5_songAt : GoodIn wsX5_length (wsV RX5 62 RX5 yX5_songAt wsX5_songAt) := goodIn_app (goodIn_of _ (by decide +kernel)) ggX5_length_X5_songAt
theorem dX5_length_0 : decode cX5_length 0 = .ok (.aload_n 0, 1) := by decide +kernel
theorem dX5_length_1 : decode cX5_length 1 = .ok (.iload_n 1, 1) := by decide +kernel
theorem dX5_length_2 : decode cX5_length 2 = .ok (.invokevirtual 62, 3) := by decide +kernel
theorem dX5_length_5 : decode cX5_length 5 = .ok (.astore_n 2, 1) := by decide +kernel
theorem dX5_length_6 : decode cX5_length 6 = .ok (.aload_n 2, 1) := by decide +kernel
theorem dX5_length_7 : decode cX5_length 7 = .ok (.ifnonnull 7, 3) := by decide +kernel
theorem dX5_length_10 : decode cX5_length 10 = .ok (.iconst (-1), 1) := by decide +kernel
theorem dX5_length_11 : decode cX5_length 11 = .ok (.goto 12, 3) := by decide +kernel
theorem dX5_length_14 : decode cX5_length 14 = .ok (.aload_n 2, 1) := by decide +kernel
theorem dX5_length_15 : decode cX5_length 15 = .ok (.getfield 118, 3) := by decide +kernel
theorem dX5_length_18 : decode cX5_length 18 = .ok (.aload_n 2, 1) := by decide +kernel
theorem dX5_length_19 : decode cX5_length 19 = .ok (.getfield 102, 3) := by decide +kernel
theorem dX5_length_22 : decode cX5_length 22 = .ok (.iaload, 1) := by decide +kernel
theorem dX5_length_23 : decode cX5_length 23 = .ok (.ireturn, 1) := by decide +kernel
set_option maxRecDepth 20000 in
theorem ggX5_stroke_X4_add : GoodIn wsX5_stroke wsX4_add := goodIn_r _ [6, 7, 8, 9, 10, 11, 12, 19, 20, 21, 22, 23, 24] (by decide +kernel) (by decide +kernel)
set_option maxRecDepth 20000 in
theorem gX5_stroke_X4_add : GoodIn wsX5_stroke (wsV RX5 124 RX4 yX4_add wsX4_add) := goodIn_app (goodIn_of _ (by decide +kernel)) ggX5_stroke_X4_add
theorem dX5_stroke_0 : decode cX5_stroke 0 = .ok (.aload_n 0, 1) := by decide +kernel
theorem dX5_stroke_1 : decode cX5_stroke 1 = .ok (.getfield 22, 3) := by decide +kernel
theorem dX5_stroke_4 : decode cX5_stroke 4 = .ok (.iload_n 1, 1) := by decide +kernel
theorem dX5_stroke_5 : decode cX5_stroke 5 = .ok (.invokevirtual 124, 3) := by decide +kernel
theorem dX5_stroke_8 : decode cX5_stroke 8 = .ok (.ireturn, 1) := by decide +kernel
set_option maxRecDepth 20000 in
theorem ggX5_clear_X4_empty : GoodIn wsX5_clear wsX4_empty := goodIn_r _ [6, 7, 14, 15, 16, 17, 18, 19] (by decide +kernel) (by decide +kernel)
set_option maxRecDepth 20000 in
theorem gX5_clear_X4_empty : GoodIn wsX5_clear (wsV RX5 128 RX4 yX4_empty wsX4_empty) := goodIn_app (goodIn_of _ (by decide +kernel)) ggX5_clear_X4_empty
theorem dX5_clear_0 : decode cX5_clear 0 = .ok (.aload_n 0, 1) := by decide +kernel
theorem dX5_clear_1 : decode cX5_clear 1 = .ok (.getfield 22, 3) := by decide +kernel
theorem dX5_clear_4 : decode cX5_clear 4 = .ok (.invokevirtual 128, 3) := by decide +kernel
theorem dX5_clear_7 : decode cX5_clear 7 = .ok (.ireturn, 1) := by decide +kernel
set_option maxRecDepth 20000 in
theorem ggX5_find_X5_within : GoodIn wsX5_find wsX5_within := goodIn_r _ [5] (by decide +kernel) (by decide +kernel)
set_option maxRecDepth 20000 in
theorem gX5_find_X5_within : GoodIn wsX5_find (va_wsS RX5 47 yX5_within wsX5_within) := goodIn_app (goodIn_of _ (by decide +kernel)) ggX5_find_X5_within
set_option maxRecDepth 20000 in
theorem ggX5_find_X4_seekBeats : GoodIn wsX5_find wsX4_seekBeats := goodIn_r _ [10, 11, 12, 13, 14, 15, 9, 16, 17, 18, 19, 20, 21, 22, 23, 24, 25, 26, 27, 28, 29, 30, 31, 32, 33, 34, 35, 42, 43, 44, 45, 46, 47] (by decide +kernel) (by decide +kernel)
set_option maxRecDepth 20000 in
theorem gX5_find_X4_seekBeats : GoodIn wsX5_find (wsV RX5 131 RX4 yX4_seekBeats wsX4_seekBeats) := goodIn_app (goodIn_of _ (by decide +kernel)) ggX5_find_X4_seekBeats
theorem dX5_find_0 : decode cX5_find 0 = .ok (.iload_n 1, 1) := by decide +kernel
theorem dX5_find_1 : decode cX5_find 1 = .ok (.bipush 10, 2) := by decide +kernel
theorem dX5_find_3 : decode cX5_find 3 = .ok (.sipush 1000, 3) := by decide +kernel
theorem dX5_find_6 : decode cX5_find 6 = .ok (.invokestatic 47, 3) := by decide +kernel
theorem dX5_find_9 : decode cX5_find 9 = .ok (.ifCond .eq 25, 3) := by decide +kernel
theorem dX5_find_12 : decode cX5_find 12 = .ok (.iload_n 2, 1) := by decide +kernel
theorem dX5_find_13 : decode cX5_find 13 = .ok (.iconst 0, 1) := by decide +kernel
theorem dX5_find_14 : decode cX5_find 14 = .ok (.sipush 10000, 3) := by decide +kernel
theorem dX5_find_17 : decode cX5_find 17 = .ok (.invokestatic 47, 3) := by decide +kernel
theorem dX5_find_20 : decode cX5_find 20 = .ok (.ifCond .eq 14, 3) := by decide +kernel
theorem dX5_find_23 : decode cX5_find 23 = .ok (.iload_n 3, 1) := by decide +kernel
theorem dX5_find_24 : decode cX5_find 24 = .ok (.iconst 0, 1) := by decide +kernel
theorem dX5_find_25 : decode cX5_find 25 = .ok (.sipush 10000, 3) := by decide +kernel
theorem dX5_find_28 : decode cX5_find 28 = .ok (.invokestatic 47, 3) := by decide +kernel
theorem dX5_find_31 : decode cX5_find 31 = .ok (.ifCond .ne 5, 3) := by decide +kernel
theorem dX5_find_34 : decode cX5_find 34 = .ok (.iconst (-1), 1) := by decide +kernel
theorem dX5_find_35 : decode cX5_find 35 = .ok (.ireturn, 1) := by decide +kernel
theorem dX5_find_36 : decode cX5_find 36 = .ok (.aload_n 0, 1) := by decide +kernel
theorem dX5_find_37 : decode cX5_find 37 = .ok (.getfield 22, 3) := by decide +kernel
theorem dX5_find_40 : decode cX5_find 40 = .ok (.iload_n 1, 1) := by decide +kernel
theorem dX5_find_41 : decode cX5_find 41 = .ok (.iload_n 2, 1) := by decide +kernel
theorem dX5_find_42 : decode cX5_find 42 = .ok (.iload_n 3, 1) := by decide +kernel
theorem dX5_find_43 : decode cX5_find 43 = .ok (.invokevirtual 131, 3) := by decide +kernel
theorem dX5_find_46 : decode cX5_find 46 = .ok (.ireturn, 1) := by decide +kernel
set_option maxRecDepth 20000 in
theorem ggX5_found_X4_foundStroke : GoodIn wsX5_found wsX4_foundStroke := goodIn_r _ [6, 7, 8, 9, 10, 11, 18, 19, 20, 21, 22, 23] (by decide +kernel) (by decide +kernel)
set_option maxRecDepth 20000 in
theorem gX5_found_X4_foundStroke : GoodIn wsX5_found (wsV RX5 135 RX4 yX4_foundStroke wsX4_foundStroke) := goodIn_app (goodIn_of _ (by decide +kernel)) ggX5_found_X4_foundStroke
theorem dX5_found_0 : decode cX5_found 0 = .ok (.aload_n 0, 1) := by decide +kernel
theorem dX5_found_1 : decode cX5_found 1 = .ok (.getfield 22, 3) := by decide +kernel
theorem dX5_found_4 : decode cX5_found 4 = .ok (.iload_n 1, 1) := by decide +kernel
theorem dX5_found_5 : decode cX5_found 5 = .ok (.invokevirtual 135, 3) := by decide +kernel
theorem dX5_found_8 : decode cX5_found 8 = .ok (.ireturn, 1) := by decide +kernel
set_option maxRecDepth 20000 in
theorem ggX5_costs_X5_within : GoodIn wsX5_costs wsX5_within := goodIn_r _ [5] (by decide +kernel) (by decide +kernel)
set_option maxRecDepth 20000 in
theorem gX5_costs_X5_within : GoodIn wsX5_costs (va_wsS RX5 47 yX5_within wsX5_within) := goodIn_app (goodIn_of _ (by decide +kernel)) ggX5_costs_X5_within
set_option maxRecDepth 20000 in
theorem ggX5_costs_X0_setCosts : GoodIn wsX5_costs wsX0_setCosts := goodIn_r _ [10, 11, 12, 13, 14, 15, 16, 17, 18, 25, 26, 27, 28, 29, 30, 31, 32] (by decide +kernel) (by decide +kernel)
set_option maxRecDepth 20000 in
theorem gX5_costs_X0_setCosts : GoodIn wsX5_costs (wsV RX5 138 RX0 yX0_setCosts wsX0_setCosts) := goodIn_app (goodIn_of _ (by decide +kernel)) ggX5_costs_X0_setCosts
theorem dX5_costs_0 : decode cX5_costs 0 = .ok (.iload_n 1, 1) := by decide +kernel
theorem dX5_costs_1 : decode cX5_costs 1 = .ok (.iconst 0, 1) := by decide +kernel
theorem dX5_costs_2 : decode cX5_costs 2 = .ok (.sipush 1000, 3) := by decide +kernel
theorem dX5_costs_5 : decode cX5_costs 5 = .ok (.invokestatic 47, 3) := by decide +kernel
theorem dX5_costs_8 : decode cX5_costs 8 = .ok (.ifCond .eq 25, 3) := by decide +kernel
theorem dX5_costs_11 : decode cX5_costs 11 = .ok (.iload_n 2, 1) := by decide +kernel
theorem dX5_costs_12 : decode cX5_costs 12 = .ok (.iconst 0, 1) := by decide +kernel
theorem dX5_costs_13 : decode cX5_costs 13 = .ok (.sipush 1000, 3) := by decide +kernel
theorem dX5_costs_16 : decode cX5_costs 16 = .ok (.invokestatic 47, 3) := by decide +kernel
theorem dX5_costs_19 : decode cX5_costs 19 = .ok (.ifCond .eq 14, 3) := by decide +kernel
theorem dX5_costs_22 : decode cX5_costs 22 = .ok (.iload_n 3, 1) := by decide +kernel
theorem dX5_costs_23 : decode cX5_costs 23 = .ok (.iconst 0, 1) := by decide +kernel
theorem dX5_costs_24 : decode cX5_costs 24 = .ok (.sipush 1000, 3) := by decide +kernel
theorem dX5_costs_27 : decode cX5_costs 27 = .ok (.invokestatic 47, 3) := by decide +kernel
theorem dX5_costs_30 : decode cX5_costs 30 = .ok (.ifCond .ne 5, 3) := by decide +kernel
theorem dX5_costs_33 : decode cX5_costs 33 = .ok (.iconst 0, 1) := by decide +kernel
theorem dX5_costs_34 : decode cX5_costs 34 = .ok (.ireturn, 1) := by decide +kernel
theorem dX5_costs_35 : decode cX5_costs 35 = .ok (.aload_n 0, 1) := by decide +kernel
theorem dX5_costs_36 : decode cX5_costs 36 = .ok (.getfield 29, 3) := by decide +kernel
theorem dX5_costs_39 : decode cX5_costs 39 = .ok (.iload_n 1, 1) := by decide +kernel
theorem dX5_costs_40 : decode cX5_costs 40 = .ok (.iload_n 2, 1) := by decide +kernel
theorem dX5_costs_41 : decode cX5_costs 41 = .ok (.iload_n 3, 1) := by decide +kernel
theorem dX5_costs_42 : decode cX5_costs 42 = .ok (.invokevirtual 138, 3) := by decide +kernel
theorem dX5_costs_45 : decode cX5_costs 45 = .ok (.iconst 1, 1) := by decide +kernel
theorem dX5_costs_46 : decode cX5_costs 46 = .ok (.ireturn, 1) := by decide +kernel
set_option maxRecDepth 20000 in
theorem ggX5_join_X5_songAt : GoodIn wsX5_join wsX5_songAt := goodIn_r _ [10, 11, 12, 13, 9, 14, 86, 87, 88, 89, 90, 91] (by decide +kernel) (by decide +kernel)
set_option maxRecDepth 20000 in
theorem gX5_join_X5_songAt : GoodIn wsX5_join (wsV RX5 62 RX5 yX5_songAt wsX5_songAt) := goodIn_app (goodIn_of _ (by decide +kernel)) ggX5_join_X5_songAt
set_option maxRecDepth 20000 in
theorem ggX5_join_X5_within : GoodIn wsX5_join wsX5_within := goodIn_r _ [14] (by decide +kernel) (by decide +kernel)
set_option maxRecDepth 20000 in
theorem gX5_join_X5_within : GoodIn wsX5_join (va_wsS RX5 47 yX5_within wsX5_within) := goodIn_app (goodIn_of _ (by decide +kernel)) ggX5_join_X5_within
set_option maxRecDepth 20000 in
theorem ggX5_join_X3_beginsPhrase : GoodIn wsX5_join wsX3_beginsPhrase := goodIn_r _ [19, 20, 21, 67, 68, 69, 70, 71, 72, 73, 74, 75, 76, 77, 78, 79, 80, 81, 82, 83, 84, 85] (by decide +kernel) (by decide +kernel)
set_option maxRecDepth 20000 in
theorem gX5_join_X3_beginsPhrase : GoodIn wsX5_join (wsV RX5 144 RX3 yX3_beginsPhrase wsX3_beginsPhrase) := goodIn_app (goodIn_of _ (by decide +kernel)) ggX5_join_X3_beginsPhrase
set_option maxRecDepth 20000 in
theorem ggX5_join_X0_bentBy : GoodIn wsX5_join wsX0_bentBy := goodIn_r _ [26, 27, 28, 29, 30, 31, 32, 33, 34, 9, 35, 36, 37, 38, 39, 40, 41, 42, 43, 44, 45, 67, 68, 69, 70, 71, 72, 73, 74, 75, 76, 77, 78, 79, 80, 81, 82, 83, 84, 85, 92, 93, 94, 95, 96, 97, 98, 99] (by decide +kernel) (by decide +kernel)
set_option maxRecDepth 20000 in
theorem gX5_join_X0_bentBy : GoodIn wsX5_join (wsV RX5 149 RX0 yX0_bentBy wsX0_bentBy) := goodIn_app (goodIn_of _ (by decide +kernel)) ggX5_join_X0_bentBy
set_option maxRecDepth 20000 in
theorem ggX5_join_X1_keep : GoodIn wsX5_join wsX1_keep := goodIn_r _ [50, 51, 52, 53, 54, 55, 34, 9, 35, 36, 37, 38, 39, 40, 41, 42, 29, 30, 31, 43, 44, 45, 100, 101, 102, 103, 67, 68, 69, 70, 71, 72, 73, 74, 75, 76, 77, 78, 79, 80, 81, 82, 83, 84, 85] (by decide +kernel) (by decide +kernel)
set_option maxRecDepth 20000 in
theorem gX5_join_X1_keep : GoodIn wsX5_join (wsV RX5 153 RX1 yX1_keep wsX1_keep) := goodIn_app (goodIn_of _ (by decide +kernel)) ggX5_join_X1_keep
set_option maxRecDepth 20000 in
theorem ggX5_join_X0_apart : GoodIn wsX5_join wsX0_apart := goodIn_r _ [59, 60, 28, 29, 30, 31, 61, 62, 63, 64, 65, 66, 67, 68, 69, 70, 71, 72, 73, 74, 75, 76, 77, 78, 79, 80, 81, 82, 83, 84, 85, 92, 93, 94, 95, 96, 97, 98, 99] (by decide +kernel) (by decide +kernel)
set_option maxRecDepth 20000 in
theorem gX5_join_X0_apart : GoodIn wsX5_join (wsV RX5 157 RX0 yX0_apart wsX0_apart) := goodIn_app (goodIn_of _ (by decide +kernel)) ggX5_join_X0_apart
theorem dX5_join_0 : decode cX5_join 0 = .ok (.aload_n 0, 1) := by decide +kernel
theorem dX5_join_1 : decode cX5_join 1 = .ok (.iload_n 1, 1) := by decide +kernel
theorem dX5_join_2 : decode cX5_join 2 = .ok (.invokevirtual 62, 3) := by decide +kernel
theorem dX5_join_5 : decode cX5_join 5 = .ok (.astore 7, 2) := by decide +kernel
theorem dX5_join_7 : decode cX5_join 7 = .ok (.aload_n 0, 1) := by decide +kernel
theorem dX5_join_8 : decode cX5_join 8 = .ok (.iload_n 2, 1) := by decide +kernel
theorem dX5_join_9 : decode cX5_join 9 = .ok (.invokevirtual 62, 3) := by decide +kernel
theorem dX5_join_12 : decode cX5_join 12 = .ok (.astore 8, 2) := by decide +kernel
theorem dX5_join_14 : decode cX5_join 14 = .ok (.aload 7, 2) := by decide +kernel
theorem dX5_join_16 : decode cX5_join 16 = .ok (.ifnull 55, 3) := by decide +kernel
theorem dX5_join_19 : decode cX5_join 19 = .ok (.aload 8, 2) := by decide +kernel
theorem dX5_join_21 : decode cX5_join 21 = .ok (.ifnull 50, 3) := by decide +kernel
theorem dX5_join_24 : decode cX5_join 24 = .ok (.iload_n 1, 1) := by decide +kernel
theorem dX5_join_25 : decode cX5_join 25 = .ok (.iload_n 2, 1) := by decide +kernel
theorem dX5_join_26 : decode cX5_join 26 = .ok (.if_icmp .eq 45, 3) := by decide +kernel
theorem dX5_join_29 : decode cX5_join 29 = .ok (.iload_n 3, 1) := by decide +kernel
theorem dX5_join_30 : decode cX5_join 30 = .ok (.iconst 1, 1) := by decide +kernel
theorem dX5_join_31 : decode cX5_join 31 = .ok (.bipush 8, 2) := by decide +kernel
theorem dX5_join_33 : decode cX5_join 33 = .ok (.invokestatic 47, 3) := by decide +kernel
theorem dX5_join_36 : decode cX5_join 36 = .ok (.ifCond .eq 35, 3) := by decide +kernel
theorem dX5_join_39 : decode cX5_join 39 = .ok (.iload 4, 2) := by decide +kernel
theorem dX5_join_41 : decode cX5_join 41 = .ok (.iconst 0, 1) := by decide +kernel
theorem dX5_join_42 : decode cX5_join 42 = .ok (.aload 7, 2) := by decide +kernel
theorem dX5_join_44 : decode cX5_join 44 = .ok (.getfield 102, 3) := by decide +kernel
theorem dX5_join_47 : decode cX5_join 47 = .ok (.iconst 1, 1) := by decide +kernel
theorem dX5_join_48 : decode cX5_join 48 = .ok (.isub, 1) := by decide +kernel
theorem dX5_join_49 : decode cX5_join 49 = .ok (.invokestatic 47, 3) := by decide +kernel
theorem dX5_join_52 : decode cX5_join 52 = .ok (.ifCond .eq 19, 3) := by decide +kernel
theorem dX5_join_55 : decode cX5_join 55 = .ok (.iload 5, 2) := by decide +kernel
theorem dX5_join_57 : decode cX5_join 57 = .ok (.iconst 0, 1) := by decide +kernel
theorem dX5_join_58 : decode cX5_join 58 = .ok (.aload 8, 2) := by decide +kernel
theorem dX5_join_60 : decode cX5_join 60 = .ok (.getfield 102, 3) := by decide +kernel
theorem dX5_join_63 : decode cX5_join 63 = .ok (.iconst 1, 1) := by decide +kernel
theorem dX5_join_64 : decode cX5_join 64 = .ok (.isub, 1) := by decide +kernel
theorem dX5_join_65 : decode cX5_join 65 = .ok (.invokestatic 47, 3) := by decide +kernel
theorem dX5_join_68 : decode cX5_join 68 = .ok (.ifCond .ne 5, 3) := by decide +kernel
theorem dX5_join_71 : decode cX5_join 71 = .ok (.iconst (-1), 1) := by decide +kernel
theorem dX5_join_72 : decode cX5_join 72 = .ok (.ireturn, 1) := by decide +kernel
theorem dX5_join_73 : decode cX5_join 73 = .ok (.aload 7, 2) := by decide +kernel
theorem dX5_join_75 : decode cX5_join 75 = .ok (.getfield 141, 3) := by decide +kernel
theorem dX5_join_78 : decode cX5_join 78 = .ok (.iload 4, 2) := by decide +kernel
theorem dX5_join_80 : decode cX5_join 80 = .ok (.iaload, 1) := by decide +kernel
theorem dX5_join_81 : decode cX5_join 81 = .ok (.iload_n 3, 1) := by decide +kernel
theorem dX5_join_82 : decode cX5_join 82 = .ok (.if_icmp .lt 15, 3) := by decide +kernel
theorem dX5_join_85 : decode cX5_join 85 = .ok (.aload 8, 2) := by decide +kernel
theorem dX5_join_87 : decode cX5_join 87 = .ok (.getfield 141, 3) := by decide +kernel
theorem dX5_join_90 : decode cX5_join 90 = .ok (.iload 5, 2) := by decide +kernel
theorem dX5_join_92 : decode cX5_join 92 = .ok (.iaload, 1) := by decide +kernel
theorem dX5_join_93 : decode cX5_join 93 = .ok (.iload_n 3, 1) := by decide +kernel
theorem dX5_join_94 : decode cX5_join 94 = .ok (.if_icmp .ge 6, 3) := by decide +kernel
theorem dX5_join_97 : decode cX5_join 97 = .ok (.bipush (-2), 2) := by decide +kernel
theorem dX5_join_99 : decode cX5_join 99 = .ok (.ireturn, 1) := by decide +kernel
theorem dX5_join_100 : decode cX5_join 100 = .ok (.iload 6, 2) := by decide +kernel
theorem dX5_join_102 : decode cX5_join 102 = .ok (.ifCond .eq 26, 3) := by decide +kernel
theorem dX5_join_105 : decode cX5_join 105 = .ok (.aload 7, 2) := by decide +kernel
theorem dX5_join_107 : decode cX5_join 107 = .ok (.iload 4, 2) := by decide +kernel
theorem dX5_join_109 : decode cX5_join 109 = .ok (.invokevirtual 144, 3) := by decide +kernel
theorem dX5_join_112 : decode cX5_join 112 = .ok (.ifCond .eq 13, 3) := by decide +kernel
theorem dX5_join_115 : decode cX5_join 115 = .ok (.aload 8, 2) := by decide +kernel
theorem dX5_join_117 : decode cX5_join 117 = .ok (.iload 5, 2) := by decide +kernel
theorem dX5_join_119 : decode cX5_join 119 = .ok (.invokevirtual 144, 3) := by decide +kernel
theorem dX5_join_122 : decode cX5_join 122 = .ok (.ifCond .ne 6, 3) := by decide +kernel
theorem dX5_join_125 : decode cX5_join 125 = .ok (.bipush (-3), 2) := by decide +kernel
theorem dX5_join_127 : decode cX5_join 127 = .ok (.ireturn, 1) := by decide +kernel
theorem dX5_join_128 : decode cX5_join 128 = .ok (.aload_n 0, 1) := by decide +kernel
theorem dX5_join_129 : decode cX5_join 129 = .ok (.getfield 29, 3) := by decide +kernel
theorem dX5_join_132 : decode cX5_join 132 = .ok (.aload 7, 2) := by decide +kernel
theorem dX5_join_134 : decode cX5_join 134 = .ok (.aload 8, 2) := by decide +kernel
theorem dX5_join_136 : decode cX5_join 136 = .ok (.iload_n 3, 1) := by decide +kernel
theorem dX5_join_137 : decode cX5_join 137 = .ok (.iload 4, 2) := by decide +kernel
theorem dX5_join_139 : decode cX5_join 139 = .ok (.iload 5, 2) := by decide +kernel
theorem dX5_join_141 : decode cX5_join 141 = .ok (.ldc 148, 2) := by decide +kernel
theorem dX5_join_143 : decode cX5_join 143 = .ok (.invokevirtual 149, 3) := by decide +kernel
theorem dX5_join_146 : decode cX5_join 146 = .ok (.istore 9, 2) := by decide +kernel
theorem dX5_join_148 : decode cX5_join 148 = .ok (.iload 9, 2) := by decide +kernel
theorem dX5_join_150 : decode cX5_join 150 = .ok (.ldc 148, 2) := by decide +kernel
theorem dX5_join_152 : decode cX5_join 152 = .ok (.if_icmp .ne 6, 3) := by decide +kernel
theorem dX5_join_155 : decode cX5_join 155 = .ok (.bipush (-4), 2) := by decide +kernel
theorem dX5_join_157 : decode cX5_join 157 = .ok (.ireturn, 1) := by decide +kernel
theorem dX5_join_158 : decode cX5_join 158 = .ok (.aload_n 0, 1) := by decide +kernel
theorem dX5_join_159 : decode cX5_join 159 = .ok (.getfield 36, 3) := by decide +kernel
theorem dX5_join_162 : decode cX5_join 162 = .ok (.aload 7, 2) := by decide +kernel
theorem dX5_join_164 : decode cX5_join 164 = .ok (.aload 8, 2) := by decide +kernel
theorem dX5_join_166 : decode cX5_join 166 = .ok (.iload_n 3, 1) := by decide +kernel
theorem dX5_join_167 : decode cX5_join 167 = .ok (.iload 4, 2) := by decide +kernel
theorem dX5_join_169 : decode cX5_join 169 = .ok (.iload 5, 2) := by decide +kernel
theorem dX5_join_171 : decode cX5_join 171 = .ok (.invokevirtual 153, 3) := by decide +kernel
theorem dX5_join_174 : decode cX5_join 174 = .ok (.iload 9, 2) := by decide +kernel
theorem dX5_join_176 : decode cX5_join 176 = .ok (.aload_n 0, 1) := by decide +kernel
theorem dX5_join_177 : decode cX5_join 177 = .ok (.getfield 29, 3) := by decide +kernel
theorem dX5_join_180 : decode cX5_join 180 = .ok (.aload 7, 2) := by decide +kernel
theorem dX5_join_182 : decode cX5_join 182 = .ok (.aload 8, 2) := by decide +kernel
theorem dX5_join_184 : decode cX5_join 184 = .ok (.invokevirtual 157, 3) := by decide +kernel
theorem dX5_join_187 : decode cX5_join 187 = .ok (.iadd, 1) := by decide +kernel
theorem dX5_join_188 : decode cX5_join 188 = .ok (.ireturn, 1) := by decide +kernel
set_option maxRecDepth 20000 in
theorem ggX5_meets_X1_tell : GoodIn wsX5_meets wsX1_tell := goodIn_r _ [6, 7, 8, 9, 10, 11, 12, 13, 20, 21, 22, 23] (by decide +kernel) (by decide +kernel)
set_option maxRecDepth 20000 in
theorem gX5_meets_X1_tell : GoodIn wsX5_meets (wsV RX5 161 RX1 yX1_tell wsX1_tell) := goodIn_app (goodIn_of _ (by decide +kernel)) ggX5_meets_X1_tell
theorem dX5_meets_0 : decode cX5_meets 0 = .ok (.aload_n 0, 1) := by decide +kernel
theorem dX5_meets_1 : decode cX5_meets 1 = .ok (.getfield 36, 3) := by decide +kernel
theorem dX5_meets_4 : decode cX5_meets 4 = .ok (.iload_n 1, 1) := by decide +kernel
theorem dX5_meets_5 : decode cX5_meets 5 = .ok (.iload_n 2, 1) := by decide +kernel
theorem dX5_meets_6 : decode cX5_meets 6 = .ok (.invokevirtual 161, 3) := by decide +kernel
theorem dX5_meets_9 : decode cX5_meets 9 = .ok (.ireturn, 1) := by decide +kernel
set_option maxRecDepth 20000 in
theorem ggX5_best_X5_songAt : GoodIn wsX5_best wsX5_songAt := goodIn_r _ [10, 11, 12, 13, 9, 14, 92, 93, 94, 95, 96, 97] (by decide +kernel) (by decide +kernel)
set_option maxRecDepth 20000 in
theorem gX5_best_X5_songAt : GoodIn wsX5_best (wsV RX5 62 RX5 yX5_songAt wsX5_songAt) := goodIn_app (goodIn_of _ (by decide +kernel)) ggX5_best_X5_songAt
set_option maxRecDepth 20000 in
theorem ggX5_best_X5_within : GoodIn wsX5_best wsX5_within := goodIn_r _ [14] (by decide +kernel) (by decide +kernel)
set_option maxRecDepth 20000 in
theorem gX5_best_X5_within : GoodIn wsX5_best (va_wsS RX5 47 yX5_within wsX5_within) := goodIn_app (goodIn_of _ (by decide +kernel)) ggX5_best_X5_within
set_option maxRecDepth 20000 in
theorem ggX5_best_X0_slotOf : GoodIn wsX5_best wsX0_slotOf := goodIn_r _ [19, 20, 21, 22, 23, 18, 24, 25, 26, 27, 28, 29, 30, 31, 32, 33, 34, 35, 36, 37, 38, 39, 40, 41, 42, 43, 44, 45, 46, 47, 48, 49, 50, 51, 52, 53, 54, 55, 56, 57, 58, 59, 60, 61, 62, 63, 64, 65, 66, 67, 68, 69, 9, 70, 71, 72, 73, 74, 75, 76, 77, 78, 79, 80, 81, 82, 83, 84, 85, 86, 87, 88, 89, 90, 91, 106, 107, 108, 109, 110, 111, 112, 113, 114, 115, 116, 117, 118, 119, 120, 121, 122, 123, 124, 98, 99, 100, 101, 102, 103, 104, 105] (by decide +kernel) (by decide +kernel)
set_option maxRecDepth 20000 in
theorem gX5_best_X0_slotOf : GoodIn wsX5_best (wsV RX5 165 RX0 yX0_slotOf wsX0_slotOf) := goodIn_app (goodIn_of _ (by decide +kernel)) ggX5_best_X0_slotOf
theorem dX5_best_0 : decode cX5_best 0 = .ok (.aload_n 0, 1) := by decide +kernel
theorem dX5_best_1 : decode cX5_best 1 = .ok (.iload_n 1, 1) := by decide +kernel
theorem dX5_best_2 : decode cX5_best 2 = .ok (.invokevirtual 62, 3) := by decide +kernel
theorem dX5_best_5 : decode cX5_best 5 = .ok (.astore 5, 2) := by decide +kernel
theorem dX5_best_7 : decode cX5_best 7 = .ok (.aload_n 0, 1) := by decide +kernel
theorem dX5_best_8 : decode cX5_best 8 = .ok (.iload_n 2, 1) := by decide +kernel
theorem dX5_best_9 : decode cX5_best 9 = .ok (.invokevirtual 62, 3) := by decide +kernel
theorem dX5_best_12 : decode cX5_best 12 = .ok (.astore 6, 2) := by decide +kernel
theorem dX5_best_14 : decode cX5_best 14 = .ok (.aload 5, 2) := by decide +kernel
theorem dX5_best_16 : decode cX5_best 16 = .ok (.ifnull 23, 3) := by decide +kernel
theorem dX5_best_19 : decode cX5_best 19 = .ok (.aload 6, 2) := by decide +kernel
theorem dX5_best_21 : decode cX5_best 21 = .ok (.ifnull 18, 3) := by decide +kernel
theorem dX5_best_24 : decode cX5_best 24 = .ok (.iload_n 1, 1) := by decide +kernel
theorem dX5_best_25 : decode cX5_best 25 = .ok (.iload_n 2, 1) := by decide +kernel
theorem dX5_best_26 : decode cX5_best 26 = .ok (.if_icmp .eq 13, 3) := by decide +kernel
theorem dX5_best_29 : decode cX5_best 29 = .ok (.iload_n 3, 1) := by decide +kernel
theorem dX5_best_30 : decode cX5_best 30 = .ok (.iconst 1, 1) := by decide +kernel
theorem dX5_best_31 : decode cX5_best 31 = .ok (.bipush 8, 2) := by decide +kernel
theorem dX5_best_33 : decode cX5_best 33 = .ok (.invokestatic 47, 3) := by decide +kernel
theorem dX5_best_36 : decode cX5_best 36 = .ok (.ifCond .ne 5, 3) := by decide +kernel
theorem dX5_best_39 : decode cX5_best 39 = .ok (.iconst (-1), 1) := by decide +kernel
theorem dX5_best_40 : decode cX5_best 40 = .ok (.ireturn, 1) := by decide +kernel
theorem dX5_best_41 : decode cX5_best 41 = .ok (.aload_n 0, 1) := by decide +kernel
theorem dX5_best_42 : decode cX5_best 42 = .ok (.getfield 29, 3) := by decide +kernel
theorem dX5_best_45 : decode cX5_best 45 = .ok (.aload 5, 2) := by decide +kernel
theorem dX5_best_47 : decode cX5_best 47 = .ok (.aload 6, 2) := by decide +kernel
theorem dX5_best_49 : decode cX5_best 49 = .ok (.iload_n 3, 1) := by decide +kernel
theorem dX5_best_50 : decode cX5_best 50 = .ok (.invokevirtual 165, 3) := by decide +kernel
theorem dX5_best_53 : decode cX5_best 53 = .ok (.istore 7, 2) := by decide +kernel
theorem dX5_best_55 : decode cX5_best 55 = .ok (.aload_n 0, 1) := by decide +kernel
theorem dX5_best_56 : decode cX5_best 56 = .ok (.getfield 29, 3) := by decide +kernel
theorem dX5_best_59 : decode cX5_best 59 = .ok (.getfield 169, 3) := by decide +kernel
theorem dX5_best_62 : decode cX5_best 62 = .ok (.iload 7, 2) := by decide +kernel
theorem dX5_best_64 : decode cX5_best 64 = .ok (.iaload, 1) := by decide +kernel
theorem dX5_best_65 : decode cX5_best 65 = .ok (.ldc 148, 2) := by decide +kernel
theorem dX5_best_67 : decode cX5_best 67 = .ok (.if_icmp .ne 5, 3) := by decide +kernel
theorem dX5_best_70 : decode cX5_best 70 = .ok (.iconst (-1), 1) := by decide +kernel
theorem dX5_best_71 : decode cX5_best 71 = .ok (.ireturn, 1) := by decide +kernel
theorem dX5_best_72 : decode cX5_best 72 = .ok (.iload 4, 2) := by decide +kernel
theorem dX5_best_74 : decode cX5_best 74 = .ok (.tableswitch 59 0 2 #[26, 37, 48], 26) := by decide +kernel
theorem dX5_best_100 : decode cX5_best 100 = .ok (.aload_n 0, 1) := by decide +kernel
theorem dX5_best_101 : decode cX5_best 101 = .ok (.getfield 29, 3) := by decide +kernel
theorem dX5_best_104 : decode cX5_best 104 = .ok (.getfield 169, 3) := by decide +kernel
theorem dX5_best_107 : decode cX5_best 107 = .ok (.iload 7, 2) := by decide +kernel
theorem dX5_best_109 : decode cX5_best 109 = .ok (.iaload, 1) := by decide +kernel
theorem dX5_best_110 : decode cX5_best 110 = .ok (.ireturn, 1) := by decide +kernel
theorem dX5_best_111 : decode cX5_best 111 = .ok (.aload_n 0, 1) := by decide +kernel
theorem dX5_best_112 : decode cX5_best 112 = .ok (.getfield 29, 3) := by decide +kernel
theorem dX5_best_115 : decode cX5_best 115 = .ok (.getfield 172, 3) := by decide +kernel
theorem dX5_best_118 : decode cX5_best 118 = .ok (.iload 7, 2) := by decide +kernel
theorem dX5_best_120 : decode cX5_best 120 = .ok (.iaload, 1) := by decide +kernel
theorem dX5_best_121 : decode cX5_best 121 = .ok (.ireturn, 1) := by decide +kernel
theorem dX5_best_122 : decode cX5_best 122 = .ok (.aload_n 0, 1) := by decide +kernel
theorem dX5_best_123 : decode cX5_best 123 = .ok (.getfield 29, 3) := by decide +kernel
theorem dX5_best_126 : decode cX5_best 126 = .ok (.getfield 175, 3) := by decide +kernel
theorem dX5_best_129 : decode cX5_best 129 = .ok (.iload 7, 2) := by decide +kernel
theorem dX5_best_131 : decode cX5_best 131 = .ok (.iaload, 1) := by decide +kernel
theorem dX5_best_132 : decode cX5_best 132 = .ok (.ireturn, 1) := by decide +kernel
theorem dX5_best_133 : decode cX5_best 133 = .ok (.iconst (-1), 1) := by decide +kernel
theorem dX5_best_134 : decode cX5_best 134 = .ok (.ireturn, 1) := by decide +kernel
set_option maxRecDepth 20000 in
theorem ggX5_must_X5_songAt : GoodIn wsX5_must wsX5_songAt := goodIn_r _ [6, 7, 8, 9, 5, 10, 11, 12, 13, 14, 15, 16] (by decide +kernel) (by decide +kernel)
set_option maxRecDepth 20000 in
theorem gX5_must_X5_songAt : GoodIn wsX5_must (wsV RX5 62 RX5 yX5_songAt wsX5_songAt) := goodIn_app (goodIn_of _ (by decide +kernel)) ggX5_must_X5_songAt
set_option maxRecDepth 20000 in
theorem ggX5_must_X5_within : GoodIn wsX5_must wsX5_within := goodIn_r _ [10] (by decide +kernel) (by decide +kernel)
set_option maxRecDepth 20000 in
theorem gX5_must_X5_within : GoodIn wsX5_must (va_wsS RX5 47 yX5_within wsX5_within) := goodIn_app (goodIn_of _ (by decide +kernel)) ggX5_must_X5_within
theorem dX5_must_0 : decode cX5_must 0 = .ok (.aload_n 0, 1) := by decide +kernel
theorem dX5_must_1 : decode cX5_must 1 = .ok (.iload_n 1, 1) := by decide +kernel
theorem dX5_must_2 : decode cX5_must 2 = .ok (.invokevirtual 62, 3) := by decide +kernel
theorem dX5_must_5 : decode cX5_must 5 = .ok (.ifnull 25, 3) := by decide +kernel
theorem dX5_must_8 : decode cX5_must 8 = .ok (.aload_n 0, 1) := by decide +kernel
theorem dX5_must_9 : decode cX5_must 9 = .ok (.iload_n 2, 1) := by decide +kernel
theorem dX5_must_10 : decode cX5_must 10 = .ok (.invokevirtual 62, 3) := by decide +kernel
theorem dX5_must_13 : decode cX5_must 13 = .ok (.ifnull 17, 3) := by decide +kernel
theorem dX5_must_16 : decode cX5_must 16 = .ok (.iload_n 1, 1) := by decide +kernel
theorem dX5_must_17 : decode cX5_must 17 = .ok (.iload_n 2, 1) := by decide +kernel
theorem dX5_must_18 : decode cX5_must 18 = .ok (.if_icmp .eq 12, 3) := by decide +kernel
theorem dX5_must_21 : decode cX5_must 21 = .ok (.iload_n 3, 1) := by decide +kernel
theorem dX5_must_22 : decode cX5_must 22 = .ok (.iconst 0, 1) := by decide +kernel
theorem dX5_must_23 : decode cX5_must 23 = .ok (.iconst 2, 1) := by decide +kernel
theorem dX5_must_24 : decode cX5_must 24 = .ok (.invokestatic 47, 3) := by decide +kernel
theorem dX5_must_27 : decode cX5_must 27 = .ok (.ifCond .ne 5, 3) := by decide +kernel
theorem dX5_must_30 : decode cX5_must 30 = .ok (.iconst 0, 1) := by decide +kernel
theorem dX5_must_31 : decode cX5_must 31 = .ok (.ireturn, 1) := by decide +kernel
theorem dX5_must_32 : decode cX5_must 32 = .ok (.aload_n 0, 1) := by decide +kernel
theorem dX5_must_33 : decode cX5_must 33 = .ok (.getfield 15, 3) := by decide +kernel
theorem dX5_must_36 : decode cX5_must 36 = .ok (.iload_n 1, 1) := by decide +kernel
theorem dX5_must_37 : decode cX5_must 37 = .ok (.bipush 12, 2) := by decide +kernel
theorem dX5_must_39 : decode cX5_must 39 = .ok (.imul, 1) := by decide +kernel
theorem dX5_must_40 : decode cX5_must 40 = .ok (.iload_n 2, 1) := by decide +kernel
theorem dX5_must_41 : decode cX5_must 41 = .ok (.iadd, 1) := by decide +kernel
theorem dX5_must_42 : decode cX5_must 42 = .ok (.iload_n 3, 1) := by decide +kernel
theorem dX5_must_43 : decode cX5_must 43 = .ok (.iastore, 1) := by decide +kernel
theorem dX5_must_44 : decode cX5_must 44 = .ok (.iconst 1, 1) := by decide +kernel
theorem dX5_must_45 : decode cX5_must 45 = .ok (.ireturn, 1) := by decide +kernel
set_option maxRecDepth 20000 in
theorem ggX5_night_X5_within : GoodIn wsX5_night wsX5_within := goodIn_r _ [8] (by decide +kernel) (by decide +kernel)
set_option maxRecDepth 20000 in
theorem gX5_night_X5_within : GoodIn wsX5_night (va_wsS RX5 47 yX5_within wsX5_within) := goodIn_app (goodIn_of _ (by decide +kernel)) ggX5_night_X5_within
set_option maxRecDepth 20000 in
theorem ggX5_night_X2_gather : GoodIn wsX5_night wsX2_gather := goodIn_r _ [13, 14, 15, 152, 153, 154, 155, 156, 157, 158, 159] (by decide +kernel) (by decide +kernel)
set_option maxRecDepth 20000 in
theorem gX5_night_X2_gather : GoodIn wsX5_night (wsV RX5 178 RX2 yX2_gather wsX2_gather) := goodIn_app (goodIn_of _ (by decide +kernel)) ggX5_night_X2_gather
set_option maxRecDepth 20000 in
theorem ggX5_night_X5_weighSteps : GoodIn wsX5_night wsX5_weighSteps := goodIn_r _ [19, 1, 20, 21, 22, 3, 23, 24, 25, 26, 27, 28, 29, 7, 30, 31, 32, 33, 34, 35, 36, 37, 38, 39, 40, 41, 42, 43, 44, 45, 46, 47, 48, 49, 50, 51, 52, 53, 54, 55, 56, 57, 58, 59, 60, 61, 62, 63, 64, 65, 66, 67, 68, 69, 70, 71, 72, 73, 74, 75, 76, 77, 78, 79, 80, 81, 82, 83, 84, 85, 86, 87, 88, 89, 90, 91, 92, 93, 94, 95, 96, 97, 98, 99, 100, 101, 102, 103, 104, 105, 106, 107, 108, 109, 110, 111, 112, 146, 147, 148, 149, 150, 151, 152, 153, 154, 155, 156, 157, 158, 159, 160, 161, 162, 163, 164, 165, 166, 167, 168, 169, 170, 171, 172, 173, 174, 175, 176, 177, 178, 179, 180, 181, 182, 183, 184, 185, 186] (by decide +kernel) (by decide +kernel)
set_option maxRecDepth 20000 in
theorem gX5_night_X5_weighSteps : GoodIn wsX5_night (wsV RX5 185 RX5 yX5_weighSteps wsX5_weighSteps) := goodIn_app (goodIn_of _ (by decide +kernel)) ggX5_night_X5_weighSteps
set_option maxRecDepth 20000 in
theorem ggX5_night_X2_seekOrder : GoodIn wsX5_night wsX2_seekOrder := goodIn_r _ [116, 14, 117, 118, 119, 120, 121, 122, 12, 123, 124, 125, 126, 127, 128, 129, 130, 131, 132, 133, 134, 135, 136, 137, 138, 139, 140, 141, 142, 143, 15, 144, 145, 152, 153, 154, 155, 156, 157, 158, 159, 160, 161, 162, 163, 164, 165, 166, 167, 168, 169, 170, 171, 172, 173, 174, 175, 176, 177, 178] (by decide +kernel) (by decide +kernel)
set_option maxRecDepth 20000 in
theorem gX5_night_X2_seekOrder : GoodIn wsX5_night (wsV RX5 188 RX2 yX2_seekOrder wsX2_seekOrder) := goodIn_app (goodIn_of _ (by decide +kernel)) ggX5_night_X2_seekOrder
theorem dX5_night_0 : decode cX5_night 0 = .ok (.iload_n 1, 1) := by decide +kernel
theorem dX5_night_1 : decode cX5_night 1 = .ok (.iconst 1, 1) := by decide +kernel
theorem dX5_night_2 : decode cX5_night 2 = .ok (.bipush 8, 2) := by decide +kernel
theorem dX5_night_4 : decode cX5_night 4 = .ok (.invokestatic 47, 3) := by decide +kernel
theorem dX5_night_7 : decode cX5_night 7 = .ok (.ifCond .ne 5, 3) := by decide +kernel
theorem dX5_night_10 : decode cX5_night 10 = .ok (.iconst (-1), 1) := by decide +kernel
theorem dX5_night_11 : decode cX5_night 11 = .ok (.ireturn, 1) := by decide +kernel
theorem dX5_night_12 : decode cX5_night 12 = .ok (.aload_n 0, 1) := by decide +kernel
theorem dX5_night_13 : decode cX5_night 13 = .ok (.getfield 43, 3) := by decide +kernel
theorem dX5_night_16 : decode cX5_night 16 = .ok (.aload_n 0, 1) := by decide +kernel
theorem dX5_night_17 : decode cX5_night 17 = .ok (.getfield 11, 3) := by decide +kernel
theorem dX5_night_20 : decode cX5_night 20 = .ok (.invokevirtual 178, 3) := by decide +kernel
theorem dX5_night_23 : decode cX5_night 23 = .ok (.aload_n 0, 1) := by decide +kernel
theorem dX5_night_24 : decode cX5_night 24 = .ok (.getfield 43, 3) := by decide +kernel
theorem dX5_night_27 : decode cX5_night 27 = .ok (.getfield 182, 3) := by decide +kernel
theorem dX5_night_30 : decode cX5_night 30 = .ok (.ifCond .ne 5, 3) := by decide +kernel
theorem dX5_night_33 : decode cX5_night 33 = .ok (.iconst (-1), 1) := by decide +kernel
theorem dX5_night_34 : decode cX5_night 34 = .ok (.ireturn, 1) := by decide +kernel
theorem dX5_night_35 : decode cX5_night 35 = .ok (.iconst 0, 1) := by decide +kernel
theorem dX5_night_36 : decode cX5_night 36 = .ok (.istore_n 2, 1) := by decide +kernel
theorem dX5_night_37 : decode cX5_night 37 = .ok (.iload_n 2, 1) := by decide +kernel
theorem dX5_night_38 : decode cX5_night 38 = .ok (.aload_n 0, 1) := by decide +kernel
theorem dX5_night_39 : decode cX5_night 39 = .ok (.getfield 43, 3) := by decide +kernel
theorem dX5_night_42 : decode cX5_night 42 = .ok (.getfield 182, 3) := by decide +kernel
theorem dX5_night_45 : decode cX5_night 45 = .ok (.if_icmp .ge 15, 3) := by decide +kernel
theorem dX5_night_48 : decode cX5_night 48 = .ok (.aload_n 0, 1) := by decide +kernel
theorem dX5_night_49 : decode cX5_night 49 = .ok (.iload_n 2, 1) := by decide +kernel
theorem dX5_night_50 : decode cX5_night 50 = .ok (.iload_n 1, 1) := by decide +kernel
theorem dX5_night_51 : decode cX5_night 51 = .ok (.invokevirtual 185, 3) := by decide +kernel
theorem dX5_night_54 : decode cX5_night 54 = .ok (.iinc 2 1, 3) := by decide +kernel
theorem dX5_night_57 : decode cX5_night 57 = .ok (.goto (-20), 3) := by decide +kernel
theorem dX5_night_60 : decode cX5_night 60 = .ok (.aload_n 0, 1) := by decide +kernel
theorem dX5_night_61 : decode cX5_night 61 = .ok (.getfield 43, 3) := by decide +kernel
theorem dX5_night_64 : decode cX5_night 64 = .ok (.invokevirtual 188, 3) := by decide +kernel
theorem dX5_night_67 : decode cX5_night 67 = .ok (.ifCond .eq 13, 3) := by decide +kernel
theorem dX5_night_70 : decode cX5_night 70 = .ok (.aload_n 0, 1) := by decide +kernel
theorem dX5_night_71 : decode cX5_night 71 = .ok (.getfield 43, 3) := by decide +kernel
theorem dX5_night_74 : decode cX5_night 74 = .ok (.getfield 192, 3) := by decide +kernel
theorem dX5_night_77 : decode cX5_night 77 = .ok (.goto 5, 3) := by decide +kernel
theorem dX5_night_80 : decode cX5_night 80 = .ok (.bipush (-2), 2) := by decide +kernel
theorem dX5_night_82 : decode cX5_night 82 = .ok (.ireturn, 1) := by decide +kernel
set_option maxRecDepth 20000 in
theorem ggX5_order_X5_within : GoodIn wsX5_order wsX5_within := goodIn_r _ [7] (by decide +kernel) (by decide +kernel)
set_option maxRecDepth 20000 in
theorem gX5_order_X5_within : GoodIn wsX5_order (va_wsS RX5 47 yX5_within wsX5_within) := goodIn_app (goodIn_of _ (by decide +kernel)) ggX5_order_X5_within
theorem dX5_order_0 : decode cX5_order 0 = .ok (.iload_n 1, 1) := by decide +kernel
theorem dX5_order_1 : decode cX5_order 1 = .ok (.iconst 0, 1) := by decide +kernel
theorem dX5_order_2 : decode cX5_order 2 = .ok (.aload_n 0, 1) := by decide +kernel
theorem dX5_order_3 : decode cX5_order 3 = .ok (.getfield 43, 3) := by decide +kernel
theorem dX5_order_6 : decode cX5_order 6 = .ok (.getfield 195, 3) := by decide +kernel
theorem dX5_order_9 : decode cX5_order 9 = .ok (.iconst 1, 1) := by decide +kernel
theorem dX5_order_10 : decode cX5_order 10 = .ok (.isub, 1) := by decide +kernel
theorem dX5_order_11 : decode cX5_order 11 = .ok (.invokestatic 47, 3) := by decide +kernel
theorem dX5_order_14 : decode cX5_order 14 = .ok (.ifCond .eq 15, 3) := by decide +kernel
theorem dX5_order_17 : decode cX5_order 17 = .ok (.aload_n 0, 1) := by decide +kernel
theorem dX5_order_18 : decode cX5_order 18 = .ok (.getfield 43, 3) := by decide +kernel
theorem dX5_order_21 : decode cX5_order 21 = .ok (.getfield 198, 3) := by decide +kernel
theorem dX5_order_24 : decode cX5_order 24 = .ok (.iload_n 1, 1) := by decide +kernel
theorem dX5_order_25 : decode cX5_order 25 = .ok (.iaload, 1) := by decide +kernel
theorem dX5_order_26 : decode cX5_order 26 = .ok (.goto 4, 3) := by decide +kernel
theorem dX5_order_29 : decode cX5_order 29 = .ok (.iconst (-1), 1) := by decide +kernel
theorem dX5_order_30 : decode cX5_order 30 = .ok (.ireturn, 1) := by decide +kernel
set_option maxRecDepth 20000 in
theorem ggX5_mend_X5_within : GoodIn wsX5_mend wsX5_within := goodIn_r _ [12] (by decide +kernel) (by decide +kernel)
set_option maxRecDepth 20000 in
theorem gX5_mend_X5_within : GoodIn wsX5_mend (va_wsS RX5 47 yX5_within wsX5_within) := goodIn_app (goodIn_of _ (by decide +kernel)) ggX5_mend_X5_within
theorem dX5_mend_0 : decode cX5_mend 0 = .ok (.iload_n 1, 1) := by decide +kernel
theorem dX5_mend_1 : decode cX5_mend 1 = .ok (.ldc 201, 2) := by decide +kernel
theorem dX5_mend_3 : decode cX5_mend 3 = .ok (.ldc 202, 2) := by decide +kernel
theorem dX5_mend_5 : decode cX5_mend 5 = .ok (.invokestatic 47, 3) := by decide +kernel
theorem dX5_mend_8 : decode cX5_mend 8 = .ok (.ifCond .eq 15, 3) := by decide +kernel
theorem dX5_mend_11 : decode cX5_mend 11 = .ok (.iload_n 2, 1) := by decide +kernel
theorem dX5_mend_12 : decode cX5_mend 12 = .ok (.bipush 20, 2) := by decide +kernel
theorem dX5_mend_14 : decode cX5_mend 14 = .ok (.sipush 400, 3) := by decide +kernel
theorem dX5_mend_17 : decode cX5_mend 17 = .ok (.invokestatic 47, 3) := by decide +kernel
theorem dX5_mend_20 : decode cX5_mend 20 = .ok (.ifCond .ne 5, 3) := by decide +kernel
theorem dX5_mend_23 : decode cX5_mend 23 = .ok (.iconst (-1), 1) := by decide +kernel
theorem dX5_mend_24 : decode cX5_mend 24 = .ok (.ireturn, 1) := by decide +kernel
theorem dX5_mend_25 : decode cX5_mend 25 = .ok (.iload_n 1, 1) := by decide +kernel
theorem dX5_mend_26 : decode cX5_mend 26 = .ok (.ifCond .ne 5, 3) := by decide +kernel
theorem dX5_mend_29 : decode cX5_mend 29 = .ok (.iconst 0, 1) := by decide +kernel
theorem dX5_mend_30 : decode cX5_mend 30 = .ok (.ireturn, 1) := by decide +kernel
theorem dX5_mend_31 : decode cX5_mend 31 = .ok (.iconst 4, 1) := by decide +kernel
theorem dX5_mend_32 : decode cX5_mend 32 = .ok (.iload_n 2, 1) := by decide +kernel
theorem dX5_mend_33 : decode cX5_mend 33 = .ok (.aload_n 0, 1) := by decide +kernel
theorem dX5_mend_34 : decode cX5_mend 34 = .ok (.getfield 29, 3) := by decide +kernel
theorem dX5_mend_37 : decode cX5_mend 37 = .ok (.getfield 203, 3) := by decide +kernel
theorem dX5_mend_40 : decode cX5_mend 40 = .ok (.imul, 1) := by decide +kernel
theorem dX5_mend_41 : decode cX5_mend 41 = .ok (.sipush 1000, 3) := by decide +kernel
theorem dX5_mend_44 : decode cX5_mend 44 = .ok (.idiv, 1) := by decide +kernel
theorem dX5_mend_45 : decode cX5_mend 45 = .ok (.imul, 1) := by decide +kernel
theorem dX5_mend_46 : decode cX5_mend 46 = .ok (.istore_n 3, 1) := by decide +kernel
theorem dX5_mend_47 : decode cX5_mend 47 = .ok (.iload_n 3, 1) := by decide +kernel
theorem dX5_mend_48 : decode cX5_mend 48 = .ok (.ifCond .ne 7, 3) := by decide +kernel
theorem dX5_mend_51 : decode cX5_mend 51 = .ok (.iconst (-1), 1) := by decide +kernel
theorem dX5_mend_52 : decode cX5_mend 52 = .ok (.goto 13, 3) := by decide +kernel
theorem dX5_mend_55 : decode cX5_mend 55 = .ok (.iload_n 1, 1) := by decide +kernel
theorem dX5_mend_56 : decode cX5_mend 56 = .ok (.invokestatic 206, 3) := by decide +kernel
theorem dX5_mend_59 : decode cX5_mend 59 = .ok (.iload_n 3, 1) := by decide +kernel
theorem dX5_mend_60 : decode cX5_mend 60 = .ok (.iadd, 1) := by decide +kernel
theorem dX5_mend_61 : decode cX5_mend 61 = .ok (.iconst 1, 1) := by decide +kernel
theorem dX5_mend_62 : decode cX5_mend 62 = .ok (.isub, 1) := by decide +kernel
theorem dX5_mend_63 : decode cX5_mend 63 = .ok (.iload_n 3, 1) := by decide +kernel
theorem dX5_mend_64 : decode cX5_mend 64 = .ok (.idiv, 1) := by decide +kernel
theorem dX5_mend_65 : decode cX5_mend 65 = .ok (.ireturn, 1) := by decide +kernel
theorem dX5_within_0 : decode cX5_within 0 = .ok (.iload_n 0, 1) := by decide +kernel
theorem dX5_within_1 : decode cX5_within 1 = .ok (.iload_n 1, 1) := by decide +kernel
theorem dX5_within_2 : decode cX5_within 2 = .ok (.if_icmp .lt 12, 3) := by decide +kernel
theorem dX5_within_5 : decode cX5_within 5 = .ok (.iload_n 0, 1) := by decide +kernel
theorem dX5_within_6 : decode cX5_within 6 = .ok (.iload_n 2, 1) := by decide +kernel
theorem dX5_within_7 : decode cX5_within 7 = .ok (.if_icmp .gt 7, 3) := by decide +kernel
theorem dX5_within_10 : decode cX5_within 10 = .ok (.iconst 1, 1) := by decide +kernel
theorem dX5_within_11 : decode cX5_within 11 = .ok (.goto 4, 3) := by decide +kernel
theorem dX5_within_14 : decode cX5_within 14 = .ok (.iconst 0, 1) := by decide +kernel
theorem dX5_within_15 : decode cX5_within 15 = .ok (.ireturn, 1) := by decide +kernel
set_option maxRecDepth 20000 in
theorem ggX5_canBeSong_X5_within : GoodIn wsX5_canBeSong wsX5_within := goodIn_r _ [4] (by decide +kernel) (by decide +kernel)
set_option maxRecDepth 20000 in
theorem gX5_canBeSong_X5_within : GoodIn wsX5_canBeSong (va_wsS RX5 47 yX5_within wsX5_within) := goodIn_app (goodIn_of _ (by decide +kernel)) ggX5_canBeSong_X5_within
theorem dX5_canBeSong_0 : decode cX5_canBeSong 0 = .ok (.iload_n 1, 1) := by decide +kernel
theorem dX5_canBeSong_1 : decode cX5_canBeSong 1 = .ok (.iconst 2, 1) := by decide +kernel
theorem dX5_canBeSong_2 : decode cX5_canBeSong 2 = .ok (.bipush 64, 2) := by decide +kernel
theorem dX5_canBeSong_4 : decode cX5_canBeSong 4 = .ok (.invokestatic 47, 3) := by decide +kernel
theorem dX5_canBeSong_7 : decode cX5_canBeSong 7 = .ok (.ifCond .eq 15, 3) := by decide +kernel
theorem dX5_canBeSong_10 : decode cX5_canBeSong 10 = .ok (.iload_n 2, 1) := by decide +kernel
theorem dX5_canBeSong_11 : decode cX5_canBeSong 11 = .ok (.bipush 20, 2) := by decide +kernel
theorem dX5_canBeSong_13 : decode cX5_canBeSong 13 = .ok (.sipush 400, 3) := by decide +kernel
theorem dX5_canBeSong_16 : decode cX5_canBeSong 16 = .ok (.invokestatic 47, 3) := by decide +kernel
theorem dX5_canBeSong_19 : decode cX5_canBeSong 19 = .ok (.ifCond .ne 5, 3) := by decide +kernel
theorem dX5_canBeSong_22 : decode cX5_canBeSong 22 = .ok (.iconst 0, 1) := by decide +kernel
theorem dX5_canBeSong_23 : decode cX5_canBeSong 23 = .ok (.ireturn, 1) := by decide +kernel
theorem dX5_canBeSong_24 : decode cX5_canBeSong 24 = .ok (.iload_n 0, 1) := by decide +kernel
theorem dX5_canBeSong_25 : decode cX5_canBeSong 25 = .ok (.tableswitch 48 0 2 #[27, 29, 39], 27) := by decide +kernel
theorem dX5_canBeSong_52 : decode cX5_canBeSong 52 = .ok (.iconst 1, 1) := by decide +kernel
theorem dX5_canBeSong_53 : decode cX5_canBeSong 53 = .ok (.ireturn, 1) := by decide +kernel
theorem dX5_canBeSong_54 : decode cX5_canBeSong 54 = .ok (.iload_n 3, 1) := by decide +kernel
theorem dX5_canBeSong_55 : decode cX5_canBeSong 55 = .ok (.iconst 0, 1) := by decide +kernel
theorem dX5_canBeSong_56 : decode cX5_canBeSong 56 = .ok (.iload_n 2, 1) := by decide +kernel
theorem dX5_canBeSong_57 : decode cX5_canBeSong 57 = .ok (.bipush 10, 2) := by decide +kernel
theorem dX5_canBeSong_59 : decode cX5_canBeSong 59 = .ok (.isub, 1) := by decide +kernel
theorem dX5_canBeSong_60 : decode cX5_canBeSong 60 = .ok (.invokestatic 47, 3) := by decide +kernel
theorem dX5_canBeSong_63 : decode cX5_canBeSong 63 = .ok (.ireturn, 1) := by decide +kernel
theorem dX5_canBeSong_64 : decode cX5_canBeSong 64 = .ok (.iload_n 3, 1) := by decide +kernel
theorem dX5_canBeSong_65 : decode cX5_canBeSong 65 = .ok (.bipush (-20), 2) := by decide +kernel
theorem dX5_canBeSong_67 : decode cX5_canBeSong 67 = .ok (.bipush 20, 2) := by decide +kernel
theorem dX5_canBeSong_69 : decode cX5_canBeSong 69 = .ok (.invokestatic 47, 3) := by decide +kernel
theorem dX5_canBeSong_72 : decode cX5_canBeSong 72 = .ok (.ireturn, 1) := by decide +kernel
theorem dX5_canBeSong_73 : decode cX5_canBeSong 73 = .ok (.iconst 0, 1) := by decide +kernel
theorem dX5_canBeSong_74 : decode cX5_canBeSong 74 = .ok (.ireturn, 1) := by decide +kernel
set_option maxRecDepth 20000 in
theorem ggX5_songAt_X5_within : GoodIn wsX5_songAt wsX5_within := goodIn_r _ [5] (by decide +kernel) (by decide +kernel)
set_option maxRecDepth 20000 in
theorem gX5_songAt_X5_within : GoodIn wsX5_songAt (va_wsS RX5 47 yX5_within wsX5_within) := goodIn_app (goodIn_of _ (by decide +kernel)) ggX5_songAt_X5_within
theorem dX5_songAt_0 : decode cX5_songAt 0 = .ok (.iload_n 1, 1) := by decide +kernel
theorem dX5_songAt_1 : decode cX5_songAt 1 = .ok (.iconst 0, 1) := by decide +kernel
theorem dX5_songAt_2 : decode cX5_songAt 2 = .ok (.bipush 11, 2) := by decide +kernel
theorem dX5_songAt_4 : decode cX5_songAt 4 = .ok (.invokestatic 47, 3) := by decide +kernel
theorem dX5_songAt_7 : decode cX5_songAt 7 = .ok (.ifCond .eq 12, 3) := by decide +kernel
theorem dX5_songAt_10 : decode cX5_songAt 10 = .ok (.aload_n 0, 1) := by decide +kernel
theorem dX5_songAt_11 : decode cX5_songAt 11 = .ok (.getfield 11, 3) := by decide +kernel
theorem dX5_songAt_14 : decode cX5_songAt 14 = .ok (.iload_n 1, 1) := by decide +kernel
theorem dX5_songAt_15 : decode cX5_songAt 15 = .ok (.aaload, 1) := by decide +kernel
theorem dX5_songAt_16 : decode cX5_songAt 16 = .ok (.goto 4, 3) := by decide +kernel
theorem dX5_songAt_19 : decode cX5_songAt 19 = .ok (.aconst_null, 1) := by decide +kernel
theorem dX5_songAt_20 : decode cX5_songAt 20 = .ok (.areturn, 1) := by decide +kernel
set_option maxRecDepth 20000 in
theorem ggX5_forgetSong_X0_forgetJoinsOf : GoodIn wsX5_forgetSong wsX0_forgetJoinsOf := goodIn_r _ [7, 8, 9, 10, 6, 11, 18, 19, 20, 21, 22, 23, 24, 25] (by decide +kernel) (by decide +kernel)
set_option maxRecDepth 20000 in
theorem gX5_forgetSong_X0_forgetJoinsOf : GoodIn wsX5_forgetSong (wsV RX5 76 RX0 yX0_forgetJoinsOf wsX0_forgetJoinsOf) := goodIn_app (goodIn_of _ (by decide +kernel)) ggX5_forgetSong_X0_forgetJoinsOf
theorem dX5_forgetSong_0 : decode cX5_forgetSong 0 = .ok (.iconst 0, 1) := by decide +kernel
theorem dX5_forgetSong_1 : decode cX5_forgetSong 1 = .ok (.istore_n 2, 1) := by decide +kernel
theorem dX5_forgetSong_2 : decode cX5_forgetSong 2 = .ok (.iload_n 2, 1) := by decide +kernel
theorem dX5_forgetSong_3 : decode cX5_forgetSong 3 = .ok (.bipush 12, 2) := by decide +kernel
theorem dX5_forgetSong_5 : decode cX5_forgetSong 5 = .ok (.if_icmp .ge 33, 3) := by decide +kernel
theorem dX5_forgetSong_8 : decode cX5_forgetSong 8 = .ok (.aload_n 0, 1) := by decide +kernel
theorem dX5_forgetSong_9 : decode cX5_forgetSong 9 = .ok (.getfield 15, 3) := by decide +kernel
theorem dX5_forgetSong_12 : decode cX5_forgetSong 12 = .ok (.iload_n 1, 1) := by decide +kernel
theorem dX5_forgetSong_13 : decode cX5_forgetSong 13 = .ok (.bipush 12, 2) := by decide +kernel
theorem dX5_forgetSong_15 : decode cX5_forgetSong 15 = .ok (.imul, 1) := by decide +kernel
theorem dX5_forgetSong_16 : decode cX5_forgetSong 16 = .ok (.iload_n 2, 1) := by decide +kernel
theorem dX5_forgetSong_17 : decode cX5_forgetSong 17 = .ok (.iadd, 1) := by decide +kernel
theorem dX5_forgetSong_18 : decode cX5_forgetSong 18 = .ok (.iconst 0, 1) := by decide +kernel
theorem dX5_forgetSong_19 : decode cX5_forgetSong 19 = .ok (.iastore, 1) := by decide +kernel
theorem dX5_forgetSong_20 : decode cX5_forgetSong 20 = .ok (.aload_n 0, 1) := by decide +kernel
theorem dX5_forgetSong_21 : decode cX5_forgetSong 21 = .ok (.getfield 15, 3) := by decide +kernel
theorem dX5_forgetSong_24 : decode cX5_forgetSong 24 = .ok (.iload_n 2, 1) := by decide +kernel
theorem dX5_forgetSong_25 : decode cX5_forgetSong 25 = .ok (.bipush 12, 2) := by decide +kernel
theorem dX5_forgetSong_27 : decode cX5_forgetSong 27 = .ok (.imul, 1) := by decide +kernel
theorem dX5_forgetSong_28 : decode cX5_forgetSong 28 = .ok (.iload_n 1, 1) := by decide +kernel
theorem dX5_forgetSong_29 : decode cX5_forgetSong 29 = .ok (.iadd, 1) := by decide +kernel
theorem dX5_forgetSong_30 : decode cX5_forgetSong 30 = .ok (.iconst 0, 1) := by decide +kernel
theorem dX5_forgetSong_31 : decode cX5_forgetSong 31 = .ok (.iastore, 1) := by decide +kernel
theorem dX5_forgetSong_32 : decode cX5_forgetSong 32 = .ok (.iinc 2 1, 3) := by decide +kernel
theorem dX5_forgetSong_35 : decode cX5_forgetSong 35 = .ok (.goto (-33), 3) := by decide +kernel
theorem dX5_forgetSong_38 : decode cX5_forgetSong 38 = .ok (.aload_n 0, 1) := by decide +kernel
theorem dX5_forgetSong_39 : decode cX5_forgetSong 39 = .ok (.getfield 29, 3) := by decide +kernel
theorem dX5_forgetSong_42 : decode cX5_forgetSong 42 = .ok (.iload_n 1, 1) := by decide +kernel
theorem dX5_forgetSong_43 : decode cX5_forgetSong 43 = .ok (.invokevirtual 76, 3) := by decide +kernel
theorem dX5_forgetSong_46 : decode cX5_forgetSong 46 = .ok (.return_, 1) := by decide +kernel
set_option maxRecDepth 20000 in
theorem ggX5_weighSteps_X5_mustsInto : GoodIn wsX5_weighSteps wsX5_mustsInto := goodIn_r _ [14, 15, 97, 98, 99, 100, 101, 102] (by decide +kernel) (by decide +kernel)
set_option maxRecDepth 20000 in
theorem gX5_weighSteps_X5_mustsInto : GoodIn wsX5_weighSteps (wsV RX5 219 RX5 yX5_mustsInto wsX5_mustsInto) := goodIn_app (goodIn_of _ (by decide +kernel)) ggX5_weighSteps_X5_mustsInto
set_option maxRecDepth 20000 in
theorem ggX5_weighSteps_X5_wishAllows : GoodIn wsX5_weighSteps wsX5_wishAllows := goodIn_r _ [19, 15, 10, 11, 12, 13, 14, 97, 98, 99, 100, 101, 102] (by decide +kernel) (by decide +kernel)
set_option maxRecDepth 20000 in
theorem gX5_weighSteps_X5_wishAllows : GoodIn wsX5_weighSteps (wsV RX5 222 RX5 yX5_wishAllows wsX5_wishAllows) := goodIn_app (goodIn_of _ (by decide +kernel)) ggX5_weighSteps_X5_wishAllows
set_option maxRecDepth 20000 in
theorem ggX5_weighSteps_X0_slotOf : GoodIn wsX5_weighSteps wsX0_slotOf := goodIn_r _ [24, 25, 26, 27, 28, 23, 29, 30, 31, 32, 33, 34, 35, 36, 37, 38, 39, 40, 41, 42, 43, 44, 45, 46, 47, 48, 49, 50, 51, 52, 53, 54, 55, 56, 57, 58, 59, 60, 61, 62, 63, 64, 65, 66, 67, 68, 69, 70, 71, 72, 73, 74, 13, 75, 76, 77, 78, 79, 80, 81, 82, 83, 84, 85, 86, 87, 88, 89, 90, 91, 92, 93, 94, 95, 96, 111, 112, 113, 114, 115, 116, 117, 118, 119, 120, 121, 122, 123, 124, 125, 126, 127, 128, 129, 130, 131, 132, 133, 134, 135, 136, 137] (by decide +kernel) (by decide +kernel)
set_option maxRecDepth 20000 in
theorem gX5_weighSteps_X0_slotOf : GoodIn wsX5_weighSteps (wsV RX5 165 RX0 yX0_slotOf wsX0_slotOf) := goodIn_app (goodIn_of _ (by decide +kernel)) ggX5_weighSteps_X0_slotOf
theorem dX5_weighSteps_0 : decode cX5_weighSteps 0 = .ok (.aload_n 0, 1) := by decide +kernel
theorem dX5_weighSteps_1 : decode cX5_weighSteps 1 = .ok (.getfield 43, 3) := by decide +kernel
theorem dX5_weighSteps_4 : decode cX5_weighSteps 4 = .ok (.getfield 211, 3) := by decide +kernel
theorem dX5_weighSteps_7 : decode cX5_weighSteps 7 = .ok (.iload_n 1, 1) := by decide +kernel
theorem dX5_weighSteps_8 : decode cX5_weighSteps 8 = .ok (.aaload, 1) := by decide +kernel
theorem dX5_weighSteps_9 : decode cX5_weighSteps 9 = .ok (.astore_n 3, 1) := by decide +kernel
theorem dX5_weighSteps_10 : decode cX5_weighSteps 10 = .ok (.aload_n 0, 1) := by decide +kernel
theorem dX5_weighSteps_11 : decode cX5_weighSteps 11 = .ok (.getfield 43, 3) := by decide +kernel
theorem dX5_weighSteps_14 : decode cX5_weighSteps 14 = .ok (.getfield 212, 3) := by decide +kernel
theorem dX5_weighSteps_17 : decode cX5_weighSteps 17 = .ok (.iload_n 1, 1) := by decide +kernel
theorem dX5_weighSteps_18 : decode cX5_weighSteps 18 = .ok (.aload_n 0, 1) := by decide +kernel
theorem dX5_weighSteps_19 : decode cX5_weighSteps 19 = .ok (.aload_n 3, 1) := by decide +kernel
theorem dX5_weighSteps_20 : decode cX5_weighSteps 20 = .ok (.getfield 216, 3) := by decide +kernel
theorem dX5_weighSteps_23 : decode cX5_weighSteps 23 = .ok (.invokevirtual 219, 3) := by decide +kernel
theorem dX5_weighSteps_26 : decode cX5_weighSteps 26 = .ok (.ifCond .ne 7, 3) := by decide +kernel
theorem dX5_weighSteps_29 : decode cX5_weighSteps 29 = .ok (.iconst 1, 1) := by decide +kernel
theorem dX5_weighSteps_30 : decode cX5_weighSteps 30 = .ok (.goto 4, 3) := by decide +kernel
theorem dX5_weighSteps_33 : decode cX5_weighSteps 33 = .ok (.iconst 0, 1) := by decide +kernel
theorem dX5_weighSteps_34 : decode cX5_weighSteps 34 = .ok (.bastore, 1) := by decide +kernel
theorem dX5_weighSteps_35 : decode cX5_weighSteps 35 = .ok (.iconst 0, 1) := by decide +kernel
theorem dX5_weighSteps_36 : decode cX5_weighSteps 36 = .ok (.istore 4, 2) := by decide +kernel
theorem dX5_weighSteps_38 : decode cX5_weighSteps 38 = .ok (.iload 4, 2) := by decide +kernel
theorem dX5_weighSteps_40 : decode cX5_weighSteps 40 = .ok (.aload_n 0, 1) := by decide +kernel
theorem dX5_weighSteps_41 : decode cX5_weighSteps 41 = .ok (.getfield 43, 3) := by decide +kernel
theorem dX5_weighSteps_44 : decode cX5_weighSteps 44 = .ok (.getfield 182, 3) := by decide +kernel
theorem dX5_weighSteps_47 : decode cX5_weighSteps 47 = .ok (.if_icmp .ge 94, 3) := by decide +kernel
theorem dX5_weighSteps_50 : decode cX5_weighSteps 50 = .ok (.aload_n 0, 1) := by decide +kernel
theorem dX5_weighSteps_51 : decode cX5_weighSteps 51 = .ok (.getfield 43, 3) := by decide +kernel
theorem dX5_weighSteps_54 : decode cX5_weighSteps 54 = .ok (.getfield 211, 3) := by decide +kernel
theorem dX5_weighSteps_57 : decode cX5_weighSteps 57 = .ok (.iload 4, 2) := by decide +kernel
theorem dX5_weighSteps_59 : decode cX5_weighSteps 59 = .ok (.aaload, 1) := by decide +kernel
theorem dX5_weighSteps_60 : decode cX5_weighSteps 60 = .ok (.astore 5, 2) := by decide +kernel
theorem dX5_weighSteps_62 : decode cX5_weighSteps 62 = .ok (.iload_n 1, 1) := by decide +kernel
theorem dX5_weighSteps_63 : decode cX5_weighSteps 63 = .ok (.iload 4, 2) := by decide +kernel
theorem dX5_weighSteps_65 : decode cX5_weighSteps 65 = .ok (.if_icmp .eq 23, 3) := by decide +kernel
theorem dX5_weighSteps_68 : decode cX5_weighSteps 68 = .ok (.aload_n 0, 1) := by decide +kernel
theorem dX5_weighSteps_69 : decode cX5_weighSteps 69 = .ok (.aload_n 3, 1) := by decide +kernel
theorem dX5_weighSteps_70 : decode cX5_weighSteps 70 = .ok (.getfield 216, 3) := by decide +kernel
theorem dX5_weighSteps_73 : decode cX5_weighSteps 73 = .ok (.aload 5, 2) := by decide +kernel
theorem dX5_weighSteps_75 : decode cX5_weighSteps 75 = .ok (.getfield 216, 3) := by decide +kernel
theorem dX5_weighSteps_78 : decode cX5_weighSteps 78 = .ok (.invokevirtual 222, 3) := by decide +kernel
theorem dX5_weighSteps_81 : decode cX5_weighSteps 81 = .ok (.ifCond .eq 7, 3) := by decide +kernel
theorem dX5_weighSteps_84 : decode cX5_weighSteps 84 = .ok (.iconst 1, 1) := by decide +kernel
theorem dX5_weighSteps_85 : decode cX5_weighSteps 85 = .ok (.goto 4, 3) := by decide +kernel
theorem dX5_weighSteps_88 : decode cX5_weighSteps 88 = .ok (.iconst 0, 1) := by decide +kernel
theorem dX5_weighSteps_89 : decode cX5_weighSteps 89 = .ok (.istore 6, 2) := by decide +kernel
theorem dX5_weighSteps_91 : decode cX5_weighSteps 91 = .ok (.aload_n 0, 1) := by decide +kernel
theorem dX5_weighSteps_92 : decode cX5_weighSteps 92 = .ok (.getfield 43, 3) := by decide +kernel
theorem dX5_weighSteps_95 : decode cX5_weighSteps 95 = .ok (.getfield 226, 3) := by decide +kernel
theorem dX5_weighSteps_98 : decode cX5_weighSteps 98 = .ok (.iload_n 1, 1) := by decide +kernel
theorem dX5_weighSteps_99 : decode cX5_weighSteps 99 = .ok (.bipush 12, 2) := by decide +kernel
theorem dX5_weighSteps_101 : decode cX5_weighSteps 101 = .ok (.imul, 1) := by decide +kernel
theorem dX5_weighSteps_102 : decode cX5_weighSteps 102 = .ok (.iload 4, 2) := by decide +kernel
theorem dX5_weighSteps_104 : decode cX5_weighSteps 104 = .ok (.iadd, 1) := by decide +kernel
theorem dX5_weighSteps_105 : decode cX5_weighSteps 105 = .ok (.iload 6, 2) := by decide +kernel
theorem dX5_weighSteps_107 : decode cX5_weighSteps 107 = .ok (.ifCond .eq 25, 3) := by decide +kernel
theorem dX5_weighSteps_110 : decode cX5_weighSteps 110 = .ok (.aload_n 0, 1) := by decide +kernel
theorem dX5_weighSteps_111 : decode cX5_weighSteps 111 = .ok (.getfield 29, 3) := by decide +kernel
theorem dX5_weighSteps_114 : decode cX5_weighSteps 114 = .ok (.getfield 169, 3) := by decide +kernel
theorem dX5_weighSteps_117 : decode cX5_weighSteps 117 = .ok (.aload_n 0, 1) := by decide +kernel
theorem dX5_weighSteps_118 : decode cX5_weighSteps 118 = .ok (.getfield 29, 3) := by decide +kernel
theorem dX5_weighSteps_121 : decode cX5_weighSteps 121 = .ok (.aload_n 3, 1) := by decide +kernel
theorem dX5_weighSteps_122 : decode cX5_weighSteps 122 = .ok (.aload 5, 2) := by decide +kernel
theorem dX5_weighSteps_124 : decode cX5_weighSteps 124 = .ok (.iload_n 2, 1) := by decide +kernel
theorem dX5_weighSteps_125 : decode cX5_weighSteps 125 = .ok (.invokevirtual 165, 3) := by decide +kernel
theorem dX5_weighSteps_128 : decode cX5_weighSteps 128 = .ok (.iaload, 1) := by decide +kernel
theorem dX5_weighSteps_129 : decode cX5_weighSteps 129 = .ok (.goto 5, 3) := by decide +kernel
theorem dX5_weighSteps_132 : decode cX5_weighSteps 132 = .ok (.ldc 148, 2) := by decide +kernel
theorem dX5_weighSteps_134 : decode cX5_weighSteps 134 = .ok (.iastore, 1) := by decide +kernel
theorem dX5_weighSteps_135 : decode cX5_weighSteps 135 = .ok (.iinc 4 1, 3) := by decide +kernel
theorem dX5_weighSteps_138 : decode cX5_weighSteps 138 = .ok (.goto (-100), 3) := by decide +kernel
theorem dX5_weighSteps_141 : decode cX5_weighSteps 141 = .ok (.return_, 1) := by decide +kernel
set_option maxRecDepth 20000 in
theorem ggX5_wishAllows_X5_mustsInto : GoodIn wsX5_wishAllows wsX5_mustsInto := goodIn_r _ [6, 1, 7, 8, 9, 10, 11, 12] (by decide +kernel) (by decide +kernel)
set_option maxRecDepth 20000 in
theorem gX5_wishAllows_X5_mustsInto : GoodIn wsX5_wishAllows (wsV RX5 219 RX5 yX5_mustsInto wsX5_mustsInto) := goodIn_app (goodIn_of _ (by decide +kernel)) ggX5_wishAllows_X5_mustsInto
theorem dX5_wishAllows_0 : decode cX5_wishAllows 0 = .ok (.aload_n 0, 1) := by decide +kernel
theorem dX5_wishAllows_1 : decode cX5_wishAllows 1 = .ok (.getfield 15, 3) := by decide +kernel
theorem dX5_wishAllows_4 : decode cX5_wishAllows 4 = .ok (.iload_n 1, 1) := by decide +kernel
theorem dX5_wishAllows_5 : decode cX5_wishAllows 5 = .ok (.bipush 12, 2) := by decide +kernel
theorem dX5_wishAllows_7 : decode cX5_wishAllows 7 = .ok (.imul, 1) := by decide +kernel
theorem dX5_wishAllows_8 : decode cX5_wishAllows 8 = .ok (.iload_n 2, 1) := by decide +kernel
theorem dX5_wishAllows_9 : decode cX5_wishAllows 9 = .ok (.iadd, 1) := by decide +kernel
theorem dX5_wishAllows_10 : decode cX5_wishAllows 10 = .ok (.iaload, 1) := by decide +kernel
theorem dX5_wishAllows_11 : decode cX5_wishAllows 11 = .ok (.istore_n 3, 1) := by decide +kernel
theorem dX5_wishAllows_12 : decode cX5_wishAllows 12 = .ok (.iload_n 3, 1) := by decide +kernel
theorem dX5_wishAllows_13 : decode cX5_wishAllows 13 = .ok (.iconst 2, 1) := by decide +kernel
theorem dX5_wishAllows_14 : decode cX5_wishAllows 14 = .ok (.if_icmp .eq 25, 3) := by decide +kernel
theorem dX5_wishAllows_17 : decode cX5_wishAllows 17 = .ok (.aload_n 0, 1) := by decide +kernel
theorem dX5_wishAllows_18 : decode cX5_wishAllows 18 = .ok (.iload_n 2, 1) := by decide +kernel
theorem dX5_wishAllows_19 : decode cX5_wishAllows 19 = .ok (.invokevirtual 219, 3) := by decide +kernel
theorem dX5_wishAllows_22 : decode cX5_wishAllows 22 = .ok (.iload_n 3, 1) := by decide +kernel
theorem dX5_wishAllows_23 : decode cX5_wishAllows 23 = .ok (.iconst 1, 1) := by decide +kernel
theorem dX5_wishAllows_24 : decode cX5_wishAllows 24 = .ok (.if_icmp .ne 7, 3) := by decide +kernel
theorem dX5_wishAllows_27 : decode cX5_wishAllows 27 = .ok (.iconst 1, 1) := by decide +kernel
theorem dX5_wishAllows_28 : decode cX5_wishAllows 28 = .ok (.goto 4, 3) := by decide +kernel
theorem dX5_wishAllows_31 : decode cX5_wishAllows 31 = .ok (.iconst 0, 1) := by decide +kernel
theorem dX5_wishAllows_32 : decode cX5_wishAllows 32 = .ok (.if_icmp .ne 7, 3) := by decide +kernel
theorem dX5_wishAllows_35 : decode cX5_wishAllows 35 = .ok (.iconst 1, 1) := by decide +kernel
theorem dX5_wishAllows_36 : decode cX5_wishAllows 36 = .ok (.goto 4, 3) := by decide +kernel
theorem dX5_wishAllows_39 : decode cX5_wishAllows 39 = .ok (.iconst 0, 1) := by decide +kernel
theorem dX5_wishAllows_40 : decode cX5_wishAllows 40 = .ok (.ireturn, 1) := by decide +kernel
theorem dX5_mustsInto_0 : decode cX5_mustsInto 0 = .ok (.iconst 0, 1) := by decide +kernel
theorem dX5_mustsInto_1 : decode cX5_mustsInto 1 = .ok (.istore_n 2, 1) := by decide +kernel
theorem dX5_mustsInto_2 : decode cX5_mustsInto 2 = .ok (.iconst 0, 1) := by decide +kernel
theorem dX5_mustsInto_3 : decode cX5_mustsInto 3 = .ok (.istore_n 3, 1) := by decide +kernel
theorem dX5_mustsInto_4 : decode cX5_mustsInto 4 = .ok (.iload_n 3, 1) := by decide +kernel
theorem dX5_mustsInto_5 : decode cX5_mustsInto 5 = .ok (.bipush 12, 2) := by decide +kernel
theorem dX5_mustsInto_7 : decode cX5_mustsInto 7 = .ok (.if_icmp .ge 32, 3) := by decide +kernel
theorem dX5_mustsInto_10 : decode cX5_mustsInto 10 = .ok (.iload_n 2, 1) := by decide +kernel
theorem dX5_mustsInto_11 : decode cX5_mustsInto 11 = .ok (.aload_n 0, 1) := by decide +kernel
theorem dX5_mustsInto_12 : decode cX5_mustsInto 12 = .ok (.getfield 15, 3) := by decide +kernel
theorem dX5_mustsInto_15 : decode cX5_mustsInto 15 = .ok (.iload_n 3, 1) := by decide +kernel
theorem dX5_mustsInto_16 : decode cX5_mustsInto 16 = .ok (.bipush 12, 2) := by decide +kernel
theorem dX5_mustsInto_18 : decode cX5_mustsInto 18 = .ok (.imul, 1) := by decide +kernel
theorem dX5_mustsInto_19 : decode cX5_mustsInto 19 = .ok (.iload_n 1, 1) := by decide +kernel
theorem dX5_mustsInto_20 : decode cX5_mustsInto 20 = .ok (.iadd, 1) := by decide +kernel
theorem dX5_mustsInto_21 : decode cX5_mustsInto 21 = .ok (.iaload, 1) := by decide +kernel
theorem dX5_mustsInto_22 : decode cX5_mustsInto 22 = .ok (.iconst 1, 1) := by decide +kernel
theorem dX5_mustsInto_23 : decode cX5_mustsInto 23 = .ok (.if_icmp .ne 7, 3) := by decide +kernel
theorem dX5_mustsInto_26 : decode cX5_mustsInto 26 = .ok (.iconst 1, 1) := by decide +kernel
theorem dX5_mustsInto_27 : decode cX5_mustsInto 27 = .ok (.goto 4, 3) := by decide +kernel
theorem dX5_mustsInto_30 : decode cX5_mustsInto 30 = .ok (.iconst 0, 1) := by decide +kernel
theorem dX5_mustsInto_31 : decode cX5_mustsInto 31 = .ok (.iadd, 1) := by decide +kernel
theorem dX5_mustsInto_32 : decode cX5_mustsInto 32 = .ok (.istore_n 2, 1) := by decide +kernel
theorem dX5_mustsInto_33 : decode cX5_mustsInto 33 = .ok (.iinc 3 1, 3) := by decide +kernel
theorem dX5_mustsInto_36 : decode cX5_mustsInto 36 = .ok (.goto (-32), 3) := by decide +kernel
theorem dX5_mustsInto_39 : decode cX5_mustsInto 39 = .ok (.iload_n 2, 1) := by decide +kernel
theorem dX5_mustsInto_40 : decode cX5_mustsInto 40 = .ok (.ireturn, 1) := by decide +kernel
set_option maxRecDepth 20000 in
theorem ggX5_blend_J9_floorDiv_7cf53 : GoodIn wsX5_blend wsJ9_floorDiv_7cf53 := goodIn_r _ [4] (by decide +kernel) (by decide +kernel)
set_option maxRecDepth 20000 in
theorem gX5_blend_J9_floorDiv_7cf53 : GoodIn wsX5_blend (va_wsS RX5 228 yJ9_floorDiv_7cf53 wsJ9_floorDiv_7cf53) := goodIn_app (goodIn_of _ (by decide +kernel)) ggX5_blend_J9_floorDiv_7cf53
theorem dX5_blend_0 : decode cX5_blend 0 = .ok (.iload_n 0, 1) := by decide +kernel
theorem dX5_blend_1 : decode cX5_blend 1 = .ok (.iload_n 1, 1) := by decide +kernel
theorem dX5_blend_2 : decode cX5_blend 2 = .ok (.iload_n 0, 1) := by decide +kernel
theorem dX5_blend_3 : decode cX5_blend 3 = .ok (.isub, 1) := by decide +kernel
theorem dX5_blend_4 : decode cX5_blend 4 = .ok (.iload_n 2, 1) := by decide +kernel
theorem dX5_blend_5 : decode cX5_blend 5 = .ok (.imul, 1) := by decide +kernel
theorem dX5_blend_6 : decode cX5_blend 6 = .ok (.iconst 2, 1) := by decide +kernel
theorem dX5_blend_7 : decode cX5_blend 7 = .ok (.iload_n 3, 1) := by decide +kernel
theorem dX5_blend_8 : decode cX5_blend 8 = .ok (.imul, 1) := by decide +kernel
theorem dX5_blend_9 : decode cX5_blend 9 = .ok (.iadd, 1) := by decide +kernel
theorem dX5_blend_10 : decode cX5_blend 10 = .ok (.iconst 4, 1) := by decide +kernel
theorem dX5_blend_11 : decode cX5_blend 11 = .ok (.iload_n 3, 1) := by decide +kernel
theorem dX5_blend_12 : decode cX5_blend 12 = .ok (.imul, 1) := by decide +kernel
theorem dX5_blend_13 : decode cX5_blend 13 = .ok (.invokestatic 228, 3) := by decide +kernel
theorem dX5_blend_16 : decode cX5_blend 16 = .ok (.iadd, 1) := by decide +kernel
theorem dX5_blend_17 : decode cX5_blend 17 = .ok (.ireturn, 1) := by decide +kernel
theorem dX5_bendOf_0 : decode cX5_bendOf 0 = .ok (.iload_n 2, 1) := by decide +kernel
theorem dX5_bendOf_1 : decode cX5_bendOf 1 = .ok (.iload_n 0, 1) := by decide +kernel
theorem dX5_bendOf_2 : decode cX5_bendOf 2 = .ok (.isub, 1) := by decide +kernel
theorem dX5_bendOf_3 : decode cX5_bendOf 3 = .ok (.invokestatic 206, 3) := by decide +kernel
theorem dX5_bendOf_6 : decode cX5_bendOf 6 = .ok (.sipush 1000, 3) := by decide +kernel
theorem dX5_bendOf_9 : decode cX5_bendOf 9 = .ok (.imul, 1) := by decide +kernel
theorem dX5_bendOf_10 : decode cX5_bendOf 10 = .ok (.iload_n 0, 1) := by decide +kernel
theorem dX5_bendOf_11 : decode cX5_bendOf 11 = .ok (.idiv, 1) := by decide +kernel
theorem dX5_bendOf_12 : decode cX5_bendOf 12 = .ok (.iload_n 2, 1) := by decide +kernel
theorem dX5_bendOf_13 : decode cX5_bendOf 13 = .ok (.iload_n 1, 1) := by decide +kernel
theorem dX5_bendOf_14 : decode cX5_bendOf 14 = .ok (.isub, 1) := by decide +kernel
theorem dX5_bendOf_15 : decode cX5_bendOf 15 = .ok (.invokestatic 206, 3) := by decide +kernel
theorem dX5_bendOf_18 : decode cX5_bendOf 18 = .ok (.sipush 1000, 3) := by decide +kernel
theorem dX5_bendOf_21 : decode cX5_bendOf 21 = .ok (.imul, 1) := by decide +kernel
theorem dX5_bendOf_22 : decode cX5_bendOf 22 = .ok (.iload_n 1, 1) := by decide +kernel
theorem dX5_bendOf_23 : decode cX5_bendOf 23 = .ok (.idiv, 1) := by decide +kernel
theorem dX5_bendOf_24 : decode cX5_bendOf 24 = .ok (.invokestatic 231, 3) := by decide +kernel
theorem dX5_bendOf_27 : decode cX5_bendOf 27 = .ok (.ireturn, 1) := by decide +kernel
theorem dX6_init_0 : decode cX6_init 0 = .ok (.aload_n 0, 1) := by decide +kernel
theorem dX6_init_1 : decode cX6_init 1 = .ok (.invokespecial 1, 3) := by decide +kernel
theorem dX6_init_4 : decode cX6_init 4 = .ok (.aload_n 0, 1) := by decide +kernel
theorem dX6_init_5 : decode cX6_init 5 = .ok (.bipush 12, 2) := by decide +kernel
theorem dX6_init_7 : decode cX6_init 7 = .ok (.newarray .boolean, 2) := by decide +kernel
theorem dX6_init_9 : decode cX6_init 9 = .ok (.putfield 7, 3) := by decide +kernel
theorem dX6_init_12 : decode cX6_init 12 = .ok (.aload_n 0, 1) := by decide +kernel
theorem dX6_init_13 : decode cX6_init 13 = .ok (.bipush 12, 2) := by decide +kernel
theorem dX6_init_15 : decode cX6_init 15 = .ok (.newarray .int, 2) := by decide +kernel
theorem dX6_init_17 : decode cX6_init 17 = .ok (.putfield 13, 3) := by decide +kernel
theorem dX6_init_20 : decode cX6_init 20 = .ok (.aload_n 0, 1) := by decide +kernel
theorem dX6_init_21 : decode cX6_init 21 = .ok (.bipush 12, 2) := by decide +kernel
theorem dX6_init_23 : decode cX6_init 23 = .ok (.newarray .int, 2) := by decide +kernel
theorem dX6_init_25 : decode cX6_init 25 = .ok (.putfield 17, 3) := by decide +kernel
theorem dX6_init_28 : decode cX6_init 28 = .ok (.aload_n 0, 1) := by decide +kernel
theorem dX6_init_29 : decode cX6_init 29 = .ok (.bipush 12, 2) := by decide +kernel
theorem dX6_init_31 : decode cX6_init 31 = .ok (.newarray .int, 2) := by decide +kernel
theorem dX6_init_33 : decode cX6_init 33 = .ok (.putfield 20, 3) := by decide +kernel
theorem dX6_init_36 : decode cX6_init 36 = .ok (.aload_n 0, 1) := by decide +kernel
theorem dX6_init_37 : decode cX6_init 37 = .ok (.bipush 12, 2) := by decide +kernel
theorem dX6_init_39 : decode cX6_init 39 = .ok (.newarray .int, 2) := by decide +kernel
theorem dX6_init_41 : decode cX6_init 41 = .ok (.putfield 23, 3) := by decide +kernel
theorem dX6_init_44 : decode cX6_init 44 = .ok (.aload_n 0, 1) := by decide +kernel
theorem dX6_init_45 : decode cX6_init 45 = .ok (.bipush 12, 2) := by decide +kernel
theorem dX6_init_47 : decode cX6_init 47 = .ok (.newarray .int, 2) := by decide +kernel
theorem dX6_init_49 : decode cX6_init 49 = .ok (.putfield 26, 3) := by decide +kernel
theorem dX6_init_52 : decode cX6_init 52 = .ok (.aload_n 0, 1) := by decide +kernel
theorem dX6_init_53 : decode cX6_init 53 = .ok (.bipush 12, 2) := by decide +kernel
theorem dX6_init_55 : decode cX6_init 55 = .ok (.newarray .int, 2) := by decide +kernel
theorem dX6_init_57 : decode cX6_init 57 = .ok (.putfield 29, 3) := by decide +kernel
theorem dX6_init_60 : decode cX6_init 60 = .ok (.aload_n 0, 1) := by decide +kernel
theorem dX6_init_61 : decode cX6_init 61 = .ok (.bipush 12, 2) := by decide +kernel
theorem dX6_init_63 : decode cX6_init 63 = .ok (.newarray .int, 2) := by decide +kernel
theorem dX6_init_65 : decode cX6_init 65 = .ok (.putfield 32, 3) := by decide +kernel
theorem dX6_init_68 : decode cX6_init 68 = .ok (.aload_n 0, 1) := by decide +kernel
theorem dX6_init_69 : decode cX6_init 69 = .ok (.sipush 768, 3) := by decide +kernel
theorem dX6_init_72 : decode cX6_init 72 = .ok (.newarray .int, 2) := by decide +kernel
theorem dX6_init_74 : decode cX6_init 74 = .ok (.putfield 35, 3) := by decide +kernel
theorem dX6_init_77 : decode cX6_init 77 = .ok (.aload_n 0, 1) := by decide +kernel
theorem dX6_init_78 : decode cX6_init 78 = .ok (.bipush 12, 2) := by decide +kernel
theorem dX6_init_80 : decode cX6_init 80 = .ok (.newarray .int, 2) := by decide +kernel
theorem dX6_init_82 : decode cX6_init 82 = .ok (.putfield 38, 3) := by decide +kernel
theorem dX6_init_85 : decode cX6_init 85 = .ok (.aload_n 0, 1) := by decide +kernel
theorem dX6_init_86 : decode cX6_init 86 = .ok (.bipush 12, 2) := by decide +kernel
theorem dX6_init_88 : decode cX6_init 88 = .ok (.newarray .int, 2) := by decide +kernel
theorem dX6_init_90 : decode cX6_init 90 = .ok (.putfield 41, 3) := by decide +kernel
theorem dX6_init_93 : decode cX6_init 93 = .ok (.aload_n 0, 1) := by decide +kernel
theorem dX6_init_94 : decode cX6_init 94 = .ok (.bipush 12, 2) := by decide +kernel
theorem dX6_init_96 : decode cX6_init 96 = .ok (.newarray .int, 2) := by decide +kernel
theorem dX6_init_98 : decode cX6_init 98 = .ok (.putfield 44, 3) := by decide +kernel
theorem dX6_init_101 : decode cX6_init 101 = .ok (.aload_n 0, 1) := by decide +kernel
theorem dX6_init_102 : decode cX6_init 102 = .ok (.sipush 144, 3) := by decide +kernel
theorem dX6_init_105 : decode cX6_init 105 = .ok (.newarray .int, 2) := by decide +kernel
theorem dX6_init_107 : decode cX6_init 107 = .ok (.putfield 47, 3) := by decide +kernel
theorem dX6_init_110 : decode cX6_init 110 = .ok (.aload_n 0, 1) := by decide +kernel
theorem dX6_init_111 : decode cX6_init 111 = .ok (.bipush 60, 2) := by decide +kernel
theorem dX6_init_113 : decode cX6_init 113 = .ok (.newarray .int, 2) := by decide +kernel
theorem dX6_init_115 : decode cX6_init 115 = .ok (.putfield 50, 3) := by decide +kernel
theorem dX6_init_118 : decode cX6_init 118 = .ok (.aload_n 0, 1) := by decide +kernel
theorem dX6_init_119 : decode cX6_init 119 = .ok (.bipush 61, 2) := by decide +kernel
theorem dX6_init_121 : decode cX6_init 121 = .ok (.newarray .int, 2) := by decide +kernel
theorem dX6_init_123 : decode cX6_init 123 = .ok (.putfield 53, 3) := by decide +kernel
theorem dX6_init_126 : decode cX6_init 126 = .ok (.aload_n 0, 1) := by decide +kernel
theorem dX6_init_127 : decode cX6_init 127 = .ok (.bipush 60, 2) := by decide +kernel
theorem dX6_init_129 : decode cX6_init 129 = .ok (.newarray .int, 2) := by decide +kernel
theorem dX6_init_131 : decode cX6_init 131 = .ok (.putfield 56, 3) := by decide +kernel
theorem dX6_init_134 : decode cX6_init 134 = .ok (.aload_n 0, 1) := by decide +kernel
theorem dX6_init_135 : decode cX6_init 135 = .ok (.bipush 80, 2) := by decide +kernel
theorem dX6_init_137 : decode cX6_init 137 = .ok (.putfield 59, 3) := by decide +kernel
theorem dX6_init_140 : decode cX6_init 140 = .ok (.aload_n 0, 1) := by decide +kernel
theorem dX6_init_141 : decode cX6_init 141 = .ok (.bipush 10, 2) := by decide +kernel
theorem dX6_init_143 : decode cX6_init 143 = .ok (.putfield 63, 3) := by decide +kernel
theorem dX6_init_146 : decode cX6_init 146 = .ok (.aload_n 0, 1) := by decide +kernel
theorem dX6_init_147 : decode cX6_init 147 = .ok (.iconst 5, 1) := by decide +kernel
theorem dX6_init_148 : decode cX6_init 148 = .ok (.putfield 66, 3) := by decide +kernel
theorem dX6_init_151 : decode cX6_init 151 = .ok (.aload_n 0, 1) := by decide +kernel
theorem dX6_init_152 : decode cX6_init 152 = .ok (.sipush 256, 3) := by decide +kernel
theorem dX6_init_155 : decode cX6_init 155 = .ok (.newarray .int, 2) := by decide +kernel
theorem dX6_init_157 : decode cX6_init 157 = .ok (.putfield 69, 3) := by decide +kernel
theorem dX6_init_160 : decode cX6_init 160 = .ok (.aload_n 0, 1) := by decide +kernel
theorem dX6_init_161 : decode cX6_init 161 = .ok (.sipush 256, 3) := by decide +kernel
theorem dX6_init_164 : decode cX6_init 164 = .ok (.newarray .int, 2) := by decide +kernel
theorem dX6_init_166 : decode cX6_init 166 = .ok (.putfield 72, 3) := by decide +kernel
theorem dX6_init_169 : decode cX6_init 169 = .ok (.aload_n 0, 1) := by decide +kernel
theorem dX6_init_170 : decode cX6_init 170 = .ok (.bipush 64, 2) := by decide +kernel
theorem dX6_init_172 : decode cX6_init 172 = .ok (.newarray .boolean, 2) := by decide +kernel
theorem dX6_init_174 : decode cX6_init 174 = .ok (.putfield 75, 3) := by decide +kernel
theorem dX6_init_177 : decode cX6_init 177 = .ok (.aload_n 0, 1) := by decide +kernel
theorem dX6_init_178 : decode cX6_init 178 = .ok (.bipush 64, 2) := by decide +kernel
theorem dX6_init_180 : decode cX6_init 180 = .ok (.newarray .boolean, 2) := by decide +kernel
theorem dX6_init_182 : decode cX6_init 182 = .ok (.putfield 78, 3) := by decide +kernel
theorem dX6_init_185 : decode cX6_init 185 = .ok (.aload_n 0, 1) := by decide +kernel
theorem dX6_init_186 : decode cX6_init 186 = .ok (.bipush 64, 2) := by decide +kernel
theorem dX6_init_188 : decode cX6_init 188 = .ok (.newarray .boolean, 2) := by decide +kernel
theorem dX6_init_190 : decode cX6_init 190 = .ok (.putfield 81, 3) := by decide +kernel
theorem dX6_init_193 : decode cX6_init 193 = .ok (.aload_n 0, 1) := by decide +kernel
theorem dX6_init_194 : decode cX6_init 194 = .ok (.bipush 64, 2) := by decide +kernel
theorem dX6_init_196 : decode cX6_init 196 = .ok (.newarray .boolean, 2) := by decide +kernel
theorem dX6_init_198 : decode cX6_init 198 = .ok (.putfield 84, 3) := by decide +kernel
theorem dX6_init_201 : decode cX6_init 201 = .ok (.aload_n 0, 1) := by decide +kernel
theorem dX6_init_202 : decode cX6_init 202 = .ok (.bipush 32, 2) := by decide +kernel
theorem dX6_init_204 : decode cX6_init 204 = .ok (.newarray .int, 2) := by decide +kernel
theorem dX6_init_206 : decode cX6_init 206 = .ok (.putfield 87, 3) := by decide +kernel
theorem dX6_init_209 : decode cX6_init 209 = .ok (.aload_n 0, 1) := by decide +kernel
theorem dX6_init_210 : decode cX6_init 210 = .ok (.bipush 32, 2) := by decide +kernel
theorem dX6_init_212 : decode cX6_init 212 = .ok (.newarray .int, 2) := by decide +kernel
theorem dX6_init_214 : decode cX6_init 214 = .ok (.putfield 90, 3) := by decide +kernel
theorem dX6_init_217 : decode cX6_init 217 = .ok (.aload_n 0, 1) := by decide +kernel
theorem dX6_init_218 : decode cX6_init 218 = .ok (.sipush 144, 3) := by decide +kernel
theorem dX6_init_221 : decode cX6_init 221 = .ok (.newarray .int, 2) := by decide +kernel
theorem dX6_init_223 : decode cX6_init 223 = .ok (.putfield 93, 3) := by decide +kernel
theorem dX6_init_226 : decode cX6_init 226 = .ok (.aload_n 0, 1) := by decide +kernel
theorem dX6_init_227 : decode cX6_init 227 = .ok (.ldc 96, 2) := by decide +kernel
theorem dX6_init_229 : decode cX6_init 229 = .ok (.newarray .int, 2) := by decide +kernel
theorem dX6_init_231 : decode cX6_init 231 = .ok (.putfield 97, 3) := by decide +kernel
theorem dX6_init_234 : decode cX6_init 234 = .ok (.aload_n 0, 1) := by decide +kernel
theorem dX6_init_235 : decode cX6_init 235 = .ok (.bipush 12, 2) := by decide +kernel
theorem dX6_init_237 : decode cX6_init 237 = .ok (.newarray .int, 2) := by decide +kernel
theorem dX6_init_239 : decode cX6_init 239 = .ok (.putfield 100, 3) := by decide +kernel
theorem dX6_init_242 : decode cX6_init 242 = .ok (.return_, 1) := by decide +kernel
theorem dX6_isSong_0 : decode cX6_isSong 0 = .ok (.iload_n 1, 1) := by decide +kernel
theorem dX6_isSong_1 : decode cX6_isSong 1 = .ok (.ifCond .lt 22, 3) := by decide +kernel
theorem dX6_isSong_4 : decode cX6_isSong 4 = .ok (.iload_n 1, 1) := by decide +kernel
theorem dX6_isSong_5 : decode cX6_isSong 5 = .ok (.bipush 12, 2) := by decide +kernel
theorem dX6_isSong_7 : decode cX6_isSong 7 = .ok (.if_icmp .ge 16, 3) := by decide +kernel
theorem dX6_isSong_10 : decode cX6_isSong 10 = .ok (.aload_n 0, 1) := by decide +kernel
theorem dX6_isSong_11 : decode cX6_isSong 11 = .ok (.getfield 7, 3) := by decide +kernel
theorem dX6_isSong_14 : decode cX6_isSong 14 = .ok (.iload_n 1, 1) := by decide +kernel
theorem dX6_isSong_15 : decode cX6_isSong 15 = .ok (.baload, 1) := by decide +kernel
theorem dX6_isSong_16 : decode cX6_isSong 16 = .ok (.ifCond .eq 7, 3) := by decide +kernel
theorem dX6_isSong_19 : decode cX6_isSong 19 = .ok (.iconst 1, 1) := by decide +kernel
theorem dX6_isSong_20 : decode cX6_isSong 20 = .ok (.goto 4, 3) := by decide +kernel
theorem dX6_isSong_23 : decode cX6_isSong 23 = .ok (.iconst 0, 1) := by decide +kernel
theorem dX6_isSong_24 : decode cX6_isSong 24 = .ok (.ireturn, 1) := by decide +kernel
theorem dX6_forgets_0 : decode cX6_forgets 0 = .ok (.iconst 0, 1) := by decide +kernel
theorem dX6_forgets_1 : decode cX6_forgets 1 = .ok (.istore_n 2, 1) := by decide +kernel
theorem dX6_forgets_2 : decode cX6_forgets 2 = .ok (.iload_n 2, 1) := by decide +kernel
theorem dX6_forgets_3 : decode cX6_forgets 3 = .ok (.bipush 12, 2) := by decide +kernel
theorem dX6_forgets_5 : decode cX6_forgets 5 = .ok (.if_icmp .ge 33, 3) := by decide +kernel
theorem dX6_forgets_8 : decode cX6_forgets 8 = .ok (.aload_n 0, 1) := by decide +kernel
theorem dX6_forgets_9 : decode cX6_forgets 9 = .ok (.getfield 47, 3) := by decide +kernel
theorem dX6_forgets_12 : decode cX6_forgets 12 = .ok (.bipush 12, 2) := by decide +kernel
theorem dX6_forgets_14 : decode cX6_forgets 14 = .ok (.iload_n 1, 1) := by decide +kernel
theorem dX6_forgets_15 : decode cX6_forgets 15 = .ok (.imul, 1) := by decide +kernel
theorem dX6_forgets_16 : decode cX6_forgets 16 = .ok (.iload_n 2, 1) := by decide +kernel
theorem dX6_forgets_17 : decode cX6_forgets 17 = .ok (.iadd, 1) := by decide +kernel
theorem dX6_forgets_18 : decode cX6_forgets 18 = .ok (.iconst 0, 1) := by decide +kernel
theorem dX6_forgets_19 : decode cX6_forgets 19 = .ok (.iastore, 1) := by decide +kernel
theorem dX6_forgets_20 : decode cX6_forgets 20 = .ok (.aload_n 0, 1) := by decide +kernel
theorem dX6_forgets_21 : decode cX6_forgets 21 = .ok (.getfield 47, 3) := by decide +kernel
theorem dX6_forgets_24 : decode cX6_forgets 24 = .ok (.bipush 12, 2) := by decide +kernel
theorem dX6_forgets_26 : decode cX6_forgets 26 = .ok (.iload_n 2, 1) := by decide +kernel
theorem dX6_forgets_27 : decode cX6_forgets 27 = .ok (.imul, 1) := by decide +kernel
theorem dX6_forgets_28 : decode cX6_forgets 28 = .ok (.iload_n 1, 1) := by decide +kernel
theorem dX6_forgets_29 : decode cX6_forgets 29 = .ok (.iadd, 1) := by decide +kernel
theorem dX6_forgets_30 : decode cX6_forgets 30 = .ok (.iconst 0, 1) := by decide +kernel
theorem dX6_forgets_31 : decode cX6_forgets 31 = .ok (.iastore, 1) := by decide +kernel
theorem dX6_forgets_32 : decode cX6_forgets 32 = .ok (.iinc 2 1, 3) := by decide +kernel
theorem dX6_forgets_35 : decode cX6_forgets 35 = .ok (.goto (-33), 3) := by decide +kernel
theorem dX6_forgets_38 : decode cX6_forgets 38 = .ok (.return_, 1) := by decide +kernel
set_option maxRecDepth 20000 in
theorem ggX6_song_X6_forgets : GoodIn wsX6_song wsX6_forgets := goodIn_r _ [17, 18, 19, 20, 21, 22, 23, 24, 25, 26, 27, 28, 29, 30, 31, 32, 33, 34, 35, 36, 37, 38, 39, 40, 41, 42, 43, 44, 45, 46, 47, 48, 49, 50, 51, 52, 53, 54] (by decide +kernel) (by decide +kernel)
set_option maxRecDepth 20000 in
theorem gX6_song_X6_forgets : GoodIn wsX6_song (wsV RX6 103 RX6 yX6_forgets wsX6_forgets) := goodIn_app (goodIn_of _ (by decide +kernel)) ggX6_song_X6_forgets
theorem dX6_song_0 : decode cX6_song 0 = .ok (.iload_n 1, 1) := by decide +kernel
theorem dX6_song_1 : decode cX6_song 1 = .ok (.ifCond .lt 44, 3) := by decide +kernel
theorem dX6_song_4 : decode cX6_song 4 = .ok (.iload_n 1, 1) := by decide +kernel
theorem dX6_song_5 : decode cX6_song 5 = .ok (.bipush 12, 2) := by decide +kernel
theorem dX6_song_7 : decode cX6_song 7 = .ok (.if_icmp .ge 38, 3) := by decide +kernel
theorem dX6_song_10 : decode cX6_song 10 = .ok (.iload_n 2, 1) := by decide +kernel
theorem dX6_song_11 : decode cX6_song 11 = .ok (.ifCond .lt 34, 3) := by decide +kernel
theorem dX6_song_14 : decode cX6_song 14 = .ok (.iload_n 2, 1) := by decide +kernel
theorem dX6_song_15 : decode cX6_song 15 = .ok (.iconst 2, 1) := by decide +kernel
theorem dX6_song_16 : decode cX6_song 16 = .ok (.if_icmp .gt 29, 3) := by decide +kernel
theorem dX6_song_19 : decode cX6_song 19 = .ok (.iload_n 3, 1) := by decide +kernel
theorem dX6_song_20 : decode cX6_song 20 = .ok (.iconst 2, 1) := by decide +kernel
theorem dX6_song_21 : decode cX6_song 21 = .ok (.if_icmp .lt 24, 3) := by decide +kernel
theorem dX6_song_24 : decode cX6_song 24 = .ok (.iload_n 3, 1) := by decide +kernel
theorem dX6_song_25 : decode cX6_song 25 = .ok (.bipush 64, 2) := by decide +kernel
theorem dX6_song_27 : decode cX6_song 27 = .ok (.if_icmp .gt 18, 3) := by decide +kernel
theorem dX6_song_30 : decode cX6_song 30 = .ok (.iload 4, 2) := by decide +kernel
theorem dX6_song_32 : decode cX6_song 32 = .ok (.bipush 20, 2) := by decide +kernel
theorem dX6_song_34 : decode cX6_song 34 = .ok (.if_icmp .lt 11, 3) := by decide +kernel
theorem dX6_song_37 : decode cX6_song 37 = .ok (.iload 4, 2) := by decide +kernel
theorem dX6_song_39 : decode cX6_song 39 = .ok (.sipush 400, 3) := by decide +kernel
theorem dX6_song_42 : decode cX6_song 42 = .ok (.if_icmp .le 5, 3) := by decide +kernel
theorem dX6_song_45 : decode cX6_song 45 = .ok (.iconst 0, 1) := by decide +kernel
theorem dX6_song_46 : decode cX6_song 46 = .ok (.ireturn, 1) := by decide +kernel
theorem dX6_song_47 : decode cX6_song 47 = .ok (.iload_n 2, 1) := by decide +kernel
theorem dX6_song_48 : decode cX6_song 48 = .ok (.iconst 1, 1) := by decide +kernel
theorem dX6_song_49 : decode cX6_song 49 = .ok (.if_icmp .ne 18, 3) := by decide +kernel
theorem dX6_song_52 : decode cX6_song 52 = .ok (.iload 5, 2) := by decide +kernel
theorem dX6_song_54 : decode cX6_song 54 = .ok (.ifCond .lt 32, 3) := by decide +kernel
theorem dX6_song_57 : decode cX6_song 57 = .ok (.iload 5, 2) := by decide +kernel
theorem dX6_song_59 : decode cX6_song 59 = .ok (.iload 4, 2) := by decide +kernel
theorem dX6_song_61 : decode cX6_song 61 = .ok (.bipush 10, 2) := by decide +kernel
theorem dX6_song_63 : decode cX6_song 63 = .ok (.isub, 1) := by decide +kernel
theorem dX6_song_64 : decode cX6_song 64 = .ok (.if_icmp .gt 22, 3) := by decide +kernel
theorem dX6_song_67 : decode cX6_song 67 = .ok (.iload_n 2, 1) := by decide +kernel
theorem dX6_song_68 : decode cX6_song 68 = .ok (.iconst 2, 1) := by decide +kernel
theorem dX6_song_69 : decode cX6_song 69 = .ok (.if_icmp .ne 19, 3) := by decide +kernel
theorem dX6_song_72 : decode cX6_song 72 = .ok (.iload 5, 2) := by decide +kernel
theorem dX6_song_74 : decode cX6_song 74 = .ok (.bipush (-20), 2) := by decide +kernel
theorem dX6_song_76 : decode cX6_song 76 = .ok (.if_icmp .lt 10, 3) := by decide +kernel
theorem dX6_song_79 : decode cX6_song 79 = .ok (.iload 5, 2) := by decide +kernel
theorem dX6_song_81 : decode cX6_song 81 = .ok (.bipush 20, 2) := by decide +kernel
theorem dX6_song_83 : decode cX6_song 83 = .ok (.if_icmp .le 5, 3) := by decide +kernel
theorem dX6_song_86 : decode cX6_song 86 = .ok (.iconst 0, 1) := by decide +kernel
theorem dX6_song_87 : decode cX6_song 87 = .ok (.ireturn, 1) := by decide +kernel
theorem dX6_song_88 : decode cX6_song 88 = .ok (.aload_n 0, 1) := by decide +kernel
theorem dX6_song_89 : decode cX6_song 89 = .ok (.getfield 7, 3) := by decide +kernel
theorem dX6_song_92 : decode cX6_song 92 = .ok (.iload_n 1, 1) := by decide +kernel
theorem dX6_song_93 : decode cX6_song 93 = .ok (.iconst 1, 1) := by decide +kernel
theorem dX6_song_94 : decode cX6_song 94 = .ok (.bastore, 1) := by decide +kernel
theorem dX6_song_95 : decode cX6_song 95 = .ok (.aload_n 0, 1) := by decide +kernel
theorem dX6_song_96 : decode cX6_song 96 = .ok (.getfield 13, 3) := by decide +kernel
theorem dX6_song_99 : decode cX6_song 99 = .ok (.iload_n 1, 1) := by decide +kernel
theorem dX6_song_100 : decode cX6_song 100 = .ok (.iload_n 2, 1) := by decide +kernel
theorem dX6_song_101 : decode cX6_song 101 = .ok (.iastore, 1) := by decide +kernel
theorem dX6_song_102 : decode cX6_song 102 = .ok (.aload_n 0, 1) := by decide +kernel
theorem dX6_song_103 : decode cX6_song 103 = .ok (.getfield 17, 3) := by decide +kernel
theorem dX6_song_106 : decode cX6_song 106 = .ok (.iload_n 1, 1) := by decide +kernel
theorem dX6_song_107 : decode cX6_song 107 = .ok (.iload_n 3, 1) := by decide +kernel
theorem dX6_song_108 : decode cX6_song 108 = .ok (.iastore, 1) := by decide +kernel
theorem dX6_song_109 : decode cX6_song 109 = .ok (.aload_n 0, 1) := by decide +kernel
theorem dX6_song_110 : decode cX6_song 110 = .ok (.getfield 20, 3) := by decide +kernel
theorem dX6_song_113 : decode cX6_song 113 = .ok (.iload_n 1, 1) := by decide +kernel
theorem dX6_song_114 : decode cX6_song 114 = .ok (.iload 4, 2) := by decide +kernel
theorem dX6_song_116 : decode cX6_song 116 = .ok (.iastore, 1) := by decide +kernel
theorem dX6_song_117 : decode cX6_song 117 = .ok (.aload_n 0, 1) := by decide +kernel
theorem dX6_song_118 : decode cX6_song 118 = .ok (.getfield 23, 3) := by decide +kernel
theorem dX6_song_121 : decode cX6_song 121 = .ok (.iload_n 1, 1) := by decide +kernel
theorem dX6_song_122 : decode cX6_song 122 = .ok (.iload_n 2, 1) := by decide +kernel
theorem dX6_song_123 : decode cX6_song 123 = .ok (.ifCond .ne 7, 3) := by decide +kernel
theorem dX6_song_126 : decode cX6_song 126 = .ok (.iconst 0, 1) := by decide +kernel
theorem dX6_song_127 : decode cX6_song 127 = .ok (.goto 5, 3) := by decide +kernel
theorem dX6_song_130 : decode cX6_song 130 = .ok (.iload 5, 2) := by decide +kernel
theorem dX6_song_132 : decode cX6_song 132 = .ok (.iastore, 1) := by decide +kernel
theorem dX6_song_133 : decode cX6_song 133 = .ok (.aload_n 0, 1) := by decide +kernel
theorem dX6_song_134 : decode cX6_song 134 = .ok (.getfield 26, 3) := by decide +kernel
theorem dX6_song_137 : decode cX6_song 137 = .ok (.iload_n 1, 1) := by decide +kernel
theorem dX6_song_138 : decode cX6_song 138 = .ok (.iconst 0, 1) := by decide +kernel
theorem dX6_song_139 : decode cX6_song 139 = .ok (.iastore, 1) := by decide +kernel
theorem dX6_song_140 : decode cX6_song 140 = .ok (.aload_n 0, 1) := by decide +kernel
theorem dX6_song_141 : decode cX6_song 141 = .ok (.getfield 29, 3) := by decide +kernel
theorem dX6_song_144 : decode cX6_song 144 = .ok (.iload_n 1, 1) := by decide +kernel
theorem dX6_song_145 : decode cX6_song 145 = .ok (.iconst 0, 1) := by decide +kernel
theorem dX6_song_146 : decode cX6_song 146 = .ok (.iastore, 1) := by decide +kernel
theorem dX6_song_147 : decode cX6_song 147 = .ok (.aload_n 0, 1) := by decide +kernel
theorem dX6_song_148 : decode cX6_song 148 = .ok (.getfield 32, 3) := by decide +kernel
theorem dX6_song_151 : decode cX6_song 151 = .ok (.iload_n 1, 1) := by decide +kernel
theorem dX6_song_152 : decode cX6_song 152 = .ok (.iconst 4, 1) := by decide +kernel
theorem dX6_song_153 : decode cX6_song 153 = .ok (.iastore, 1) := by decide +kernel
theorem dX6_song_154 : decode cX6_song 154 = .ok (.iconst 0, 1) := by decide +kernel
theorem dX6_song_155 : decode cX6_song 155 = .ok (.istore 6, 2) := by decide +kernel
theorem dX6_song_157 : decode cX6_song 157 = .ok (.iload 6, 2) := by decide +kernel
theorem dX6_song_159 : decode cX6_song 159 = .ok (.bipush 64, 2) := by decide +kernel
theorem dX6_song_161 : decode cX6_song 161 = .ok (.if_icmp .ge 22, 3) := by decide +kernel
theorem dX6_song_164 : decode cX6_song 164 = .ok (.aload_n 0, 1) := by decide +kernel
theorem dX6_song_165 : decode cX6_song 165 = .ok (.getfield 35, 3) := by decide +kernel
theorem dX6_song_168 : decode cX6_song 168 = .ok (.bipush 64, 2) := by decide +kernel
theorem dX6_song_170 : decode cX6_song 170 = .ok (.iload_n 1, 1) := by decide +kernel
theorem dX6_song_171 : decode cX6_song 171 = .ok (.imul, 1) := by decide +kernel
theorem dX6_song_172 : decode cX6_song 172 = .ok (.iload 6, 2) := by decide +kernel
theorem dX6_song_174 : decode cX6_song 174 = .ok (.iadd, 1) := by decide +kernel
theorem dX6_song_175 : decode cX6_song 175 = .ok (.iconst 4, 1) := by decide +kernel
theorem dX6_song_176 : decode cX6_song 176 = .ok (.iastore, 1) := by decide +kernel
theorem dX6_song_177 : decode cX6_song 177 = .ok (.iinc 6 1, 3) := by decide +kernel
theorem dX6_song_180 : decode cX6_song 180 = .ok (.goto (-23), 3) := by decide +kernel
theorem dX6_song_183 : decode cX6_song 183 = .ok (.aload_n 0, 1) := by decide +kernel
theorem dX6_song_184 : decode cX6_song 184 = .ok (.getfield 38, 3) := by decide +kernel
theorem dX6_song_187 : decode cX6_song 187 = .ok (.iload_n 1, 1) := by decide +kernel
theorem dX6_song_188 : decode cX6_song 188 = .ok (.iconst 0, 1) := by decide +kernel
theorem dX6_song_189 : decode cX6_song 189 = .ok (.iastore, 1) := by decide +kernel
theorem dX6_song_190 : decode cX6_song 190 = .ok (.aload_n 0, 1) := by decide +kernel
theorem dX6_song_191 : decode cX6_song 191 = .ok (.getfield 41, 3) := by decide +kernel
theorem dX6_song_194 : decode cX6_song 194 = .ok (.iload_n 1, 1) := by decide +kernel
theorem dX6_song_195 : decode cX6_song 195 = .ok (.iconst 0, 1) := by decide +kernel
theorem dX6_song_196 : decode cX6_song 196 = .ok (.iastore, 1) := by decide +kernel
theorem dX6_song_197 : decode cX6_song 197 = .ok (.aload_n 0, 1) := by decide +kernel
theorem dX6_song_198 : decode cX6_song 198 = .ok (.getfield 44, 3) := by decide +kernel
theorem dX6_song_201 : decode cX6_song 201 = .ok (.iload_n 1, 1) := by decide +kernel
theorem dX6_song_202 : decode cX6_song 202 = .ok (.iconst 1, 1) := by decide +kernel
theorem dX6_song_203 : decode cX6_song 203 = .ok (.iastore, 1) := by decide +kernel
theorem dX6_song_204 : decode cX6_song 204 = .ok (.aload_n 0, 1) := by decide +kernel
theorem dX6_song_205 : decode cX6_song 205 = .ok (.iload_n 1, 1) := by decide +kernel
theorem dX6_song_206 : decode cX6_song 206 = .ok (.invokevirtual 103, 3) := by decide +kernel
theorem dX6_song_209 : decode cX6_song 209 = .ok (.iconst 1, 1) := by decide +kernel
theorem dX6_song_210 : decode cX6_song 210 = .ok (.ireturn, 1) := by decide +kernel
set_option maxRecDepth 20000 in
theorem ggX6_about_X6_isSong : GoodIn wsX6_about wsX6_isSong := goodIn_r _ [8, 9, 10, 11, 12, 13, 14, 15, 16, 17, 18, 19, 20, 21, 22, 23, 24, 25, 26, 27, 28, 29, 30, 31, 32, 33, 34, 35, 36, 37, 38, 39, 40, 41, 42, 43, 44, 45] (by decide +kernel) (by decide +kernel)
set_option maxRecDepth 20000 in
theorem gX6_about_X6_isSong : GoodIn wsX6_about (wsV RX6 107 RX6 yX6_isSong wsX6_isSong) := goodIn_app (goodIn_of _ (by decide +kernel)) ggX6_about_X6_isSong
theorem dX6_about_0 : decode cX6_about 0 = .ok (.aload_n 0, 1) := by decide +kernel
theorem dX6_about_1 : decode cX6_about 1 = .ok (.iload_n 1, 1) := by decide +kernel
theorem dX6_about_2 : decode cX6_about 2 = .ok (.invokevirtual 107, 3) := by decide +kernel
theorem dX6_about_5 : decode cX6_about 5 = .ok (.ifCond .eq 36, 3) := by decide +kernel
theorem dX6_about_8 : decode cX6_about 8 = .ok (.iload_n 2, 1) := by decide +kernel
theorem dX6_about_9 : decode cX6_about 9 = .ok (.ifCond .lt 32, 3) := by decide +kernel
theorem dX6_about_12 : decode cX6_about 12 = .ok (.iload_n 2, 1) := by decide +kernel
theorem dX6_about_13 : decode cX6_about 13 = .ok (.bipush 23, 2) := by decide +kernel
theorem dX6_about_15 : decode cX6_about 15 = .ok (.if_icmp .gt 26, 3) := by decide +kernel
theorem dX6_about_18 : decode cX6_about 18 = .ok (.iload_n 3, 1) := by decide +kernel
theorem dX6_about_19 : decode cX6_about 19 = .ok (.ifCond .lt 22, 3) := by decide +kernel
theorem dX6_about_22 : decode cX6_about 22 = .ok (.iload_n 3, 1) := by decide +kernel
theorem dX6_about_23 : decode cX6_about 23 = .ok (.bipush 9, 2) := by decide +kernel
theorem dX6_about_25 : decode cX6_about 25 = .ok (.if_icmp .gt 16, 3) := by decide +kernel
theorem dX6_about_28 : decode cX6_about 28 = .ok (.iload 4, 2) := by decide +kernel
theorem dX6_about_30 : decode cX6_about 30 = .ok (.iconst 1, 1) := by decide +kernel
theorem dX6_about_31 : decode cX6_about 31 = .ok (.if_icmp .lt 10, 3) := by decide +kernel
theorem dX6_about_34 : decode cX6_about 34 = .ok (.iload 4, 2) := by decide +kernel
theorem dX6_about_36 : decode cX6_about 36 = .ok (.bipush 16, 2) := by decide +kernel
theorem dX6_about_38 : decode cX6_about 38 = .ok (.if_icmp .le 5, 3) := by decide +kernel
theorem dX6_about_41 : decode cX6_about 41 = .ok (.iconst 0, 1) := by decide +kernel
theorem dX6_about_42 : decode cX6_about 42 = .ok (.ireturn, 1) := by decide +kernel
theorem dX6_about_43 : decode cX6_about 43 = .ok (.aload_n 0, 1) := by decide +kernel
theorem dX6_about_44 : decode cX6_about 44 = .ok (.getfield 26, 3) := by decide +kernel
theorem dX6_about_47 : decode cX6_about 47 = .ok (.iload_n 1, 1) := by decide +kernel
theorem dX6_about_48 : decode cX6_about 48 = .ok (.iload_n 2, 1) := by decide +kernel
theorem dX6_about_49 : decode cX6_about 49 = .ok (.iastore, 1) := by decide +kernel
theorem dX6_about_50 : decode cX6_about 50 = .ok (.aload_n 0, 1) := by decide +kernel
theorem dX6_about_51 : decode cX6_about 51 = .ok (.getfield 29, 3) := by decide +kernel
theorem dX6_about_54 : decode cX6_about 54 = .ok (.iload_n 1, 1) := by decide +kernel
theorem dX6_about_55 : decode cX6_about 55 = .ok (.iload_n 3, 1) := by decide +kernel
theorem dX6_about_56 : decode cX6_about 56 = .ok (.iastore, 1) := by decide +kernel
theorem dX6_about_57 : decode cX6_about 57 = .ok (.aload_n 0, 1) := by decide +kernel
theorem dX6_about_58 : decode cX6_about 58 = .ok (.getfield 32, 3) := by decide +kernel
theorem dX6_about_61 : decode cX6_about 61 = .ok (.iload_n 1, 1) := by decide +kernel
theorem dX6_about_62 : decode cX6_about 62 = .ok (.iload 4, 2) := by decide +kernel
theorem dX6_about_64 : decode cX6_about 64 = .ok (.iastore, 1) := by decide +kernel
theorem dX6_about_65 : decode cX6_about 65 = .ok (.iconst 1, 1) := by decide +kernel
theorem dX6_about_66 : decode cX6_about 66 = .ok (.ireturn, 1) := by decide +kernel
set_option maxRecDepth 20000 in
theorem ggX6_bar_X6_isSong : GoodIn wsX6_bar wsX6_isSong := goodIn_r _ [7, 8, 9, 10, 11, 12, 13, 14, 15, 16, 17, 18, 19, 20, 21, 22, 23, 24, 25, 26, 27, 28, 29, 30, 31, 32, 33, 34, 35, 36, 37, 38, 39, 40, 41, 42, 43, 44] (by decide +kernel) (by decide +kernel)
set_option maxRecDepth 20000 in
theorem gX6_bar_X6_isSong : GoodIn wsX6_bar (wsV RX6 107 RX6 yX6_isSong wsX6_isSong) := goodIn_app (goodIn_of _ (by decide +kernel)) ggX6_bar_X6_isSong
theorem dX6_bar_0 : decode cX6_bar 0 = .ok (.aload_n 0, 1) := by decide +kernel
theorem dX6_bar_1 : decode cX6_bar 1 = .ok (.iload_n 1, 1) := by decide +kernel
theorem dX6_bar_2 : decode cX6_bar 2 = .ok (.invokevirtual 107, 3) := by decide +kernel
theorem dX6_bar_5 : decode cX6_bar 5 = .ok (.ifCond .eq 27, 3) := by decide +kernel
theorem dX6_bar_8 : decode cX6_bar 8 = .ok (.iload_n 2, 1) := by decide +kernel
theorem dX6_bar_9 : decode cX6_bar 9 = .ok (.ifCond .lt 23, 3) := by decide +kernel
theorem dX6_bar_12 : decode cX6_bar 12 = .ok (.iload_n 2, 1) := by decide +kernel
theorem dX6_bar_13 : decode cX6_bar 13 = .ok (.aload_n 0, 1) := by decide +kernel
theorem dX6_bar_14 : decode cX6_bar 14 = .ok (.getfield 17, 3) := by decide +kernel
theorem dX6_bar_17 : decode cX6_bar 17 = .ok (.iload_n 1, 1) := by decide +kernel
theorem dX6_bar_18 : decode cX6_bar 18 = .ok (.iaload, 1) := by decide +kernel
theorem dX6_bar_19 : decode cX6_bar 19 = .ok (.if_icmp .ge 13, 3) := by decide +kernel
theorem dX6_bar_22 : decode cX6_bar 22 = .ok (.iload_n 3, 1) := by decide +kernel
theorem dX6_bar_23 : decode cX6_bar 23 = .ok (.iconst 1, 1) := by decide +kernel
theorem dX6_bar_24 : decode cX6_bar 24 = .ok (.if_icmp .lt 8, 3) := by decide +kernel
theorem dX6_bar_27 : decode cX6_bar 27 = .ok (.iload_n 3, 1) := by decide +kernel
theorem dX6_bar_28 : decode cX6_bar 28 = .ok (.iconst 4, 1) := by decide +kernel
theorem dX6_bar_29 : decode cX6_bar 29 = .ok (.if_icmp .le 5, 3) := by decide +kernel
theorem dX6_bar_32 : decode cX6_bar 32 = .ok (.iconst 0, 1) := by decide +kernel
theorem dX6_bar_33 : decode cX6_bar 33 = .ok (.ireturn, 1) := by decide +kernel
theorem dX6_bar_34 : decode cX6_bar 34 = .ok (.aload_n 0, 1) := by decide +kernel
theorem dX6_bar_35 : decode cX6_bar 35 = .ok (.getfield 35, 3) := by decide +kernel
theorem dX6_bar_38 : decode cX6_bar 38 = .ok (.bipush 64, 2) := by decide +kernel
theorem dX6_bar_40 : decode cX6_bar 40 = .ok (.iload_n 1, 1) := by decide +kernel
theorem dX6_bar_41 : decode cX6_bar 41 = .ok (.imul, 1) := by decide +kernel
theorem dX6_bar_42 : decode cX6_bar 42 = .ok (.iload_n 2, 1) := by decide +kernel
theorem dX6_bar_43 : decode cX6_bar 43 = .ok (.iadd, 1) := by decide +kernel
theorem dX6_bar_44 : decode cX6_bar 44 = .ok (.iload_n 3, 1) := by decide +kernel
theorem dX6_bar_45 : decode cX6_bar 45 = .ok (.iastore, 1) := by decide +kernel
theorem dX6_bar_46 : decode cX6_bar 46 = .ok (.iconst 1, 1) := by decide +kernel
theorem dX6_bar_47 : decode cX6_bar 47 = .ok (.ireturn, 1) := by decide +kernel
set_option maxRecDepth 20000 in
theorem ggX6_loop_X6_isSong : GoodIn wsX6_loop wsX6_isSong := goodIn_r _ [9, 10, 11, 12, 13, 14, 15, 16, 17, 18, 19, 20, 21, 22, 23, 24, 25, 26, 27, 28, 29, 30, 31, 32, 33, 34, 35, 36, 37, 38, 39, 40, 41, 42, 43, 44, 45, 46] (by decide +kernel) (by decide +kernel)
set_option maxRecDepth 20000 in
theorem gX6_loop_X6_isSong : GoodIn wsX6_loop (wsV RX6 107 RX6 yX6_isSong wsX6_isSong) := goodIn_app (goodIn_of _ (by decide +kernel)) ggX6_loop_X6_isSong
theorem dX6_loop_0 : decode cX6_loop 0 = .ok (.aload_n 0, 1) := by decide +kernel
theorem dX6_loop_1 : decode cX6_loop 1 = .ok (.iload_n 1, 1) := by decide +kernel
theorem dX6_loop_2 : decode cX6_loop 2 = .ok (.invokevirtual 107, 3) := by decide +kernel
theorem dX6_loop_5 : decode cX6_loop 5 = .ok (.ifCond .eq 56, 3) := by decide +kernel
theorem dX6_loop_8 : decode cX6_loop 8 = .ok (.iload_n 2, 1) := by decide +kernel
theorem dX6_loop_9 : decode cX6_loop 9 = .ok (.ifCond .lt 52, 3) := by decide +kernel
theorem dX6_loop_12 : decode cX6_loop 12 = .ok (.iload_n 2, 1) := by decide +kernel
theorem dX6_loop_13 : decode cX6_loop 13 = .ok (.iload_n 3, 1) := by decide +kernel
theorem dX6_loop_14 : decode cX6_loop 14 = .ok (.if_icmp .gt 47, 3) := by decide +kernel
theorem dX6_loop_17 : decode cX6_loop 17 = .ok (.iload_n 3, 1) := by decide +kernel
theorem dX6_loop_18 : decode cX6_loop 18 = .ok (.aload_n 0, 1) := by decide +kernel
theorem dX6_loop_19 : decode cX6_loop 19 = .ok (.getfield 17, 3) := by decide +kernel
theorem dX6_loop_22 : decode cX6_loop 22 = .ok (.iload_n 1, 1) := by decide +kernel
theorem dX6_loop_23 : decode cX6_loop 23 = .ok (.iaload, 1) := by decide +kernel
theorem dX6_loop_24 : decode cX6_loop 24 = .ok (.if_icmp .ge 37, 3) := by decide +kernel
theorem dX6_loop_27 : decode cX6_loop 27 = .ok (.iload 4, 2) := by decide +kernel
theorem dX6_loop_29 : decode cX6_loop 29 = .ok (.iconst 1, 1) := by decide +kernel
theorem dX6_loop_30 : decode cX6_loop 30 = .ok (.if_icmp .lt 31, 3) := by decide +kernel
theorem dX6_loop_33 : decode cX6_loop 33 = .ok (.iload 4, 2) := by decide +kernel
theorem dX6_loop_35 : decode cX6_loop 35 = .ok (.iconst 4, 1) := by decide +kernel
theorem dX6_loop_36 : decode cX6_loop 36 = .ok (.if_icmp .gt 25, 3) := by decide +kernel
theorem dX6_loop_39 : decode cX6_loop 39 = .ok (.aload_n 0, 1) := by decide +kernel
theorem dX6_loop_40 : decode cX6_loop 40 = .ok (.getfield 17, 3) := by decide +kernel
theorem dX6_loop_43 : decode cX6_loop 43 = .ok (.iload_n 1, 1) := by decide +kernel
theorem dX6_loop_44 : decode cX6_loop 44 = .ok (.iaload, 1) := by decide +kernel
theorem dX6_loop_45 : decode cX6_loop 45 = .ok (.iload 4, 2) := by decide +kernel
theorem dX6_loop_47 : decode cX6_loop 47 = .ok (.iconst 1, 1) := by decide +kernel
theorem dX6_loop_48 : decode cX6_loop 48 = .ok (.isub, 1) := by decide +kernel
theorem dX6_loop_49 : decode cX6_loop 49 = .ok (.iload_n 3, 1) := by decide +kernel
theorem dX6_loop_50 : decode cX6_loop 50 = .ok (.iload_n 2, 1) := by decide +kernel
theorem dX6_loop_51 : decode cX6_loop 51 = .ok (.isub, 1) := by decide +kernel
theorem dX6_loop_52 : decode cX6_loop 52 = .ok (.iconst 1, 1) := by decide +kernel
theorem dX6_loop_53 : decode cX6_loop 53 = .ok (.iadd, 1) := by decide +kernel
theorem dX6_loop_54 : decode cX6_loop 54 = .ok (.imul, 1) := by decide +kernel
theorem dX6_loop_55 : decode cX6_loop 55 = .ok (.iadd, 1) := by decide +kernel
theorem dX6_loop_56 : decode cX6_loop 56 = .ok (.bipush 64, 2) := by decide +kernel
theorem dX6_loop_58 : decode cX6_loop 58 = .ok (.if_icmp .le 5, 3) := by decide +kernel
theorem dX6_loop_61 : decode cX6_loop 61 = .ok (.iconst 0, 1) := by decide +kernel
theorem dX6_loop_62 : decode cX6_loop 62 = .ok (.ireturn, 1) := by decide +kernel
theorem dX6_loop_63 : decode cX6_loop 63 = .ok (.aload_n 0, 1) := by decide +kernel
theorem dX6_loop_64 : decode cX6_loop 64 = .ok (.getfield 38, 3) := by decide +kernel
theorem dX6_loop_67 : decode cX6_loop 67 = .ok (.iload_n 1, 1) := by decide +kernel
theorem dX6_loop_68 : decode cX6_loop 68 = .ok (.iload_n 2, 1) := by decide +kernel
theorem dX6_loop_69 : decode cX6_loop 69 = .ok (.iastore, 1) := by decide +kernel
theorem dX6_loop_70 : decode cX6_loop 70 = .ok (.aload_n 0, 1) := by decide +kernel
theorem dX6_loop_71 : decode cX6_loop 71 = .ok (.getfield 41, 3) := by decide +kernel
theorem dX6_loop_74 : decode cX6_loop 74 = .ok (.iload_n 1, 1) := by decide +kernel
theorem dX6_loop_75 : decode cX6_loop 75 = .ok (.iload_n 3, 1) := by decide +kernel
theorem dX6_loop_76 : decode cX6_loop 76 = .ok (.iastore, 1) := by decide +kernel
theorem dX6_loop_77 : decode cX6_loop 77 = .ok (.aload_n 0, 1) := by decide +kernel
theorem dX6_loop_78 : decode cX6_loop 78 = .ok (.getfield 44, 3) := by decide +kernel
theorem dX6_loop_81 : decode cX6_loop 81 = .ok (.iload_n 1, 1) := by decide +kernel
theorem dX6_loop_82 : decode cX6_loop 82 = .ok (.iload 4, 2) := by decide +kernel
theorem dX6_loop_84 : decode cX6_loop 84 = .ok (.iastore, 1) := by decide +kernel
theorem dX6_loop_85 : decode cX6_loop 85 = .ok (.iconst 1, 1) := by decide +kernel
theorem dX6_loop_86 : decode cX6_loop 86 = .ok (.ireturn, 1) := by decide +kernel
set_option maxRecDepth 20000 in
theorem ggX6_drop_X6_isSong : GoodIn wsX6_drop wsX6_isSong := goodIn_r _ [6, 1, 12, 13, 14, 15, 16, 17, 18, 19, 20, 21, 22, 23, 24, 25, 26, 27, 28, 29, 30, 31, 32, 33, 34, 35, 36, 37, 38, 39, 40, 41, 42, 43, 44, 45, 46, 47] (by decide +kernel) (by decide +kernel)
set_option maxRecDepth 20000 in
theorem gX6_drop_X6_isSong : GoodIn wsX6_drop (wsV RX6 107 RX6 yX6_isSong wsX6_isSong) := goodIn_app (goodIn_of _ (by decide +kernel)) ggX6_drop_X6_isSong
set_option maxRecDepth 20000 in
theorem ggX6_drop_X6_forgets : GoodIn wsX6_drop wsX6_forgets := goodIn_r _ [10, 11, 12, 13, 14, 15, 16, 17, 18, 19, 20, 21, 22, 23, 24, 25, 26, 27, 28, 29, 30, 31, 32, 33, 34, 35, 36, 37, 38, 39, 40, 41, 42, 43, 44, 45, 46, 47] (by decide +kernel) (by decide +kernel)
set_option maxRecDepth 20000 in
theorem gX6_drop_X6_forgets : GoodIn wsX6_drop (wsV RX6 103 RX6 yX6_forgets wsX6_forgets) := goodIn_app (goodIn_of _ (by decide +kernel)) ggX6_drop_X6_forgets
theorem dX6_drop_0 : decode cX6_drop 0 = .ok (.aload_n 0, 1) := by decide +kernel
theorem dX6_drop_1 : decode cX6_drop 1 = .ok (.iload_n 1, 1) := by decide +kernel
theorem dX6_drop_2 : decode cX6_drop 2 = .ok (.invokevirtual 107, 3) := by decide +kernel
theorem dX6_drop_5 : decode cX6_drop 5 = .ok (.ifCond .ne 5, 3) := by decide +kernel
theorem dX6_drop_8 : decode cX6_drop 8 = .ok (.iconst 0, 1) := by decide +kernel
theorem dX6_drop_9 : decode cX6_drop 9 = .ok (.ireturn, 1) := by decide +kernel
theorem dX6_drop_10 : decode cX6_drop 10 = .ok (.aload_n 0, 1) := by decide +kernel
theorem dX6_drop_11 : decode cX6_drop 11 = .ok (.getfield 7, 3) := by decide +kernel
theorem dX6_drop_14 : decode cX6_drop 14 = .ok (.iload_n 1, 1) := by decide +kernel
theorem dX6_drop_15 : decode cX6_drop 15 = .ok (.iconst 0, 1) := by decide +kernel
theorem dX6_drop_16 : decode cX6_drop 16 = .ok (.bastore, 1) := by decide +kernel
theorem dX6_drop_17 : decode cX6_drop 17 = .ok (.aload_n 0, 1) := by decide +kernel
theorem dX6_drop_18 : decode cX6_drop 18 = .ok (.iload_n 1, 1) := by decide +kernel
theorem dX6_drop_19 : decode cX6_drop 19 = .ok (.invokevirtual 103, 3) := by decide +kernel
theorem dX6_drop_22 : decode cX6_drop 22 = .ok (.iconst 1, 1) := by decide +kernel
theorem dX6_drop_23 : decode cX6_drop 23 = .ok (.ireturn, 1) := by decide +kernel
theorem dX6_playedBars_0 : decode cX6_playedBars 0 = .ok (.aload_n 0, 1) := by decide +kernel
theorem dX6_playedBars_1 : decode cX6_playedBars 1 = .ok (.getfield 17, 3) := by decide +kernel
theorem dX6_playedBars_4 : decode cX6_playedBars 4 = .ok (.iload_n 1, 1) := by decide +kernel
theorem dX6_playedBars_5 : decode cX6_playedBars 5 = .ok (.iaload, 1) := by decide +kernel
theorem dX6_playedBars_6 : decode cX6_playedBars 6 = .ok (.aload_n 0, 1) := by decide +kernel
theorem dX6_playedBars_7 : decode cX6_playedBars 7 = .ok (.getfield 44, 3) := by decide +kernel
theorem dX6_playedBars_10 : decode cX6_playedBars 10 = .ok (.iload_n 1, 1) := by decide +kernel
theorem dX6_playedBars_11 : decode cX6_playedBars 11 = .ok (.iaload, 1) := by decide +kernel
theorem dX6_playedBars_12 : decode cX6_playedBars 12 = .ok (.iconst 1, 1) := by decide +kernel
theorem dX6_playedBars_13 : decode cX6_playedBars 13 = .ok (.isub, 1) := by decide +kernel
theorem dX6_playedBars_14 : decode cX6_playedBars 14 = .ok (.aload_n 0, 1) := by decide +kernel
theorem dX6_playedBars_15 : decode cX6_playedBars 15 = .ok (.getfield 41, 3) := by decide +kernel
theorem dX6_playedBars_18 : decode cX6_playedBars 18 = .ok (.iload_n 1, 1) := by decide +kernel
theorem dX6_playedBars_19 : decode cX6_playedBars 19 = .ok (.iaload, 1) := by decide +kernel
theorem dX6_playedBars_20 : decode cX6_playedBars 20 = .ok (.aload_n 0, 1) := by decide +kernel
theorem dX6_playedBars_21 : decode cX6_playedBars 21 = .ok (.getfield 38, 3) := by decide +kernel
theorem dX6_playedBars_24 : decode cX6_playedBars 24 = .ok (.iload_n 1, 1) := by decide +kernel
theorem dX6_playedBars_25 : decode cX6_playedBars 25 = .ok (.iaload, 1) := by decide +kernel
theorem dX6_playedBars_26 : decode cX6_playedBars 26 = .ok (.isub, 1) := by decide +kernel
theorem dX6_playedBars_27 : decode cX6_playedBars 27 = .ok (.iconst 1, 1) := by decide +kernel
theorem dX6_playedBars_28 : decode cX6_playedBars 28 = .ok (.iadd, 1) := by decide +kernel
theorem dX6_playedBars_29 : decode cX6_playedBars 29 = .ok (.imul, 1) := by decide +kernel
theorem dX6_playedBars_30 : decode cX6_playedBars 30 = .ok (.iadd, 1) := by decide +kernel
theorem dX6_playedBars_31 : decode cX6_playedBars 31 = .ok (.ireturn, 1) := by decide +kernel
theorem dX6_barOf_0 : decode cX6_barOf 0 = .ok (.aload_n 0, 1) := by decide +kernel
theorem dX6_barOf_1 : decode cX6_barOf 1 = .ok (.getfield 41, 3) := by decide +kernel
theorem dX6_barOf_4 : decode cX6_barOf 4 = .ok (.iload_n 1, 1) := by decide +kernel
theorem dX6_barOf_5 : decode cX6_barOf 5 = .ok (.iaload, 1) := by decide +kernel
theorem dX6_barOf_6 : decode cX6_barOf 6 = .ok (.aload_n 0, 1) := by decide +kernel
theorem dX6_barOf_7 : decode cX6_barOf 7 = .ok (.getfield 38, 3) := by decide +kernel
theorem dX6_barOf_10 : decode cX6_barOf 10 = .ok (.iload_n 1, 1) := by decide +kernel
theorem dX6_barOf_11 : decode cX6_barOf 11 = .ok (.iaload, 1) := by decide +kernel
theorem dX6_barOf_12 : decode cX6_barOf 12 = .ok (.isub, 1) := by decide +kernel
theorem dX6_barOf_13 : decode cX6_barOf 13 = .ok (.iconst 1, 1) := by decide +kernel
theorem dX6_barOf_14 : decode cX6_barOf 14 = .ok (.iadd, 1) := by decide +kernel
theorem dX6_barOf_15 : decode cX6_barOf 15 = .ok (.istore_n 3, 1) := by decide +kernel
theorem dX6_barOf_16 : decode cX6_barOf 16 = .ok (.iload_n 2, 1) := by decide +kernel
theorem dX6_barOf_17 : decode cX6_barOf 17 = .ok (.aload_n 0, 1) := by decide +kernel
theorem dX6_barOf_18 : decode cX6_barOf 18 = .ok (.getfield 41, 3) := by decide +kernel
theorem dX6_barOf_21 : decode cX6_barOf 21 = .ok (.iload_n 1, 1) := by decide +kernel
theorem dX6_barOf_22 : decode cX6_barOf 22 = .ok (.iaload, 1) := by decide +kernel
theorem dX6_barOf_23 : decode cX6_barOf 23 = .ok (.if_icmp .gt 5, 3) := by decide +kernel
theorem dX6_barOf_26 : decode cX6_barOf 26 = .ok (.iload_n 2, 1) := by decide +kernel
theorem dX6_barOf_27 : decode cX6_barOf 27 = .ok (.ireturn, 1) := by decide +kernel
theorem dX6_barOf_28 : decode cX6_barOf 28 = .ok (.iload_n 2, 1) := by decide +kernel
theorem dX6_barOf_29 : decode cX6_barOf 29 = .ok (.aload_n 0, 1) := by decide +kernel
theorem dX6_barOf_30 : decode cX6_barOf 30 = .ok (.getfield 38, 3) := by decide +kernel
theorem dX6_barOf_33 : decode cX6_barOf 33 = .ok (.iload_n 1, 1) := by decide +kernel
theorem dX6_barOf_34 : decode cX6_barOf 34 = .ok (.iaload, 1) := by decide +kernel
theorem dX6_barOf_35 : decode cX6_barOf 35 = .ok (.isub, 1) := by decide +kernel
theorem dX6_barOf_36 : decode cX6_barOf 36 = .ok (.istore 4, 2) := by decide +kernel
theorem dX6_barOf_38 : decode cX6_barOf 38 = .ok (.iload 4, 2) := by decide +kernel
theorem dX6_barOf_40 : decode cX6_barOf 40 = .ok (.iload_n 3, 1) := by decide +kernel
theorem dX6_barOf_41 : decode cX6_barOf 41 = .ok (.aload_n 0, 1) := by decide +kernel
theorem dX6_barOf_42 : decode cX6_barOf 42 = .ok (.getfield 44, 3) := by decide +kernel
theorem dX6_barOf_45 : decode cX6_barOf 45 = .ok (.iload_n 1, 1) := by decide +kernel
theorem dX6_barOf_46 : decode cX6_barOf 46 = .ok (.iaload, 1) := by decide +kernel
theorem dX6_barOf_47 : decode cX6_barOf 47 = .ok (.imul, 1) := by decide +kernel
theorem dX6_barOf_48 : decode cX6_barOf 48 = .ok (.if_icmp .ge 17, 3) := by decide +kernel
theorem dX6_barOf_51 : decode cX6_barOf 51 = .ok (.aload_n 0, 1) := by decide +kernel
theorem dX6_barOf_52 : decode cX6_barOf 52 = .ok (.getfield 38, 3) := by decide +kernel
theorem dX6_barOf_55 : decode cX6_barOf 55 = .ok (.iload_n 1, 1) := by decide +kernel
theorem dX6_barOf_56 : decode cX6_barOf 56 = .ok (.iaload, 1) := by decide +kernel
theorem dX6_barOf_57 : decode cX6_barOf 57 = .ok (.iload 4, 2) := by decide +kernel
theorem dX6_barOf_59 : decode cX6_barOf 59 = .ok (.iload_n 3, 1) := by decide +kernel
theorem dX6_barOf_60 : decode cX6_barOf 60 = .ok (.irem, 1) := by decide +kernel
theorem dX6_barOf_61 : decode cX6_barOf 61 = .ok (.iadd, 1) := by decide +kernel
theorem dX6_barOf_62 : decode cX6_barOf 62 = .ok (.goto 15, 3) := by decide +kernel
theorem dX6_barOf_65 : decode cX6_barOf 65 = .ok (.iload_n 2, 1) := by decide +kernel
theorem dX6_barOf_66 : decode cX6_barOf 66 = .ok (.iload_n 3, 1) := by decide +kernel
theorem dX6_barOf_67 : decode cX6_barOf 67 = .ok (.aload_n 0, 1) := by decide +kernel
theorem dX6_barOf_68 : decode cX6_barOf 68 = .ok (.getfield 44, 3) := by decide +kernel
theorem dX6_barOf_71 : decode cX6_barOf 71 = .ok (.iload_n 1, 1) := by decide +kernel
theorem dX6_barOf_72 : decode cX6_barOf 72 = .ok (.iaload, 1) := by decide +kernel
theorem dX6_barOf_73 : decode cX6_barOf 73 = .ok (.iconst 1, 1) := by decide +kernel
theorem dX6_barOf_74 : decode cX6_barOf 74 = .ok (.isub, 1) := by decide +kernel
theorem dX6_barOf_75 : decode cX6_barOf 75 = .ok (.imul, 1) := by decide +kernel
theorem dX6_barOf_76 : decode cX6_barOf 76 = .ok (.isub, 1) := by decide +kernel
theorem dX6_barOf_77 : decode cX6_barOf 77 = .ok (.ireturn, 1) := by decide +kernel
theorem dX6_beatsOf_0 : decode cX6_beatsOf 0 = .ok (.iconst 0, 1) := by decide +kernel
theorem dX6_beatsOf_1 : decode cX6_beatsOf 1 = .ok (.istore_n 2, 1) := by decide +kernel
theorem dX6_beatsOf_2 : decode cX6_beatsOf 2 = .ok (.iconst 0, 1) := by decide +kernel
theorem dX6_beatsOf_3 : decode cX6_beatsOf 3 = .ok (.istore_n 3, 1) := by decide +kernel
theorem dX6_beatsOf_4 : decode cX6_beatsOf 4 = .ok (.iload_n 3, 1) := by decide +kernel
theorem dX6_beatsOf_5 : decode cX6_beatsOf 5 = .ok (.aload_n 0, 1) := by decide +kernel
theorem dX6_beatsOf_6 : decode cX6_beatsOf 6 = .ok (.getfield 17, 3) := by decide +kernel
theorem dX6_beatsOf_9 : decode cX6_beatsOf 9 = .ok (.iload_n 1, 1) := by decide +kernel
theorem dX6_beatsOf_10 : decode cX6_beatsOf 10 = .ok (.iaload, 1) := by decide +kernel
theorem dX6_beatsOf_11 : decode cX6_beatsOf 11 = .ok (.if_icmp .ge 23, 3) := by decide +kernel
theorem dX6_beatsOf_14 : decode cX6_beatsOf 14 = .ok (.iload_n 2, 1) := by decide +kernel
theorem dX6_beatsOf_15 : decode cX6_beatsOf 15 = .ok (.aload_n 0, 1) := by decide +kernel
theorem dX6_beatsOf_16 : decode cX6_beatsOf 16 = .ok (.getfield 35, 3) := by decide +kernel
theorem dX6_beatsOf_19 : decode cX6_beatsOf 19 = .ok (.bipush 64, 2) := by decide +kernel
theorem dX6_beatsOf_21 : decode cX6_beatsOf 21 = .ok (.iload_n 1, 1) := by decide +kernel
theorem dX6_beatsOf_22 : decode cX6_beatsOf 22 = .ok (.imul, 1) := by decide +kernel
theorem dX6_beatsOf_23 : decode cX6_beatsOf 23 = .ok (.iload_n 3, 1) := by decide +kernel
theorem dX6_beatsOf_24 : decode cX6_beatsOf 24 = .ok (.iadd, 1) := by decide +kernel
theorem dX6_beatsOf_25 : decode cX6_beatsOf 25 = .ok (.iaload, 1) := by decide +kernel
theorem dX6_beatsOf_26 : decode cX6_beatsOf 26 = .ok (.iadd, 1) := by decide +kernel
theorem dX6_beatsOf_27 : decode cX6_beatsOf 27 = .ok (.istore_n 2, 1) := by decide +kernel
theorem dX6_beatsOf_28 : decode cX6_beatsOf 28 = .ok (.iinc 3 1, 3) := by decide +kernel
theorem dX6_beatsOf_31 : decode cX6_beatsOf 31 = .ok (.goto (-27), 3) := by decide +kernel
theorem dX6_beatsOf_34 : decode cX6_beatsOf 34 = .ok (.iload_n 2, 1) := by decide +kernel
theorem dX6_beatsOf_35 : decode cX6_beatsOf 35 = .ok (.ireturn, 1) := by decide +kernel
set_option maxRecDepth 20000 in
theorem ggX6_of_X6_isSong : GoodIn wsX6_of wsX6_isSong := goodIn_r _ [13, 14, 26, 27, 28, 29, 30, 31, 32, 33, 34, 35, 36, 37, 38, 39, 40, 41, 42, 43, 44, 45, 46, 47, 48, 49, 50, 51, 52, 53, 54, 55, 56, 57, 58, 59, 60, 61] (by decide +kernel) (by decide +kernel)
set_option maxRecDepth 20000 in
theorem gX6_of_X6_isSong : GoodIn wsX6_of (wsV RX6 107 RX6 yX6_isSong wsX6_isSong) := goodIn_app (goodIn_of _ (by decide +kernel)) ggX6_of_X6_isSong
set_option maxRecDepth 20000 in
theorem ggX6_of_X6_playedBars : GoodIn wsX6_of wsX6_playedBars := goodIn_r _ [18, 2, 19, 20, 21, 26, 27, 28, 29, 30, 31, 32, 33, 34, 35, 36, 37, 38, 39, 40, 41, 42, 43, 44, 45, 46, 47, 48, 49, 50, 51, 52, 53, 54, 55, 56, 57, 58, 59, 60, 61] (by decide +kernel) (by decide +kernel)
set_option maxRecDepth 20000 in
theorem gX6_of_X6_playedBars : GoodIn wsX6_of (wsV RX6 111 RX6 yX6_playedBars wsX6_playedBars) := goodIn_app (goodIn_of _ (by decide +kernel)) ggX6_of_X6_playedBars
set_option maxRecDepth 20000 in
theorem ggX6_of_X6_beatsOf : GoodIn wsX6_of wsX6_beatsOf := goodIn_r _ [25, 2, 8, 26, 27, 28, 29, 30, 31, 32, 33, 34, 35, 36, 37, 38, 39, 40, 41, 42, 43, 44, 45, 46, 47, 48, 49, 50, 51, 52, 53, 54, 55, 56, 57, 58, 59, 60, 61] (by decide +kernel) (by decide +kernel)
set_option maxRecDepth 20000 in
theorem gX6_of_X6_beatsOf : GoodIn wsX6_of (wsV RX6 115 RX6 yX6_beatsOf wsX6_beatsOf) := goodIn_app (goodIn_of _ (by decide +kernel)) ggX6_of_X6_beatsOf
theorem dX6_of_0 : decode cX6_of 0 = .ok (.aload_n 0, 1) := by decide +kernel
theorem dX6_of_1 : decode cX6_of 1 = .ok (.iload_n 1, 1) := by decide +kernel
theorem dX6_of_2 : decode cX6_of 2 = .ok (.invokevirtual 107, 3) := by decide +kernel
theorem dX6_of_5 : decode cX6_of 5 = .ok (.ifCond .ne 7, 3) := by decide +kernel
theorem dX6_of_8 : decode cX6_of 8 = .ok (.sipush (-1000), 3) := by decide +kernel
theorem dX6_of_11 : decode cX6_of 11 = .ok (.ireturn, 1) := by decide +kernel
theorem dX6_of_12 : decode cX6_of 12 = .ok (.iload_n 2, 1) := by decide +kernel
theorem dX6_of_13 : decode cX6_of 13 = .ok (.tableswitch 159 0 9 #[55, 62, 69, 76, 83, 90, 97, 104, 110, 116], 55) := by decide +kernel
theorem dX6_of_68 : decode cX6_of 68 = .ok (.aload_n 0, 1) := by decide +kernel
theorem dX6_of_69 : decode cX6_of 69 = .ok (.getfield 13, 3) := by decide +kernel
theorem dX6_of_72 : decode cX6_of 72 = .ok (.iload_n 1, 1) := by decide +kernel
theorem dX6_of_73 : decode cX6_of 73 = .ok (.iaload, 1) := by decide +kernel
theorem dX6_of_74 : decode cX6_of 74 = .ok (.ireturn, 1) := by decide +kernel
theorem dX6_of_75 : decode cX6_of 75 = .ok (.aload_n 0, 1) := by decide +kernel
theorem dX6_of_76 : decode cX6_of 76 = .ok (.getfield 17, 3) := by decide +kernel
theorem dX6_of_79 : decode cX6_of 79 = .ok (.iload_n 1, 1) := by decide +kernel
theorem dX6_of_80 : decode cX6_of 80 = .ok (.iaload, 1) := by decide +kernel
theorem dX6_of_81 : decode cX6_of 81 = .ok (.ireturn, 1) := by decide +kernel
theorem dX6_of_82 : decode cX6_of 82 = .ok (.aload_n 0, 1) := by decide +kernel
theorem dX6_of_83 : decode cX6_of 83 = .ok (.getfield 20, 3) := by decide +kernel
theorem dX6_of_86 : decode cX6_of 86 = .ok (.iload_n 1, 1) := by decide +kernel
theorem dX6_of_87 : decode cX6_of 87 = .ok (.iaload, 1) := by decide +kernel
theorem dX6_of_88 : decode cX6_of 88 = .ok (.ireturn, 1) := by decide +kernel
theorem dX6_of_89 : decode cX6_of 89 = .ok (.aload_n 0, 1) := by decide +kernel
theorem dX6_of_90 : decode cX6_of 90 = .ok (.getfield 23, 3) := by decide +kernel
theorem dX6_of_93 : decode cX6_of 93 = .ok (.iload_n 1, 1) := by decide +kernel
theorem dX6_of_94 : decode cX6_of 94 = .ok (.iaload, 1) := by decide +kernel
theorem dX6_of_95 : decode cX6_of 95 = .ok (.ireturn, 1) := by decide +kernel
theorem dX6_of_96 : decode cX6_of 96 = .ok (.aload_n 0, 1) := by decide +kernel
theorem dX6_of_97 : decode cX6_of 97 = .ok (.getfield 26, 3) := by decide +kernel
theorem dX6_of_100 : decode cX6_of 100 = .ok (.iload_n 1, 1) := by decide +kernel
theorem dX6_of_101 : decode cX6_of 101 = .ok (.iaload, 1) := by decide +kernel
theorem dX6_of_102 : decode cX6_of 102 = .ok (.ireturn, 1) := by decide +kernel
theorem dX6_of_103 : decode cX6_of 103 = .ok (.aload_n 0, 1) := by decide +kernel
theorem dX6_of_104 : decode cX6_of 104 = .ok (.getfield 29, 3) := by decide +kernel
theorem dX6_of_107 : decode cX6_of 107 = .ok (.iload_n 1, 1) := by decide +kernel
theorem dX6_of_108 : decode cX6_of 108 = .ok (.iaload, 1) := by decide +kernel
theorem dX6_of_109 : decode cX6_of 109 = .ok (.ireturn, 1) := by decide +kernel
theorem dX6_of_110 : decode cX6_of 110 = .ok (.aload_n 0, 1) := by decide +kernel
theorem dX6_of_111 : decode cX6_of 111 = .ok (.getfield 32, 3) := by decide +kernel
theorem dX6_of_114 : decode cX6_of 114 = .ok (.iload_n 1, 1) := by decide +kernel
theorem dX6_of_115 : decode cX6_of 115 = .ok (.iaload, 1) := by decide +kernel
theorem dX6_of_116 : decode cX6_of 116 = .ok (.ireturn, 1) := by decide +kernel
theorem dX6_of_117 : decode cX6_of 117 = .ok (.aload_n 0, 1) := by decide +kernel
theorem dX6_of_118 : decode cX6_of 118 = .ok (.iload_n 1, 1) := by decide +kernel
theorem dX6_of_119 : decode cX6_of 119 = .ok (.invokevirtual 111, 3) := by decide +kernel
theorem dX6_of_122 : decode cX6_of 122 = .ok (.ireturn, 1) := by decide +kernel
theorem dX6_of_123 : decode cX6_of 123 = .ok (.aload_n 0, 1) := by decide +kernel
theorem dX6_of_124 : decode cX6_of 124 = .ok (.iload_n 1, 1) := by decide +kernel
theorem dX6_of_125 : decode cX6_of 125 = .ok (.invokevirtual 115, 3) := by decide +kernel
theorem dX6_of_128 : decode cX6_of 128 = .ok (.ireturn, 1) := by decide +kernel
theorem dX6_of_129 : decode cX6_of 129 = .ok (.iconst 0, 1) := by decide +kernel
theorem dX6_of_130 : decode cX6_of 130 = .ok (.istore_n 3, 1) := by decide +kernel
theorem dX6_of_131 : decode cX6_of 131 = .ok (.iconst 0, 1) := by decide +kernel
theorem dX6_of_132 : decode cX6_of 132 = .ok (.istore 4, 2) := by decide +kernel
theorem dX6_of_134 : decode cX6_of 134 = .ok (.iload 4, 2) := by decide +kernel
theorem dX6_of_136 : decode cX6_of 136 = .ok (.aload_n 0, 1) := by decide +kernel
theorem dX6_of_137 : decode cX6_of 137 = .ok (.getfield 17, 3) := by decide +kernel
theorem dX6_of_140 : decode cX6_of 140 = .ok (.iload_n 1, 1) := by decide +kernel
theorem dX6_of_141 : decode cX6_of 141 = .ok (.iaload, 1) := by decide +kernel
theorem dX6_of_142 : decode cX6_of 142 = .ok (.if_icmp .ge 28, 3) := by decide +kernel
theorem dX6_of_145 : decode cX6_of 145 = .ok (.aload_n 0, 1) := by decide +kernel
theorem dX6_of_146 : decode cX6_of 146 = .ok (.getfield 35, 3) := by decide +kernel
theorem dX6_of_149 : decode cX6_of 149 = .ok (.bipush 64, 2) := by decide +kernel
theorem dX6_of_151 : decode cX6_of 151 = .ok (.iload_n 1, 1) := by decide +kernel
theorem dX6_of_152 : decode cX6_of 152 = .ok (.imul, 1) := by decide +kernel
theorem dX6_of_153 : decode cX6_of 153 = .ok (.iload 4, 2) := by decide +kernel
theorem dX6_of_155 : decode cX6_of 155 = .ok (.iadd, 1) := by decide +kernel
theorem dX6_of_156 : decode cX6_of 156 = .ok (.iaload, 1) := by decide +kernel
theorem dX6_of_157 : decode cX6_of 157 = .ok (.iconst 4, 1) := by decide +kernel
theorem dX6_of_158 : decode cX6_of 158 = .ok (.if_icmp .ge 6, 3) := by decide +kernel
theorem dX6_of_161 : decode cX6_of 161 = .ok (.iinc 3 1, 3) := by decide +kernel
theorem dX6_of_164 : decode cX6_of 164 = .ok (.iinc 4 1, 3) := by decide +kernel
theorem dX6_of_167 : decode cX6_of 167 = .ok (.goto (-33), 3) := by decide +kernel
theorem dX6_of_170 : decode cX6_of 170 = .ok (.iload_n 3, 1) := by decide +kernel
theorem dX6_of_171 : decode cX6_of 171 = .ok (.ireturn, 1) := by decide +kernel
theorem dX6_of_172 : decode cX6_of 172 = .ok (.sipush (-1000), 3) := by decide +kernel
theorem dX6_of_175 : decode cX6_of 175 = .ok (.ireturn, 1) := by decide +kernel
theorem dX6_floor_0 : decode cX6_floor 0 = .ok (.iload_n 0, 1) := by decide +kernel
theorem dX6_floor_1 : decode cX6_floor 1 = .ok (.ifCond .lt 9, 3) := by decide +kernel
theorem dX6_floor_4 : decode cX6_floor 4 = .ok (.iload_n 0, 1) := by decide +kernel
theorem dX6_floor_5 : decode cX6_floor 5 = .ok (.iload_n 1, 1) := by decide +kernel
theorem dX6_floor_6 : decode cX6_floor 6 = .ok (.idiv, 1) := by decide +kernel
theorem dX6_floor_7 : decode cX6_floor 7 = .ok (.goto 11, 3) := by decide +kernel
theorem dX6_floor_10 : decode cX6_floor 10 = .ok (.iload_n 1, 1) := by decide +kernel
theorem dX6_floor_11 : decode cX6_floor 11 = .ok (.iconst 1, 1) := by decide +kernel
theorem dX6_floor_12 : decode cX6_floor 12 = .ok (.isub, 1) := by decide +kernel
theorem dX6_floor_13 : decode cX6_floor 13 = .ok (.iload_n 0, 1) := by decide +kernel
theorem dX6_floor_14 : decode cX6_floor 14 = .ok (.isub, 1) := by decide +kernel
theorem dX6_floor_15 : decode cX6_floor 15 = .ok (.iload_n 1, 1) := by decide +kernel
theorem dX6_floor_16 : decode cX6_floor 16 = .ok (.idiv, 1) := by decide +kernel
theorem dX6_floor_17 : decode cX6_floor 17 = .ok (.ineg, 1) := by decide +kernel
theorem dX6_floor_18 : decode cX6_floor 18 = .ok (.ireturn, 1) := by decide +kernel
set_option maxRecDepth 20000 in
theorem ggX6_lasts_X6_floor : GoodIn wsX6_lasts wsX6_floor := goodIn_r _ [7] (by decide +kernel) (by decide +kernel)
set_option maxRecDepth 20000 in
theorem gX6_lasts_X6_floor : GoodIn wsX6_lasts (va_wsS RX6 118 yX6_floor wsX6_floor) := goodIn_app (goodIn_of _ (by decide +kernel)) ggX6_lasts_X6_floor
theorem dX6_lasts_0 : decode cX6_lasts 0 = .ok (.aload_n 0, 1) := by decide +kernel
theorem dX6_lasts_1 : decode cX6_lasts 1 = .ok (.getfield 13, 3) := by decide +kernel
theorem dX6_lasts_4 : decode cX6_lasts 4 = .ok (.iload_n 1, 1) := by decide +kernel
theorem dX6_lasts_5 : decode cX6_lasts 5 = .ok (.iaload, 1) := by decide +kernel
theorem dX6_lasts_6 : decode cX6_lasts 6 = .ok (.ifCond .ne 10, 3) := by decide +kernel
theorem dX6_lasts_9 : decode cX6_lasts 9 = .ok (.aload_n 0, 1) := by decide +kernel
theorem dX6_lasts_10 : decode cX6_lasts 10 = .ok (.getfield 20, 3) := by decide +kernel
theorem dX6_lasts_13 : decode cX6_lasts 13 = .ok (.iload_n 1, 1) := by decide +kernel
theorem dX6_lasts_14 : decode cX6_lasts 14 = .ok (.iaload, 1) := by decide +kernel
theorem dX6_lasts_15 : decode cX6_lasts 15 = .ok (.ireturn, 1) := by decide +kernel
theorem dX6_lasts_16 : decode cX6_lasts 16 = .ok (.aload_n 0, 1) := by decide +kernel
theorem dX6_lasts_17 : decode cX6_lasts 17 = .ok (.getfield 13, 3) := by decide +kernel
theorem dX6_lasts_20 : decode cX6_lasts 20 = .ok (.iload_n 1, 1) := by decide +kernel
theorem dX6_lasts_21 : decode cX6_lasts 21 = .ok (.iaload, 1) := by decide +kernel
theorem dX6_lasts_22 : decode cX6_lasts 22 = .ok (.iconst 1, 1) := by decide +kernel
theorem dX6_lasts_23 : decode cX6_lasts 23 = .ok (.if_icmp .ne 39, 3) := by decide +kernel
theorem dX6_lasts_26 : decode cX6_lasts 26 = .ok (.iload_n 2, 1) := by decide +kernel
theorem dX6_lasts_27 : decode cX6_lasts 27 = .ok (.iconst 2, 1) := by decide +kernel
theorem dX6_lasts_28 : decode cX6_lasts 28 = .ok (.irem, 1) := by decide +kernel
theorem dX6_lasts_29 : decode cX6_lasts 29 = .ok (.ifCond .ne 19, 3) := by decide +kernel
theorem dX6_lasts_32 : decode cX6_lasts 32 = .ok (.aload_n 0, 1) := by decide +kernel
theorem dX6_lasts_33 : decode cX6_lasts 33 = .ok (.getfield 20, 3) := by decide +kernel
theorem dX6_lasts_36 : decode cX6_lasts 36 = .ok (.iload_n 1, 1) := by decide +kernel
theorem dX6_lasts_37 : decode cX6_lasts 37 = .ok (.iaload, 1) := by decide +kernel
theorem dX6_lasts_38 : decode cX6_lasts 38 = .ok (.aload_n 0, 1) := by decide +kernel
theorem dX6_lasts_39 : decode cX6_lasts 39 = .ok (.getfield 23, 3) := by decide +kernel
theorem dX6_lasts_42 : decode cX6_lasts 42 = .ok (.iload_n 1, 1) := by decide +kernel
theorem dX6_lasts_43 : decode cX6_lasts 43 = .ok (.iaload, 1) := by decide +kernel
theorem dX6_lasts_44 : decode cX6_lasts 44 = .ok (.iadd, 1) := by decide +kernel
theorem dX6_lasts_45 : decode cX6_lasts 45 = .ok (.goto 16, 3) := by decide +kernel
theorem dX6_lasts_48 : decode cX6_lasts 48 = .ok (.aload_n 0, 1) := by decide +kernel
theorem dX6_lasts_49 : decode cX6_lasts 49 = .ok (.getfield 20, 3) := by decide +kernel
theorem dX6_lasts_52 : decode cX6_lasts 52 = .ok (.iload_n 1, 1) := by decide +kernel
theorem dX6_lasts_53 : decode cX6_lasts 53 = .ok (.iaload, 1) := by decide +kernel
theorem dX6_lasts_54 : decode cX6_lasts 54 = .ok (.aload_n 0, 1) := by decide +kernel
theorem dX6_lasts_55 : decode cX6_lasts 55 = .ok (.getfield 23, 3) := by decide +kernel
theorem dX6_lasts_58 : decode cX6_lasts 58 = .ok (.iload_n 1, 1) := by decide +kernel
theorem dX6_lasts_59 : decode cX6_lasts 59 = .ok (.iaload, 1) := by decide +kernel
theorem dX6_lasts_60 : decode cX6_lasts 60 = .ok (.isub, 1) := by decide +kernel
theorem dX6_lasts_61 : decode cX6_lasts 61 = .ok (.ireturn, 1) := by decide +kernel
theorem dX6_lasts_62 : decode cX6_lasts 62 = .ok (.aload_n 0, 1) := by decide +kernel
theorem dX6_lasts_63 : decode cX6_lasts 63 = .ok (.getfield 20, 3) := by decide +kernel
theorem dX6_lasts_66 : decode cX6_lasts 66 = .ok (.iload_n 1, 1) := by decide +kernel
theorem dX6_lasts_67 : decode cX6_lasts 67 = .ok (.iaload, 1) := by decide +kernel
theorem dX6_lasts_68 : decode cX6_lasts 68 = .ok (.iload_n 2, 1) := by decide +kernel
theorem dX6_lasts_69 : decode cX6_lasts 69 = .ok (.aload_n 0, 1) := by decide +kernel
theorem dX6_lasts_70 : decode cX6_lasts 70 = .ok (.getfield 23, 3) := by decide +kernel
theorem dX6_lasts_73 : decode cX6_lasts 73 = .ok (.iload_n 1, 1) := by decide +kernel
theorem dX6_lasts_74 : decode cX6_lasts 74 = .ok (.iaload, 1) := by decide +kernel
theorem dX6_lasts_75 : decode cX6_lasts 75 = .ok (.imul, 1) := by decide +kernel
theorem dX6_lasts_76 : decode cX6_lasts 76 = .ok (.bipush 16, 2) := by decide +kernel
theorem dX6_lasts_78 : decode cX6_lasts 78 = .ok (.invokestatic 118, 3) := by decide +kernel
theorem dX6_lasts_81 : decode cX6_lasts 81 = .ok (.iadd, 1) := by decide +kernel
theorem dX6_lasts_82 : decode cX6_lasts 82 = .ok (.istore_n 3, 1) := by decide +kernel
theorem dX6_lasts_83 : decode cX6_lasts 83 = .ok (.iload_n 3, 1) := by decide +kernel
theorem dX6_lasts_84 : decode cX6_lasts 84 = .ok (.bipush 20, 2) := by decide +kernel
theorem dX6_lasts_86 : decode cX6_lasts 86 = .ok (.if_icmp .ge 8, 3) := by decide +kernel
theorem dX6_lasts_89 : decode cX6_lasts 89 = .ok (.bipush 20, 2) := by decide +kernel
theorem dX6_lasts_91 : decode cX6_lasts 91 = .ok (.goto 17, 3) := by decide +kernel
theorem dX6_lasts_94 : decode cX6_lasts 94 = .ok (.iload_n 3, 1) := by decide +kernel
theorem dX6_lasts_95 : decode cX6_lasts 95 = .ok (.sipush 400, 3) := by decide +kernel
