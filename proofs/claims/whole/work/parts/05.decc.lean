theorem dX6_lasts_98 : decode cX6_lasts 98 = .ok (.if_icmp .le 9, 3) := by decide +kernel
theorem dX6_lasts_101 : decode cX6_lasts 101 = .ok (.sipush 400, 3) := by decide +kernel
theorem dX6_lasts_104 : decode cX6_lasts 104 = .ok (.goto 4, 3) := by decide +kernel
theorem dX6_lasts_107 : decode cX6_lasts 107 = .ok (.iload_n 3, 1) := by decide +kernel
theorem dX6_lasts_108 : decode cX6_lasts 108 = .ok (.ireturn, 1) := by decide +kernel
theorem dX6_firstBeat_0 : decode cX6_firstBeat 0 = .ok (.iconst 0, 1) := by decide +kernel
theorem dX6_firstBeat_1 : decode cX6_firstBeat 1 = .ok (.istore_n 3, 1) := by decide +kernel
theorem dX6_firstBeat_2 : decode cX6_firstBeat 2 = .ok (.iconst 0, 1) := by decide +kernel
theorem dX6_firstBeat_3 : decode cX6_firstBeat 3 = .ok (.istore 4, 2) := by decide +kernel
theorem dX6_firstBeat_5 : decode cX6_firstBeat 5 = .ok (.iload 4, 2) := by decide +kernel
theorem dX6_firstBeat_7 : decode cX6_firstBeat 7 = .ok (.iload_n 2, 1) := by decide +kernel
theorem dX6_firstBeat_8 : decode cX6_firstBeat 8 = .ok (.if_icmp .ge 24, 3) := by decide +kernel
theorem dX6_firstBeat_11 : decode cX6_firstBeat 11 = .ok (.iload_n 3, 1) := by decide +kernel
theorem dX6_firstBeat_12 : decode cX6_firstBeat 12 = .ok (.aload_n 0, 1) := by decide +kernel
theorem dX6_firstBeat_13 : decode cX6_firstBeat 13 = .ok (.getfield 35, 3) := by decide +kernel
theorem dX6_firstBeat_16 : decode cX6_firstBeat 16 = .ok (.bipush 64, 2) := by decide +kernel
theorem dX6_firstBeat_18 : decode cX6_firstBeat 18 = .ok (.iload_n 1, 1) := by decide +kernel
theorem dX6_firstBeat_19 : decode cX6_firstBeat 19 = .ok (.imul, 1) := by decide +kernel
theorem dX6_firstBeat_20 : decode cX6_firstBeat 20 = .ok (.iload 4, 2) := by decide +kernel
theorem dX6_firstBeat_22 : decode cX6_firstBeat 22 = .ok (.iadd, 1) := by decide +kernel
theorem dX6_firstBeat_23 : decode cX6_firstBeat 23 = .ok (.iaload, 1) := by decide +kernel
theorem dX6_firstBeat_24 : decode cX6_firstBeat 24 = .ok (.iadd, 1) := by decide +kernel
theorem dX6_firstBeat_25 : decode cX6_firstBeat 25 = .ok (.istore_n 3, 1) := by decide +kernel
theorem dX6_firstBeat_26 : decode cX6_firstBeat 26 = .ok (.iinc 4 1, 3) := by decide +kernel
theorem dX6_firstBeat_29 : decode cX6_firstBeat 29 = .ok (.goto (-24), 3) := by decide +kernel
theorem dX6_firstBeat_32 : decode cX6_firstBeat 32 = .ok (.iload_n 3, 1) := by decide +kernel
theorem dX6_firstBeat_33 : decode cX6_firstBeat 33 = .ok (.ireturn, 1) := by decide +kernel
set_option maxRecDepth 20000 in
theorem ggX6_tick_X6_lasts : GoodIn wsX6_tick wsX6_lasts := goodIn_r _ [5, 6, 7, 8, 9, 10, 4, 11, 12, 13, 14, 15, 16, 17, 18, 19, 20, 21, 22, 23, 24, 25, 26, 27, 28, 29, 30, 31, 32, 33, 34, 35, 36, 37, 38, 39, 40, 41, 42, 43, 44, 45, 46, 47] (by decide +kernel) (by decide +kernel)
set_option maxRecDepth 20000 in
theorem gX6_tick_X6_lasts : GoodIn wsX6_tick (wsV RX6 122 RX6 yX6_lasts wsX6_lasts) := goodIn_app (goodIn_of _ (by decide +kernel)) ggX6_tick_X6_lasts
theorem dX6_tick_0 : decode cX6_tick 0 = .ok (.iconst 0, 1) := by decide +kernel
theorem dX6_tick_1 : decode cX6_tick 1 = .ok (.istore_n 3, 1) := by decide +kernel
theorem dX6_tick_2 : decode cX6_tick 2 = .ok (.iconst 0, 1) := by decide +kernel
theorem dX6_tick_3 : decode cX6_tick 3 = .ok (.istore 4, 2) := by decide +kernel
theorem dX6_tick_5 : decode cX6_tick 5 = .ok (.iload 4, 2) := by decide +kernel
theorem dX6_tick_7 : decode cX6_tick 7 = .ok (.iload_n 2, 1) := by decide +kernel
theorem dX6_tick_8 : decode cX6_tick 8 = .ok (.if_icmp .ge 19, 3) := by decide +kernel
theorem dX6_tick_11 : decode cX6_tick 11 = .ok (.iload_n 3, 1) := by decide +kernel
theorem dX6_tick_12 : decode cX6_tick 12 = .ok (.aload_n 0, 1) := by decide +kernel
theorem dX6_tick_13 : decode cX6_tick 13 = .ok (.iload_n 1, 1) := by decide +kernel
theorem dX6_tick_14 : decode cX6_tick 14 = .ok (.iload 4, 2) := by decide +kernel
theorem dX6_tick_16 : decode cX6_tick 16 = .ok (.invokevirtual 122, 3) := by decide +kernel
theorem dX6_tick_19 : decode cX6_tick 19 = .ok (.iadd, 1) := by decide +kernel
theorem dX6_tick_20 : decode cX6_tick 20 = .ok (.istore_n 3, 1) := by decide +kernel
theorem dX6_tick_21 : decode cX6_tick 21 = .ok (.iinc 4 1, 3) := by decide +kernel
theorem dX6_tick_24 : decode cX6_tick 24 = .ok (.goto (-19), 3) := by decide +kernel
theorem dX6_tick_27 : decode cX6_tick 27 = .ok (.iload_n 3, 1) := by decide +kernel
theorem dX6_tick_28 : decode cX6_tick 28 = .ok (.ireturn, 1) := by decide +kernel
set_option maxRecDepth 20000 in
theorem ggX6_beat_X6_isSong : GoodIn wsX6_beat wsX6_isSong := goodIn_r _ [5, 6, 27, 28, 29, 30, 31, 32, 33, 34, 35, 36, 37, 38, 39, 40, 41, 42, 43, 44, 45, 46, 47, 48, 49, 50, 51, 52, 53, 54, 55, 56, 57, 58, 59, 60, 61, 62] (by decide +kernel) (by decide +kernel)
set_option maxRecDepth 20000 in
theorem gX6_beat_X6_isSong : GoodIn wsX6_beat (wsV RX6 107 RX6 yX6_isSong wsX6_isSong) := goodIn_app (goodIn_of _ (by decide +kernel)) ggX6_beat_X6_isSong
set_option maxRecDepth 20000 in
theorem ggX6_beat_X6_beatsOf : GoodIn wsX6_beat wsX6_beatsOf := goodIn_r _ [10, 11, 12, 27, 28, 29, 30, 31, 32, 33, 34, 35, 36, 37, 38, 39, 40, 41, 42, 43, 44, 45, 46, 47, 48, 49, 50, 51, 52, 53, 54, 55, 56, 57, 58, 59, 60, 61, 62] (by decide +kernel) (by decide +kernel)
set_option maxRecDepth 20000 in
theorem gX6_beat_X6_beatsOf : GoodIn wsX6_beat (wsV RX6 115 RX6 yX6_beatsOf wsX6_beatsOf) := goodIn_app (goodIn_of _ (by decide +kernel)) ggX6_beat_X6_beatsOf
set_option maxRecDepth 20000 in
theorem ggX6_beat_X6_tick : GoodIn wsX6_beat wsX6_tick := goodIn_r _ [16, 17, 18, 19, 4, 20, 21, 22, 23, 24, 25, 26, 27, 28, 29, 30, 31, 32, 33, 34, 35, 36, 37, 38, 39, 40, 41, 42, 43, 44, 45, 46, 47, 48, 49, 50, 51, 52, 53, 54, 55, 56, 57, 58, 59, 60, 61, 62] (by decide +kernel) (by decide +kernel)
set_option maxRecDepth 20000 in
theorem gX6_beat_X6_tick : GoodIn wsX6_beat (wsV RX6 125 RX6 yX6_tick wsX6_tick) := goodIn_app (goodIn_of _ (by decide +kernel)) ggX6_beat_X6_tick
theorem dX6_beat_0 : decode cX6_beat 0 = .ok (.aload_n 0, 1) := by decide +kernel
theorem dX6_beat_1 : decode cX6_beat 1 = .ok (.iload_n 1, 1) := by decide +kernel
theorem dX6_beat_2 : decode cX6_beat 2 = .ok (.invokevirtual 107, 3) := by decide +kernel
theorem dX6_beat_5 : decode cX6_beat 5 = .ok (.ifCond .eq 25, 3) := by decide +kernel
theorem dX6_beat_8 : decode cX6_beat 8 = .ok (.iload_n 2, 1) := by decide +kernel
theorem dX6_beat_9 : decode cX6_beat 9 = .ok (.ifCond .lt 21, 3) := by decide +kernel
theorem dX6_beat_12 : decode cX6_beat 12 = .ok (.iload_n 2, 1) := by decide +kernel
theorem dX6_beat_13 : decode cX6_beat 13 = .ok (.aload_n 0, 1) := by decide +kernel
theorem dX6_beat_14 : decode cX6_beat 14 = .ok (.iload_n 1, 1) := by decide +kernel
theorem dX6_beat_15 : decode cX6_beat 15 = .ok (.invokevirtual 115, 3) := by decide +kernel
theorem dX6_beat_18 : decode cX6_beat 18 = .ok (.if_icmp .gt 12, 3) := by decide +kernel
theorem dX6_beat_21 : decode cX6_beat 21 = .ok (.aload_n 0, 1) := by decide +kernel
theorem dX6_beat_22 : decode cX6_beat 22 = .ok (.iload_n 1, 1) := by decide +kernel
theorem dX6_beat_23 : decode cX6_beat 23 = .ok (.iload_n 2, 1) := by decide +kernel
theorem dX6_beat_24 : decode cX6_beat 24 = .ok (.invokevirtual 125, 3) := by decide +kernel
theorem dX6_beat_27 : decode cX6_beat 27 = .ok (.goto 4, 3) := by decide +kernel
theorem dX6_beat_30 : decode cX6_beat 30 = .ok (.iconst (-1), 1) := by decide +kernel
theorem dX6_beat_31 : decode cX6_beat 31 = .ok (.ireturn, 1) := by decide +kernel
set_option maxRecDepth 20000 in
theorem ggX6_barLong_X6_firstBeat : GoodIn wsX6_barLong wsX6_firstBeat := goodIn_r _ [6, 1, 17, 18, 19, 20, 21, 22, 23, 24, 25, 26, 27, 28, 29, 30, 31, 32, 33, 34, 35, 36, 37, 38, 39, 40, 41, 42, 43, 44, 45, 46, 47, 48, 49, 50, 51, 52] (by decide +kernel) (by decide +kernel)
set_option maxRecDepth 20000 in
theorem gX6_barLong_X6_firstBeat : GoodIn wsX6_barLong (wsV RX6 128 RX6 yX6_firstBeat wsX6_firstBeat) := goodIn_app (goodIn_of _ (by decide +kernel)) ggX6_barLong_X6_firstBeat
set_option maxRecDepth 20000 in
theorem ggX6_barLong_X6_lasts : GoodIn wsX6_barLong wsX6_lasts := goodIn_r _ [10, 11, 12, 13, 14, 15, 5, 16, 17, 18, 19, 20, 21, 22, 23, 24, 25, 26, 27, 28, 29, 30, 31, 32, 33, 34, 35, 36, 37, 38, 39, 40, 41, 42, 43, 44, 45, 46, 47, 48, 49, 50, 51, 52] (by decide +kernel) (by decide +kernel)
set_option maxRecDepth 20000 in
theorem gX6_barLong_X6_lasts : GoodIn wsX6_barLong (wsV RX6 122 RX6 yX6_lasts wsX6_lasts) := goodIn_app (goodIn_of _ (by decide +kernel)) ggX6_barLong_X6_lasts
theorem dX6_barLong_0 : decode cX6_barLong 0 = .ok (.aload_n 0, 1) := by decide +kernel
theorem dX6_barLong_1 : decode cX6_barLong 1 = .ok (.iload_n 1, 1) := by decide +kernel
theorem dX6_barLong_2 : decode cX6_barLong 2 = .ok (.iload_n 2, 1) := by decide +kernel
theorem dX6_barLong_3 : decode cX6_barLong 3 = .ok (.invokevirtual 128, 3) := by decide +kernel
theorem dX6_barLong_6 : decode cX6_barLong 6 = .ok (.istore_n 3, 1) := by decide +kernel
theorem dX6_barLong_7 : decode cX6_barLong 7 = .ok (.iconst 0, 1) := by decide +kernel
theorem dX6_barLong_8 : decode cX6_barLong 8 = .ok (.istore 4, 2) := by decide +kernel
theorem dX6_barLong_10 : decode cX6_barLong 10 = .ok (.iconst 0, 1) := by decide +kernel
theorem dX6_barLong_11 : decode cX6_barLong 11 = .ok (.istore 5, 2) := by decide +kernel
theorem dX6_barLong_13 : decode cX6_barLong 13 = .ok (.iload 5, 2) := by decide +kernel
theorem dX6_barLong_15 : decode cX6_barLong 15 = .ok (.aload_n 0, 1) := by decide +kernel
theorem dX6_barLong_16 : decode cX6_barLong 16 = .ok (.getfield 35, 3) := by decide +kernel
theorem dX6_barLong_19 : decode cX6_barLong 19 = .ok (.bipush 64, 2) := by decide +kernel
theorem dX6_barLong_21 : decode cX6_barLong 21 = .ok (.iload_n 1, 1) := by decide +kernel
theorem dX6_barLong_22 : decode cX6_barLong 22 = .ok (.imul, 1) := by decide +kernel
theorem dX6_barLong_23 : decode cX6_barLong 23 = .ok (.iload_n 2, 1) := by decide +kernel
theorem dX6_barLong_24 : decode cX6_barLong 24 = .ok (.iadd, 1) := by decide +kernel
theorem dX6_barLong_25 : decode cX6_barLong 25 = .ok (.iaload, 1) := by decide +kernel
theorem dX6_barLong_26 : decode cX6_barLong 26 = .ok (.if_icmp .ge 23, 3) := by decide +kernel
theorem dX6_barLong_29 : decode cX6_barLong 29 = .ok (.iload 4, 2) := by decide +kernel
theorem dX6_barLong_31 : decode cX6_barLong 31 = .ok (.aload_n 0, 1) := by decide +kernel
theorem dX6_barLong_32 : decode cX6_barLong 32 = .ok (.iload_n 1, 1) := by decide +kernel
theorem dX6_barLong_33 : decode cX6_barLong 33 = .ok (.iload_n 3, 1) := by decide +kernel
theorem dX6_barLong_34 : decode cX6_barLong 34 = .ok (.iload 5, 2) := by decide +kernel
theorem dX6_barLong_36 : decode cX6_barLong 36 = .ok (.iadd, 1) := by decide +kernel
theorem dX6_barLong_37 : decode cX6_barLong 37 = .ok (.invokevirtual 122, 3) := by decide +kernel
theorem dX6_barLong_40 : decode cX6_barLong 40 = .ok (.iadd, 1) := by decide +kernel
theorem dX6_barLong_41 : decode cX6_barLong 41 = .ok (.istore 4, 2) := by decide +kernel
theorem dX6_barLong_43 : decode cX6_barLong 43 = .ok (.iinc 5 1, 3) := by decide +kernel
theorem dX6_barLong_46 : decode cX6_barLong 46 = .ok (.goto (-33), 3) := by decide +kernel
theorem dX6_barLong_49 : decode cX6_barLong 49 = .ok (.iload 4, 2) := by decide +kernel
theorem dX6_barLong_51 : decode cX6_barLong 51 = .ok (.ireturn, 1) := by decide +kernel
set_option maxRecDepth 20000 in
theorem ggX6_begins_X6_barOf : GoodIn wsX6_begins wsX6_barOf := goodIn_r _ [5, 6, 7, 8, 28, 29, 30, 31, 32, 33, 34, 35, 36, 37, 38, 39, 40, 41, 42, 43, 44, 45, 46, 47, 48, 49, 50, 51, 52, 53, 54, 55, 56, 57, 58, 59, 60, 61, 62, 63] (by decide +kernel) (by decide +kernel)
set_option maxRecDepth 20000 in
theorem gX6_begins_X6_barOf : GoodIn wsX6_begins (wsV RX6 131 RX6 yX6_barOf wsX6_barOf) := goodIn_app (goodIn_of _ (by decide +kernel)) ggX6_begins_X6_barOf
set_option maxRecDepth 20000 in
theorem ggX6_begins_X6_barLong : GoodIn wsX6_begins wsX6_barLong := goodIn_r _ [12, 13, 14, 15, 16, 4, 17, 18, 19, 20, 21, 22, 23, 24, 25, 26, 27, 28, 29, 30, 31, 32, 33, 34, 35, 36, 37, 38, 39, 40, 41, 42, 43, 44, 45, 46, 47, 48, 49, 50, 51, 52, 53, 54, 55, 56, 57, 58, 59, 60, 61, 62, 63] (by decide +kernel) (by decide +kernel)
set_option maxRecDepth 20000 in
theorem gX6_begins_X6_barLong : GoodIn wsX6_begins (wsV RX6 134 RX6 yX6_barLong wsX6_barLong) := goodIn_app (goodIn_of _ (by decide +kernel)) ggX6_begins_X6_barLong
theorem dX6_begins_0 : decode cX6_begins 0 = .ok (.iconst 0, 1) := by decide +kernel
theorem dX6_begins_1 : decode cX6_begins 1 = .ok (.istore_n 3, 1) := by decide +kernel
theorem dX6_begins_2 : decode cX6_begins 2 = .ok (.iconst 0, 1) := by decide +kernel
theorem dX6_begins_3 : decode cX6_begins 3 = .ok (.istore 4, 2) := by decide +kernel
theorem dX6_begins_5 : decode cX6_begins 5 = .ok (.iload 4, 2) := by decide +kernel
theorem dX6_begins_7 : decode cX6_begins 7 = .ok (.iload_n 2, 1) := by decide +kernel
theorem dX6_begins_8 : decode cX6_begins 8 = .ok (.if_icmp .ge 24, 3) := by decide +kernel
theorem dX6_begins_11 : decode cX6_begins 11 = .ok (.iload_n 3, 1) := by decide +kernel
theorem dX6_begins_12 : decode cX6_begins 12 = .ok (.aload_n 0, 1) := by decide +kernel
theorem dX6_begins_13 : decode cX6_begins 13 = .ok (.iload_n 1, 1) := by decide +kernel
theorem dX6_begins_14 : decode cX6_begins 14 = .ok (.aload_n 0, 1) := by decide +kernel
theorem dX6_begins_15 : decode cX6_begins 15 = .ok (.iload_n 1, 1) := by decide +kernel
theorem dX6_begins_16 : decode cX6_begins 16 = .ok (.iload 4, 2) := by decide +kernel
theorem dX6_begins_18 : decode cX6_begins 18 = .ok (.invokevirtual 131, 3) := by decide +kernel
theorem dX6_begins_21 : decode cX6_begins 21 = .ok (.invokevirtual 134, 3) := by decide +kernel
theorem dX6_begins_24 : decode cX6_begins 24 = .ok (.iadd, 1) := by decide +kernel
theorem dX6_begins_25 : decode cX6_begins 25 = .ok (.istore_n 3, 1) := by decide +kernel
theorem dX6_begins_26 : decode cX6_begins 26 = .ok (.iinc 4 1, 3) := by decide +kernel
theorem dX6_begins_29 : decode cX6_begins 29 = .ok (.goto (-24), 3) := by decide +kernel
theorem dX6_begins_32 : decode cX6_begins 32 = .ok (.iload_n 3, 1) := by decide +kernel
theorem dX6_begins_33 : decode cX6_begins 33 = .ok (.ireturn, 1) := by decide +kernel
set_option maxRecDepth 20000 in
theorem ggX6_played_X6_isSong : GoodIn wsX6_played wsX6_isSong := goodIn_r _ [6, 7, 42, 43, 44, 45, 46, 47, 48, 49, 50, 51, 52, 53, 54, 55, 56, 57, 58, 59, 60, 61, 62, 63, 64, 65, 66, 67, 68, 69, 70, 71, 72, 73, 74, 75, 76, 77] (by decide +kernel) (by decide +kernel)
set_option maxRecDepth 20000 in
theorem gX6_played_X6_isSong : GoodIn wsX6_played (wsV RX6 107 RX6 yX6_isSong wsX6_isSong) := goodIn_app (goodIn_of _ (by decide +kernel)) ggX6_played_X6_isSong
set_option maxRecDepth 20000 in
theorem ggX6_played_X6_playedBars : GoodIn wsX6_played wsX6_playedBars := goodIn_r _ [11, 12, 13, 14, 15, 42, 43, 44, 45, 46, 47, 48, 49, 50, 51, 52, 53, 54, 55, 56, 57, 58, 59, 60, 61, 62, 63, 64, 65, 66, 67, 68, 69, 70, 71, 72, 73, 74, 75, 76, 77] (by decide +kernel) (by decide +kernel)
set_option maxRecDepth 20000 in
theorem gX6_played_X6_playedBars : GoodIn wsX6_played (wsV RX6 111 RX6 yX6_playedBars wsX6_playedBars) := goodIn_app (goodIn_of _ (by decide +kernel)) ggX6_played_X6_playedBars
set_option maxRecDepth 20000 in
theorem ggX6_played_X6_barOf : GoodIn wsX6_played wsX6_barOf := goodIn_r _ [19, 14, 15, 13, 42, 43, 44, 45, 46, 47, 48, 49, 50, 51, 52, 53, 54, 55, 56, 57, 58, 59, 60, 61, 62, 63, 64, 65, 66, 67, 68, 69, 70, 71, 72, 73, 74, 75, 76, 77] (by decide +kernel) (by decide +kernel)
set_option maxRecDepth 20000 in
theorem gX6_played_X6_barOf : GoodIn wsX6_played (wsV RX6 131 RX6 yX6_barOf wsX6_barOf) := goodIn_app (goodIn_of _ (by decide +kernel)) ggX6_played_X6_barOf
set_option maxRecDepth 20000 in
theorem ggX6_played_X6_begins : GoodIn wsX6_played wsX6_begins := goodIn_r _ [23, 16, 17, 18, 5, 19, 14, 15, 13, 24, 25, 26, 27, 1, 28, 29, 30, 31, 32, 33, 34, 35, 36, 37, 38, 39, 40, 41, 42, 43, 44, 45, 46, 47, 48, 49, 50, 51, 52, 53, 54, 55, 56, 57, 58, 59, 60, 61, 62, 63, 64, 65, 66, 67, 68, 69, 70, 71, 72, 73, 74, 75, 76, 77] (by decide +kernel) (by decide +kernel)
set_option maxRecDepth 20000 in
theorem gX6_played_X6_begins : GoodIn wsX6_played (wsV RX6 137 RX6 yX6_begins wsX6_begins) := goodIn_app (goodIn_of _ (by decide +kernel)) ggX6_played_X6_begins
theorem dX6_played_0 : decode cX6_played 0 = .ok (.aload_n 0, 1) := by decide +kernel
theorem dX6_played_1 : decode cX6_played 1 = .ok (.iload_n 1, 1) := by decide +kernel
theorem dX6_played_2 : decode cX6_played 2 = .ok (.invokevirtual 107, 3) := by decide +kernel
theorem dX6_played_5 : decode cX6_played 5 = .ok (.ifCond .eq 16, 3) := by decide +kernel
theorem dX6_played_8 : decode cX6_played 8 = .ok (.iload_n 2, 1) := by decide +kernel
theorem dX6_played_9 : decode cX6_played 9 = .ok (.ifCond .lt 12, 3) := by decide +kernel
theorem dX6_played_12 : decode cX6_played 12 = .ok (.iload_n 2, 1) := by decide +kernel
theorem dX6_played_13 : decode cX6_played 13 = .ok (.aload_n 0, 1) := by decide +kernel
theorem dX6_played_14 : decode cX6_played 14 = .ok (.iload_n 1, 1) := by decide +kernel
theorem dX6_played_15 : decode cX6_played 15 = .ok (.invokevirtual 111, 3) := by decide +kernel
theorem dX6_played_18 : decode cX6_played 18 = .ok (.if_icmp .lt 5, 3) := by decide +kernel
theorem dX6_played_21 : decode cX6_played 21 = .ok (.iconst (-1), 1) := by decide +kernel
theorem dX6_played_22 : decode cX6_played 22 = .ok (.ireturn, 1) := by decide +kernel
theorem dX6_played_23 : decode cX6_played 23 = .ok (.aload_n 0, 1) := by decide +kernel
theorem dX6_played_24 : decode cX6_played 24 = .ok (.iload_n 1, 1) := by decide +kernel
theorem dX6_played_25 : decode cX6_played 25 = .ok (.iload_n 2, 1) := by decide +kernel
theorem dX6_played_26 : decode cX6_played 26 = .ok (.invokevirtual 131, 3) := by decide +kernel
theorem dX6_played_29 : decode cX6_played 29 = .ok (.istore 4, 2) := by decide +kernel
theorem dX6_played_31 : decode cX6_played 31 = .ok (.iload_n 3, 1) := by decide +kernel
theorem dX6_played_32 : decode cX6_played 32 = .ok (.ifCond .ne 8, 3) := by decide +kernel
theorem dX6_played_35 : decode cX6_played 35 = .ok (.iload 4, 2) := by decide +kernel
theorem dX6_played_37 : decode cX6_played 37 = .ok (.goto 38, 3) := by decide +kernel
theorem dX6_played_40 : decode cX6_played 40 = .ok (.iload_n 3, 1) := by decide +kernel
theorem dX6_played_41 : decode cX6_played 41 = .ok (.iconst 1, 1) := by decide +kernel
theorem dX6_played_42 : decode cX6_played 42 = .ok (.if_icmp .ne 12, 3) := by decide +kernel
theorem dX6_played_45 : decode cX6_played 45 = .ok (.aload_n 0, 1) := by decide +kernel
theorem dX6_played_46 : decode cX6_played 46 = .ok (.iload_n 1, 1) := by decide +kernel
theorem dX6_played_47 : decode cX6_played 47 = .ok (.iload_n 2, 1) := by decide +kernel
theorem dX6_played_48 : decode cX6_played 48 = .ok (.invokevirtual 137, 3) := by decide +kernel
theorem dX6_played_51 : decode cX6_played 51 = .ok (.goto 24, 3) := by decide +kernel
theorem dX6_played_54 : decode cX6_played 54 = .ok (.iload_n 3, 1) := by decide +kernel
theorem dX6_played_55 : decode cX6_played 55 = .ok (.iconst 2, 1) := by decide +kernel
theorem dX6_played_56 : decode cX6_played 56 = .ok (.if_icmp .ne 18, 3) := by decide +kernel
theorem dX6_played_59 : decode cX6_played 59 = .ok (.aload_n 0, 1) := by decide +kernel
theorem dX6_played_60 : decode cX6_played 60 = .ok (.getfield 35, 3) := by decide +kernel
theorem dX6_played_63 : decode cX6_played 63 = .ok (.bipush 64, 2) := by decide +kernel
theorem dX6_played_65 : decode cX6_played 65 = .ok (.iload_n 1, 1) := by decide +kernel
theorem dX6_played_66 : decode cX6_played 66 = .ok (.imul, 1) := by decide +kernel
theorem dX6_played_67 : decode cX6_played 67 = .ok (.iload 4, 2) := by decide +kernel
theorem dX6_played_69 : decode cX6_played 69 = .ok (.iadd, 1) := by decide +kernel
theorem dX6_played_70 : decode cX6_played 70 = .ok (.iaload, 1) := by decide +kernel
theorem dX6_played_71 : decode cX6_played 71 = .ok (.goto 4, 3) := by decide +kernel
theorem dX6_played_74 : decode cX6_played 74 = .ok (.iconst (-1), 1) := by decide +kernel
theorem dX6_played_75 : decode cX6_played 75 = .ok (.ireturn, 1) := by decide +kernel
set_option maxRecDepth 20000 in
theorem ggX6_length_X6_isSong : GoodIn wsX6_length wsX6_isSong := goodIn_r _ [5, 6, 42, 43, 44, 45, 46, 47, 48, 49, 50, 51, 52, 53, 54, 55, 56, 57, 58, 59, 60, 61, 62, 63, 64, 65, 66, 67, 68, 69, 70, 71, 72, 73, 74, 75, 76, 77] (by decide +kernel) (by decide +kernel)
set_option maxRecDepth 20000 in
theorem gX6_length_X6_isSong : GoodIn wsX6_length (wsV RX6 107 RX6 yX6_isSong wsX6_isSong) := goodIn_app (goodIn_of _ (by decide +kernel)) ggX6_length_X6_isSong
set_option maxRecDepth 20000 in
theorem ggX6_length_X6_playedBars : GoodIn wsX6_length wsX6_playedBars := goodIn_r _ [10, 11, 12, 13, 14, 42, 43, 44, 45, 46, 47, 48, 49, 50, 51, 52, 53, 54, 55, 56, 57, 58, 59, 60, 61, 62, 63, 64, 65, 66, 67, 68, 69, 70, 71, 72, 73, 74, 75, 76, 77] (by decide +kernel) (by decide +kernel)
set_option maxRecDepth 20000 in
theorem gX6_length_X6_playedBars : GoodIn wsX6_length (wsV RX6 111 RX6 yX6_playedBars wsX6_playedBars) := goodIn_app (goodIn_of _ (by decide +kernel)) ggX6_length_X6_playedBars
set_option maxRecDepth 20000 in
theorem ggX6_length_X6_begins : GoodIn wsX6_length wsX6_begins := goodIn_r _ [18, 19, 20, 21, 4, 22, 13, 14, 12, 23, 24, 25, 26, 27, 28, 29, 30, 31, 32, 33, 34, 35, 36, 37, 38, 39, 40, 41, 42, 43, 44, 45, 46, 47, 48, 49, 50, 51, 52, 53, 54, 55, 56, 57, 58, 59, 60, 61, 62, 63, 64, 65, 66, 67, 68, 69, 70, 71, 72, 73, 74, 75, 76, 77] (by decide +kernel) (by decide +kernel)
set_option maxRecDepth 20000 in
theorem gX6_length_X6_begins : GoodIn wsX6_length (wsV RX6 137 RX6 yX6_begins wsX6_begins) := goodIn_app (goodIn_of _ (by decide +kernel)) ggX6_length_X6_begins
theorem dX6_length_0 : decode cX6_length 0 = .ok (.aload_n 0, 1) := by decide +kernel
theorem dX6_length_1 : decode cX6_length 1 = .ok (.iload_n 1, 1) := by decide +kernel
theorem dX6_length_2 : decode cX6_length 2 = .ok (.invokevirtual 107, 3) := by decide +kernel
theorem dX6_length_5 : decode cX6_length 5 = .ok (.ifCond .eq 16, 3) := by decide +kernel
theorem dX6_length_8 : decode cX6_length 8 = .ok (.aload_n 0, 1) := by decide +kernel
theorem dX6_length_9 : decode cX6_length 9 = .ok (.iload_n 1, 1) := by decide +kernel
theorem dX6_length_10 : decode cX6_length 10 = .ok (.aload_n 0, 1) := by decide +kernel
theorem dX6_length_11 : decode cX6_length 11 = .ok (.iload_n 1, 1) := by decide +kernel
theorem dX6_length_12 : decode cX6_length 12 = .ok (.invokevirtual 111, 3) := by decide +kernel
theorem dX6_length_15 : decode cX6_length 15 = .ok (.invokevirtual 137, 3) := by decide +kernel
theorem dX6_length_18 : decode cX6_length 18 = .ok (.goto 4, 3) := by decide +kernel
theorem dX6_length_21 : decode cX6_length 21 = .ok (.iconst (-1), 1) := by decide +kernel
theorem dX6_length_22 : decode cX6_length 22 = .ok (.ireturn, 1) := by decide +kernel
theorem dX6_stroke_0 : decode cX6_stroke 0 = .ok (.iload_n 1, 1) := by decide +kernel
theorem dX6_stroke_1 : decode cX6_stroke 1 = .ok (.ifCond .lt 40, 3) := by decide +kernel
theorem dX6_stroke_4 : decode cX6_stroke 4 = .ok (.iload_n 1, 1) := by decide +kernel
theorem dX6_stroke_5 : decode cX6_stroke 5 = .ok (.ldc 140, 2) := by decide +kernel
theorem dX6_stroke_7 : decode cX6_stroke 7 = .ok (.if_icmp .gt 34, 3) := by decide +kernel
theorem dX6_stroke_10 : decode cX6_stroke 10 = .ok (.aload_n 0, 1) := by decide +kernel
theorem dX6_stroke_11 : decode cX6_stroke 11 = .ok (.getfield 141, 3) := by decide +kernel
theorem dX6_stroke_14 : decode cX6_stroke 14 = .ok (.bipush 60, 2) := by decide +kernel
theorem dX6_stroke_16 : decode cX6_stroke 16 = .ok (.if_icmp .eq 25, 3) := by decide +kernel
theorem dX6_stroke_19 : decode cX6_stroke 19 = .ok (.aload_n 0, 1) := by decide +kernel
theorem dX6_stroke_20 : decode cX6_stroke 20 = .ok (.getfield 141, 3) := by decide +kernel
theorem dX6_stroke_23 : decode cX6_stroke 23 = .ok (.ifCond .le 20, 3) := by decide +kernel
theorem dX6_stroke_26 : decode cX6_stroke 26 = .ok (.iload_n 1, 1) := by decide +kernel
theorem dX6_stroke_27 : decode cX6_stroke 27 = .ok (.aload_n 0, 1) := by decide +kernel
theorem dX6_stroke_28 : decode cX6_stroke 28 = .ok (.getfield 50, 3) := by decide +kernel
theorem dX6_stroke_31 : decode cX6_stroke 31 = .ok (.aload_n 0, 1) := by decide +kernel
theorem dX6_stroke_32 : decode cX6_stroke 32 = .ok (.getfield 141, 3) := by decide +kernel
theorem dX6_stroke_35 : decode cX6_stroke 35 = .ok (.iconst 1, 1) := by decide +kernel
theorem dX6_stroke_36 : decode cX6_stroke 36 = .ok (.isub, 1) := by decide +kernel
theorem dX6_stroke_37 : decode cX6_stroke 37 = .ok (.iaload, 1) := by decide +kernel
theorem dX6_stroke_38 : decode cX6_stroke 38 = .ok (.if_icmp .gt 5, 3) := by decide +kernel
theorem dX6_stroke_41 : decode cX6_stroke 41 = .ok (.iconst (-1), 1) := by decide +kernel
theorem dX6_stroke_42 : decode cX6_stroke 42 = .ok (.ireturn, 1) := by decide +kernel
theorem dX6_stroke_43 : decode cX6_stroke 43 = .ok (.aload_n 0, 1) := by decide +kernel
theorem dX6_stroke_44 : decode cX6_stroke 44 = .ok (.getfield 50, 3) := by decide +kernel
theorem dX6_stroke_47 : decode cX6_stroke 47 = .ok (.aload_n 0, 1) := by decide +kernel
theorem dX6_stroke_48 : decode cX6_stroke 48 = .ok (.getfield 141, 3) := by decide +kernel
theorem dX6_stroke_51 : decode cX6_stroke 51 = .ok (.iload_n 1, 1) := by decide +kernel
theorem dX6_stroke_52 : decode cX6_stroke 52 = .ok (.iastore, 1) := by decide +kernel
theorem dX6_stroke_53 : decode cX6_stroke 53 = .ok (.aload_n 0, 1) := by decide +kernel
theorem dX6_stroke_54 : decode cX6_stroke 54 = .ok (.dup, 1) := by decide +kernel
theorem dX6_stroke_55 : decode cX6_stroke 55 = .ok (.getfield 141, 3) := by decide +kernel
theorem dX6_stroke_58 : decode cX6_stroke 58 = .ok (.iconst 1, 1) := by decide +kernel
theorem dX6_stroke_59 : decode cX6_stroke 59 = .ok (.iadd, 1) := by decide +kernel
theorem dX6_stroke_60 : decode cX6_stroke 60 = .ok (.putfield 141, 3) := by decide +kernel
theorem dX6_stroke_63 : decode cX6_stroke 63 = .ok (.aload_n 0, 1) := by decide +kernel
theorem dX6_stroke_64 : decode cX6_stroke 64 = .ok (.getfield 141, 3) := by decide +kernel
theorem dX6_stroke_67 : decode cX6_stroke 67 = .ok (.ireturn, 1) := by decide +kernel
theorem dX6_clear_0 : decode cX6_clear 0 = .ok (.aload_n 0, 1) := by decide +kernel
theorem dX6_clear_1 : decode cX6_clear 1 = .ok (.getfield 141, 3) := by decide +kernel
theorem dX6_clear_4 : decode cX6_clear 4 = .ok (.istore_n 1, 1) := by decide +kernel
theorem dX6_clear_5 : decode cX6_clear 5 = .ok (.aload_n 0, 1) := by decide +kernel
theorem dX6_clear_6 : decode cX6_clear 6 = .ok (.iconst 0, 1) := by decide +kernel
theorem dX6_clear_7 : decode cX6_clear 7 = .ok (.putfield 141, 3) := by decide +kernel
theorem dX6_clear_10 : decode cX6_clear 10 = .ok (.iload_n 1, 1) := by decide +kernel
theorem dX6_clear_11 : decode cX6_clear 11 = .ok (.ireturn, 1) := by decide +kernel
theorem dX6_size_0 : decode cX6_size 0 = .ok (.iload_n 0, 1) := by decide +kernel
theorem dX6_size_1 : decode cX6_size 1 = .ok (.ifCond .ge 8, 3) := by decide +kernel
theorem dX6_size_4 : decode cX6_size 4 = .ok (.iload_n 0, 1) := by decide +kernel
theorem dX6_size_5 : decode cX6_size 5 = .ok (.ineg, 1) := by decide +kernel
theorem dX6_size_6 : decode cX6_size 6 = .ok (.goto 4, 3) := by decide +kernel
theorem dX6_size_9 : decode cX6_size 9 = .ok (.iload_n 0, 1) := by decide +kernel
theorem dX6_size_10 : decode cX6_size 10 = .ok (.ireturn, 1) := by decide +kernel
set_option maxRecDepth 20000 in
theorem ggX6_apart_X6_size : GoodIn wsX6_apart wsX6_size := goodIn_r _ [4] (by decide +kernel) (by decide +kernel)
set_option maxRecDepth 20000 in
theorem gX6_apart_X6_size : GoodIn wsX6_apart (va_wsS RX6 144 yX6_size wsX6_size) := goodIn_app (goodIn_of _ (by decide +kernel)) ggX6_apart_X6_size
theorem dX6_apart_0 : decode cX6_apart 0 = .ok (.iload_n 0, 1) := by decide +kernel
theorem dX6_apart_1 : decode cX6_apart 1 = .ok (.iload_n 1, 1) := by decide +kernel
theorem dX6_apart_2 : decode cX6_apart 2 = .ok (.idiv, 1) := by decide +kernel
theorem dX6_apart_3 : decode cX6_apart 3 = .ok (.istore_n 3, 1) := by decide +kernel
theorem dX6_apart_4 : decode cX6_apart 4 = .ok (.iconst 2, 1) := by decide +kernel
theorem dX6_apart_5 : decode cX6_apart 5 = .ok (.iload_n 0, 1) := by decide +kernel
theorem dX6_apart_6 : decode cX6_apart 6 = .ok (.iload_n 3, 1) := by decide +kernel
theorem dX6_apart_7 : decode cX6_apart 7 = .ok (.iload_n 1, 1) := by decide +kernel
theorem dX6_apart_8 : decode cX6_apart 8 = .ok (.imul, 1) := by decide +kernel
theorem dX6_apart_9 : decode cX6_apart 9 = .ok (.isub, 1) := by decide +kernel
theorem dX6_apart_10 : decode cX6_apart 10 = .ok (.imul, 1) := by decide +kernel
theorem dX6_apart_11 : decode cX6_apart 11 = .ok (.iload_n 1, 1) := by decide +kernel
theorem dX6_apart_12 : decode cX6_apart 12 = .ok (.if_icmp .le 6, 3) := by decide +kernel
theorem dX6_apart_15 : decode cX6_apart 15 = .ok (.iinc 3 1, 3) := by decide +kernel
theorem dX6_apart_18 : decode cX6_apart 18 = .ok (.iload_n 3, 1) := by decide +kernel
theorem dX6_apart_19 : decode cX6_apart 19 = .ok (.iconst 1, 1) := by decide +kernel
theorem dX6_apart_20 : decode cX6_apart 20 = .ok (.if_icmp .ge 5, 3) := by decide +kernel
theorem dX6_apart_23 : decode cX6_apart 23 = .ok (.iconst 1, 1) := by decide +kernel
theorem dX6_apart_24 : decode cX6_apart 24 = .ok (.istore_n 3, 1) := by decide +kernel
theorem dX6_apart_25 : decode cX6_apart 25 = .ok (.iload_n 0, 1) := by decide +kernel
theorem dX6_apart_26 : decode cX6_apart 26 = .ok (.iload_n 3, 1) := by decide +kernel
theorem dX6_apart_27 : decode cX6_apart 27 = .ok (.iload_n 1, 1) := by decide +kernel
theorem dX6_apart_28 : decode cX6_apart 28 = .ok (.imul, 1) := by decide +kernel
theorem dX6_apart_29 : decode cX6_apart 29 = .ok (.isub, 1) := by decide +kernel
theorem dX6_apart_30 : decode cX6_apart 30 = .ok (.invokestatic 144, 3) := by decide +kernel
theorem dX6_apart_33 : decode cX6_apart 33 = .ok (.iload_n 3, 1) := by decide +kernel
theorem dX6_apart_34 : decode cX6_apart 34 = .ok (.iconst 1, 1) := by decide +kernel
theorem dX6_apart_35 : decode cX6_apart 35 = .ok (.isub, 1) := by decide +kernel
theorem dX6_apart_36 : decode cX6_apart 36 = .ok (.iload_n 2, 1) := by decide +kernel
theorem dX6_apart_37 : decode cX6_apart 37 = .ok (.imul, 1) := by decide +kernel
theorem dX6_apart_38 : decode cX6_apart 38 = .ok (.iadd, 1) := by decide +kernel
theorem dX6_apart_39 : decode cX6_apart 39 = .ok (.ireturn, 1) := by decide +kernel
set_option maxRecDepth 20000 in
theorem ggX6_find_X6_apart : GoodIn wsX6_find wsX6_apart := goodIn_r _ [9, 10, 11, 8, 12] (by decide +kernel) (by decide +kernel)
set_option maxRecDepth 20000 in
theorem gX6_find_X6_apart : GoodIn wsX6_find (va_wsS RX6 147 yX6_apart wsX6_apart) := goodIn_app (goodIn_of _ (by decide +kernel)) ggX6_find_X6_apart
theorem dX6_find_0 : decode cX6_find 0 = .ok (.iload_n 1, 1) := by decide +kernel
theorem dX6_find_1 : decode cX6_find 1 = .ok (.bipush 10, 2) := by decide +kernel
theorem dX6_find_3 : decode cX6_find 3 = .ok (.if_icmp .lt 39, 3) := by decide +kernel
theorem dX6_find_6 : decode cX6_find 6 = .ok (.iload_n 1, 1) := by decide +kernel
theorem dX6_find_7 : decode cX6_find 7 = .ok (.sipush 1000, 3) := by decide +kernel
theorem dX6_find_10 : decode cX6_find 10 = .ok (.if_icmp .gt 32, 3) := by decide +kernel
theorem dX6_find_13 : decode cX6_find 13 = .ok (.iload_n 2, 1) := by decide +kernel
theorem dX6_find_14 : decode cX6_find 14 = .ok (.ifCond .lt 28, 3) := by decide +kernel
theorem dX6_find_17 : decode cX6_find 17 = .ok (.iload_n 2, 1) := by decide +kernel
theorem dX6_find_18 : decode cX6_find 18 = .ok (.sipush 10000, 3) := by decide +kernel
theorem dX6_find_21 : decode cX6_find 21 = .ok (.if_icmp .gt 21, 3) := by decide +kernel
theorem dX6_find_24 : decode cX6_find 24 = .ok (.iload_n 3, 1) := by decide +kernel
theorem dX6_find_25 : decode cX6_find 25 = .ok (.ifCond .lt 17, 3) := by decide +kernel
theorem dX6_find_28 : decode cX6_find 28 = .ok (.iload_n 3, 1) := by decide +kernel
theorem dX6_find_29 : decode cX6_find 29 = .ok (.sipush 10000, 3) := by decide +kernel
theorem dX6_find_32 : decode cX6_find 32 = .ok (.if_icmp .gt 10, 3) := by decide +kernel
theorem dX6_find_35 : decode cX6_find 35 = .ok (.aload_n 0, 1) := by decide +kernel
theorem dX6_find_36 : decode cX6_find 36 = .ok (.getfield 141, 3) := by decide +kernel
theorem dX6_find_39 : decode cX6_find 39 = .ok (.ifCond .ne 5, 3) := by decide +kernel
theorem dX6_find_42 : decode cX6_find 42 = .ok (.iconst (-1), 1) := by decide +kernel
theorem dX6_find_43 : decode cX6_find 43 = .ok (.ireturn, 1) := by decide +kernel
theorem dX6_find_44 : decode cX6_find 44 = .ok (.aload_n 0, 1) := by decide +kernel
theorem dX6_find_45 : decode cX6_find 45 = .ok (.getfield 141, 3) := by decide +kernel
theorem dX6_find_48 : decode cX6_find 48 = .ok (.iconst 1, 1) := by decide +kernel
theorem dX6_find_49 : decode cX6_find 49 = .ok (.isub, 1) := by decide +kernel
theorem dX6_find_50 : decode cX6_find 50 = .ok (.istore 4, 2) := by decide +kernel
theorem dX6_find_52 : decode cX6_find 52 = .ok (.iload 4, 2) := by decide +kernel
theorem dX6_find_54 : decode cX6_find 54 = .ok (.ifCond .lt 109, 3) := by decide +kernel
theorem dX6_find_57 : decode cX6_find 57 = .ok (.aload_n 0, 1) := by decide +kernel
theorem dX6_find_58 : decode cX6_find 58 = .ok (.getfield 53, 3) := by decide +kernel
theorem dX6_find_61 : decode cX6_find 61 = .ok (.iload 4, 2) := by decide +kernel
theorem dX6_find_63 : decode cX6_find 63 = .ok (.iload_n 3, 1) := by decide +kernel
theorem dX6_find_64 : decode cX6_find 64 = .ok (.aload_n 0, 1) := by decide +kernel
theorem dX6_find_65 : decode cX6_find 65 = .ok (.getfield 141, 3) := by decide +kernel
theorem dX6_find_68 : decode cX6_find 68 = .ok (.iconst 1, 1) := by decide +kernel
theorem dX6_find_69 : decode cX6_find 69 = .ok (.isub, 1) := by decide +kernel
theorem dX6_find_70 : decode cX6_find 70 = .ok (.iload 4, 2) := by decide +kernel
theorem dX6_find_72 : decode cX6_find 72 = .ok (.isub, 1) := by decide +kernel
theorem dX6_find_73 : decode cX6_find 73 = .ok (.imul, 1) := by decide +kernel
theorem dX6_find_74 : decode cX6_find 74 = .ok (.iastore, 1) := by decide +kernel
theorem dX6_find_75 : decode cX6_find 75 = .ok (.iload 4, 2) := by decide +kernel
theorem dX6_find_77 : decode cX6_find 77 = .ok (.iconst 1, 1) := by decide +kernel
theorem dX6_find_78 : decode cX6_find 78 = .ok (.iadd, 1) := by decide +kernel
theorem dX6_find_79 : decode cX6_find 79 = .ok (.istore 5, 2) := by decide +kernel
theorem dX6_find_81 : decode cX6_find 81 = .ok (.iload 5, 2) := by decide +kernel
theorem dX6_find_83 : decode cX6_find 83 = .ok (.aload_n 0, 1) := by decide +kernel
theorem dX6_find_84 : decode cX6_find 84 = .ok (.getfield 141, 3) := by decide +kernel
theorem dX6_find_87 : decode cX6_find 87 = .ok (.if_icmp .ge 70, 3) := by decide +kernel
theorem dX6_find_90 : decode cX6_find 90 = .ok (.aload_n 0, 1) := by decide +kernel
theorem dX6_find_91 : decode cX6_find 91 = .ok (.getfield 50, 3) := by decide +kernel
theorem dX6_find_94 : decode cX6_find 94 = .ok (.iload 5, 2) := by decide +kernel
theorem dX6_find_96 : decode cX6_find 96 = .ok (.iaload, 1) := by decide +kernel
theorem dX6_find_97 : decode cX6_find 97 = .ok (.aload_n 0, 1) := by decide +kernel
theorem dX6_find_98 : decode cX6_find 98 = .ok (.getfield 50, 3) := by decide +kernel
theorem dX6_find_101 : decode cX6_find 101 = .ok (.iload 4, 2) := by decide +kernel
theorem dX6_find_103 : decode cX6_find 103 = .ok (.iaload, 1) := by decide +kernel
theorem dX6_find_104 : decode cX6_find 104 = .ok (.isub, 1) := by decide +kernel
theorem dX6_find_105 : decode cX6_find 105 = .ok (.iload_n 1, 1) := by decide +kernel
theorem dX6_find_106 : decode cX6_find 106 = .ok (.iload_n 2, 1) := by decide +kernel
theorem dX6_find_107 : decode cX6_find 107 = .ok (.invokestatic 147, 3) := by decide +kernel
theorem dX6_find_110 : decode cX6_find 110 = .ok (.iload_n 3, 1) := by decide +kernel
theorem dX6_find_111 : decode cX6_find 111 = .ok (.iload 5, 2) := by decide +kernel
theorem dX6_find_113 : decode cX6_find 113 = .ok (.iload 4, 2) := by decide +kernel
theorem dX6_find_115 : decode cX6_find 115 = .ok (.isub, 1) := by decide +kernel
theorem dX6_find_116 : decode cX6_find 116 = .ok (.iconst 1, 1) := by decide +kernel
theorem dX6_find_117 : decode cX6_find 117 = .ok (.isub, 1) := by decide +kernel
theorem dX6_find_118 : decode cX6_find 118 = .ok (.imul, 1) := by decide +kernel
theorem dX6_find_119 : decode cX6_find 119 = .ok (.iadd, 1) := by decide +kernel
theorem dX6_find_120 : decode cX6_find 120 = .ok (.aload_n 0, 1) := by decide +kernel
theorem dX6_find_121 : decode cX6_find 121 = .ok (.getfield 53, 3) := by decide +kernel
theorem dX6_find_124 : decode cX6_find 124 = .ok (.iload 5, 2) := by decide +kernel
theorem dX6_find_126 : decode cX6_find 126 = .ok (.iaload, 1) := by decide +kernel
theorem dX6_find_127 : decode cX6_find 127 = .ok (.iadd, 1) := by decide +kernel
theorem dX6_find_128 : decode cX6_find 128 = .ok (.istore 6, 2) := by decide +kernel
theorem dX6_find_130 : decode cX6_find 130 = .ok (.iload 6, 2) := by decide +kernel
theorem dX6_find_132 : decode cX6_find 132 = .ok (.aload_n 0, 1) := by decide +kernel
theorem dX6_find_133 : decode cX6_find 133 = .ok (.getfield 53, 3) := by decide +kernel
theorem dX6_find_136 : decode cX6_find 136 = .ok (.iload 4, 2) := by decide +kernel
theorem dX6_find_138 : decode cX6_find 138 = .ok (.iaload, 1) := by decide +kernel
theorem dX6_find_139 : decode cX6_find 139 = .ok (.if_icmp .ge 12, 3) := by decide +kernel
theorem dX6_find_142 : decode cX6_find 142 = .ok (.aload_n 0, 1) := by decide +kernel
theorem dX6_find_143 : decode cX6_find 143 = .ok (.getfield 53, 3) := by decide +kernel
theorem dX6_find_146 : decode cX6_find 146 = .ok (.iload 4, 2) := by decide +kernel
theorem dX6_find_148 : decode cX6_find 148 = .ok (.iload 6, 2) := by decide +kernel
theorem dX6_find_150 : decode cX6_find 150 = .ok (.iastore, 1) := by decide +kernel
theorem dX6_find_151 : decode cX6_find 151 = .ok (.iinc 5 1, 3) := by decide +kernel
theorem dX6_find_154 : decode cX6_find 154 = .ok (.goto (-73), 3) := by decide +kernel
theorem dX6_find_157 : decode cX6_find 157 = .ok (.iinc 4 (-1), 3) := by decide +kernel
theorem dX6_find_160 : decode cX6_find 160 = .ok (.goto (-108), 3) := by decide +kernel
theorem dX6_find_163 : decode cX6_find 163 = .ok (.iconst 0, 1) := by decide +kernel
theorem dX6_find_164 : decode cX6_find 164 = .ok (.istore 4, 2) := by decide +kernel
theorem dX6_find_166 : decode cX6_find 166 = .ok (.iconst 1, 1) := by decide +kernel
theorem dX6_find_167 : decode cX6_find 167 = .ok (.istore 5, 2) := by decide +kernel
theorem dX6_find_169 : decode cX6_find 169 = .ok (.iload 5, 2) := by decide +kernel
theorem dX6_find_171 : decode cX6_find 171 = .ok (.aload_n 0, 1) := by decide +kernel
theorem dX6_find_172 : decode cX6_find 172 = .ok (.getfield 141, 3) := by decide +kernel
theorem dX6_find_175 : decode cX6_find 175 = .ok (.if_icmp .ge 40, 3) := by decide +kernel
theorem dX6_find_178 : decode cX6_find 178 = .ok (.iload_n 3, 1) := by decide +kernel
theorem dX6_find_179 : decode cX6_find 179 = .ok (.iload 5, 2) := by decide +kernel
theorem dX6_find_181 : decode cX6_find 181 = .ok (.imul, 1) := by decide +kernel
theorem dX6_find_182 : decode cX6_find 182 = .ok (.aload_n 0, 1) := by decide +kernel
theorem dX6_find_183 : decode cX6_find 183 = .ok (.getfield 53, 3) := by decide +kernel
theorem dX6_find_186 : decode cX6_find 186 = .ok (.iload 5, 2) := by decide +kernel
theorem dX6_find_188 : decode cX6_find 188 = .ok (.iaload, 1) := by decide +kernel
theorem dX6_find_189 : decode cX6_find 189 = .ok (.iadd, 1) := by decide +kernel
theorem dX6_find_190 : decode cX6_find 190 = .ok (.iload_n 3, 1) := by decide +kernel
theorem dX6_find_191 : decode cX6_find 191 = .ok (.iload 4, 2) := by decide +kernel
theorem dX6_find_193 : decode cX6_find 193 = .ok (.imul, 1) := by decide +kernel
theorem dX6_find_194 : decode cX6_find 194 = .ok (.aload_n 0, 1) := by decide +kernel
theorem dX6_find_195 : decode cX6_find 195 = .ok (.getfield 53, 3) := by decide +kernel
theorem dX6_find_198 : decode cX6_find 198 = .ok (.iload 4, 2) := by decide +kernel
theorem dX6_find_200 : decode cX6_find 200 = .ok (.iaload, 1) := by decide +kernel
theorem dX6_find_201 : decode cX6_find 201 = .ok (.iadd, 1) := by decide +kernel
theorem dX6_find_202 : decode cX6_find 202 = .ok (.if_icmp .ge 7, 3) := by decide +kernel
theorem dX6_find_205 : decode cX6_find 205 = .ok (.iload 5, 2) := by decide +kernel
theorem dX6_find_207 : decode cX6_find 207 = .ok (.istore 4, 2) := by decide +kernel
theorem dX6_find_209 : decode cX6_find 209 = .ok (.iinc 5 1, 3) := by decide +kernel
theorem dX6_find_212 : decode cX6_find 212 = .ok (.goto (-43), 3) := by decide +kernel
theorem dX6_find_215 : decode cX6_find 215 = .ok (.iload_n 3, 1) := by decide +kernel
theorem dX6_find_216 : decode cX6_find 216 = .ok (.iload 4, 2) := by decide +kernel
theorem dX6_find_218 : decode cX6_find 218 = .ok (.imul, 1) := by decide +kernel
theorem dX6_find_219 : decode cX6_find 219 = .ok (.aload_n 0, 1) := by decide +kernel
theorem dX6_find_220 : decode cX6_find 220 = .ok (.getfield 53, 3) := by decide +kernel
theorem dX6_find_223 : decode cX6_find 223 = .ok (.iload 4, 2) := by decide +kernel
theorem dX6_find_225 : decode cX6_find 225 = .ok (.iaload, 1) := by decide +kernel
theorem dX6_find_226 : decode cX6_find 226 = .ok (.iadd, 1) := by decide +kernel
theorem dX6_find_227 : decode cX6_find 227 = .ok (.istore 5, 2) := by decide +kernel
theorem dX6_find_229 : decode cX6_find 229 = .ok (.aload_n 0, 1) := by decide +kernel
theorem dX6_find_230 : decode cX6_find 230 = .ok (.iconst 0, 1) := by decide +kernel
theorem dX6_find_231 : decode cX6_find 231 = .ok (.putfield 151, 3) := by decide +kernel
theorem dX6_find_234 : decode cX6_find 234 = .ok (.iload 4, 2) := by decide +kernel
theorem dX6_find_236 : decode cX6_find 236 = .ok (.istore 6, 2) := by decide +kernel
theorem dX6_find_238 : decode cX6_find 238 = .ok (.iload 6, 2) := by decide +kernel
theorem dX6_find_240 : decode cX6_find 240 = .ok (.iconst (-1), 1) := by decide +kernel
theorem dX6_find_241 : decode cX6_find 241 = .ok (.if_icmp .eq 113, 3) := by decide +kernel
theorem dX6_find_244 : decode cX6_find 244 = .ok (.aload_n 0, 1) := by decide +kernel
theorem dX6_find_245 : decode cX6_find 245 = .ok (.getfield 56, 3) := by decide +kernel
theorem dX6_find_248 : decode cX6_find 248 = .ok (.aload_n 0, 1) := by decide +kernel
theorem dX6_find_249 : decode cX6_find 249 = .ok (.getfield 151, 3) := by decide +kernel
theorem dX6_find_252 : decode cX6_find 252 = .ok (.iload 6, 2) := by decide +kernel
theorem dX6_find_254 : decode cX6_find 254 = .ok (.iastore, 1) := by decide +kernel
theorem dX6_find_255 : decode cX6_find 255 = .ok (.aload_n 0, 1) := by decide +kernel
theorem dX6_find_256 : decode cX6_find 256 = .ok (.dup, 1) := by decide +kernel
theorem dX6_find_257 : decode cX6_find 257 = .ok (.getfield 151, 3) := by decide +kernel
theorem dX6_find_260 : decode cX6_find 260 = .ok (.iconst 1, 1) := by decide +kernel
theorem dX6_find_261 : decode cX6_find 261 = .ok (.iadd, 1) := by decide +kernel
theorem dX6_find_262 : decode cX6_find 262 = .ok (.putfield 151, 3) := by decide +kernel
theorem dX6_find_265 : decode cX6_find 265 = .ok (.iconst (-1), 1) := by decide +kernel
theorem dX6_find_266 : decode cX6_find 266 = .ok (.istore 7, 2) := by decide +kernel
theorem dX6_find_268 : decode cX6_find 268 = .ok (.iload 6, 2) := by decide +kernel
theorem dX6_find_270 : decode cX6_find 270 = .ok (.iconst 1, 1) := by decide +kernel
theorem dX6_find_271 : decode cX6_find 271 = .ok (.iadd, 1) := by decide +kernel
theorem dX6_find_272 : decode cX6_find 272 = .ok (.istore 8, 2) := by decide +kernel
theorem dX6_find_274 : decode cX6_find 274 = .ok (.iload 8, 2) := by decide +kernel
theorem dX6_find_276 : decode cX6_find 276 = .ok (.aload_n 0, 1) := by decide +kernel
theorem dX6_find_277 : decode cX6_find 277 = .ok (.getfield 141, 3) := by decide +kernel
theorem dX6_find_280 : decode cX6_find 280 = .ok (.if_icmp .ge 67, 3) := by decide +kernel
theorem dX6_find_283 : decode cX6_find 283 = .ok (.iload 7, 2) := by decide +kernel
theorem dX6_find_285 : decode cX6_find 285 = .ok (.iconst (-1), 1) := by decide +kernel
theorem dX6_find_286 : decode cX6_find 286 = .ok (.if_icmp .ne 61, 3) := by decide +kernel
theorem dX6_find_289 : decode cX6_find 289 = .ok (.aload_n 0, 1) := by decide +kernel
theorem dX6_find_290 : decode cX6_find 290 = .ok (.getfield 50, 3) := by decide +kernel
theorem dX6_find_293 : decode cX6_find 293 = .ok (.iload 8, 2) := by decide +kernel
theorem dX6_find_295 : decode cX6_find 295 = .ok (.iaload, 1) := by decide +kernel
theorem dX6_find_296 : decode cX6_find 296 = .ok (.aload_n 0, 1) := by decide +kernel
theorem dX6_find_297 : decode cX6_find 297 = .ok (.getfield 50, 3) := by decide +kernel
theorem dX6_find_300 : decode cX6_find 300 = .ok (.iload 6, 2) := by decide +kernel
theorem dX6_find_302 : decode cX6_find 302 = .ok (.iaload, 1) := by decide +kernel
theorem dX6_find_303 : decode cX6_find 303 = .ok (.isub, 1) := by decide +kernel
theorem dX6_find_304 : decode cX6_find 304 = .ok (.iload_n 1, 1) := by decide +kernel
theorem dX6_find_305 : decode cX6_find 305 = .ok (.iload_n 2, 1) := by decide +kernel
theorem dX6_find_306 : decode cX6_find 306 = .ok (.invokestatic 147, 3) := by decide +kernel
theorem dX6_find_309 : decode cX6_find 309 = .ok (.iload_n 3, 1) := by decide +kernel
theorem dX6_find_310 : decode cX6_find 310 = .ok (.iload 8, 2) := by decide +kernel
theorem dX6_find_312 : decode cX6_find 312 = .ok (.iload 6, 2) := by decide +kernel
theorem dX6_find_314 : decode cX6_find 314 = .ok (.isub, 1) := by decide +kernel
theorem dX6_find_315 : decode cX6_find 315 = .ok (.iconst 1, 1) := by decide +kernel
theorem dX6_find_316 : decode cX6_find 316 = .ok (.isub, 1) := by decide +kernel
theorem dX6_find_317 : decode cX6_find 317 = .ok (.imul, 1) := by decide +kernel
theorem dX6_find_318 : decode cX6_find 318 = .ok (.iadd, 1) := by decide +kernel
theorem dX6_find_319 : decode cX6_find 319 = .ok (.aload_n 0, 1) := by decide +kernel
theorem dX6_find_320 : decode cX6_find 320 = .ok (.getfield 53, 3) := by decide +kernel
theorem dX6_find_323 : decode cX6_find 323 = .ok (.iload 8, 2) := by decide +kernel
theorem dX6_find_325 : decode cX6_find 325 = .ok (.iaload, 1) := by decide +kernel
theorem dX6_find_326 : decode cX6_find 326 = .ok (.iadd, 1) := by decide +kernel
theorem dX6_find_327 : decode cX6_find 327 = .ok (.aload_n 0, 1) := by decide +kernel
theorem dX6_find_328 : decode cX6_find 328 = .ok (.getfield 53, 3) := by decide +kernel
theorem dX6_find_331 : decode cX6_find 331 = .ok (.iload 6, 2) := by decide +kernel
theorem dX6_find_333 : decode cX6_find 333 = .ok (.iaload, 1) := by decide +kernel
theorem dX6_find_334 : decode cX6_find 334 = .ok (.if_icmp .ne 7, 3) := by decide +kernel
theorem dX6_find_337 : decode cX6_find 337 = .ok (.iload 8, 2) := by decide +kernel
theorem dX6_find_339 : decode cX6_find 339 = .ok (.istore 7, 2) := by decide +kernel
theorem dX6_find_341 : decode cX6_find 341 = .ok (.iinc 8 1, 3) := by decide +kernel
theorem dX6_find_344 : decode cX6_find 344 = .ok (.goto (-70), 3) := by decide +kernel
theorem dX6_find_347 : decode cX6_find 347 = .ok (.iload 7, 2) := by decide +kernel
theorem dX6_find_349 : decode cX6_find 349 = .ok (.istore 6, 2) := by decide +kernel
theorem dX6_find_351 : decode cX6_find 351 = .ok (.goto (-113), 3) := by decide +kernel
theorem dX6_find_354 : decode cX6_find 354 = .ok (.iload 5, 2) := by decide +kernel
theorem dX6_find_356 : decode cX6_find 356 = .ok (.ireturn, 1) := by decide +kernel
theorem dX6_found_0 : decode cX6_found 0 = .ok (.iload_n 1, 1) := by decide +kernel
theorem dX6_found_1 : decode cX6_found 1 = .ok (.ifCond .lt 20, 3) := by decide +kernel
theorem dX6_found_4 : decode cX6_found 4 = .ok (.iload_n 1, 1) := by decide +kernel
theorem dX6_found_5 : decode cX6_found 5 = .ok (.aload_n 0, 1) := by decide +kernel
theorem dX6_found_6 : decode cX6_found 6 = .ok (.getfield 151, 3) := by decide +kernel
theorem dX6_found_9 : decode cX6_found 9 = .ok (.if_icmp .ge 12, 3) := by decide +kernel
theorem dX6_found_12 : decode cX6_found 12 = .ok (.aload_n 0, 1) := by decide +kernel
theorem dX6_found_13 : decode cX6_found 13 = .ok (.getfield 56, 3) := by decide +kernel
theorem dX6_found_16 : decode cX6_found 16 = .ok (.iload_n 1, 1) := by decide +kernel
theorem dX6_found_17 : decode cX6_found 17 = .ok (.iaload, 1) := by decide +kernel
theorem dX6_found_18 : decode cX6_found 18 = .ok (.goto 4, 3) := by decide +kernel
theorem dX6_found_21 : decode cX6_found 21 = .ok (.iconst (-1), 1) := by decide +kernel
theorem dX6_found_22 : decode cX6_found 22 = .ok (.ireturn, 1) := by decide +kernel
theorem dX6_costs_0 : decode cX6_costs 0 = .ok (.iload_n 1, 1) := by decide +kernel
theorem dX6_costs_1 : decode cX6_costs 1 = .ok (.ifCond .lt 32, 3) := by decide +kernel
theorem dX6_costs_4 : decode cX6_costs 4 = .ok (.iload_n 1, 1) := by decide +kernel
theorem dX6_costs_5 : decode cX6_costs 5 = .ok (.sipush 1000, 3) := by decide +kernel
theorem dX6_costs_8 : decode cX6_costs 8 = .ok (.if_icmp .gt 25, 3) := by decide +kernel
theorem dX6_costs_11 : decode cX6_costs 11 = .ok (.iload_n 2, 1) := by decide +kernel
theorem dX6_costs_12 : decode cX6_costs 12 = .ok (.ifCond .lt 21, 3) := by decide +kernel
theorem dX6_costs_15 : decode cX6_costs 15 = .ok (.iload_n 2, 1) := by decide +kernel
theorem dX6_costs_16 : decode cX6_costs 16 = .ok (.sipush 1000, 3) := by decide +kernel
theorem dX6_costs_19 : decode cX6_costs 19 = .ok (.if_icmp .gt 14, 3) := by decide +kernel
theorem dX6_costs_22 : decode cX6_costs 22 = .ok (.iload_n 3, 1) := by decide +kernel
theorem dX6_costs_23 : decode cX6_costs 23 = .ok (.ifCond .lt 10, 3) := by decide +kernel
theorem dX6_costs_26 : decode cX6_costs 26 = .ok (.iload_n 3, 1) := by decide +kernel
theorem dX6_costs_27 : decode cX6_costs 27 = .ok (.sipush 1000, 3) := by decide +kernel
theorem dX6_costs_30 : decode cX6_costs 30 = .ok (.if_icmp .le 5, 3) := by decide +kernel
theorem dX6_costs_33 : decode cX6_costs 33 = .ok (.iconst 0, 1) := by decide +kernel
theorem dX6_costs_34 : decode cX6_costs 34 = .ok (.ireturn, 1) := by decide +kernel
theorem dX6_costs_35 : decode cX6_costs 35 = .ok (.aload_n 0, 1) := by decide +kernel
theorem dX6_costs_36 : decode cX6_costs 36 = .ok (.iload_n 1, 1) := by decide +kernel
theorem dX6_costs_37 : decode cX6_costs 37 = .ok (.putfield 59, 3) := by decide +kernel
theorem dX6_costs_40 : decode cX6_costs 40 = .ok (.aload_n 0, 1) := by decide +kernel
theorem dX6_costs_41 : decode cX6_costs 41 = .ok (.iload_n 2, 1) := by decide +kernel
theorem dX6_costs_42 : decode cX6_costs 42 = .ok (.putfield 63, 3) := by decide +kernel
theorem dX6_costs_45 : decode cX6_costs 45 = .ok (.aload_n 0, 1) := by decide +kernel
theorem dX6_costs_46 : decode cX6_costs 46 = .ok (.iload_n 3, 1) := by decide +kernel
theorem dX6_costs_47 : decode cX6_costs 47 = .ok (.putfield 66, 3) := by decide +kernel
theorem dX6_costs_50 : decode cX6_costs 50 = .ok (.iconst 1, 1) := by decide +kernel
theorem dX6_costs_51 : decode cX6_costs 51 = .ok (.ireturn, 1) := by decide +kernel
set_option maxRecDepth 20000 in
theorem ggX6_plays_X6_playedBars : GoodIn wsX6_plays wsX6_playedBars := goodIn_r _ [7, 8, 9, 10, 11, 30, 31, 32, 33, 34, 35, 36, 37, 38, 39, 40, 41, 42, 43, 44, 45, 46, 47, 48, 49, 50, 51, 52, 53, 54, 55, 56, 57, 58, 59, 60, 61, 62, 63, 64, 65] (by decide +kernel) (by decide +kernel)
set_option maxRecDepth 20000 in
theorem gX6_plays_X6_playedBars : GoodIn wsX6_plays (wsV RX6 111 RX6 yX6_playedBars wsX6_playedBars) := goodIn_app (goodIn_of _ (by decide +kernel)) ggX6_plays_X6_playedBars
set_option maxRecDepth 20000 in
theorem ggX6_plays_X6_barOf : GoodIn wsX6_plays wsX6_barOf := goodIn_r _ [15, 10, 11, 9, 30, 31, 32, 33, 34, 35, 36, 37, 38, 39, 40, 41, 42, 43, 44, 45, 46, 47, 48, 49, 50, 51, 52, 53, 54, 55, 56, 57, 58, 59, 60, 61, 62, 63, 64, 65] (by decide +kernel) (by decide +kernel)
set_option maxRecDepth 20000 in
theorem gX6_plays_X6_barOf : GoodIn wsX6_plays (wsV RX6 131 RX6 yX6_barOf wsX6_barOf) := goodIn_app (goodIn_of _ (by decide +kernel)) ggX6_plays_X6_barOf
set_option maxRecDepth 20000 in
theorem ggX6_plays_X6_firstBeat : GoodIn wsX6_plays wsX6_firstBeat := goodIn_r _ [19, 1, 30, 31, 32, 33, 34, 35, 36, 37, 38, 39, 40, 41, 42, 43, 44, 45, 46, 47, 48, 49, 50, 51, 52, 53, 54, 55, 56, 57, 58, 59, 60, 61, 62, 63, 64, 65] (by decide +kernel) (by decide +kernel)
set_option maxRecDepth 20000 in
theorem gX6_plays_X6_firstBeat : GoodIn wsX6_plays (wsV RX6 128 RX6 yX6_firstBeat wsX6_firstBeat) := goodIn_app (goodIn_of _ (by decide +kernel)) ggX6_plays_X6_firstBeat
set_option maxRecDepth 20000 in
theorem ggX6_plays_X6_lasts : GoodIn wsX6_plays wsX6_lasts := goodIn_r _ [23, 24, 25, 26, 27, 28, 6, 29, 30, 31, 32, 33, 34, 35, 36, 37, 38, 39, 40, 41, 42, 43, 44, 45, 46, 47, 48, 49, 50, 51, 52, 53, 54, 55, 56, 57, 58, 59, 60, 61, 62, 63, 64, 65] (by decide +kernel) (by decide +kernel)
set_option maxRecDepth 20000 in
theorem gX6_plays_X6_lasts : GoodIn wsX6_plays (wsV RX6 122 RX6 yX6_lasts wsX6_lasts) := goodIn_app (goodIn_of _ (by decide +kernel)) ggX6_plays_X6_lasts
theorem dX6_plays_0 : decode cX6_plays 0 = .ok (.iconst 0, 1) := by decide +kernel
theorem dX6_plays_1 : decode cX6_plays 1 = .ok (.istore 5, 2) := by decide +kernel
theorem dX6_plays_3 : decode cX6_plays 3 = .ok (.iload 5, 2) := by decide +kernel
theorem dX6_plays_5 : decode cX6_plays 5 = .ok (.aload_n 0, 1) := by decide +kernel
theorem dX6_plays_6 : decode cX6_plays 6 = .ok (.iload_n 1, 1) := by decide +kernel
theorem dX6_plays_7 : decode cX6_plays 7 = .ok (.invokevirtual 111, 3) := by decide +kernel
theorem dX6_plays_10 : decode cX6_plays 10 = .ok (.if_icmp .ge 108, 3) := by decide +kernel
theorem dX6_plays_13 : decode cX6_plays 13 = .ok (.aload_n 0, 1) := by decide +kernel
theorem dX6_plays_14 : decode cX6_plays 14 = .ok (.iload_n 1, 1) := by decide +kernel
theorem dX6_plays_15 : decode cX6_plays 15 = .ok (.iload 5, 2) := by decide +kernel
theorem dX6_plays_17 : decode cX6_plays 17 = .ok (.invokevirtual 131, 3) := by decide +kernel
theorem dX6_plays_20 : decode cX6_plays 20 = .ok (.istore 6, 2) := by decide +kernel
theorem dX6_plays_22 : decode cX6_plays 22 = .ok (.aload_n 0, 1) := by decide +kernel
theorem dX6_plays_23 : decode cX6_plays 23 = .ok (.iload_n 1, 1) := by decide +kernel
theorem dX6_plays_24 : decode cX6_plays 24 = .ok (.iload 6, 2) := by decide +kernel
theorem dX6_plays_26 : decode cX6_plays 26 = .ok (.invokevirtual 128, 3) := by decide +kernel
theorem dX6_plays_29 : decode cX6_plays 29 = .ok (.istore 7, 2) := by decide +kernel
theorem dX6_plays_31 : decode cX6_plays 31 = .ok (.iconst 0, 1) := by decide +kernel
theorem dX6_plays_32 : decode cX6_plays 32 = .ok (.istore 8, 2) := by decide +kernel
theorem dX6_plays_34 : decode cX6_plays 34 = .ok (.iload 8, 2) := by decide +kernel
theorem dX6_plays_36 : decode cX6_plays 36 = .ok (.iconst 4, 1) := by decide +kernel
theorem dX6_plays_37 : decode cX6_plays 37 = .ok (.if_icmp .ge 28, 3) := by decide +kernel
theorem dX6_plays_40 : decode cX6_plays 40 = .ok (.aload_n 2, 1) := by decide +kernel
theorem dX6_plays_41 : decode cX6_plays 41 = .ok (.iconst 4, 1) := by decide +kernel
theorem dX6_plays_42 : decode cX6_plays 42 = .ok (.iload 5, 2) := by decide +kernel
theorem dX6_plays_44 : decode cX6_plays 44 = .ok (.imul, 1) := by decide +kernel
theorem dX6_plays_45 : decode cX6_plays 45 = .ok (.iload 8, 2) := by decide +kernel
theorem dX6_plays_47 : decode cX6_plays 47 = .ok (.iadd, 1) := by decide +kernel
theorem dX6_plays_48 : decode cX6_plays 48 = .ok (.aload_n 0, 1) := by decide +kernel
theorem dX6_plays_49 : decode cX6_plays 49 = .ok (.iload_n 1, 1) := by decide +kernel
theorem dX6_plays_50 : decode cX6_plays 50 = .ok (.iload 7, 2) := by decide +kernel
theorem dX6_plays_52 : decode cX6_plays 52 = .ok (.iload 8, 2) := by decide +kernel
theorem dX6_plays_54 : decode cX6_plays 54 = .ok (.iadd, 1) := by decide +kernel
theorem dX6_plays_55 : decode cX6_plays 55 = .ok (.invokevirtual 122, 3) := by decide +kernel
theorem dX6_plays_58 : decode cX6_plays 58 = .ok (.iastore, 1) := by decide +kernel
theorem dX6_plays_59 : decode cX6_plays 59 = .ok (.iinc 8 1, 3) := by decide +kernel
theorem dX6_plays_62 : decode cX6_plays 62 = .ok (.goto (-28), 3) := by decide +kernel
theorem dX6_plays_65 : decode cX6_plays 65 = .ok (.aload_n 3, 1) := by decide +kernel
theorem dX6_plays_66 : decode cX6_plays 66 = .ok (.iload 5, 2) := by decide +kernel
theorem dX6_plays_68 : decode cX6_plays 68 = .ok (.aload_n 0, 1) := by decide +kernel
theorem dX6_plays_69 : decode cX6_plays 69 = .ok (.getfield 35, 3) := by decide +kernel
theorem dX6_plays_72 : decode cX6_plays 72 = .ok (.bipush 64, 2) := by decide +kernel
theorem dX6_plays_74 : decode cX6_plays 74 = .ok (.iload_n 1, 1) := by decide +kernel
theorem dX6_plays_75 : decode cX6_plays 75 = .ok (.imul, 1) := by decide +kernel
theorem dX6_plays_76 : decode cX6_plays 76 = .ok (.iload 6, 2) := by decide +kernel
theorem dX6_plays_78 : decode cX6_plays 78 = .ok (.iadd, 1) := by decide +kernel
theorem dX6_plays_79 : decode cX6_plays 79 = .ok (.iaload, 1) := by decide +kernel
theorem dX6_plays_80 : decode cX6_plays 80 = .ok (.iconst 4, 1) := by decide +kernel
theorem dX6_plays_81 : decode cX6_plays 81 = .ok (.if_icmp .ge 7, 3) := by decide +kernel
theorem dX6_plays_84 : decode cX6_plays 84 = .ok (.iconst 1, 1) := by decide +kernel
theorem dX6_plays_85 : decode cX6_plays 85 = .ok (.goto 4, 3) := by decide +kernel
theorem dX6_plays_88 : decode cX6_plays 88 = .ok (.iconst 0, 1) := by decide +kernel
theorem dX6_plays_89 : decode cX6_plays 89 = .ok (.bastore, 1) := by decide +kernel
theorem dX6_plays_90 : decode cX6_plays 90 = .ok (.aload 4, 2) := by decide +kernel
theorem dX6_plays_92 : decode cX6_plays 92 = .ok (.iload 5, 2) := by decide +kernel
theorem dX6_plays_94 : decode cX6_plays 94 = .ok (.iload 6, 2) := by decide +kernel
theorem dX6_plays_96 : decode cX6_plays 96 = .ok (.aload_n 0, 1) := by decide +kernel
theorem dX6_plays_97 : decode cX6_plays 97 = .ok (.getfield 32, 3) := by decide +kernel
theorem dX6_plays_100 : decode cX6_plays 100 = .ok (.iload_n 1, 1) := by decide +kernel
theorem dX6_plays_101 : decode cX6_plays 101 = .ok (.iaload, 1) := by decide +kernel
theorem dX6_plays_102 : decode cX6_plays 102 = .ok (.irem, 1) := by decide +kernel
theorem dX6_plays_103 : decode cX6_plays 103 = .ok (.ifCond .ne 7, 3) := by decide +kernel
theorem dX6_plays_106 : decode cX6_plays 106 = .ok (.iconst 1, 1) := by decide +kernel
theorem dX6_plays_107 : decode cX6_plays 107 = .ok (.goto 4, 3) := by decide +kernel
theorem dX6_plays_110 : decode cX6_plays 110 = .ok (.iconst 0, 1) := by decide +kernel
theorem dX6_plays_111 : decode cX6_plays 111 = .ok (.bastore, 1) := by decide +kernel
theorem dX6_plays_112 : decode cX6_plays 112 = .ok (.iinc 5 1, 3) := by decide +kernel
theorem dX6_plays_115 : decode cX6_plays 115 = .ok (.goto (-112), 3) := by decide +kernel
theorem dX6_plays_118 : decode cX6_plays 118 = .ok (.return_, 1) := by decide +kernel
set_option maxRecDepth 20000 in
theorem ggX6_keysApart_X6_size : GoodIn wsX6_keysApart wsX6_size := goodIn_r _ [5] (by decide +kernel) (by decide +kernel)
set_option maxRecDepth 20000 in
theorem gX6_keysApart_X6_size : GoodIn wsX6_keysApart (va_wsS RX6 144 yX6_size wsX6_size) := goodIn_app (goodIn_of _ (by decide +kernel)) ggX6_keysApart_X6_size
theorem dX6_keysApart_0 : decode cX6_keysApart 0 = .ok (.aload_n 0, 1) := by decide +kernel
theorem dX6_keysApart_1 : decode cX6_keysApart 1 = .ok (.getfield 26, 3) := by decide +kernel
theorem dX6_keysApart_4 : decode cX6_keysApart 4 = .ok (.iload_n 1, 1) := by decide +kernel
theorem dX6_keysApart_5 : decode cX6_keysApart 5 = .ok (.iaload, 1) := by decide +kernel
theorem dX6_keysApart_6 : decode cX6_keysApart 6 = .ok (.bipush 12, 2) := by decide +kernel
theorem dX6_keysApart_8 : decode cX6_keysApart 8 = .ok (.irem, 1) := by decide +kernel
theorem dX6_keysApart_9 : decode cX6_keysApart 9 = .ok (.aload_n 0, 1) := by decide +kernel
theorem dX6_keysApart_10 : decode cX6_keysApart 10 = .ok (.getfield 26, 3) := by decide +kernel
theorem dX6_keysApart_13 : decode cX6_keysApart 13 = .ok (.iload_n 2, 1) := by decide +kernel
theorem dX6_keysApart_14 : decode cX6_keysApart 14 = .ok (.iaload, 1) := by decide +kernel
theorem dX6_keysApart_15 : decode cX6_keysApart 15 = .ok (.bipush 12, 2) := by decide +kernel
theorem dX6_keysApart_17 : decode cX6_keysApart 17 = .ok (.irem, 1) := by decide +kernel
theorem dX6_keysApart_18 : decode cX6_keysApart 18 = .ok (.isub, 1) := by decide +kernel
theorem dX6_keysApart_19 : decode cX6_keysApart 19 = .ok (.invokestatic 144, 3) := by decide +kernel
theorem dX6_keysApart_22 : decode cX6_keysApart 22 = .ok (.istore_n 3, 1) := by decide +kernel
theorem dX6_keysApart_23 : decode cX6_keysApart 23 = .ok (.iload_n 3, 1) := by decide +kernel
theorem dX6_keysApart_24 : decode cX6_keysApart 24 = .ok (.bipush 12, 2) := by decide +kernel
theorem dX6_keysApart_26 : decode cX6_keysApart 26 = .ok (.iload_n 3, 1) := by decide +kernel
theorem dX6_keysApart_27 : decode cX6_keysApart 27 = .ok (.isub, 1) := by decide +kernel
theorem dX6_keysApart_28 : decode cX6_keysApart 28 = .ok (.if_icmp .ge 7, 3) := by decide +kernel
theorem dX6_keysApart_31 : decode cX6_keysApart 31 = .ok (.iload_n 3, 1) := by decide +kernel
theorem dX6_keysApart_32 : decode cX6_keysApart 32 = .ok (.goto 7, 3) := by decide +kernel
theorem dX6_keysApart_35 : decode cX6_keysApart 35 = .ok (.bipush 12, 2) := by decide +kernel
theorem dX6_keysApart_37 : decode cX6_keysApart 37 = .ok (.iload_n 3, 1) := by decide +kernel
theorem dX6_keysApart_38 : decode cX6_keysApart 38 = .ok (.isub, 1) := by decide +kernel
theorem dX6_keysApart_39 : decode cX6_keysApart 39 = .ok (.aload_n 0, 1) := by decide +kernel
theorem dX6_keysApart_40 : decode cX6_keysApart 40 = .ok (.getfield 26, 3) := by decide +kernel
theorem dX6_keysApart_43 : decode cX6_keysApart 43 = .ok (.iload_n 1, 1) := by decide +kernel
theorem dX6_keysApart_44 : decode cX6_keysApart 44 = .ok (.iaload, 1) := by decide +kernel
theorem dX6_keysApart_45 : decode cX6_keysApart 45 = .ok (.bipush 12, 2) := by decide +kernel
theorem dX6_keysApart_47 : decode cX6_keysApart 47 = .ok (.idiv, 1) := by decide +kernel
theorem dX6_keysApart_48 : decode cX6_keysApart 48 = .ok (.aload_n 0, 1) := by decide +kernel
theorem dX6_keysApart_49 : decode cX6_keysApart 49 = .ok (.getfield 26, 3) := by decide +kernel
theorem dX6_keysApart_52 : decode cX6_keysApart 52 = .ok (.iload_n 2, 1) := by decide +kernel
theorem dX6_keysApart_53 : decode cX6_keysApart 53 = .ok (.iaload, 1) := by decide +kernel
theorem dX6_keysApart_54 : decode cX6_keysApart 54 = .ok (.bipush 12, 2) := by decide +kernel
theorem dX6_keysApart_56 : decode cX6_keysApart 56 = .ok (.idiv, 1) := by decide +kernel
theorem dX6_keysApart_57 : decode cX6_keysApart 57 = .ok (.if_icmp .ne 7, 3) := by decide +kernel
theorem dX6_keysApart_60 : decode cX6_keysApart 60 = .ok (.iconst 0, 1) := by decide +kernel
theorem dX6_keysApart_61 : decode cX6_keysApart 61 = .ok (.goto 4, 3) := by decide +kernel
theorem dX6_keysApart_64 : decode cX6_keysApart 64 = .ok (.iconst 1, 1) := by decide +kernel
theorem dX6_keysApart_65 : decode cX6_keysApart 65 = .ok (.iadd, 1) := by decide +kernel
theorem dX6_keysApart_66 : decode cX6_keysApart 66 = .ok (.ireturn, 1) := by decide +kernel
set_option maxRecDepth 20000 in
theorem ggX6_always_X6_keysApart : GoodIn wsX6_always wsX6_keysApart := goodIn_r _ [8, 9, 10, 11, 7, 12, 13, 14, 15, 16, 17, 18, 19, 20, 21, 22, 23, 24, 25, 26, 27, 28, 29, 30, 31, 32, 33, 34, 35, 36, 37, 38, 39, 40, 41, 42, 43, 44, 45, 46, 47, 48] (by decide +kernel) (by decide +kernel)
set_option maxRecDepth 20000 in
theorem gX6_always_X6_keysApart : GoodIn wsX6_always (wsV RX6 154 RX6 yX6_keysApart wsX6_keysApart) := goodIn_app (goodIn_of _ (by decide +kernel)) ggX6_always_X6_keysApart
set_option maxRecDepth 20000 in
theorem ggX6_always_X6_size : GoodIn wsX6_always wsX6_size := goodIn_r _ [12] (by decide +kernel) (by decide +kernel)
set_option maxRecDepth 20000 in
theorem gX6_always_X6_size : GoodIn wsX6_always (va_wsS RX6 144 yX6_size wsX6_size) := goodIn_app (goodIn_of _ (by decide +kernel)) ggX6_always_X6_size
theorem dX6_always_0 : decode cX6_always 0 = .ok (.aload_n 0, 1) := by decide +kernel
theorem dX6_always_1 : decode cX6_always 1 = .ok (.getfield 63, 3) := by decide +kernel
theorem dX6_always_4 : decode cX6_always 4 = .ok (.aload_n 0, 1) := by decide +kernel
theorem dX6_always_5 : decode cX6_always 5 = .ok (.iload_n 1, 1) := by decide +kernel
theorem dX6_always_6 : decode cX6_always 6 = .ok (.iload_n 2, 1) := by decide +kernel
theorem dX6_always_7 : decode cX6_always 7 = .ok (.invokevirtual 154, 3) := by decide +kernel
theorem dX6_always_10 : decode cX6_always 10 = .ok (.imul, 1) := by decide +kernel
theorem dX6_always_11 : decode cX6_always 11 = .ok (.aload_n 0, 1) := by decide +kernel
theorem dX6_always_12 : decode cX6_always 12 = .ok (.getfield 66, 3) := by decide +kernel
theorem dX6_always_15 : decode cX6_always 15 = .ok (.aload_n 0, 1) := by decide +kernel
theorem dX6_always_16 : decode cX6_always 16 = .ok (.getfield 29, 3) := by decide +kernel
theorem dX6_always_19 : decode cX6_always 19 = .ok (.iload_n 1, 1) := by decide +kernel
theorem dX6_always_20 : decode cX6_always 20 = .ok (.iaload, 1) := by decide +kernel
theorem dX6_always_21 : decode cX6_always 21 = .ok (.aload_n 0, 1) := by decide +kernel
theorem dX6_always_22 : decode cX6_always 22 = .ok (.getfield 29, 3) := by decide +kernel
theorem dX6_always_25 : decode cX6_always 25 = .ok (.iload_n 2, 1) := by decide +kernel
theorem dX6_always_26 : decode cX6_always 26 = .ok (.iaload, 1) := by decide +kernel
theorem dX6_always_27 : decode cX6_always 27 = .ok (.isub, 1) := by decide +kernel
theorem dX6_always_28 : decode cX6_always 28 = .ok (.invokestatic 144, 3) := by decide +kernel
theorem dX6_always_31 : decode cX6_always 31 = .ok (.imul, 1) := by decide +kernel
theorem dX6_always_32 : decode cX6_always 32 = .ok (.iadd, 1) := by decide +kernel
theorem dX6_always_33 : decode cX6_always 33 = .ok (.ireturn, 1) := by decide +kernel
set_option maxRecDepth 20000 in
theorem ggX6_joined_X6_floor : GoodIn wsX6_joined wsX6_floor := goodIn_r _ [4] (by decide +kernel) (by decide +kernel)
set_option maxRecDepth 20000 in
theorem gX6_joined_X6_floor : GoodIn wsX6_joined (va_wsS RX6 118 yX6_floor wsX6_floor) := goodIn_app (goodIn_of _ (by decide +kernel)) ggX6_joined_X6_floor
theorem dX6_joined_0 : decode cX6_joined 0 = .ok (.iload_n 0, 1) := by decide +kernel
theorem dX6_joined_1 : decode cX6_joined 1 = .ok (.iload_n 1, 1) := by decide +kernel
theorem dX6_joined_2 : decode cX6_joined 2 = .ok (.iload_n 0, 1) := by decide +kernel
theorem dX6_joined_3 : decode cX6_joined 3 = .ok (.isub, 1) := by decide +kernel
theorem dX6_joined_4 : decode cX6_joined 4 = .ok (.iload_n 2, 1) := by decide +kernel
theorem dX6_joined_5 : decode cX6_joined 5 = .ok (.imul, 1) := by decide +kernel
theorem dX6_joined_6 : decode cX6_joined 6 = .ok (.iconst 2, 1) := by decide +kernel
theorem dX6_joined_7 : decode cX6_joined 7 = .ok (.iload_n 3, 1) := by decide +kernel
theorem dX6_joined_8 : decode cX6_joined 8 = .ok (.imul, 1) := by decide +kernel
theorem dX6_joined_9 : decode cX6_joined 9 = .ok (.iadd, 1) := by decide +kernel
theorem dX6_joined_10 : decode cX6_joined 10 = .ok (.iconst 4, 1) := by decide +kernel
theorem dX6_joined_11 : decode cX6_joined 11 = .ok (.iload_n 3, 1) := by decide +kernel
theorem dX6_joined_12 : decode cX6_joined 12 = .ok (.imul, 1) := by decide +kernel
theorem dX6_joined_13 : decode cX6_joined 13 = .ok (.invokestatic 118, 3) := by decide +kernel
theorem dX6_joined_16 : decode cX6_joined 16 = .ok (.iadd, 1) := by decide +kernel
theorem dX6_joined_17 : decode cX6_joined 17 = .ok (.ireturn, 1) := by decide +kernel
set_option maxRecDepth 20000 in
theorem ggX6_bend_X6_size : GoodIn wsX6_bend wsX6_size := goodIn_r _ [4] (by decide +kernel) (by decide +kernel)
set_option maxRecDepth 20000 in
theorem gX6_bend_X6_size : GoodIn wsX6_bend (va_wsS RX6 144 yX6_size wsX6_size) := goodIn_app (goodIn_of _ (by decide +kernel)) ggX6_bend_X6_size
theorem dX6_bend_0 : decode cX6_bend 0 = .ok (.iload_n 0, 1) := by decide +kernel
theorem dX6_bend_1 : decode cX6_bend 1 = .ok (.iload_n 1, 1) := by decide +kernel
theorem dX6_bend_2 : decode cX6_bend 2 = .ok (.isub, 1) := by decide +kernel
theorem dX6_bend_3 : decode cX6_bend 3 = .ok (.invokestatic 144, 3) := by decide +kernel
theorem dX6_bend_6 : decode cX6_bend 6 = .ok (.sipush 1000, 3) := by decide +kernel
theorem dX6_bend_9 : decode cX6_bend 9 = .ok (.imul, 1) := by decide +kernel
theorem dX6_bend_10 : decode cX6_bend 10 = .ok (.iload_n 1, 1) := by decide +kernel
theorem dX6_bend_11 : decode cX6_bend 11 = .ok (.idiv, 1) := by decide +kernel
theorem dX6_bend_12 : decode cX6_bend 12 = .ok (.istore_n 3, 1) := by decide +kernel
theorem dX6_bend_13 : decode cX6_bend 13 = .ok (.iload_n 0, 1) := by decide +kernel
theorem dX6_bend_14 : decode cX6_bend 14 = .ok (.iload_n 2, 1) := by decide +kernel
theorem dX6_bend_15 : decode cX6_bend 15 = .ok (.isub, 1) := by decide +kernel
theorem dX6_bend_16 : decode cX6_bend 16 = .ok (.invokestatic 144, 3) := by decide +kernel
theorem dX6_bend_19 : decode cX6_bend 19 = .ok (.sipush 1000, 3) := by decide +kernel
theorem dX6_bend_22 : decode cX6_bend 22 = .ok (.imul, 1) := by decide +kernel
theorem dX6_bend_23 : decode cX6_bend 23 = .ok (.iload_n 2, 1) := by decide +kernel
theorem dX6_bend_24 : decode cX6_bend 24 = .ok (.idiv, 1) := by decide +kernel
theorem dX6_bend_25 : decode cX6_bend 25 = .ok (.istore 4, 2) := by decide +kernel
theorem dX6_bend_27 : decode cX6_bend 27 = .ok (.iload_n 3, 1) := by decide +kernel
theorem dX6_bend_28 : decode cX6_bend 28 = .ok (.iload 4, 2) := by decide +kernel
theorem dX6_bend_30 : decode cX6_bend 30 = .ok (.if_icmp .le 7, 3) := by decide +kernel
theorem dX6_bend_33 : decode cX6_bend 33 = .ok (.iload_n 3, 1) := by decide +kernel
theorem dX6_bend_34 : decode cX6_bend 34 = .ok (.goto 5, 3) := by decide +kernel
theorem dX6_bend_37 : decode cX6_bend 37 = .ok (.iload 4, 2) := by decide +kernel
theorem dX6_bend_39 : decode cX6_bend 39 = .ok (.ireturn, 1) := by decide +kernel
theorem dX6_isWhole_0 : decode cX6_isWhole 0 = .ok (.iload_n 2, 1) := by decide +kernel
theorem dX6_isWhole_1 : decode cX6_isWhole 1 = .ok (.iload_n 3, 1) := by decide +kernel
theorem dX6_isWhole_2 : decode cX6_isWhole 2 = .ok (.iadd, 1) := by decide +kernel
theorem dX6_isWhole_3 : decode cX6_isWhole 3 = .ok (.iload_n 1, 1) := by decide +kernel
theorem dX6_isWhole_4 : decode cX6_isWhole 4 = .ok (.if_icmp .le 5, 3) := by decide +kernel
theorem dX6_isWhole_7 : decode cX6_isWhole 7 = .ok (.iconst 0, 1) := by decide +kernel
theorem dX6_isWhole_8 : decode cX6_isWhole 8 = .ok (.ireturn, 1) := by decide +kernel
theorem dX6_isWhole_9 : decode cX6_isWhole 9 = .ok (.iconst 0, 1) := by decide +kernel
theorem dX6_isWhole_10 : decode cX6_isWhole 10 = .ok (.istore 4, 2) := by decide +kernel
theorem dX6_isWhole_12 : decode cX6_isWhole 12 = .ok (.iload 4, 2) := by decide +kernel
theorem dX6_isWhole_14 : decode cX6_isWhole 14 = .ok (.iload_n 3, 1) := by decide +kernel
theorem dX6_isWhole_15 : decode cX6_isWhole 15 = .ok (.if_icmp .ge 20, 3) := by decide +kernel
theorem dX6_isWhole_18 : decode cX6_isWhole 18 = .ok (.aload_n 0, 1) := by decide +kernel
theorem dX6_isWhole_19 : decode cX6_isWhole 19 = .ok (.iload_n 2, 1) := by decide +kernel
theorem dX6_isWhole_20 : decode cX6_isWhole 20 = .ok (.iload 4, 2) := by decide +kernel
theorem dX6_isWhole_22 : decode cX6_isWhole 22 = .ok (.iadd, 1) := by decide +kernel
theorem dX6_isWhole_23 : decode cX6_isWhole 23 = .ok (.baload, 1) := by decide +kernel
theorem dX6_isWhole_24 : decode cX6_isWhole 24 = .ok (.ifCond .eq 5, 3) := by decide +kernel
theorem dX6_isWhole_27 : decode cX6_isWhole 27 = .ok (.iconst 0, 1) := by decide +kernel
theorem dX6_isWhole_28 : decode cX6_isWhole 28 = .ok (.ireturn, 1) := by decide +kernel
theorem dX6_isWhole_29 : decode cX6_isWhole 29 = .ok (.iinc 4 1, 3) := by decide +kernel
theorem dX6_isWhole_32 : decode cX6_isWhole 32 = .ok (.goto (-20), 3) := by decide +kernel
theorem dX6_isWhole_35 : decode cX6_isWhole 35 = .ok (.iconst 1, 1) := by decide +kernel
theorem dX6_isWhole_36 : decode cX6_isWhole 36 = .ok (.ireturn, 1) := by decide +kernel
set_option maxRecDepth 20000 in
theorem ggX6_beatsCost_X6_joined : GoodIn wsX6_beatsCost wsX6_joined := goodIn_r _ [8, 9, 10, 7, 11] (by decide +kernel) (by decide +kernel)
set_option maxRecDepth 20000 in
theorem gX6_beatsCost_X6_joined : GoodIn wsX6_beatsCost (va_wsS RX6 157 yX6_joined wsX6_joined) := goodIn_app (goodIn_of _ (by decide +kernel)) ggX6_beatsCost_X6_joined
set_option maxRecDepth 20000 in
theorem ggX6_beatsCost_X6_bend : GoodIn wsX6_beatsCost wsX6_bend := goodIn_r _ [14, 15, 16, 7, 17] (by decide +kernel) (by decide +kernel)
set_option maxRecDepth 20000 in
theorem gX6_beatsCost_X6_bend : GoodIn wsX6_beatsCost (va_wsS RX6 161 yX6_bend wsX6_bend) := goodIn_app (goodIn_of _ (by decide +kernel)) ggX6_beatsCost_X6_bend
set_option maxRecDepth 20000 in
theorem ggX6_beatsCost_X6_size : GoodIn wsX6_beatsCost wsX6_size := goodIn_r _ [17] (by decide +kernel) (by decide +kernel)
set_option maxRecDepth 20000 in
theorem gX6_beatsCost_X6_size : GoodIn wsX6_beatsCost (va_wsS RX6 144 yX6_size wsX6_size) := goodIn_app (goodIn_of _ (by decide +kernel)) ggX6_beatsCost_X6_size
theorem dX6_beatsCost_0 : decode cX6_beatsCost 0 = .ok (.iconst 0, 1) := by decide +kernel
theorem dX6_beatsCost_1 : decode cX6_beatsCost 1 = .ok (.istore 4, 2) := by decide +kernel
theorem dX6_beatsCost_3 : decode cX6_beatsCost 3 = .ok (.iconst 0, 1) := by decide +kernel
theorem dX6_beatsCost_4 : decode cX6_beatsCost 4 = .ok (.istore 5, 2) := by decide +kernel
theorem dX6_beatsCost_6 : decode cX6_beatsCost 6 = .ok (.iload 5, 2) := by decide +kernel
theorem dX6_beatsCost_8 : decode cX6_beatsCost 8 = .ok (.iconst 4, 1) := by decide +kernel
theorem dX6_beatsCost_9 : decode cX6_beatsCost 9 = .ok (.iload_n 3, 1) := by decide +kernel
theorem dX6_beatsCost_10 : decode cX6_beatsCost 10 = .ok (.imul, 1) := by decide +kernel
theorem dX6_beatsCost_11 : decode cX6_beatsCost 11 = .ok (.if_icmp .ge 88, 3) := by decide +kernel
theorem dX6_beatsCost_14 : decode cX6_beatsCost 14 = .ok (.aload_n 0, 1) := by decide +kernel
theorem dX6_beatsCost_15 : decode cX6_beatsCost 15 = .ok (.getfield 69, 3) := by decide +kernel
theorem dX6_beatsCost_18 : decode cX6_beatsCost 18 = .ok (.iconst 4, 1) := by decide +kernel
theorem dX6_beatsCost_19 : decode cX6_beatsCost 19 = .ok (.iload_n 1, 1) := by decide +kernel
theorem dX6_beatsCost_20 : decode cX6_beatsCost 20 = .ok (.imul, 1) := by decide +kernel
theorem dX6_beatsCost_21 : decode cX6_beatsCost 21 = .ok (.iload 5, 2) := by decide +kernel
theorem dX6_beatsCost_23 : decode cX6_beatsCost 23 = .ok (.iadd, 1) := by decide +kernel
theorem dX6_beatsCost_24 : decode cX6_beatsCost 24 = .ok (.iaload, 1) := by decide +kernel
theorem dX6_beatsCost_25 : decode cX6_beatsCost 25 = .ok (.istore 6, 2) := by decide +kernel
theorem dX6_beatsCost_27 : decode cX6_beatsCost 27 = .ok (.aload_n 0, 1) := by decide +kernel
theorem dX6_beatsCost_28 : decode cX6_beatsCost 28 = .ok (.getfield 72, 3) := by decide +kernel
theorem dX6_beatsCost_31 : decode cX6_beatsCost 31 = .ok (.iconst 4, 1) := by decide +kernel
theorem dX6_beatsCost_32 : decode cX6_beatsCost 32 = .ok (.iload_n 2, 1) := by decide +kernel
theorem dX6_beatsCost_33 : decode cX6_beatsCost 33 = .ok (.imul, 1) := by decide +kernel
theorem dX6_beatsCost_34 : decode cX6_beatsCost 34 = .ok (.iload 5, 2) := by decide +kernel
theorem dX6_beatsCost_36 : decode cX6_beatsCost 36 = .ok (.iadd, 1) := by decide +kernel
theorem dX6_beatsCost_37 : decode cX6_beatsCost 37 = .ok (.iaload, 1) := by decide +kernel
theorem dX6_beatsCost_38 : decode cX6_beatsCost 38 = .ok (.istore 7, 2) := by decide +kernel
theorem dX6_beatsCost_40 : decode cX6_beatsCost 40 = .ok (.iload 6, 2) := by decide +kernel
theorem dX6_beatsCost_42 : decode cX6_beatsCost 42 = .ok (.iload 7, 2) := by decide +kernel
theorem dX6_beatsCost_44 : decode cX6_beatsCost 44 = .ok (.iload 5, 2) := by decide +kernel
theorem dX6_beatsCost_46 : decode cX6_beatsCost 46 = .ok (.iload_n 3, 1) := by decide +kernel
theorem dX6_beatsCost_47 : decode cX6_beatsCost 47 = .ok (.invokestatic 157, 3) := by decide +kernel
theorem dX6_beatsCost_50 : decode cX6_beatsCost 50 = .ok (.istore 8, 2) := by decide +kernel
theorem dX6_beatsCost_52 : decode cX6_beatsCost 52 = .ok (.iload 8, 2) := by decide +kernel
theorem dX6_beatsCost_54 : decode cX6_beatsCost 54 = .ok (.iload 6, 2) := by decide +kernel
theorem dX6_beatsCost_56 : decode cX6_beatsCost 56 = .ok (.iload 7, 2) := by decide +kernel
theorem dX6_beatsCost_58 : decode cX6_beatsCost 58 = .ok (.invokestatic 161, 3) := by decide +kernel
theorem dX6_beatsCost_61 : decode cX6_beatsCost 61 = .ok (.aload_n 0, 1) := by decide +kernel
theorem dX6_beatsCost_62 : decode cX6_beatsCost 62 = .ok (.getfield 59, 3) := by decide +kernel
theorem dX6_beatsCost_65 : decode cX6_beatsCost 65 = .ok (.if_icmp .le 6, 3) := by decide +kernel
theorem dX6_beatsCost_68 : decode cX6_beatsCost 68 = .ok (.ldc 164, 2) := by decide +kernel
theorem dX6_beatsCost_70 : decode cX6_beatsCost 70 = .ok (.ireturn, 1) := by decide +kernel
theorem dX6_beatsCost_71 : decode cX6_beatsCost 71 = .ok (.iload 4, 2) := by decide +kernel
theorem dX6_beatsCost_73 : decode cX6_beatsCost 73 = .ok (.iload 8, 2) := by decide +kernel
theorem dX6_beatsCost_75 : decode cX6_beatsCost 75 = .ok (.iload 6, 2) := by decide +kernel
theorem dX6_beatsCost_77 : decode cX6_beatsCost 77 = .ok (.isub, 1) := by decide +kernel
theorem dX6_beatsCost_78 : decode cX6_beatsCost 78 = .ok (.invokestatic 144, 3) := by decide +kernel
theorem dX6_beatsCost_81 : decode cX6_beatsCost 81 = .ok (.iload 8, 2) := by decide +kernel
theorem dX6_beatsCost_83 : decode cX6_beatsCost 83 = .ok (.iload 7, 2) := by decide +kernel
theorem dX6_beatsCost_85 : decode cX6_beatsCost 85 = .ok (.isub, 1) := by decide +kernel
theorem dX6_beatsCost_86 : decode cX6_beatsCost 86 = .ok (.invokestatic 144, 3) := by decide +kernel
theorem dX6_beatsCost_89 : decode cX6_beatsCost 89 = .ok (.iadd, 1) := by decide +kernel
theorem dX6_beatsCost_90 : decode cX6_beatsCost 90 = .ok (.iadd, 1) := by decide +kernel
theorem dX6_beatsCost_91 : decode cX6_beatsCost 91 = .ok (.istore 4, 2) := by decide +kernel
theorem dX6_beatsCost_93 : decode cX6_beatsCost 93 = .ok (.iinc 5 1, 3) := by decide +kernel
theorem dX6_beatsCost_96 : decode cX6_beatsCost 96 = .ok (.goto (-90), 3) := by decide +kernel
theorem dX6_beatsCost_99 : decode cX6_beatsCost 99 = .ok (.iload 4, 2) := by decide +kernel
theorem dX6_beatsCost_101 : decode cX6_beatsCost 101 = .ok (.ireturn, 1) := by decide +kernel
set_option maxRecDepth 20000 in
theorem ggX6_loads_X6_plays : GoodIn wsX6_loads wsX6_plays := goodIn_r _ [11, 12, 13, 14, 15, 16, 10, 17, 18, 19, 20, 21, 22, 23, 24, 25, 26, 27, 28, 29, 30, 31, 32, 33, 34, 35, 36, 37, 38, 39, 40, 41, 42, 43, 44, 45, 46, 47, 48, 49, 50, 51, 52, 53, 54, 55, 56, 57, 58, 59, 60, 61, 62, 63, 64, 65, 66, 67, 68, 69, 70, 71, 72, 73, 74, 75] (by decide +kernel) (by decide +kernel)
set_option maxRecDepth 20000 in
theorem gX6_loads_X6_plays : GoodIn wsX6_loads (wsV RX6 165 RX6 yX6_plays wsX6_plays) := goodIn_app (goodIn_of _ (by decide +kernel)) ggX6_loads_X6_plays
theorem dX6_loads_0 : decode cX6_loads 0 = .ok (.aload_n 0, 1) := by decide +kernel
theorem dX6_loads_1 : decode cX6_loads 1 = .ok (.iload_n 1, 1) := by decide +kernel
theorem dX6_loads_2 : decode cX6_loads 2 = .ok (.aload_n 0, 1) := by decide +kernel
theorem dX6_loads_3 : decode cX6_loads 3 = .ok (.getfield 69, 3) := by decide +kernel
theorem dX6_loads_6 : decode cX6_loads 6 = .ok (.aload_n 0, 1) := by decide +kernel
theorem dX6_loads_7 : decode cX6_loads 7 = .ok (.getfield 75, 3) := by decide +kernel
theorem dX6_loads_10 : decode cX6_loads 10 = .ok (.aload_n 0, 1) := by decide +kernel
theorem dX6_loads_11 : decode cX6_loads 11 = .ok (.getfield 81, 3) := by decide +kernel
theorem dX6_loads_14 : decode cX6_loads 14 = .ok (.invokevirtual 165, 3) := by decide +kernel
theorem dX6_loads_17 : decode cX6_loads 17 = .ok (.aload_n 0, 1) := by decide +kernel
theorem dX6_loads_18 : decode cX6_loads 18 = .ok (.iload_n 2, 1) := by decide +kernel
theorem dX6_loads_19 : decode cX6_loads 19 = .ok (.aload_n 0, 1) := by decide +kernel
theorem dX6_loads_20 : decode cX6_loads 20 = .ok (.getfield 72, 3) := by decide +kernel
theorem dX6_loads_23 : decode cX6_loads 23 = .ok (.aload_n 0, 1) := by decide +kernel
theorem dX6_loads_24 : decode cX6_loads 24 = .ok (.getfield 78, 3) := by decide +kernel
theorem dX6_loads_27 : decode cX6_loads 27 = .ok (.aload_n 0, 1) := by decide +kernel
theorem dX6_loads_28 : decode cX6_loads 28 = .ok (.getfield 84, 3) := by decide +kernel
theorem dX6_loads_31 : decode cX6_loads 31 = .ok (.invokevirtual 165, 3) := by decide +kernel
theorem dX6_loads_34 : decode cX6_loads 34 = .ok (.return_, 1) := by decide +kernel
set_option maxRecDepth 20000 in
theorem ggX6_join_X6_isSong : GoodIn wsX6_join wsX6_isSong := goodIn_r _ [15, 16, 82, 83, 84, 85, 86, 87, 88, 89, 90, 91, 92, 93, 94, 95, 96, 97, 98, 99, 100, 101, 102, 103, 104, 105, 106, 107, 108, 109, 110, 111, 112, 113, 114, 115, 116, 117] (by decide +kernel) (by decide +kernel)
set_option maxRecDepth 20000 in
theorem gX6_join_X6_isSong : GoodIn wsX6_join (wsV RX6 107 RX6 yX6_isSong wsX6_isSong) := goodIn_app (goodIn_of _ (by decide +kernel)) ggX6_join_X6_isSong
set_option maxRecDepth 20000 in
theorem ggX6_join_X6_playedBars : GoodIn wsX6_join wsX6_playedBars := goodIn_r _ [20, 21, 22, 23, 24, 82, 83, 84, 85, 86, 87, 88, 89, 90, 91, 92, 93, 94, 95, 96, 97, 98, 99, 100, 101, 102, 103, 104, 105, 106, 107, 108, 109, 110, 111, 112, 113, 114, 115, 116, 117] (by decide +kernel) (by decide +kernel)
set_option maxRecDepth 20000 in
theorem gX6_join_X6_playedBars : GoodIn wsX6_join (wsV RX6 111 RX6 yX6_playedBars wsX6_playedBars) := goodIn_app (goodIn_of _ (by decide +kernel)) ggX6_join_X6_playedBars
set_option maxRecDepth 20000 in
theorem ggX6_join_X6_loads : GoodIn wsX6_join wsX6_loads := goodIn_r _ [28, 7, 1, 3, 8, 2, 4, 29, 30, 31, 14, 32, 33, 34, 17, 18, 19, 20, 21, 22, 23, 24, 35, 36, 37, 38, 39, 40, 41, 42, 43, 44, 45, 46, 47, 48, 49, 50, 51, 52, 82, 83, 84, 85, 86, 87, 88, 89, 90, 91, 92, 93, 94, 95, 96, 97, 98, 99, 100, 101, 102, 103, 104, 105, 106, 107, 108, 109, 110, 111, 112, 113, 114, 115, 116, 117] (by decide +kernel) (by decide +kernel)
set_option maxRecDepth 20000 in
theorem gX6_join_X6_loads : GoodIn wsX6_join (wsV RX6 169 RX6 yX6_loads wsX6_loads) := goodIn_app (goodIn_of _ (by decide +kernel)) ggX6_join_X6_loads
set_option maxRecDepth 20000 in
theorem ggX6_join_X6_isWhole : GoodIn wsX6_join wsX6_isWhole := goodIn_r _ [55] (by decide +kernel) (by decide +kernel)
set_option maxRecDepth 20000 in
theorem gX6_join_X6_isWhole : GoodIn wsX6_join (va_wsS RX6 173 yX6_isWhole wsX6_isWhole) := goodIn_app (goodIn_of _ (by decide +kernel)) ggX6_join_X6_isWhole
set_option maxRecDepth 20000 in
theorem ggX6_join_X6_beatsCost : GoodIn wsX6_join wsX6_beatsCost := goodIn_r _ [59, 7, 8, 60, 5, 61, 62, 14, 63, 50, 51, 52, 64, 65, 66, 67, 68, 69, 82, 83, 84, 85, 86, 87, 88, 89, 90, 91, 92, 93, 94, 95, 96, 97, 98, 99, 100, 101, 102, 103, 104, 105, 106, 107, 108, 109, 110, 111, 112, 113, 114, 115, 116, 117] (by decide +kernel) (by decide +kernel)
set_option maxRecDepth 20000 in
theorem gX6_join_X6_beatsCost : GoodIn wsX6_join (wsV RX6 177 RX6 yX6_beatsCost wsX6_beatsCost) := goodIn_app (goodIn_of _ (by decide +kernel)) ggX6_join_X6_beatsCost
set_option maxRecDepth 20000 in
theorem ggX6_join_X6_joined : GoodIn wsX6_join wsX6_joined := goodIn_r _ [63, 50, 51, 14, 52] (by decide +kernel) (by decide +kernel)
set_option maxRecDepth 20000 in
theorem gX6_join_X6_joined : GoodIn wsX6_join (va_wsS RX6 157 yX6_joined wsX6_joined) := goodIn_app (goodIn_of _ (by decide +kernel)) ggX6_join_X6_joined
set_option maxRecDepth 20000 in
theorem ggX6_join_X6_bend : GoodIn wsX6_join wsX6_bend := goodIn_r _ [66, 67, 68, 14, 69] (by decide +kernel) (by decide +kernel)
set_option maxRecDepth 20000 in
theorem gX6_join_X6_bend : GoodIn wsX6_join (va_wsS RX6 161 yX6_bend wsX6_bend) := goodIn_app (goodIn_of _ (by decide +kernel)) ggX6_join_X6_bend
set_option maxRecDepth 20000 in
theorem ggX6_join_X6_always : GoodIn wsX6_join wsX6_always := goodIn_r _ [73, 74, 75, 76, 77, 78, 79, 14, 80, 81, 67, 68, 69, 82, 83, 84, 85, 86, 87, 88, 89, 90, 91, 92, 93, 94, 95, 96, 97, 98, 99, 100, 101, 102, 103, 104, 105, 106, 107, 108, 109, 110, 111, 112, 113, 114, 115, 116, 117] (by decide +kernel) (by decide +kernel)
set_option maxRecDepth 20000 in
theorem gX6_join_X6_always : GoodIn wsX6_join (wsV RX6 183 RX6 yX6_always wsX6_always) := goodIn_app (goodIn_of _ (by decide +kernel)) ggX6_join_X6_always
theorem dX6_join_0 : decode cX6_join 0 = .ok (.aload_n 0, 1) := by decide +kernel
theorem dX6_join_1 : decode cX6_join 1 = .ok (.iload_n 1, 1) := by decide +kernel
theorem dX6_join_2 : decode cX6_join 2 = .ok (.invokevirtual 107, 3) := by decide +kernel
theorem dX6_join_5 : decode cX6_join 5 = .ok (.ifCond .eq 57, 3) := by decide +kernel
theorem dX6_join_8 : decode cX6_join 8 = .ok (.aload_n 0, 1) := by decide +kernel
theorem dX6_join_9 : decode cX6_join 9 = .ok (.iload_n 2, 1) := by decide +kernel
theorem dX6_join_10 : decode cX6_join 10 = .ok (.invokevirtual 107, 3) := by decide +kernel
theorem dX6_join_13 : decode cX6_join 13 = .ok (.ifCond .eq 49, 3) := by decide +kernel
theorem dX6_join_16 : decode cX6_join 16 = .ok (.iload_n 1, 1) := by decide +kernel
theorem dX6_join_17 : decode cX6_join 17 = .ok (.iload_n 2, 1) := by decide +kernel
theorem dX6_join_18 : decode cX6_join 18 = .ok (.if_icmp .eq 44, 3) := by decide +kernel
theorem dX6_join_21 : decode cX6_join 21 = .ok (.iload_n 3, 1) := by decide +kernel
theorem dX6_join_22 : decode cX6_join 22 = .ok (.iconst 1, 1) := by decide +kernel
theorem dX6_join_23 : decode cX6_join 23 = .ok (.if_icmp .lt 39, 3) := by decide +kernel
theorem dX6_join_26 : decode cX6_join 26 = .ok (.iload_n 3, 1) := by decide +kernel
theorem dX6_join_27 : decode cX6_join 27 = .ok (.bipush 8, 2) := by decide +kernel
theorem dX6_join_29 : decode cX6_join 29 = .ok (.if_icmp .gt 33, 3) := by decide +kernel
theorem dX6_join_32 : decode cX6_join 32 = .ok (.iload 4, 2) := by decide +kernel
theorem dX6_join_34 : decode cX6_join 34 = .ok (.ifCond .lt 28, 3) := by decide +kernel
theorem dX6_join_37 : decode cX6_join 37 = .ok (.iload 4, 2) := by decide +kernel
theorem dX6_join_39 : decode cX6_join 39 = .ok (.aload_n 0, 1) := by decide +kernel
theorem dX6_join_40 : decode cX6_join 40 = .ok (.iload_n 1, 1) := by decide +kernel
theorem dX6_join_41 : decode cX6_join 41 = .ok (.invokevirtual 111, 3) := by decide +kernel
theorem dX6_join_44 : decode cX6_join 44 = .ok (.if_icmp .ge 18, 3) := by decide +kernel
theorem dX6_join_47 : decode cX6_join 47 = .ok (.iload 5, 2) := by decide +kernel
theorem dX6_join_49 : decode cX6_join 49 = .ok (.ifCond .lt 13, 3) := by decide +kernel
theorem dX6_join_52 : decode cX6_join 52 = .ok (.iload 5, 2) := by decide +kernel
theorem dX6_join_54 : decode cX6_join 54 = .ok (.aload_n 0, 1) := by decide +kernel
theorem dX6_join_55 : decode cX6_join 55 = .ok (.iload_n 2, 1) := by decide +kernel
theorem dX6_join_56 : decode cX6_join 56 = .ok (.invokevirtual 111, 3) := by decide +kernel
theorem dX6_join_59 : decode cX6_join 59 = .ok (.if_icmp .lt 5, 3) := by decide +kernel
theorem dX6_join_62 : decode cX6_join 62 = .ok (.iconst (-1), 1) := by decide +kernel
theorem dX6_join_63 : decode cX6_join 63 = .ok (.ireturn, 1) := by decide +kernel
theorem dX6_join_64 : decode cX6_join 64 = .ok (.aload_n 0, 1) := by decide +kernel
theorem dX6_join_65 : decode cX6_join 65 = .ok (.iload_n 1, 1) := by decide +kernel
theorem dX6_join_66 : decode cX6_join 66 = .ok (.iload_n 2, 1) := by decide +kernel
theorem dX6_join_67 : decode cX6_join 67 = .ok (.invokevirtual 169, 3) := by decide +kernel
theorem dX6_join_70 : decode cX6_join 70 = .ok (.aload_n 0, 1) := by decide +kernel
theorem dX6_join_71 : decode cX6_join 71 = .ok (.getfield 75, 3) := by decide +kernel
theorem dX6_join_74 : decode cX6_join 74 = .ok (.aload_n 0, 1) := by decide +kernel
theorem dX6_join_75 : decode cX6_join 75 = .ok (.iload_n 1, 1) := by decide +kernel
theorem dX6_join_76 : decode cX6_join 76 = .ok (.invokevirtual 111, 3) := by decide +kernel
theorem dX6_join_79 : decode cX6_join 79 = .ok (.iload 4, 2) := by decide +kernel
theorem dX6_join_81 : decode cX6_join 81 = .ok (.iload_n 3, 1) := by decide +kernel
theorem dX6_join_82 : decode cX6_join 82 = .ok (.invokestatic 173, 3) := by decide +kernel
theorem dX6_join_85 : decode cX6_join 85 = .ok (.ifCond .eq 21, 3) := by decide +kernel
theorem dX6_join_88 : decode cX6_join 88 = .ok (.aload_n 0, 1) := by decide +kernel
theorem dX6_join_89 : decode cX6_join 89 = .ok (.getfield 78, 3) := by decide +kernel
theorem dX6_join_92 : decode cX6_join 92 = .ok (.aload_n 0, 1) := by decide +kernel
theorem dX6_join_93 : decode cX6_join 93 = .ok (.iload_n 2, 1) := by decide +kernel
theorem dX6_join_94 : decode cX6_join 94 = .ok (.invokevirtual 111, 3) := by decide +kernel
theorem dX6_join_97 : decode cX6_join 97 = .ok (.iload 5, 2) := by decide +kernel
theorem dX6_join_99 : decode cX6_join 99 = .ok (.iload_n 3, 1) := by decide +kernel
theorem dX6_join_100 : decode cX6_join 100 = .ok (.invokestatic 173, 3) := by decide +kernel
theorem dX6_join_103 : decode cX6_join 103 = .ok (.ifCond .ne 6, 3) := by decide +kernel
theorem dX6_join_106 : decode cX6_join 106 = .ok (.bipush (-2), 2) := by decide +kernel
theorem dX6_join_108 : decode cX6_join 108 = .ok (.ireturn, 1) := by decide +kernel
theorem dX6_join_109 : decode cX6_join 109 = .ok (.iload 6, 2) := by decide +kernel
theorem dX6_join_111 : decode cX6_join 111 = .ok (.ifCond .eq 26, 3) := by decide +kernel
theorem dX6_join_114 : decode cX6_join 114 = .ok (.aload_n 0, 1) := by decide +kernel
theorem dX6_join_115 : decode cX6_join 115 = .ok (.getfield 81, 3) := by decide +kernel
theorem dX6_join_118 : decode cX6_join 118 = .ok (.iload 4, 2) := by decide +kernel
theorem dX6_join_120 : decode cX6_join 120 = .ok (.baload, 1) := by decide +kernel
theorem dX6_join_121 : decode cX6_join 121 = .ok (.ifCond .eq 13, 3) := by decide +kernel
theorem dX6_join_124 : decode cX6_join 124 = .ok (.aload_n 0, 1) := by decide +kernel
theorem dX6_join_125 : decode cX6_join 125 = .ok (.getfield 84, 3) := by decide +kernel
theorem dX6_join_128 : decode cX6_join 128 = .ok (.iload 5, 2) := by decide +kernel
theorem dX6_join_130 : decode cX6_join 130 = .ok (.baload, 1) := by decide +kernel
theorem dX6_join_131 : decode cX6_join 131 = .ok (.ifCond .ne 6, 3) := by decide +kernel
theorem dX6_join_134 : decode cX6_join 134 = .ok (.bipush (-3), 2) := by decide +kernel
theorem dX6_join_136 : decode cX6_join 136 = .ok (.ireturn, 1) := by decide +kernel
theorem dX6_join_137 : decode cX6_join 137 = .ok (.aload_n 0, 1) := by decide +kernel
theorem dX6_join_138 : decode cX6_join 138 = .ok (.iload 4, 2) := by decide +kernel
theorem dX6_join_140 : decode cX6_join 140 = .ok (.iload 5, 2) := by decide +kernel
theorem dX6_join_142 : decode cX6_join 142 = .ok (.iload_n 3, 1) := by decide +kernel
theorem dX6_join_143 : decode cX6_join 143 = .ok (.invokevirtual 177, 3) := by decide +kernel
theorem dX6_join_146 : decode cX6_join 146 = .ok (.istore 7, 2) := by decide +kernel
theorem dX6_join_148 : decode cX6_join 148 = .ok (.iload 7, 2) := by decide +kernel
theorem dX6_join_150 : decode cX6_join 150 = .ok (.ldc 164, 2) := by decide +kernel
theorem dX6_join_152 : decode cX6_join 152 = .ok (.if_icmp .ne 6, 3) := by decide +kernel
theorem dX6_join_155 : decode cX6_join 155 = .ok (.bipush (-4), 2) := by decide +kernel
theorem dX6_join_157 : decode cX6_join 157 = .ok (.ireturn, 1) := by decide +kernel
theorem dX6_join_158 : decode cX6_join 158 = .ok (.aload_n 0, 1) := by decide +kernel
theorem dX6_join_159 : decode cX6_join 159 = .ok (.iconst 4, 1) := by decide +kernel
theorem dX6_join_160 : decode cX6_join 160 = .ok (.iload_n 3, 1) := by decide +kernel
theorem dX6_join_161 : decode cX6_join 161 = .ok (.imul, 1) := by decide +kernel
theorem dX6_join_162 : decode cX6_join 162 = .ok (.putfield 180, 3) := by decide +kernel
theorem dX6_join_165 : decode cX6_join 165 = .ok (.iconst 0, 1) := by decide +kernel
theorem dX6_join_166 : decode cX6_join 166 = .ok (.istore 8, 2) := by decide +kernel
theorem dX6_join_168 : decode cX6_join 168 = .ok (.iload 8, 2) := by decide +kernel
theorem dX6_join_170 : decode cX6_join 170 = .ok (.aload_n 0, 1) := by decide +kernel
theorem dX6_join_171 : decode cX6_join 171 = .ok (.getfield 180, 3) := by decide +kernel
theorem dX6_join_174 : decode cX6_join 174 = .ok (.if_icmp .ge 75, 3) := by decide +kernel
theorem dX6_join_177 : decode cX6_join 177 = .ok (.aload_n 0, 1) := by decide +kernel
theorem dX6_join_178 : decode cX6_join 178 = .ok (.getfield 69, 3) := by decide +kernel
theorem dX6_join_181 : decode cX6_join 181 = .ok (.iconst 4, 1) := by decide +kernel
theorem dX6_join_182 : decode cX6_join 182 = .ok (.iload 4, 2) := by decide +kernel
theorem dX6_join_184 : decode cX6_join 184 = .ok (.imul, 1) := by decide +kernel
theorem dX6_join_185 : decode cX6_join 185 = .ok (.iload 8, 2) := by decide +kernel
theorem dX6_join_187 : decode cX6_join 187 = .ok (.iadd, 1) := by decide +kernel
theorem dX6_join_188 : decode cX6_join 188 = .ok (.iaload, 1) := by decide +kernel
theorem dX6_join_189 : decode cX6_join 189 = .ok (.istore 9, 2) := by decide +kernel
theorem dX6_join_191 : decode cX6_join 191 = .ok (.aload_n 0, 1) := by decide +kernel
theorem dX6_join_192 : decode cX6_join 192 = .ok (.getfield 72, 3) := by decide +kernel
theorem dX6_join_195 : decode cX6_join 195 = .ok (.iconst 4, 1) := by decide +kernel
theorem dX6_join_196 : decode cX6_join 196 = .ok (.iload 5, 2) := by decide +kernel
theorem dX6_join_198 : decode cX6_join 198 = .ok (.imul, 1) := by decide +kernel
theorem dX6_join_199 : decode cX6_join 199 = .ok (.iload 8, 2) := by decide +kernel
theorem dX6_join_201 : decode cX6_join 201 = .ok (.iadd, 1) := by decide +kernel
theorem dX6_join_202 : decode cX6_join 202 = .ok (.iaload, 1) := by decide +kernel
theorem dX6_join_203 : decode cX6_join 203 = .ok (.istore 10, 2) := by decide +kernel
theorem dX6_join_205 : decode cX6_join 205 = .ok (.aload_n 0, 1) := by decide +kernel
theorem dX6_join_206 : decode cX6_join 206 = .ok (.getfield 87, 3) := by decide +kernel
theorem dX6_join_209 : decode cX6_join 209 = .ok (.iload 8, 2) := by decide +kernel
theorem dX6_join_211 : decode cX6_join 211 = .ok (.iload 9, 2) := by decide +kernel
theorem dX6_join_213 : decode cX6_join 213 = .ok (.iload 10, 2) := by decide +kernel
theorem dX6_join_215 : decode cX6_join 215 = .ok (.iload 8, 2) := by decide +kernel
theorem dX6_join_217 : decode cX6_join 217 = .ok (.iload_n 3, 1) := by decide +kernel
theorem dX6_join_218 : decode cX6_join 218 = .ok (.invokestatic 157, 3) := by decide +kernel
theorem dX6_join_221 : decode cX6_join 221 = .ok (.iastore, 1) := by decide +kernel
theorem dX6_join_222 : decode cX6_join 222 = .ok (.aload_n 0, 1) := by decide +kernel
theorem dX6_join_223 : decode cX6_join 223 = .ok (.getfield 90, 3) := by decide +kernel
theorem dX6_join_226 : decode cX6_join 226 = .ok (.iload 8, 2) := by decide +kernel
theorem dX6_join_228 : decode cX6_join 228 = .ok (.aload_n 0, 1) := by decide +kernel
theorem dX6_join_229 : decode cX6_join 229 = .ok (.getfield 87, 3) := by decide +kernel
theorem dX6_join_232 : decode cX6_join 232 = .ok (.iload 8, 2) := by decide +kernel
theorem dX6_join_234 : decode cX6_join 234 = .ok (.iaload, 1) := by decide +kernel
theorem dX6_join_235 : decode cX6_join 235 = .ok (.iload 9, 2) := by decide +kernel
theorem dX6_join_237 : decode cX6_join 237 = .ok (.iload 10, 2) := by decide +kernel
theorem dX6_join_239 : decode cX6_join 239 = .ok (.invokestatic 161, 3) := by decide +kernel
theorem dX6_join_242 : decode cX6_join 242 = .ok (.iastore, 1) := by decide +kernel
theorem dX6_join_243 : decode cX6_join 243 = .ok (.iinc 8 1, 3) := by decide +kernel
theorem dX6_join_246 : decode cX6_join 246 = .ok (.goto (-78), 3) := by decide +kernel
theorem dX6_join_249 : decode cX6_join 249 = .ok (.iload 7, 2) := by decide +kernel
theorem dX6_join_251 : decode cX6_join 251 = .ok (.aload_n 0, 1) := by decide +kernel
theorem dX6_join_252 : decode cX6_join 252 = .ok (.iload_n 1, 1) := by decide +kernel
theorem dX6_join_253 : decode cX6_join 253 = .ok (.iload_n 2, 1) := by decide +kernel
theorem dX6_join_254 : decode cX6_join 254 = .ok (.invokevirtual 183, 3) := by decide +kernel
theorem dX6_join_257 : decode cX6_join 257 = .ok (.iadd, 1) := by decide +kernel
theorem dX6_join_258 : decode cX6_join 258 = .ok (.ireturn, 1) := by decide +kernel
theorem dX6_meets_0 : decode cX6_meets 0 = .ok (.iload_n 1, 1) := by decide +kernel
theorem dX6_meets_1 : decode cX6_meets 1 = .ok (.ifCond .lt 39, 3) := by decide +kernel
theorem dX6_meets_4 : decode cX6_meets 4 = .ok (.aload_n 0, 1) := by decide +kernel
theorem dX6_meets_5 : decode cX6_meets 5 = .ok (.getfield 180, 3) := by decide +kernel
theorem dX6_meets_8 : decode cX6_meets 8 = .ok (.ifCond .eq 32, 3) := by decide +kernel
theorem dX6_meets_11 : decode cX6_meets 11 = .ok (.iload_n 1, 1) := by decide +kernel
theorem dX6_meets_12 : decode cX6_meets 12 = .ok (.aload_n 0, 1) := by decide +kernel
theorem dX6_meets_13 : decode cX6_meets 13 = .ok (.getfield 180, 3) := by decide +kernel
theorem dX6_meets_16 : decode cX6_meets 16 = .ok (.if_icmp .gt 24, 3) := by decide +kernel
theorem dX6_meets_19 : decode cX6_meets 19 = .ok (.iload_n 1, 1) := by decide +kernel
theorem dX6_meets_20 : decode cX6_meets 20 = .ok (.aload_n 0, 1) := by decide +kernel
theorem dX6_meets_21 : decode cX6_meets 21 = .ok (.getfield 180, 3) := by decide +kernel
theorem dX6_meets_24 : decode cX6_meets 24 = .ok (.if_icmp .ne 7, 3) := by decide +kernel
theorem dX6_meets_27 : decode cX6_meets 27 = .ok (.iload_n 2, 1) := by decide +kernel
theorem dX6_meets_28 : decode cX6_meets 28 = .ok (.ifCond .ne 12, 3) := by decide +kernel
theorem dX6_meets_31 : decode cX6_meets 31 = .ok (.iload_n 2, 1) := by decide +kernel
theorem dX6_meets_32 : decode cX6_meets 32 = .ok (.ifCond .lt 8, 3) := by decide +kernel
theorem dX6_meets_35 : decode cX6_meets 35 = .ok (.iload_n 2, 1) := by decide +kernel
theorem dX6_meets_36 : decode cX6_meets 36 = .ok (.iconst 2, 1) := by decide +kernel
theorem dX6_meets_37 : decode cX6_meets 37 = .ok (.if_icmp .le 5, 3) := by decide +kernel
theorem dX6_meets_40 : decode cX6_meets 40 = .ok (.iconst (-1), 1) := by decide +kernel
theorem dX6_meets_41 : decode cX6_meets 41 = .ok (.ireturn, 1) := by decide +kernel
theorem dX6_meets_42 : decode cX6_meets 42 = .ok (.iload_n 2, 1) := by decide +kernel
theorem dX6_meets_43 : decode cX6_meets 43 = .ok (.iconst 1, 1) := by decide +kernel
theorem dX6_meets_44 : decode cX6_meets 44 = .ok (.if_icmp .ne 10, 3) := by decide +kernel
theorem dX6_meets_47 : decode cX6_meets 47 = .ok (.aload_n 0, 1) := by decide +kernel
theorem dX6_meets_48 : decode cX6_meets 48 = .ok (.getfield 87, 3) := by decide +kernel
theorem dX6_meets_51 : decode cX6_meets 51 = .ok (.iload_n 1, 1) := by decide +kernel
theorem dX6_meets_52 : decode cX6_meets 52 = .ok (.iaload, 1) := by decide +kernel
theorem dX6_meets_53 : decode cX6_meets 53 = .ok (.ireturn, 1) := by decide +kernel
theorem dX6_meets_54 : decode cX6_meets 54 = .ok (.iload_n 2, 1) := by decide +kernel
theorem dX6_meets_55 : decode cX6_meets 55 = .ok (.iconst 2, 1) := by decide +kernel
theorem dX6_meets_56 : decode cX6_meets 56 = .ok (.if_icmp .ne 10, 3) := by decide +kernel
theorem dX6_meets_59 : decode cX6_meets 59 = .ok (.aload_n 0, 1) := by decide +kernel
theorem dX6_meets_60 : decode cX6_meets 60 = .ok (.getfield 90, 3) := by decide +kernel
theorem dX6_meets_63 : decode cX6_meets 63 = .ok (.iload_n 1, 1) := by decide +kernel
theorem dX6_meets_64 : decode cX6_meets 64 = .ok (.iaload, 1) := by decide +kernel
theorem dX6_meets_65 : decode cX6_meets 65 = .ok (.ireturn, 1) := by decide +kernel
theorem dX6_meets_66 : decode cX6_meets 66 = .ok (.iconst 0, 1) := by decide +kernel
theorem dX6_meets_67 : decode cX6_meets 67 = .ok (.istore_n 3, 1) := by decide +kernel
theorem dX6_meets_68 : decode cX6_meets 68 = .ok (.iconst 0, 1) := by decide +kernel
theorem dX6_meets_69 : decode cX6_meets 69 = .ok (.istore 4, 2) := by decide +kernel
theorem dX6_meets_71 : decode cX6_meets 71 = .ok (.iload 4, 2) := by decide +kernel
theorem dX6_meets_73 : decode cX6_meets 73 = .ok (.iload_n 1, 1) := by decide +kernel
theorem dX6_meets_74 : decode cX6_meets 74 = .ok (.if_icmp .ge 19, 3) := by decide +kernel
theorem dX6_meets_77 : decode cX6_meets 77 = .ok (.iload_n 3, 1) := by decide +kernel
theorem dX6_meets_78 : decode cX6_meets 78 = .ok (.aload_n 0, 1) := by decide +kernel
theorem dX6_meets_79 : decode cX6_meets 79 = .ok (.getfield 87, 3) := by decide +kernel
theorem dX6_meets_82 : decode cX6_meets 82 = .ok (.iload 4, 2) := by decide +kernel
theorem dX6_meets_84 : decode cX6_meets 84 = .ok (.iaload, 1) := by decide +kernel
theorem dX6_meets_85 : decode cX6_meets 85 = .ok (.iadd, 1) := by decide +kernel
theorem dX6_meets_86 : decode cX6_meets 86 = .ok (.istore_n 3, 1) := by decide +kernel
theorem dX6_meets_87 : decode cX6_meets 87 = .ok (.iinc 4 1, 3) := by decide +kernel
theorem dX6_meets_90 : decode cX6_meets 90 = .ok (.goto (-19), 3) := by decide +kernel
theorem dX6_meets_93 : decode cX6_meets 93 = .ok (.iload_n 3, 1) := by decide +kernel
theorem dX6_meets_94 : decode cX6_meets 94 = .ok (.ireturn, 1) := by decide +kernel
set_option maxRecDepth 20000 in
theorem ggX6_bestOf_X6_loads : GoodIn wsX6_bestOf wsX6_loads := goodIn_r _ [12, 13, 3, 2, 14, 5, 4, 15, 16, 17, 11, 18, 19, 20, 21, 22, 23, 24, 25, 26, 27, 28, 29, 30, 31, 32, 33, 34, 35, 36, 37, 38, 39, 40, 41, 42, 43, 44, 45, 46, 76, 77, 78, 79, 80, 81, 82, 83, 84, 85, 86, 87, 88, 89, 90, 91, 92, 93, 94, 95, 96, 97, 98, 99, 100, 101, 102, 103, 104, 105, 106, 107, 108, 109, 110, 111] (by decide +kernel) (by decide +kernel)
set_option maxRecDepth 20000 in
theorem gX6_bestOf_X6_loads : GoodIn wsX6_bestOf (wsV RX6 169 RX6 yX6_loads wsX6_loads) := goodIn_app (goodIn_of _ (by decide +kernel)) ggX6_bestOf_X6_loads
set_option maxRecDepth 20000 in
theorem ggX6_bestOf_X6_playedBars : GoodIn wsX6_bestOf wsX6_playedBars := goodIn_r _ [24, 25, 26, 27, 28, 76, 77, 78, 79, 80, 81, 82, 83, 84, 85, 86, 87, 88, 89, 90, 91, 92, 93, 94, 95, 96, 97, 98, 99, 100, 101, 102, 103, 104, 105, 106, 107, 108, 109, 110, 111] (by decide +kernel) (by decide +kernel)
set_option maxRecDepth 20000 in
theorem gX6_bestOf_X6_playedBars : GoodIn wsX6_bestOf (wsV RX6 111 RX6 yX6_playedBars wsX6_playedBars) := goodIn_app (goodIn_of _ (by decide +kernel)) ggX6_bestOf_X6_playedBars
set_option maxRecDepth 20000 in
theorem ggX6_bestOf_X6_isWhole : GoodIn wsX6_bestOf wsX6_isWhole := goodIn_r _ [49] (by decide +kernel) (by decide +kernel)
set_option maxRecDepth 20000 in
theorem gX6_bestOf_X6_isWhole : GoodIn wsX6_bestOf (va_wsS RX6 173 yX6_isWhole wsX6_isWhole) := goodIn_app (goodIn_of _ (by decide +kernel)) ggX6_bestOf_X6_isWhole
set_option maxRecDepth 20000 in
theorem ggX6_bestOf_X6_beatsCost : GoodIn wsX6_bestOf wsX6_beatsCost := goodIn_r _ [53, 13, 14, 54, 1, 55, 56, 11, 57, 44, 45, 46, 58, 59, 60, 61, 62, 63, 76, 77, 78, 79, 80, 81, 82, 83, 84, 85, 86, 87, 88, 89, 90, 91, 92, 93, 94, 95, 96, 97, 98, 99, 100, 101, 102, 103, 104, 105, 106, 107, 108, 109, 110, 111] (by decide +kernel) (by decide +kernel)
set_option maxRecDepth 20000 in
theorem gX6_bestOf_X6_beatsCost : GoodIn wsX6_bestOf (wsV RX6 177 RX6 yX6_beatsCost wsX6_beatsCost) := goodIn_app (goodIn_of _ (by decide +kernel)) ggX6_bestOf_X6_beatsCost
set_option maxRecDepth 20000 in
theorem ggX6_bestOf_X6_always : GoodIn wsX6_bestOf wsX6_always := goodIn_r _ [67, 68, 69, 70, 71, 72, 73, 11, 74, 75, 61, 62, 63, 76, 77, 78, 79, 80, 81, 82, 83, 84, 85, 86, 87, 88, 89, 90, 91, 92, 93, 94, 95, 96, 97, 98, 99, 100, 101, 102, 103, 104, 105, 106, 107, 108, 109, 110, 111] (by decide +kernel) (by decide +kernel)
set_option maxRecDepth 20000 in
theorem gX6_bestOf_X6_always : GoodIn wsX6_bestOf (wsV RX6 183 RX6 yX6_always wsX6_always) := goodIn_app (goodIn_of _ (by decide +kernel)) ggX6_bestOf_X6_always
theorem dX6_bestOf_0 : decode cX6_bestOf 0 = .ok (.aload_n 0, 1) := by decide +kernel
theorem dX6_bestOf_1 : decode cX6_bestOf 1 = .ok (.iload_n 1, 1) := by decide +kernel
theorem dX6_bestOf_2 : decode cX6_bestOf 2 = .ok (.iload_n 2, 1) := by decide +kernel
theorem dX6_bestOf_3 : decode cX6_bestOf 3 = .ok (.invokevirtual 169, 3) := by decide +kernel
theorem dX6_bestOf_6 : decode cX6_bestOf 6 = .ok (.ldc 164, 2) := by decide +kernel
theorem dX6_bestOf_8 : decode cX6_bestOf 8 = .ok (.istore 4, 2) := by decide +kernel
theorem dX6_bestOf_10 : decode cX6_bestOf 10 = .ok (.aload_n 0, 1) := by decide +kernel
theorem dX6_bestOf_11 : decode cX6_bestOf 11 = .ok (.iload_n 1, 1) := by decide +kernel
theorem dX6_bestOf_12 : decode cX6_bestOf 12 = .ok (.invokevirtual 111, 3) := by decide +kernel
theorem dX6_bestOf_15 : decode cX6_bestOf 15 = .ok (.istore 5, 2) := by decide +kernel
theorem dX6_bestOf_17 : decode cX6_bestOf 17 = .ok (.aload_n 0, 1) := by decide +kernel
theorem dX6_bestOf_18 : decode cX6_bestOf 18 = .ok (.iload_n 2, 1) := by decide +kernel
theorem dX6_bestOf_19 : decode cX6_bestOf 19 = .ok (.invokevirtual 111, 3) := by decide +kernel
theorem dX6_bestOf_22 : decode cX6_bestOf 22 = .ok (.istore 6, 2) := by decide +kernel
theorem dX6_bestOf_24 : decode cX6_bestOf 24 = .ok (.iload 5, 2) := by decide +kernel
theorem dX6_bestOf_26 : decode cX6_bestOf 26 = .ok (.iload_n 3, 1) := by decide +kernel
theorem dX6_bestOf_27 : decode cX6_bestOf 27 = .ok (.isub, 1) := by decide +kernel
theorem dX6_bestOf_28 : decode cX6_bestOf 28 = .ok (.istore 7, 2) := by decide +kernel
theorem dX6_bestOf_30 : decode cX6_bestOf 30 = .ok (.iload 7, 2) := by decide +kernel
theorem dX6_bestOf_32 : decode cX6_bestOf 32 = .ok (.ifCond .lt 120, 3) := by decide +kernel
theorem dX6_bestOf_35 : decode cX6_bestOf 35 = .ok (.aload_n 0, 1) := by decide +kernel
theorem dX6_bestOf_36 : decode cX6_bestOf 36 = .ok (.getfield 81, 3) := by decide +kernel
theorem dX6_bestOf_39 : decode cX6_bestOf 39 = .ok (.iload 7, 2) := by decide +kernel
theorem dX6_bestOf_41 : decode cX6_bestOf 41 = .ok (.baload, 1) := by decide +kernel
theorem dX6_bestOf_42 : decode cX6_bestOf 42 = .ok (.ifCond .eq 104, 3) := by decide +kernel
theorem dX6_bestOf_45 : decode cX6_bestOf 45 = .ok (.aload_n 0, 1) := by decide +kernel
theorem dX6_bestOf_46 : decode cX6_bestOf 46 = .ok (.getfield 75, 3) := by decide +kernel
theorem dX6_bestOf_49 : decode cX6_bestOf 49 = .ok (.iload 5, 2) := by decide +kernel
theorem dX6_bestOf_51 : decode cX6_bestOf 51 = .ok (.iload 7, 2) := by decide +kernel
theorem dX6_bestOf_53 : decode cX6_bestOf 53 = .ok (.iload_n 3, 1) := by decide +kernel
theorem dX6_bestOf_54 : decode cX6_bestOf 54 = .ok (.invokestatic 173, 3) := by decide +kernel
theorem dX6_bestOf_57 : decode cX6_bestOf 57 = .ok (.ifCond .ne 6, 3) := by decide +kernel
theorem dX6_bestOf_60 : decode cX6_bestOf 60 = .ok (.goto 86, 3) := by decide +kernel
theorem dX6_bestOf_63 : decode cX6_bestOf 63 = .ok (.iconst 0, 1) := by decide +kernel
theorem dX6_bestOf_64 : decode cX6_bestOf 64 = .ok (.istore 8, 2) := by decide +kernel
theorem dX6_bestOf_66 : decode cX6_bestOf 66 = .ok (.iload 8, 2) := by decide +kernel
theorem dX6_bestOf_68 : decode cX6_bestOf 68 = .ok (.iload_n 3, 1) := by decide +kernel
theorem dX6_bestOf_69 : decode cX6_bestOf 69 = .ok (.iadd, 1) := by decide +kernel
theorem dX6_bestOf_70 : decode cX6_bestOf 70 = .ok (.iload 6, 2) := by decide +kernel
theorem dX6_bestOf_72 : decode cX6_bestOf 72 = .ok (.if_icmp .gt 74, 3) := by decide +kernel
theorem dX6_bestOf_75 : decode cX6_bestOf 75 = .ok (.aload_n 0, 1) := by decide +kernel
theorem dX6_bestOf_76 : decode cX6_bestOf 76 = .ok (.getfield 84, 3) := by decide +kernel
theorem dX6_bestOf_79 : decode cX6_bestOf 79 = .ok (.iload 8, 2) := by decide +kernel
theorem dX6_bestOf_81 : decode cX6_bestOf 81 = .ok (.baload, 1) := by decide +kernel
theorem dX6_bestOf_82 : decode cX6_bestOf 82 = .ok (.ifCond .eq 58, 3) := by decide +kernel
theorem dX6_bestOf_85 : decode cX6_bestOf 85 = .ok (.aload_n 0, 1) := by decide +kernel
theorem dX6_bestOf_86 : decode cX6_bestOf 86 = .ok (.getfield 78, 3) := by decide +kernel
theorem dX6_bestOf_89 : decode cX6_bestOf 89 = .ok (.iload 6, 2) := by decide +kernel
theorem dX6_bestOf_91 : decode cX6_bestOf 91 = .ok (.iload 8, 2) := by decide +kernel
theorem dX6_bestOf_93 : decode cX6_bestOf 93 = .ok (.iload_n 3, 1) := by decide +kernel
theorem dX6_bestOf_94 : decode cX6_bestOf 94 = .ok (.invokestatic 173, 3) := by decide +kernel
theorem dX6_bestOf_97 : decode cX6_bestOf 97 = .ok (.ifCond .ne 6, 3) := by decide +kernel
theorem dX6_bestOf_100 : decode cX6_bestOf 100 = .ok (.goto 40, 3) := by decide +kernel
theorem dX6_bestOf_103 : decode cX6_bestOf 103 = .ok (.aload_n 0, 1) := by decide +kernel
theorem dX6_bestOf_104 : decode cX6_bestOf 104 = .ok (.iload 7, 2) := by decide +kernel
theorem dX6_bestOf_106 : decode cX6_bestOf 106 = .ok (.iload 8, 2) := by decide +kernel
theorem dX6_bestOf_108 : decode cX6_bestOf 108 = .ok (.iload_n 3, 1) := by decide +kernel
theorem dX6_bestOf_109 : decode cX6_bestOf 109 = .ok (.invokevirtual 177, 3) := by decide +kernel
theorem dX6_bestOf_112 : decode cX6_bestOf 112 = .ok (.istore 9, 2) := by decide +kernel
theorem dX6_bestOf_114 : decode cX6_bestOf 114 = .ok (.iload 9, 2) := by decide +kernel
theorem dX6_bestOf_116 : decode cX6_bestOf 116 = .ok (.iload 4, 2) := by decide +kernel
theorem dX6_bestOf_118 : decode cX6_bestOf 118 = .ok (.if_icmp .lt 6, 3) := by decide +kernel
theorem dX6_bestOf_121 : decode cX6_bestOf 121 = .ok (.goto 19, 3) := by decide +kernel
theorem dX6_bestOf_124 : decode cX6_bestOf 124 = .ok (.iload 9, 2) := by decide +kernel
theorem dX6_bestOf_126 : decode cX6_bestOf 126 = .ok (.istore 4, 2) := by decide +kernel
theorem dX6_bestOf_128 : decode cX6_bestOf 128 = .ok (.aload_n 0, 1) := by decide +kernel
theorem dX6_bestOf_129 : decode cX6_bestOf 129 = .ok (.iload 7, 2) := by decide +kernel
theorem dX6_bestOf_131 : decode cX6_bestOf 131 = .ok (.putfield 186, 3) := by decide +kernel
theorem dX6_bestOf_134 : decode cX6_bestOf 134 = .ok (.aload_n 0, 1) := by decide +kernel
theorem dX6_bestOf_135 : decode cX6_bestOf 135 = .ok (.iload 8, 2) := by decide +kernel
theorem dX6_bestOf_137 : decode cX6_bestOf 137 = .ok (.putfield 189, 3) := by decide +kernel
theorem dX6_bestOf_140 : decode cX6_bestOf 140 = .ok (.iinc 8 1, 3) := by decide +kernel
theorem dX6_bestOf_143 : decode cX6_bestOf 143 = .ok (.goto (-77), 3) := by decide +kernel
theorem dX6_bestOf_146 : decode cX6_bestOf 146 = .ok (.iinc 7 (-1), 3) := by decide +kernel
theorem dX6_bestOf_149 : decode cX6_bestOf 149 = .ok (.goto (-119), 3) := by decide +kernel
theorem dX6_bestOf_152 : decode cX6_bestOf 152 = .ok (.iload 4, 2) := by decide +kernel
theorem dX6_bestOf_154 : decode cX6_bestOf 154 = .ok (.ldc 164, 2) := by decide +kernel
theorem dX6_bestOf_156 : decode cX6_bestOf 156 = .ok (.if_icmp .ne 8, 3) := by decide +kernel
theorem dX6_bestOf_159 : decode cX6_bestOf 159 = .ok (.ldc 164, 2) := by decide +kernel
theorem dX6_bestOf_161 : decode cX6_bestOf 161 = .ok (.goto 12, 3) := by decide +kernel
theorem dX6_bestOf_164 : decode cX6_bestOf 164 = .ok (.iload 4, 2) := by decide +kernel
theorem dX6_bestOf_166 : decode cX6_bestOf 166 = .ok (.aload_n 0, 1) := by decide +kernel
theorem dX6_bestOf_167 : decode cX6_bestOf 167 = .ok (.iload_n 1, 1) := by decide +kernel
theorem dX6_bestOf_168 : decode cX6_bestOf 168 = .ok (.iload_n 2, 1) := by decide +kernel
theorem dX6_bestOf_169 : decode cX6_bestOf 169 = .ok (.invokevirtual 183, 3) := by decide +kernel
theorem dX6_bestOf_172 : decode cX6_bestOf 172 = .ok (.iadd, 1) := by decide +kernel
theorem dX6_bestOf_173 : decode cX6_bestOf 173 = .ok (.ireturn, 1) := by decide +kernel
set_option maxRecDepth 20000 in
theorem ggX6_best_X6_isSong : GoodIn wsX6_best wsX6_isSong := goodIn_r _ [8, 9, 85, 86, 87, 88, 89, 90, 91, 92, 93, 94, 95, 96, 97, 98, 99, 100, 101, 102, 103, 104, 105, 106, 107, 108, 109, 110, 111, 112, 113, 114, 115, 116, 117, 118, 119, 120] (by decide +kernel) (by decide +kernel)
set_option maxRecDepth 20000 in
theorem gX6_best_X6_isSong : GoodIn wsX6_best (wsV RX6 107 RX6 yX6_isSong wsX6_isSong) := goodIn_app (goodIn_of _ (by decide +kernel)) ggX6_best_X6_isSong
set_option maxRecDepth 20000 in
theorem ggX6_best_X6_bestOf : GoodIn wsX6_best wsX6_bestOf := goodIn_r _ [13, 1, 14, 15, 16, 17, 2, 3, 18, 19, 20, 7, 21, 22, 23, 24, 25, 26, 27, 28, 29, 30, 31, 32, 33, 34, 35, 36, 37, 38, 39, 40, 41, 42, 43, 44, 45, 46, 47, 48, 49, 50, 51, 52, 53, 54, 55, 56, 57, 58, 59, 60, 61, 62, 63, 64, 65, 66, 67, 68, 69, 70, 71, 72, 73, 74, 75, 76, 77, 78, 79, 80, 81, 82, 83, 84, 85, 86, 87, 88, 89, 90, 91, 92, 93, 94, 95, 96, 97, 98, 99, 100, 101, 102, 103, 104, 105, 106, 107, 108, 109, 110, 111, 112, 113, 114, 115, 116, 117, 118, 119, 120] (by decide +kernel) (by decide +kernel)
set_option maxRecDepth 20000 in
theorem gX6_best_X6_bestOf : GoodIn wsX6_best (wsV RX6 192 RX6 yX6_bestOf wsX6_bestOf) := goodIn_app (goodIn_of _ (by decide +kernel)) ggX6_best_X6_bestOf
theorem dX6_best_0 : decode cX6_best 0 = .ok (.aload_n 0, 1) := by decide +kernel
theorem dX6_best_1 : decode cX6_best 1 = .ok (.iload_n 1, 1) := by decide +kernel
theorem dX6_best_2 : decode cX6_best 2 = .ok (.invokevirtual 107, 3) := by decide +kernel
theorem dX6_best_5 : decode cX6_best 5 = .ok (.ifCond .eq 38, 3) := by decide +kernel
theorem dX6_best_8 : decode cX6_best 8 = .ok (.aload_n 0, 1) := by decide +kernel
theorem dX6_best_9 : decode cX6_best 9 = .ok (.iload_n 2, 1) := by decide +kernel
theorem dX6_best_10 : decode cX6_best 10 = .ok (.invokevirtual 107, 3) := by decide +kernel
theorem dX6_best_13 : decode cX6_best 13 = .ok (.ifCond .eq 30, 3) := by decide +kernel
theorem dX6_best_16 : decode cX6_best 16 = .ok (.iload_n 1, 1) := by decide +kernel
theorem dX6_best_17 : decode cX6_best 17 = .ok (.iload_n 2, 1) := by decide +kernel
theorem dX6_best_18 : decode cX6_best 18 = .ok (.if_icmp .eq 25, 3) := by decide +kernel
theorem dX6_best_21 : decode cX6_best 21 = .ok (.iload_n 3, 1) := by decide +kernel
theorem dX6_best_22 : decode cX6_best 22 = .ok (.iconst 1, 1) := by decide +kernel
theorem dX6_best_23 : decode cX6_best 23 = .ok (.if_icmp .lt 20, 3) := by decide +kernel
theorem dX6_best_26 : decode cX6_best 26 = .ok (.iload_n 3, 1) := by decide +kernel
theorem dX6_best_27 : decode cX6_best 27 = .ok (.bipush 8, 2) := by decide +kernel
theorem dX6_best_29 : decode cX6_best 29 = .ok (.if_icmp .gt 14, 3) := by decide +kernel
theorem dX6_best_32 : decode cX6_best 32 = .ok (.iload 4, 2) := by decide +kernel
theorem dX6_best_34 : decode cX6_best 34 = .ok (.ifCond .lt 9, 3) := by decide +kernel
theorem dX6_best_37 : decode cX6_best 37 = .ok (.iload 4, 2) := by decide +kernel
theorem dX6_best_39 : decode cX6_best 39 = .ok (.iconst 2, 1) := by decide +kernel
theorem dX6_best_40 : decode cX6_best 40 = .ok (.if_icmp .le 5, 3) := by decide +kernel
theorem dX6_best_43 : decode cX6_best 43 = .ok (.iconst (-1), 1) := by decide +kernel
theorem dX6_best_44 : decode cX6_best 44 = .ok (.ireturn, 1) := by decide +kernel
theorem dX6_best_45 : decode cX6_best 45 = .ok (.aload_n 0, 1) := by decide +kernel
theorem dX6_best_46 : decode cX6_best 46 = .ok (.iload_n 1, 1) := by decide +kernel
theorem dX6_best_47 : decode cX6_best 47 = .ok (.iload_n 2, 1) := by decide +kernel
theorem dX6_best_48 : decode cX6_best 48 = .ok (.iload_n 3, 1) := by decide +kernel
theorem dX6_best_49 : decode cX6_best 49 = .ok (.invokevirtual 192, 3) := by decide +kernel
theorem dX6_best_52 : decode cX6_best 52 = .ok (.istore 5, 2) := by decide +kernel
theorem dX6_best_54 : decode cX6_best 54 = .ok (.iload 5, 2) := by decide +kernel
theorem dX6_best_56 : decode cX6_best 56 = .ok (.ldc 164, 2) := by decide +kernel
theorem dX6_best_58 : decode cX6_best 58 = .ok (.if_icmp .ne 7, 3) := by decide +kernel
theorem dX6_best_61 : decode cX6_best 61 = .ok (.iconst (-1), 1) := by decide +kernel
theorem dX6_best_62 : decode cX6_best 62 = .ok (.goto 30, 3) := by decide +kernel
theorem dX6_best_65 : decode cX6_best 65 = .ok (.iload 4, 2) := by decide +kernel
theorem dX6_best_67 : decode cX6_best 67 = .ok (.ifCond .ne 8, 3) := by decide +kernel
theorem dX6_best_70 : decode cX6_best 70 = .ok (.iload 5, 2) := by decide +kernel
theorem dX6_best_72 : decode cX6_best 72 = .ok (.goto 20, 3) := by decide +kernel
theorem dX6_best_75 : decode cX6_best 75 = .ok (.iload 4, 2) := by decide +kernel
theorem dX6_best_77 : decode cX6_best 77 = .ok (.iconst 1, 1) := by decide +kernel
theorem dX6_best_78 : decode cX6_best 78 = .ok (.if_icmp .ne 10, 3) := by decide +kernel
theorem dX6_best_81 : decode cX6_best 81 = .ok (.aload_n 0, 1) := by decide +kernel
theorem dX6_best_82 : decode cX6_best 82 = .ok (.getfield 186, 3) := by decide +kernel
theorem dX6_best_85 : decode cX6_best 85 = .ok (.goto 7, 3) := by decide +kernel
theorem dX6_best_88 : decode cX6_best 88 = .ok (.aload_n 0, 1) := by decide +kernel
theorem dX6_best_89 : decode cX6_best 89 = .ok (.getfield 189, 3) := by decide +kernel
theorem dX6_best_92 : decode cX6_best 92 = .ok (.ireturn, 1) := by decide +kernel
set_option maxRecDepth 20000 in
theorem ggX6_must_X6_isSong : GoodIn wsX6_must wsX6_isSong := goodIn_r _ [6, 7, 8, 9, 10, 11, 12, 13, 14, 15, 16, 17, 18, 19, 20, 21, 22, 23, 24, 25, 26, 27, 28, 29, 30, 31, 32, 33, 34, 35, 36, 37, 38, 39, 40, 41, 42, 43] (by decide +kernel) (by decide +kernel)
set_option maxRecDepth 20000 in
theorem gX6_must_X6_isSong : GoodIn wsX6_must (wsV RX6 107 RX6 yX6_isSong wsX6_isSong) := goodIn_app (goodIn_of _ (by decide +kernel)) ggX6_must_X6_isSong
theorem dX6_must_0 : decode cX6_must 0 = .ok (.aload_n 0, 1) := by decide +kernel
theorem dX6_must_1 : decode cX6_must 1 = .ok (.iload_n 1, 1) := by decide +kernel
theorem dX6_must_2 : decode cX6_must 2 = .ok (.invokevirtual 107, 3) := by decide +kernel
theorem dX6_must_5 : decode cX6_must 5 = .ok (.ifCond .eq 25, 3) := by decide +kernel
theorem dX6_must_8 : decode cX6_must 8 = .ok (.aload_n 0, 1) := by decide +kernel
theorem dX6_must_9 : decode cX6_must 9 = .ok (.iload_n 2, 1) := by decide +kernel
theorem dX6_must_10 : decode cX6_must 10 = .ok (.invokevirtual 107, 3) := by decide +kernel
theorem dX6_must_13 : decode cX6_must 13 = .ok (.ifCond .eq 17, 3) := by decide +kernel
theorem dX6_must_16 : decode cX6_must 16 = .ok (.iload_n 1, 1) := by decide +kernel
theorem dX6_must_17 : decode cX6_must 17 = .ok (.iload_n 2, 1) := by decide +kernel
theorem dX6_must_18 : decode cX6_must 18 = .ok (.if_icmp .eq 12, 3) := by decide +kernel
theorem dX6_must_21 : decode cX6_must 21 = .ok (.iload_n 3, 1) := by decide +kernel
theorem dX6_must_22 : decode cX6_must 22 = .ok (.ifCond .lt 8, 3) := by decide +kernel
theorem dX6_must_25 : decode cX6_must 25 = .ok (.iload_n 3, 1) := by decide +kernel
theorem dX6_must_26 : decode cX6_must 26 = .ok (.iconst 2, 1) := by decide +kernel
theorem dX6_must_27 : decode cX6_must 27 = .ok (.if_icmp .le 5, 3) := by decide +kernel
theorem dX6_must_30 : decode cX6_must 30 = .ok (.iconst 0, 1) := by decide +kernel
theorem dX6_must_31 : decode cX6_must 31 = .ok (.ireturn, 1) := by decide +kernel
theorem dX6_must_32 : decode cX6_must 32 = .ok (.aload_n 0, 1) := by decide +kernel
theorem dX6_must_33 : decode cX6_must 33 = .ok (.getfield 47, 3) := by decide +kernel
theorem dX6_must_36 : decode cX6_must 36 = .ok (.bipush 12, 2) := by decide +kernel
theorem dX6_must_38 : decode cX6_must 38 = .ok (.iload_n 1, 1) := by decide +kernel
theorem dX6_must_39 : decode cX6_must 39 = .ok (.imul, 1) := by decide +kernel
theorem dX6_must_40 : decode cX6_must 40 = .ok (.iload_n 2, 1) := by decide +kernel
theorem dX6_must_41 : decode cX6_must 41 = .ok (.iadd, 1) := by decide +kernel
theorem dX6_must_42 : decode cX6_must 42 = .ok (.iload_n 3, 1) := by decide +kernel
theorem dX6_must_43 : decode cX6_must 43 = .ok (.iastore, 1) := by decide +kernel
theorem dX6_must_44 : decode cX6_must 44 = .ok (.iconst 1, 1) := by decide +kernel
theorem dX6_must_45 : decode cX6_must 45 = .ok (.ireturn, 1) := by decide +kernel
theorem dX6_there_0 : decode cX6_there 0 = .ok (.iconst 0, 1) := by decide +kernel
theorem dX6_there_1 : decode cX6_there 1 = .ok (.istore_n 1, 1) := by decide +kernel
theorem dX6_there_2 : decode cX6_there 2 = .ok (.iconst 0, 1) := by decide +kernel
theorem dX6_there_3 : decode cX6_there 3 = .ok (.istore_n 2, 1) := by decide +kernel
theorem dX6_there_4 : decode cX6_there 4 = .ok (.iload_n 2, 1) := by decide +kernel
theorem dX6_there_5 : decode cX6_there 5 = .ok (.bipush 12, 2) := by decide +kernel
theorem dX6_there_7 : decode cX6_there 7 = .ok (.if_icmp .ge 24, 3) := by decide +kernel
theorem dX6_there_10 : decode cX6_there 10 = .ok (.aload_n 0, 1) := by decide +kernel
theorem dX6_there_11 : decode cX6_there 11 = .ok (.getfield 7, 3) := by decide +kernel
theorem dX6_there_14 : decode cX6_there 14 = .ok (.iload_n 2, 1) := by decide +kernel
theorem dX6_there_15 : decode cX6_there 15 = .ok (.baload, 1) := by decide +kernel
theorem dX6_there_16 : decode cX6_there 16 = .ok (.ifCond .eq 9, 3) := by decide +kernel
theorem dX6_there_19 : decode cX6_there 19 = .ok (.iload_n 1, 1) := by decide +kernel
theorem dX6_there_20 : decode cX6_there 20 = .ok (.iconst 1, 1) := by decide +kernel
theorem dX6_there_21 : decode cX6_there 21 = .ok (.iload_n 2, 1) := by decide +kernel
theorem dX6_there_22 : decode cX6_there 22 = .ok (.ishl, 1) := by decide +kernel
theorem dX6_there_23 : decode cX6_there 23 = .ok (.ior, 1) := by decide +kernel
theorem dX6_there_24 : decode cX6_there 24 = .ok (.istore_n 1, 1) := by decide +kernel
theorem dX6_there_25 : decode cX6_there 25 = .ok (.iinc 2 1, 3) := by decide +kernel
theorem dX6_there_28 : decode cX6_there 28 = .ok (.goto (-24), 3) := by decide +kernel
theorem dX6_there_31 : decode cX6_there 31 = .ok (.iload_n 1, 1) := by decide +kernel
theorem dX6_there_32 : decode cX6_there 32 = .ok (.ireturn, 1) := by decide +kernel
set_option maxRecDepth 20000 in
theorem ggX6_edges_X6_bestOf : GoodIn wsX6_edges wsX6_bestOf := goodIn_r _ [9, 2, 10, 11, 12, 13, 14, 15, 16, 17, 18, 8, 19, 20, 21, 22, 23, 24, 25, 26, 27, 28, 29, 30, 31, 32, 33, 34, 35, 36, 37, 38, 39, 40, 41, 42, 43, 44, 45, 46, 47, 48, 49, 50, 51, 52, 53, 54, 55, 56, 57, 58, 59, 60, 61, 62, 63, 64, 65, 66, 67, 68, 69, 70, 71, 72, 73, 74, 75, 76, 77, 78, 79, 80, 81, 82, 83, 84, 85, 86, 87, 88, 89, 90, 91, 92, 93, 94, 95, 96, 97, 98, 99, 100, 101, 102, 103, 104, 105, 106, 107, 108, 109, 110, 111, 112, 113, 114, 115, 116, 117, 118] (by decide +kernel) (by decide +kernel)
set_option maxRecDepth 20000 in
theorem gX6_edges_X6_bestOf : GoodIn wsX6_edges (wsV RX6 192 RX6 yX6_bestOf wsX6_bestOf) := goodIn_app (goodIn_of _ (by decide +kernel)) ggX6_edges_X6_bestOf
theorem dX6_edges_0 : decode cX6_edges 0 = .ok (.iconst 0, 1) := by decide +kernel
theorem dX6_edges_1 : decode cX6_edges 1 = .ok (.istore_n 2, 1) := by decide +kernel
theorem dX6_edges_2 : decode cX6_edges 2 = .ok (.iload_n 2, 1) := by decide +kernel
theorem dX6_edges_3 : decode cX6_edges 3 = .ok (.bipush 12, 2) := by decide +kernel
theorem dX6_edges_5 : decode cX6_edges 5 = .ok (.if_icmp .ge 92, 3) := by decide +kernel
theorem dX6_edges_8 : decode cX6_edges 8 = .ok (.iconst 0, 1) := by decide +kernel
theorem dX6_edges_9 : decode cX6_edges 9 = .ok (.istore_n 3, 1) := by decide +kernel
theorem dX6_edges_10 : decode cX6_edges 10 = .ok (.iload_n 3, 1) := by decide +kernel
theorem dX6_edges_11 : decode cX6_edges 11 = .ok (.bipush 12, 2) := by decide +kernel
theorem dX6_edges_13 : decode cX6_edges 13 = .ok (.if_icmp .ge 78, 3) := by decide +kernel
theorem dX6_edges_16 : decode cX6_edges 16 = .ok (.aload_n 0, 1) := by decide +kernel
theorem dX6_edges_17 : decode cX6_edges 17 = .ok (.getfield 93, 3) := by decide +kernel
theorem dX6_edges_20 : decode cX6_edges 20 = .ok (.bipush 12, 2) := by decide +kernel
theorem dX6_edges_22 : decode cX6_edges 22 = .ok (.iload_n 2, 1) := by decide +kernel
theorem dX6_edges_23 : decode cX6_edges 23 = .ok (.imul, 1) := by decide +kernel
theorem dX6_edges_24 : decode cX6_edges 24 = .ok (.iload_n 3, 1) := by decide +kernel
theorem dX6_edges_25 : decode cX6_edges 25 = .ok (.iadd, 1) := by decide +kernel
theorem dX6_edges_26 : decode cX6_edges 26 = .ok (.ldc 164, 2) := by decide +kernel
theorem dX6_edges_28 : decode cX6_edges 28 = .ok (.iastore, 1) := by decide +kernel
theorem dX6_edges_29 : decode cX6_edges 29 = .ok (.iload_n 2, 1) := by decide +kernel
theorem dX6_edges_30 : decode cX6_edges 30 = .ok (.iload_n 3, 1) := by decide +kernel
theorem dX6_edges_31 : decode cX6_edges 31 = .ok (.if_icmp .eq 54, 3) := by decide +kernel
theorem dX6_edges_34 : decode cX6_edges 34 = .ok (.aload_n 0, 1) := by decide +kernel
theorem dX6_edges_35 : decode cX6_edges 35 = .ok (.getfield 7, 3) := by decide +kernel
theorem dX6_edges_38 : decode cX6_edges 38 = .ok (.iload_n 2, 1) := by decide +kernel
theorem dX6_edges_39 : decode cX6_edges 39 = .ok (.baload, 1) := by decide +kernel
theorem dX6_edges_40 : decode cX6_edges 40 = .ok (.ifCond .eq 45, 3) := by decide +kernel
theorem dX6_edges_43 : decode cX6_edges 43 = .ok (.aload_n 0, 1) := by decide +kernel
theorem dX6_edges_44 : decode cX6_edges 44 = .ok (.getfield 7, 3) := by decide +kernel
theorem dX6_edges_47 : decode cX6_edges 47 = .ok (.iload_n 3, 1) := by decide +kernel
theorem dX6_edges_48 : decode cX6_edges 48 = .ok (.baload, 1) := by decide +kernel
theorem dX6_edges_49 : decode cX6_edges 49 = .ok (.ifCond .eq 36, 3) := by decide +kernel
theorem dX6_edges_52 : decode cX6_edges 52 = .ok (.aload_n 0, 1) := by decide +kernel
theorem dX6_edges_53 : decode cX6_edges 53 = .ok (.getfield 47, 3) := by decide +kernel
theorem dX6_edges_56 : decode cX6_edges 56 = .ok (.bipush 12, 2) := by decide +kernel
theorem dX6_edges_58 : decode cX6_edges 58 = .ok (.iload_n 2, 1) := by decide +kernel
theorem dX6_edges_59 : decode cX6_edges 59 = .ok (.imul, 1) := by decide +kernel
theorem dX6_edges_60 : decode cX6_edges 60 = .ok (.iload_n 3, 1) := by decide +kernel
theorem dX6_edges_61 : decode cX6_edges 61 = .ok (.iadd, 1) := by decide +kernel
theorem dX6_edges_62 : decode cX6_edges 62 = .ok (.iaload, 1) := by decide +kernel
theorem dX6_edges_63 : decode cX6_edges 63 = .ok (.iconst 2, 1) := by decide +kernel
theorem dX6_edges_64 : decode cX6_edges 64 = .ok (.if_icmp .eq 21, 3) := by decide +kernel
theorem dX6_edges_67 : decode cX6_edges 67 = .ok (.aload_n 0, 1) := by decide +kernel
theorem dX6_edges_68 : decode cX6_edges 68 = .ok (.getfield 93, 3) := by decide +kernel
theorem dX6_edges_71 : decode cX6_edges 71 = .ok (.bipush 12, 2) := by decide +kernel
theorem dX6_edges_73 : decode cX6_edges 73 = .ok (.iload_n 2, 1) := by decide +kernel
theorem dX6_edges_74 : decode cX6_edges 74 = .ok (.imul, 1) := by decide +kernel
theorem dX6_edges_75 : decode cX6_edges 75 = .ok (.iload_n 3, 1) := by decide +kernel
theorem dX6_edges_76 : decode cX6_edges 76 = .ok (.iadd, 1) := by decide +kernel
theorem dX6_edges_77 : decode cX6_edges 77 = .ok (.aload_n 0, 1) := by decide +kernel
theorem dX6_edges_78 : decode cX6_edges 78 = .ok (.iload_n 2, 1) := by decide +kernel
theorem dX6_edges_79 : decode cX6_edges 79 = .ok (.iload_n 3, 1) := by decide +kernel
theorem dX6_edges_80 : decode cX6_edges 80 = .ok (.iload_n 1, 1) := by decide +kernel
theorem dX6_edges_81 : decode cX6_edges 81 = .ok (.invokevirtual 192, 3) := by decide +kernel
theorem dX6_edges_84 : decode cX6_edges 84 = .ok (.iastore, 1) := by decide +kernel
theorem dX6_edges_85 : decode cX6_edges 85 = .ok (.iinc 3 1, 3) := by decide +kernel
theorem dX6_edges_88 : decode cX6_edges 88 = .ok (.goto (-78), 3) := by decide +kernel
theorem dX6_edges_91 : decode cX6_edges 91 = .ok (.iinc 2 1, 3) := by decide +kernel
theorem dX6_edges_94 : decode cX6_edges 94 = .ok (.goto (-92), 3) := by decide +kernel
theorem dX6_edges_97 : decode cX6_edges 97 = .ok (.iconst 0, 1) := by decide +kernel
theorem dX6_edges_98 : decode cX6_edges 98 = .ok (.istore_n 2, 1) := by decide +kernel
theorem dX6_edges_99 : decode cX6_edges 99 = .ok (.iload_n 2, 1) := by decide +kernel
theorem dX6_edges_100 : decode cX6_edges 100 = .ok (.bipush 12, 2) := by decide +kernel
theorem dX6_edges_102 : decode cX6_edges 102 = .ok (.if_icmp .ge 97, 3) := by decide +kernel
theorem dX6_edges_105 : decode cX6_edges 105 = .ok (.iconst 0, 1) := by decide +kernel
theorem dX6_edges_106 : decode cX6_edges 106 = .ok (.istore_n 3, 1) := by decide +kernel
theorem dX6_edges_107 : decode cX6_edges 107 = .ok (.iload_n 3, 1) := by decide +kernel
theorem dX6_edges_108 : decode cX6_edges 108 = .ok (.bipush 12, 2) := by decide +kernel
theorem dX6_edges_110 : decode cX6_edges 110 = .ok (.if_icmp .ge 83, 3) := by decide +kernel
theorem dX6_edges_113 : decode cX6_edges 113 = .ok (.aload_n 0, 1) := by decide +kernel
theorem dX6_edges_114 : decode cX6_edges 114 = .ok (.getfield 47, 3) := by decide +kernel
theorem dX6_edges_117 : decode cX6_edges 117 = .ok (.bipush 12, 2) := by decide +kernel
theorem dX6_edges_119 : decode cX6_edges 119 = .ok (.iload_n 2, 1) := by decide +kernel
theorem dX6_edges_120 : decode cX6_edges 120 = .ok (.imul, 1) := by decide +kernel
theorem dX6_edges_121 : decode cX6_edges 121 = .ok (.iload_n 3, 1) := by decide +kernel
theorem dX6_edges_122 : decode cX6_edges 122 = .ok (.iadd, 1) := by decide +kernel
theorem dX6_edges_123 : decode cX6_edges 123 = .ok (.iaload, 1) := by decide +kernel
theorem dX6_edges_124 : decode cX6_edges 124 = .ok (.iconst 1, 1) := by decide +kernel
theorem dX6_edges_125 : decode cX6_edges 125 = .ok (.if_icmp .eq 6, 3) := by decide +kernel
theorem dX6_edges_128 : decode cX6_edges 128 = .ok (.goto 59, 3) := by decide +kernel
theorem dX6_edges_131 : decode cX6_edges 131 = .ok (.iconst 0, 1) := by decide +kernel
theorem dX6_edges_132 : decode cX6_edges 132 = .ok (.istore 4, 2) := by decide +kernel
theorem dX6_edges_134 : decode cX6_edges 134 = .ok (.iload 4, 2) := by decide +kernel
theorem dX6_edges_136 : decode cX6_edges 136 = .ok (.bipush 12, 2) := by decide +kernel
theorem dX6_edges_138 : decode cX6_edges 138 = .ok (.if_icmp .ge 49, 3) := by decide +kernel
theorem dX6_edges_141 : decode cX6_edges 141 = .ok (.iload 4, 2) := by decide +kernel
theorem dX6_edges_143 : decode cX6_edges 143 = .ok (.iload_n 3, 1) := by decide +kernel
theorem dX6_edges_144 : decode cX6_edges 144 = .ok (.if_icmp .eq 17, 3) := by decide +kernel
theorem dX6_edges_147 : decode cX6_edges 147 = .ok (.aload_n 0, 1) := by decide +kernel
theorem dX6_edges_148 : decode cX6_edges 148 = .ok (.getfield 93, 3) := by decide +kernel
theorem dX6_edges_151 : decode cX6_edges 151 = .ok (.bipush 12, 2) := by decide +kernel
theorem dX6_edges_153 : decode cX6_edges 153 = .ok (.iload_n 2, 1) := by decide +kernel
theorem dX6_edges_154 : decode cX6_edges 154 = .ok (.imul, 1) := by decide +kernel
theorem dX6_edges_155 : decode cX6_edges 155 = .ok (.iload 4, 2) := by decide +kernel
theorem dX6_edges_157 : decode cX6_edges 157 = .ok (.iadd, 1) := by decide +kernel
theorem dX6_edges_158 : decode cX6_edges 158 = .ok (.ldc 164, 2) := by decide +kernel
theorem dX6_edges_160 : decode cX6_edges 160 = .ok (.iastore, 1) := by decide +kernel
theorem dX6_edges_161 : decode cX6_edges 161 = .ok (.iload 4, 2) := by decide +kernel
theorem dX6_edges_163 : decode cX6_edges 163 = .ok (.iload_n 2, 1) := by decide +kernel
theorem dX6_edges_164 : decode cX6_edges 164 = .ok (.if_icmp .eq 17, 3) := by decide +kernel
theorem dX6_edges_167 : decode cX6_edges 167 = .ok (.aload_n 0, 1) := by decide +kernel
theorem dX6_edges_168 : decode cX6_edges 168 = .ok (.getfield 93, 3) := by decide +kernel
theorem dX6_edges_171 : decode cX6_edges 171 = .ok (.bipush 12, 2) := by decide +kernel
theorem dX6_edges_173 : decode cX6_edges 173 = .ok (.iload 4, 2) := by decide +kernel
theorem dX6_edges_175 : decode cX6_edges 175 = .ok (.imul, 1) := by decide +kernel
theorem dX6_edges_176 : decode cX6_edges 176 = .ok (.iload_n 3, 1) := by decide +kernel
theorem dX6_edges_177 : decode cX6_edges 177 = .ok (.iadd, 1) := by decide +kernel
theorem dX6_edges_178 : decode cX6_edges 178 = .ok (.ldc 164, 2) := by decide +kernel
theorem dX6_edges_180 : decode cX6_edges 180 = .ok (.iastore, 1) := by decide +kernel
theorem dX6_edges_181 : decode cX6_edges 181 = .ok (.iinc 4 1, 3) := by decide +kernel
theorem dX6_edges_184 : decode cX6_edges 184 = .ok (.goto (-50), 3) := by decide +kernel
theorem dX6_edges_187 : decode cX6_edges 187 = .ok (.iinc 3 1, 3) := by decide +kernel
theorem dX6_edges_190 : decode cX6_edges 190 = .ok (.goto (-83), 3) := by decide +kernel
theorem dX6_edges_193 : decode cX6_edges 193 = .ok (.iinc 2 1, 3) := by decide +kernel
theorem dX6_edges_196 : decode cX6_edges 196 = .ok (.goto (-97), 3) := by decide +kernel
theorem dX6_edges_199 : decode cX6_edges 199 = .ok (.return_, 1) := by decide +kernel
theorem dX6_isBound_0 : decode cX6_isBound 0 = .ok (.iconst 0, 1) := by decide +kernel
theorem dX6_isBound_1 : decode cX6_isBound 1 = .ok (.istore_n 3, 1) := by decide +kernel
theorem dX6_isBound_2 : decode cX6_isBound 2 = .ok (.iload_n 3, 1) := by decide +kernel
theorem dX6_isBound_3 : decode cX6_isBound 3 = .ok (.bipush 12, 2) := by decide +kernel
theorem dX6_isBound_5 : decode cX6_isBound 5 = .ok (.if_icmp .ge 39, 3) := by decide +kernel
theorem dX6_isBound_8 : decode cX6_isBound 8 = .ok (.aload_n 0, 1) := by decide +kernel
theorem dX6_isBound_9 : decode cX6_isBound 9 = .ok (.getfield 47, 3) := by decide +kernel
theorem dX6_isBound_12 : decode cX6_isBound 12 = .ok (.iload_n 2, 1) := by decide +kernel
theorem dX6_isBound_13 : decode cX6_isBound 13 = .ok (.ifCond .eq 12, 3) := by decide +kernel
theorem dX6_isBound_16 : decode cX6_isBound 16 = .ok (.bipush 12, 2) := by decide +kernel
theorem dX6_isBound_18 : decode cX6_isBound 18 = .ok (.iload_n 3, 1) := by decide +kernel
theorem dX6_isBound_19 : decode cX6_isBound 19 = .ok (.imul, 1) := by decide +kernel
theorem dX6_isBound_20 : decode cX6_isBound 20 = .ok (.iload_n 1, 1) := by decide +kernel
theorem dX6_isBound_21 : decode cX6_isBound 21 = .ok (.iadd, 1) := by decide +kernel
theorem dX6_isBound_22 : decode cX6_isBound 22 = .ok (.goto 9, 3) := by decide +kernel
theorem dX6_isBound_25 : decode cX6_isBound 25 = .ok (.bipush 12, 2) := by decide +kernel
theorem dX6_isBound_27 : decode cX6_isBound 27 = .ok (.iload_n 1, 1) := by decide +kernel
theorem dX6_isBound_28 : decode cX6_isBound 28 = .ok (.imul, 1) := by decide +kernel
theorem dX6_isBound_29 : decode cX6_isBound 29 = .ok (.iload_n 3, 1) := by decide +kernel
theorem dX6_isBound_30 : decode cX6_isBound 30 = .ok (.iadd, 1) := by decide +kernel
theorem dX6_isBound_31 : decode cX6_isBound 31 = .ok (.iaload, 1) := by decide +kernel
theorem dX6_isBound_32 : decode cX6_isBound 32 = .ok (.iconst 1, 1) := by decide +kernel
theorem dX6_isBound_33 : decode cX6_isBound 33 = .ok (.if_icmp .ne 5, 3) := by decide +kernel
theorem dX6_isBound_36 : decode cX6_isBound 36 = .ok (.iconst 1, 1) := by decide +kernel
theorem dX6_isBound_37 : decode cX6_isBound 37 = .ok (.ireturn, 1) := by decide +kernel
theorem dX6_isBound_38 : decode cX6_isBound 38 = .ok (.iinc 3 1, 3) := by decide +kernel
theorem dX6_isBound_41 : decode cX6_isBound 41 = .ok (.goto (-39), 3) := by decide +kernel
theorem dX6_isBound_44 : decode cX6_isBound 44 = .ok (.iconst 0, 1) := by decide +kernel
theorem dX6_isBound_45 : decode cX6_isBound 45 = .ok (.ireturn, 1) := by decide +kernel
set_option maxRecDepth 20000 in
theorem ggX6_weighs_X6_isBound : GoodIn wsX6_weighs wsX6_isBound := goodIn_r _ [8, 9, 10, 11, 12, 13, 14, 15, 16, 17, 18, 19, 20, 21, 22, 23, 24, 25, 26, 27, 28, 29, 30, 31, 32, 33, 34, 35, 36, 37, 38, 39, 40, 41, 42, 43, 44, 45] (by decide +kernel) (by decide +kernel)
set_option maxRecDepth 20000 in
theorem gX6_weighs_X6_isBound : GoodIn wsX6_weighs (wsV RX6 195 RX6 yX6_isBound wsX6_isBound) := goodIn_app (goodIn_of _ (by decide +kernel)) ggX6_weighs_X6_isBound
theorem dX6_weighs_0 : decode cX6_weighs 0 = .ok (.iconst 0, 1) := by decide +kernel
theorem dX6_weighs_1 : decode cX6_weighs 1 = .ok (.istore_n 2, 1) := by decide +kernel
theorem dX6_weighs_2 : decode cX6_weighs 2 = .ok (.iload_n 2, 1) := by decide +kernel
theorem dX6_weighs_3 : decode cX6_weighs 3 = .ok (.iload_n 1, 1) := by decide +kernel
theorem dX6_weighs_4 : decode cX6_weighs 4 = .ok (.if_icmp .gt 178, 3) := by decide +kernel
theorem dX6_weighs_7 : decode cX6_weighs 7 = .ok (.iload_n 2, 1) := by decide +kernel
theorem dX6_weighs_8 : decode cX6_weighs 8 = .ok (.iload_n 1, 1) := by decide +kernel
theorem dX6_weighs_9 : decode cX6_weighs 9 = .ok (.iconst (-1), 1) := by decide +kernel
theorem dX6_weighs_10 : decode cX6_weighs 10 = .ok (.ixor, 1) := by decide +kernel
theorem dX6_weighs_11 : decode cX6_weighs 11 = .ok (.iand, 1) := by decide +kernel
theorem dX6_weighs_12 : decode cX6_weighs 12 = .ok (.ifCond .eq 6, 3) := by decide +kernel
theorem dX6_weighs_15 : decode cX6_weighs 15 = .ok (.goto 161, 3) := by decide +kernel
theorem dX6_weighs_18 : decode cX6_weighs 18 = .ok (.iconst 0, 1) := by decide +kernel
theorem dX6_weighs_19 : decode cX6_weighs 19 = .ok (.istore_n 3, 1) := by decide +kernel
theorem dX6_weighs_20 : decode cX6_weighs 20 = .ok (.iload_n 3, 1) := by decide +kernel
theorem dX6_weighs_21 : decode cX6_weighs 21 = .ok (.bipush 12, 2) := by decide +kernel
theorem dX6_weighs_23 : decode cX6_weighs 23 = .ok (.if_icmp .ge 153, 3) := by decide +kernel
theorem dX6_weighs_26 : decode cX6_weighs 26 = .ok (.iload_n 2, 1) := by decide +kernel
theorem dX6_weighs_27 : decode cX6_weighs 27 = .ok (.ifCond .ne 16, 3) := by decide +kernel
theorem dX6_weighs_30 : decode cX6_weighs 30 = .ok (.aload_n 0, 1) := by decide +kernel
theorem dX6_weighs_31 : decode cX6_weighs 31 = .ok (.iload_n 3, 1) := by decide +kernel
theorem dX6_weighs_32 : decode cX6_weighs 32 = .ok (.iconst 0, 1) := by decide +kernel
theorem dX6_weighs_33 : decode cX6_weighs 33 = .ok (.invokevirtual 195, 3) := by decide +kernel
theorem dX6_weighs_36 : decode cX6_weighs 36 = .ok (.ifCond .ne 7, 3) := by decide +kernel
theorem dX6_weighs_39 : decode cX6_weighs 39 = .ok (.iconst 0, 1) := by decide +kernel
theorem dX6_weighs_40 : decode cX6_weighs 40 = .ok (.goto 5, 3) := by decide +kernel
theorem dX6_weighs_43 : decode cX6_weighs 43 = .ok (.ldc 164, 2) := by decide +kernel
theorem dX6_weighs_45 : decode cX6_weighs 45 = .ok (.istore 4, 2) := by decide +kernel
theorem dX6_weighs_47 : decode cX6_weighs 47 = .ok (.iconst 0, 1) := by decide +kernel
theorem dX6_weighs_48 : decode cX6_weighs 48 = .ok (.istore 5, 2) := by decide +kernel
theorem dX6_weighs_50 : decode cX6_weighs 50 = .ok (.iload 5, 2) := by decide +kernel
theorem dX6_weighs_52 : decode cX6_weighs 52 = .ok (.bipush 12, 2) := by decide +kernel
theorem dX6_weighs_54 : decode cX6_weighs 54 = .ok (.if_icmp .ge 103, 3) := by decide +kernel
theorem dX6_weighs_57 : decode cX6_weighs 57 = .ok (.iload_n 2, 1) := by decide +kernel
theorem dX6_weighs_58 : decode cX6_weighs 58 = .ok (.iload 5, 2) := by decide +kernel
theorem dX6_weighs_60 : decode cX6_weighs 60 = .ok (.ishr, 1) := by decide +kernel
theorem dX6_weighs_61 : decode cX6_weighs 61 = .ok (.iconst 1, 1) := by decide +kernel
theorem dX6_weighs_62 : decode cX6_weighs 62 = .ok (.iand, 1) := by decide +kernel
theorem dX6_weighs_63 : decode cX6_weighs 63 = .ok (.ifCond .eq 88, 3) := by decide +kernel
theorem dX6_weighs_66 : decode cX6_weighs 66 = .ok (.aload_n 0, 1) := by decide +kernel
theorem dX6_weighs_67 : decode cX6_weighs 67 = .ok (.getfield 93, 3) := by decide +kernel
theorem dX6_weighs_70 : decode cX6_weighs 70 = .ok (.bipush 12, 2) := by decide +kernel
theorem dX6_weighs_72 : decode cX6_weighs 72 = .ok (.iload_n 3, 1) := by decide +kernel
theorem dX6_weighs_73 : decode cX6_weighs 73 = .ok (.imul, 1) := by decide +kernel
theorem dX6_weighs_74 : decode cX6_weighs 74 = .ok (.iload 5, 2) := by decide +kernel
theorem dX6_weighs_76 : decode cX6_weighs 76 = .ok (.iadd, 1) := by decide +kernel
theorem dX6_weighs_77 : decode cX6_weighs 77 = .ok (.iaload, 1) := by decide +kernel
theorem dX6_weighs_78 : decode cX6_weighs 78 = .ok (.ldc 164, 2) := by decide +kernel
theorem dX6_weighs_80 : decode cX6_weighs 80 = .ok (.if_icmp .ne 6, 3) := by decide +kernel
theorem dX6_weighs_83 : decode cX6_weighs 83 = .ok (.goto 68, 3) := by decide +kernel
theorem dX6_weighs_86 : decode cX6_weighs 86 = .ok (.aload_n 0, 1) := by decide +kernel
theorem dX6_weighs_87 : decode cX6_weighs 87 = .ok (.getfield 97, 3) := by decide +kernel
theorem dX6_weighs_90 : decode cX6_weighs 90 = .ok (.bipush 12, 2) := by decide +kernel
theorem dX6_weighs_92 : decode cX6_weighs 92 = .ok (.iload_n 2, 1) := by decide +kernel
theorem dX6_weighs_93 : decode cX6_weighs 93 = .ok (.iconst 1, 1) := by decide +kernel
theorem dX6_weighs_94 : decode cX6_weighs 94 = .ok (.iload 5, 2) := by decide +kernel
theorem dX6_weighs_96 : decode cX6_weighs 96 = .ok (.ishl, 1) := by decide +kernel
theorem dX6_weighs_97 : decode cX6_weighs 97 = .ok (.iconst (-1), 1) := by decide +kernel
theorem dX6_weighs_98 : decode cX6_weighs 98 = .ok (.ixor, 1) := by decide +kernel
theorem dX6_weighs_99 : decode cX6_weighs 99 = .ok (.iand, 1) := by decide +kernel
theorem dX6_weighs_100 : decode cX6_weighs 100 = .ok (.imul, 1) := by decide +kernel
theorem dX6_weighs_101 : decode cX6_weighs 101 = .ok (.iload 5, 2) := by decide +kernel
theorem dX6_weighs_103 : decode cX6_weighs 103 = .ok (.iadd, 1) := by decide +kernel
theorem dX6_weighs_104 : decode cX6_weighs 104 = .ok (.iaload, 1) := by decide +kernel
theorem dX6_weighs_105 : decode cX6_weighs 105 = .ok (.istore 6, 2) := by decide +kernel
theorem dX6_weighs_107 : decode cX6_weighs 107 = .ok (.iload 6, 2) := by decide +kernel
theorem dX6_weighs_109 : decode cX6_weighs 109 = .ok (.ldc 164, 2) := by decide +kernel
theorem dX6_weighs_111 : decode cX6_weighs 111 = .ok (.if_icmp .ge 40, 3) := by decide +kernel
theorem dX6_weighs_114 : decode cX6_weighs 114 = .ok (.iload 6, 2) := by decide +kernel
theorem dX6_weighs_116 : decode cX6_weighs 116 = .ok (.aload_n 0, 1) := by decide +kernel
theorem dX6_weighs_117 : decode cX6_weighs 117 = .ok (.getfield 93, 3) := by decide +kernel
theorem dX6_weighs_120 : decode cX6_weighs 120 = .ok (.bipush 12, 2) := by decide +kernel
theorem dX6_weighs_122 : decode cX6_weighs 122 = .ok (.iload_n 3, 1) := by decide +kernel
theorem dX6_weighs_123 : decode cX6_weighs 123 = .ok (.imul, 1) := by decide +kernel
theorem dX6_weighs_124 : decode cX6_weighs 124 = .ok (.iload 5, 2) := by decide +kernel
theorem dX6_weighs_126 : decode cX6_weighs 126 = .ok (.iadd, 1) := by decide +kernel
theorem dX6_weighs_127 : decode cX6_weighs 127 = .ok (.iaload, 1) := by decide +kernel
theorem dX6_weighs_128 : decode cX6_weighs 128 = .ok (.iadd, 1) := by decide +kernel
theorem dX6_weighs_129 : decode cX6_weighs 129 = .ok (.iload 4, 2) := by decide +kernel
theorem dX6_weighs_131 : decode cX6_weighs 131 = .ok (.if_icmp .ge 20, 3) := by decide +kernel
theorem dX6_weighs_134 : decode cX6_weighs 134 = .ok (.iload 6, 2) := by decide +kernel
theorem dX6_weighs_136 : decode cX6_weighs 136 = .ok (.aload_n 0, 1) := by decide +kernel
theorem dX6_weighs_137 : decode cX6_weighs 137 = .ok (.getfield 93, 3) := by decide +kernel
theorem dX6_weighs_140 : decode cX6_weighs 140 = .ok (.bipush 12, 2) := by decide +kernel
theorem dX6_weighs_142 : decode cX6_weighs 142 = .ok (.iload_n 3, 1) := by decide +kernel
theorem dX6_weighs_143 : decode cX6_weighs 143 = .ok (.imul, 1) := by decide +kernel
theorem dX6_weighs_144 : decode cX6_weighs 144 = .ok (.iload 5, 2) := by decide +kernel
theorem dX6_weighs_146 : decode cX6_weighs 146 = .ok (.iadd, 1) := by decide +kernel
theorem dX6_weighs_147 : decode cX6_weighs 147 = .ok (.iaload, 1) := by decide +kernel
theorem dX6_weighs_148 : decode cX6_weighs 148 = .ok (.iadd, 1) := by decide +kernel
theorem dX6_weighs_149 : decode cX6_weighs 149 = .ok (.istore 4, 2) := by decide +kernel
theorem dX6_weighs_151 : decode cX6_weighs 151 = .ok (.iinc 5 1, 3) := by decide +kernel
theorem dX6_weighs_154 : decode cX6_weighs 154 = .ok (.goto (-104), 3) := by decide +kernel
theorem dX6_weighs_157 : decode cX6_weighs 157 = .ok (.aload_n 0, 1) := by decide +kernel
theorem dX6_weighs_158 : decode cX6_weighs 158 = .ok (.getfield 97, 3) := by decide +kernel
theorem dX6_weighs_161 : decode cX6_weighs 161 = .ok (.bipush 12, 2) := by decide +kernel
theorem dX6_weighs_163 : decode cX6_weighs 163 = .ok (.iload_n 2, 1) := by decide +kernel
theorem dX6_weighs_164 : decode cX6_weighs 164 = .ok (.imul, 1) := by decide +kernel
theorem dX6_weighs_165 : decode cX6_weighs 165 = .ok (.iload_n 3, 1) := by decide +kernel
theorem dX6_weighs_166 : decode cX6_weighs 166 = .ok (.iadd, 1) := by decide +kernel
theorem dX6_weighs_167 : decode cX6_weighs 167 = .ok (.iload 4, 2) := by decide +kernel
theorem dX6_weighs_169 : decode cX6_weighs 169 = .ok (.iastore, 1) := by decide +kernel
theorem dX6_weighs_170 : decode cX6_weighs 170 = .ok (.iinc 3 1, 3) := by decide +kernel
theorem dX6_weighs_173 : decode cX6_weighs 173 = .ok (.goto (-153), 3) := by decide +kernel
theorem dX6_weighs_176 : decode cX6_weighs 176 = .ok (.iinc 2 1, 3) := by decide +kernel
theorem dX6_weighs_179 : decode cX6_weighs 179 = .ok (.goto (-177), 3) := by decide +kernel
theorem dX6_weighs_182 : decode cX6_weighs 182 = .ok (.return_, 1) := by decide +kernel
set_option maxRecDepth 20000 in
theorem ggX6_night_X6_there : GoodIn wsX6_night wsX6_there := goodIn_r _ [10, 11, 102, 103, 104, 105, 106, 107, 108, 109, 110, 111, 112, 113, 114, 115, 116, 117, 118, 119, 120, 121, 122, 123, 124, 125, 126, 127, 128, 129, 130, 131, 132, 133, 134, 135, 136, 137] (by decide +kernel) (by decide +kernel)
set_option maxRecDepth 20000 in
theorem gX6_night_X6_there : GoodIn wsX6_night (wsV RX6 199 RX6 yX6_there wsX6_there) := goodIn_app (goodIn_of _ (by decide +kernel)) ggX6_night_X6_there
set_option maxRecDepth 20000 in
theorem ggX6_night_X6_edges : GoodIn wsX6_night wsX6_edges := goodIn_r _ [15, 5, 1, 11, 16, 17, 18, 19, 9, 20, 21, 22, 23, 24, 25, 26, 27, 28, 29, 30, 31, 32, 33, 34, 35, 36, 37, 38, 39, 40, 41, 42, 43, 44, 45, 46, 47, 48, 49, 50, 51, 52, 53, 54, 55, 56, 57, 58, 59, 60, 61, 62, 63, 64, 65, 66, 67, 68, 69, 70, 71, 72, 73, 74, 75, 76, 77, 78, 79, 80, 81, 82, 83, 84, 85, 86, 87, 88, 89, 90, 91, 92, 93, 102, 103, 104, 105, 106, 107, 108, 109, 110, 111, 112, 113, 114, 115, 116, 117, 118, 119, 120, 121, 122, 123, 124, 125, 126, 127, 128, 129, 130, 131, 132, 133, 134, 135, 136, 137] (by decide +kernel) (by decide +kernel)
set_option maxRecDepth 20000 in
theorem gX6_night_X6_edges : GoodIn wsX6_night (wsV RX6 203 RX6 yX6_edges wsX6_edges) := goodIn_app (goodIn_of _ (by decide +kernel)) ggX6_night_X6_edges
set_option maxRecDepth 20000 in
theorem ggX6_night_X6_weighs : GoodIn wsX6_night wsX6_weighs := goodIn_r _ [97, 1, 5, 2, 98, 99, 100, 9, 101, 16, 102, 103, 104, 105, 106, 107, 108, 109, 110, 111, 112, 113, 114, 115, 116, 117, 118, 119, 120, 121, 122, 123, 124, 125, 126, 127, 128, 129, 130, 131, 132, 133, 134, 135, 136, 137] (by decide +kernel) (by decide +kernel)
set_option maxRecDepth 20000 in
theorem gX6_night_X6_weighs : GoodIn wsX6_night (wsV RX6 206 RX6 yX6_weighs wsX6_weighs) := goodIn_app (goodIn_of _ (by decide +kernel)) ggX6_night_X6_weighs
set_option maxRecDepth 20000 in
theorem ggX6_night_X6_isBound : GoodIn wsX6_night wsX6_isBound := goodIn_r _ [101, 16, 102, 103, 104, 105, 106, 107, 108, 109, 110, 111, 112, 113, 114, 115, 116, 117, 118, 119, 120, 121, 122, 123, 124, 125, 126, 127, 128, 129, 130, 131, 132, 133, 134, 135, 136, 137] (by decide +kernel) (by decide +kernel)
set_option maxRecDepth 20000 in
theorem gX6_night_X6_isBound : GoodIn wsX6_night (wsV RX6 195 RX6 yX6_isBound wsX6_isBound) := goodIn_app (goodIn_of _ (by decide +kernel)) ggX6_night_X6_isBound
theorem dX6_night_0 : decode cX6_night 0 = .ok (.aload_n 0, 1) := by decide +kernel
theorem dX6_night_1 : decode cX6_night 1 = .ok (.invokevirtual 199, 3) := by decide +kernel
theorem dX6_night_4 : decode cX6_night 4 = .ok (.istore_n 2, 1) := by decide +kernel
theorem dX6_night_5 : decode cX6_night 5 = .ok (.iload_n 1, 1) := by decide +kernel
theorem dX6_night_6 : decode cX6_night 6 = .ok (.iconst 1, 1) := by decide +kernel
theorem dX6_night_7 : decode cX6_night 7 = .ok (.if_icmp .lt 13, 3) := by decide +kernel
theorem dX6_night_10 : decode cX6_night 10 = .ok (.iload_n 1, 1) := by decide +kernel
theorem dX6_night_11 : decode cX6_night 11 = .ok (.bipush 8, 2) := by decide +kernel
theorem dX6_night_13 : decode cX6_night 13 = .ok (.if_icmp .gt 7, 3) := by decide +kernel
theorem dX6_night_16 : decode cX6_night 16 = .ok (.iload_n 2, 1) := by decide +kernel
theorem dX6_night_17 : decode cX6_night 17 = .ok (.ifCond .ne 5, 3) := by decide +kernel
theorem dX6_night_20 : decode cX6_night 20 = .ok (.iconst (-1), 1) := by decide +kernel
theorem dX6_night_21 : decode cX6_night 21 = .ok (.ireturn, 1) := by decide +kernel
theorem dX6_night_22 : decode cX6_night 22 = .ok (.aload_n 0, 1) := by decide +kernel
theorem dX6_night_23 : decode cX6_night 23 = .ok (.iload_n 1, 1) := by decide +kernel
theorem dX6_night_24 : decode cX6_night 24 = .ok (.invokevirtual 203, 3) := by decide +kernel
theorem dX6_night_27 : decode cX6_night 27 = .ok (.aload_n 0, 1) := by decide +kernel
theorem dX6_night_28 : decode cX6_night 28 = .ok (.iload_n 2, 1) := by decide +kernel
theorem dX6_night_29 : decode cX6_night 29 = .ok (.invokevirtual 206, 3) := by decide +kernel
theorem dX6_night_32 : decode cX6_night 32 = .ok (.ldc 164, 2) := by decide +kernel
theorem dX6_night_34 : decode cX6_night 34 = .ok (.istore_n 3, 1) := by decide +kernel
theorem dX6_night_35 : decode cX6_night 35 = .ok (.iconst (-1), 1) := by decide +kernel
theorem dX6_night_36 : decode cX6_night 36 = .ok (.istore 4, 2) := by decide +kernel
theorem dX6_night_38 : decode cX6_night 38 = .ok (.iconst 0, 1) := by decide +kernel
theorem dX6_night_39 : decode cX6_night 39 = .ok (.istore 5, 2) := by decide +kernel
theorem dX6_night_41 : decode cX6_night 41 = .ok (.iload 5, 2) := by decide +kernel
theorem dX6_night_43 : decode cX6_night 43 = .ok (.bipush 12, 2) := by decide +kernel
theorem dX6_night_45 : decode cX6_night 45 = .ok (.if_icmp .ge 78, 3) := by decide +kernel
theorem dX6_night_48 : decode cX6_night 48 = .ok (.iload_n 2, 1) := by decide +kernel
theorem dX6_night_49 : decode cX6_night 49 = .ok (.iload 5, 2) := by decide +kernel
theorem dX6_night_51 : decode cX6_night 51 = .ok (.ishr, 1) := by decide +kernel
theorem dX6_night_52 : decode cX6_night 52 = .ok (.iconst 1, 1) := by decide +kernel
theorem dX6_night_53 : decode cX6_night 53 = .ok (.iand, 1) := by decide +kernel
theorem dX6_night_54 : decode cX6_night 54 = .ok (.ifCond .eq 63, 3) := by decide +kernel
theorem dX6_night_57 : decode cX6_night 57 = .ok (.aload_n 0, 1) := by decide +kernel
theorem dX6_night_58 : decode cX6_night 58 = .ok (.iload 5, 2) := by decide +kernel
theorem dX6_night_60 : decode cX6_night 60 = .ok (.iconst 1, 1) := by decide +kernel
theorem dX6_night_61 : decode cX6_night 61 = .ok (.invokevirtual 195, 3) := by decide +kernel
theorem dX6_night_64 : decode cX6_night 64 = .ok (.ifCond .ne 53, 3) := by decide +kernel
theorem dX6_night_67 : decode cX6_night 67 = .ok (.aload_n 0, 1) := by decide +kernel
theorem dX6_night_68 : decode cX6_night 68 = .ok (.getfield 97, 3) := by decide +kernel
theorem dX6_night_71 : decode cX6_night 71 = .ok (.bipush 12, 2) := by decide +kernel
theorem dX6_night_73 : decode cX6_night 73 = .ok (.iload_n 2, 1) := by decide +kernel
theorem dX6_night_74 : decode cX6_night 74 = .ok (.iconst 1, 1) := by decide +kernel
theorem dX6_night_75 : decode cX6_night 75 = .ok (.iload 5, 2) := by decide +kernel
theorem dX6_night_77 : decode cX6_night 77 = .ok (.ishl, 1) := by decide +kernel
theorem dX6_night_78 : decode cX6_night 78 = .ok (.iconst (-1), 1) := by decide +kernel
theorem dX6_night_79 : decode cX6_night 79 = .ok (.ixor, 1) := by decide +kernel
theorem dX6_night_80 : decode cX6_night 80 = .ok (.iand, 1) := by decide +kernel
theorem dX6_night_81 : decode cX6_night 81 = .ok (.imul, 1) := by decide +kernel
theorem dX6_night_82 : decode cX6_night 82 = .ok (.iload 5, 2) := by decide +kernel
theorem dX6_night_84 : decode cX6_night 84 = .ok (.iadd, 1) := by decide +kernel
theorem dX6_night_85 : decode cX6_night 85 = .ok (.iaload, 1) := by decide +kernel
theorem dX6_night_86 : decode cX6_night 86 = .ok (.iload_n 3, 1) := by decide +kernel
theorem dX6_night_87 : decode cX6_night 87 = .ok (.if_icmp .lt 6, 3) := by decide +kernel
theorem dX6_night_90 : decode cX6_night 90 = .ok (.goto 27, 3) := by decide +kernel
theorem dX6_night_93 : decode cX6_night 93 = .ok (.aload_n 0, 1) := by decide +kernel
theorem dX6_night_94 : decode cX6_night 94 = .ok (.getfield 97, 3) := by decide +kernel
theorem dX6_night_97 : decode cX6_night 97 = .ok (.bipush 12, 2) := by decide +kernel
theorem dX6_night_99 : decode cX6_night 99 = .ok (.iload_n 2, 1) := by decide +kernel
theorem dX6_night_100 : decode cX6_night 100 = .ok (.iconst 1, 1) := by decide +kernel
theorem dX6_night_101 : decode cX6_night 101 = .ok (.iload 5, 2) := by decide +kernel
theorem dX6_night_103 : decode cX6_night 103 = .ok (.ishl, 1) := by decide +kernel
theorem dX6_night_104 : decode cX6_night 104 = .ok (.iconst (-1), 1) := by decide +kernel
theorem dX6_night_105 : decode cX6_night 105 = .ok (.ixor, 1) := by decide +kernel
theorem dX6_night_106 : decode cX6_night 106 = .ok (.iand, 1) := by decide +kernel
theorem dX6_night_107 : decode cX6_night 107 = .ok (.imul, 1) := by decide +kernel
theorem dX6_night_108 : decode cX6_night 108 = .ok (.iload 5, 2) := by decide +kernel
theorem dX6_night_110 : decode cX6_night 110 = .ok (.iadd, 1) := by decide +kernel
theorem dX6_night_111 : decode cX6_night 111 = .ok (.iaload, 1) := by decide +kernel
theorem dX6_night_112 : decode cX6_night 112 = .ok (.istore_n 3, 1) := by decide +kernel
theorem dX6_night_113 : decode cX6_night 113 = .ok (.iload 5, 2) := by decide +kernel
theorem dX6_night_115 : decode cX6_night 115 = .ok (.istore 4, 2) := by decide +kernel
theorem dX6_night_117 : decode cX6_night 117 = .ok (.iinc 5 1, 3) := by decide +kernel
theorem dX6_night_120 : decode cX6_night 120 = .ok (.goto (-79), 3) := by decide +kernel
theorem dX6_night_123 : decode cX6_night 123 = .ok (.iload 4, 2) := by decide +kernel
theorem dX6_night_125 : decode cX6_night 125 = .ok (.iconst (-1), 1) := by decide +kernel
theorem dX6_night_126 : decode cX6_night 126 = .ok (.if_icmp .ne 6, 3) := by decide +kernel
theorem dX6_night_129 : decode cX6_night 129 = .ok (.bipush (-2), 2) := by decide +kernel
theorem dX6_night_131 : decode cX6_night 131 = .ok (.ireturn, 1) := by decide +kernel
theorem dX6_night_132 : decode cX6_night 132 = .ok (.aload_n 0, 1) := by decide +kernel
theorem dX6_night_133 : decode cX6_night 133 = .ok (.iconst 0, 1) := by decide +kernel
theorem dX6_night_134 : decode cX6_night 134 = .ok (.putfield 209, 3) := by decide +kernel
theorem dX6_night_137 : decode cX6_night 137 = .ok (.iload_n 2, 1) := by decide +kernel
theorem dX6_night_138 : decode cX6_night 138 = .ok (.iconst 1, 1) := by decide +kernel
theorem dX6_night_139 : decode cX6_night 139 = .ok (.iload 4, 2) := by decide +kernel
theorem dX6_night_141 : decode cX6_night 141 = .ok (.ishl, 1) := by decide +kernel
theorem dX6_night_142 : decode cX6_night 142 = .ok (.iconst (-1), 1) := by decide +kernel
theorem dX6_night_143 : decode cX6_night 143 = .ok (.ixor, 1) := by decide +kernel
theorem dX6_night_144 : decode cX6_night 144 = .ok (.iand, 1) := by decide +kernel
theorem dX6_night_145 : decode cX6_night 145 = .ok (.istore 5, 2) := by decide +kernel
theorem dX6_night_147 : decode cX6_night 147 = .ok (.aload_n 0, 1) := by decide +kernel
theorem dX6_night_148 : decode cX6_night 148 = .ok (.getfield 100, 3) := by decide +kernel
theorem dX6_night_151 : decode cX6_night 151 = .ok (.aload_n 0, 1) := by decide +kernel
theorem dX6_night_152 : decode cX6_night 152 = .ok (.getfield 209, 3) := by decide +kernel
theorem dX6_night_155 : decode cX6_night 155 = .ok (.iload 4, 2) := by decide +kernel
theorem dX6_night_157 : decode cX6_night 157 = .ok (.iastore, 1) := by decide +kernel
theorem dX6_night_158 : decode cX6_night 158 = .ok (.aload_n 0, 1) := by decide +kernel
theorem dX6_night_159 : decode cX6_night 159 = .ok (.dup, 1) := by decide +kernel
theorem dX6_night_160 : decode cX6_night 160 = .ok (.getfield 209, 3) := by decide +kernel
theorem dX6_night_163 : decode cX6_night 163 = .ok (.iconst 1, 1) := by decide +kernel
theorem dX6_night_164 : decode cX6_night 164 = .ok (.iadd, 1) := by decide +kernel
theorem dX6_night_165 : decode cX6_night 165 = .ok (.putfield 209, 3) := by decide +kernel
theorem dX6_night_168 : decode cX6_night 168 = .ok (.iload 5, 2) := by decide +kernel
theorem dX6_night_170 : decode cX6_night 170 = .ok (.ifCond .eq 163, 3) := by decide +kernel
theorem dX6_night_173 : decode cX6_night 173 = .ok (.iconst (-1), 1) := by decide +kernel
theorem dX6_night_174 : decode cX6_night 174 = .ok (.istore 6, 2) := by decide +kernel
theorem dX6_night_176 : decode cX6_night 176 = .ok (.iconst 0, 1) := by decide +kernel
theorem dX6_night_177 : decode cX6_night 177 = .ok (.istore 7, 2) := by decide +kernel
theorem dX6_night_179 : decode cX6_night 179 = .ok (.iload 7, 2) := by decide +kernel
theorem dX6_night_181 : decode cX6_night 181 = .ok (.bipush 12, 2) := by decide +kernel
theorem dX6_night_183 : decode cX6_night 183 = .ok (.if_icmp .ge 111, 3) := by decide +kernel
theorem dX6_night_186 : decode cX6_night 186 = .ok (.iload 6, 2) := by decide +kernel
theorem dX6_night_188 : decode cX6_night 188 = .ok (.iconst (-1), 1) := by decide +kernel
theorem dX6_night_189 : decode cX6_night 189 = .ok (.if_icmp .ne 105, 3) := by decide +kernel
theorem dX6_night_192 : decode cX6_night 192 = .ok (.iload 5, 2) := by decide +kernel
theorem dX6_night_194 : decode cX6_night 194 = .ok (.iload 7, 2) := by decide +kernel
theorem dX6_night_196 : decode cX6_night 196 = .ok (.ishr, 1) := by decide +kernel
theorem dX6_night_197 : decode cX6_night 197 = .ok (.iconst 1, 1) := by decide +kernel
theorem dX6_night_198 : decode cX6_night 198 = .ok (.iand, 1) := by decide +kernel
theorem dX6_night_199 : decode cX6_night 199 = .ok (.ifCond .eq 89, 3) := by decide +kernel
theorem dX6_night_202 : decode cX6_night 202 = .ok (.aload_n 0, 1) := by decide +kernel
theorem dX6_night_203 : decode cX6_night 203 = .ok (.getfield 93, 3) := by decide +kernel
theorem dX6_night_206 : decode cX6_night 206 = .ok (.bipush 12, 2) := by decide +kernel
theorem dX6_night_208 : decode cX6_night 208 = .ok (.iload 4, 2) := by decide +kernel
theorem dX6_night_210 : decode cX6_night 210 = .ok (.imul, 1) := by decide +kernel
theorem dX6_night_211 : decode cX6_night 211 = .ok (.iload 7, 2) := by decide +kernel
theorem dX6_night_213 : decode cX6_night 213 = .ok (.iadd, 1) := by decide +kernel
theorem dX6_night_214 : decode cX6_night 214 = .ok (.iaload, 1) := by decide +kernel
theorem dX6_night_215 : decode cX6_night 215 = .ok (.ldc 164, 2) := by decide +kernel
theorem dX6_night_217 : decode cX6_night 217 = .ok (.if_icmp .ne 6, 3) := by decide +kernel
theorem dX6_night_220 : decode cX6_night 220 = .ok (.goto 68, 3) := by decide +kernel
theorem dX6_night_223 : decode cX6_night 223 = .ok (.aload_n 0, 1) := by decide +kernel
theorem dX6_night_224 : decode cX6_night 224 = .ok (.getfield 97, 3) := by decide +kernel
theorem dX6_night_227 : decode cX6_night 227 = .ok (.bipush 12, 2) := by decide +kernel
theorem dX6_night_229 : decode cX6_night 229 = .ok (.iload 5, 2) := by decide +kernel
theorem dX6_night_231 : decode cX6_night 231 = .ok (.iconst 1, 1) := by decide +kernel
theorem dX6_night_232 : decode cX6_night 232 = .ok (.iload 7, 2) := by decide +kernel
theorem dX6_night_234 : decode cX6_night 234 = .ok (.ishl, 1) := by decide +kernel
theorem dX6_night_235 : decode cX6_night 235 = .ok (.iconst (-1), 1) := by decide +kernel
theorem dX6_night_236 : decode cX6_night 236 = .ok (.ixor, 1) := by decide +kernel
theorem dX6_night_237 : decode cX6_night 237 = .ok (.iand, 1) := by decide +kernel
theorem dX6_night_238 : decode cX6_night 238 = .ok (.imul, 1) := by decide +kernel
theorem dX6_night_239 : decode cX6_night 239 = .ok (.iload 7, 2) := by decide +kernel
theorem dX6_night_241 : decode cX6_night 241 = .ok (.iadd, 1) := by decide +kernel
theorem dX6_night_242 : decode cX6_night 242 = .ok (.iaload, 1) := by decide +kernel
theorem dX6_night_243 : decode cX6_night 243 = .ok (.istore 8, 2) := by decide +kernel
theorem dX6_night_245 : decode cX6_night 245 = .ok (.iload 8, 2) := by decide +kernel
theorem dX6_night_247 : decode cX6_night 247 = .ok (.ldc 164, 2) := by decide +kernel
theorem dX6_night_249 : decode cX6_night 249 = .ok (.if_icmp .ge 39, 3) := by decide +kernel
theorem dX6_night_252 : decode cX6_night 252 = .ok (.iload 8, 2) := by decide +kernel
theorem dX6_night_254 : decode cX6_night 254 = .ok (.aload_n 0, 1) := by decide +kernel
theorem dX6_night_255 : decode cX6_night 255 = .ok (.getfield 93, 3) := by decide +kernel
theorem dX6_night_258 : decode cX6_night 258 = .ok (.bipush 12, 2) := by decide +kernel
theorem dX6_night_260 : decode cX6_night 260 = .ok (.iload 4, 2) := by decide +kernel
theorem dX6_night_262 : decode cX6_night 262 = .ok (.imul, 1) := by decide +kernel
theorem dX6_night_263 : decode cX6_night 263 = .ok (.iload 7, 2) := by decide +kernel
theorem dX6_night_265 : decode cX6_night 265 = .ok (.iadd, 1) := by decide +kernel
theorem dX6_night_266 : decode cX6_night 266 = .ok (.iaload, 1) := by decide +kernel
theorem dX6_night_267 : decode cX6_night 267 = .ok (.iadd, 1) := by decide +kernel
theorem dX6_night_268 : decode cX6_night 268 = .ok (.aload_n 0, 1) := by decide +kernel
theorem dX6_night_269 : decode cX6_night 269 = .ok (.getfield 97, 3) := by decide +kernel
theorem dX6_night_272 : decode cX6_night 272 = .ok (.bipush 12, 2) := by decide +kernel
theorem dX6_night_274 : decode cX6_night 274 = .ok (.iload 5, 2) := by decide +kernel
theorem dX6_night_276 : decode cX6_night 276 = .ok (.imul, 1) := by decide +kernel
theorem dX6_night_277 : decode cX6_night 277 = .ok (.iload 4, 2) := by decide +kernel
theorem dX6_night_279 : decode cX6_night 279 = .ok (.iadd, 1) := by decide +kernel
theorem dX6_night_280 : decode cX6_night 280 = .ok (.iaload, 1) := by decide +kernel
theorem dX6_night_281 : decode cX6_night 281 = .ok (.if_icmp .ne 7, 3) := by decide +kernel
theorem dX6_night_284 : decode cX6_night 284 = .ok (.iload 7, 2) := by decide +kernel
theorem dX6_night_286 : decode cX6_night 286 = .ok (.istore 6, 2) := by decide +kernel
theorem dX6_night_288 : decode cX6_night 288 = .ok (.iinc 7 1, 3) := by decide +kernel
theorem dX6_night_291 : decode cX6_night 291 = .ok (.goto (-112), 3) := by decide +kernel
theorem dX6_night_294 : decode cX6_night 294 = .ok (.iload 6, 2) := by decide +kernel
theorem dX6_night_296 : decode cX6_night 296 = .ok (.istore 4, 2) := by decide +kernel
theorem dX6_night_298 : decode cX6_night 298 = .ok (.iload 5, 2) := by decide +kernel
theorem dX6_night_300 : decode cX6_night 300 = .ok (.iconst 1, 1) := by decide +kernel
theorem dX6_night_301 : decode cX6_night 301 = .ok (.iload 4, 2) := by decide +kernel
theorem dX6_night_303 : decode cX6_night 303 = .ok (.ishl, 1) := by decide +kernel
theorem dX6_night_304 : decode cX6_night 304 = .ok (.iconst (-1), 1) := by decide +kernel
theorem dX6_night_305 : decode cX6_night 305 = .ok (.ixor, 1) := by decide +kernel
theorem dX6_night_306 : decode cX6_night 306 = .ok (.iand, 1) := by decide +kernel
theorem dX6_night_307 : decode cX6_night 307 = .ok (.istore 5, 2) := by decide +kernel
theorem dX6_night_309 : decode cX6_night 309 = .ok (.aload_n 0, 1) := by decide +kernel
theorem dX6_night_310 : decode cX6_night 310 = .ok (.getfield 100, 3) := by decide +kernel
theorem dX6_night_313 : decode cX6_night 313 = .ok (.aload_n 0, 1) := by decide +kernel
theorem dX6_night_314 : decode cX6_night 314 = .ok (.getfield 209, 3) := by decide +kernel
theorem dX6_night_317 : decode cX6_night 317 = .ok (.iload 4, 2) := by decide +kernel
theorem dX6_night_319 : decode cX6_night 319 = .ok (.iastore, 1) := by decide +kernel
theorem dX6_night_320 : decode cX6_night 320 = .ok (.aload_n 0, 1) := by decide +kernel
theorem dX6_night_321 : decode cX6_night 321 = .ok (.dup, 1) := by decide +kernel
theorem dX6_night_322 : decode cX6_night 322 = .ok (.getfield 209, 3) := by decide +kernel
theorem dX6_night_325 : decode cX6_night 325 = .ok (.iconst 1, 1) := by decide +kernel
theorem dX6_night_326 : decode cX6_night 326 = .ok (.iadd, 1) := by decide +kernel
theorem dX6_night_327 : decode cX6_night 327 = .ok (.putfield 209, 3) := by decide +kernel
theorem dX6_night_330 : decode cX6_night 330 = .ok (.goto (-162), 3) := by decide +kernel
theorem dX6_night_333 : decode cX6_night 333 = .ok (.iload_n 3, 1) := by decide +kernel
theorem dX6_night_334 : decode cX6_night 334 = .ok (.ireturn, 1) := by decide +kernel
theorem dX6_order_0 : decode cX6_order 0 = .ok (.iload_n 1, 1) := by decide +kernel
theorem dX6_order_1 : decode cX6_order 1 = .ok (.ifCond .lt 20, 3) := by decide +kernel
theorem dX6_order_4 : decode cX6_order 4 = .ok (.iload_n 1, 1) := by decide +kernel
theorem dX6_order_5 : decode cX6_order 5 = .ok (.aload_n 0, 1) := by decide +kernel
theorem dX6_order_6 : decode cX6_order 6 = .ok (.getfield 209, 3) := by decide +kernel
theorem dX6_order_9 : decode cX6_order 9 = .ok (.if_icmp .ge 12, 3) := by decide +kernel
theorem dX6_order_12 : decode cX6_order 12 = .ok (.aload_n 0, 1) := by decide +kernel
theorem dX6_order_13 : decode cX6_order 13 = .ok (.getfield 100, 3) := by decide +kernel
theorem dX6_order_16 : decode cX6_order 16 = .ok (.iload_n 1, 1) := by decide +kernel
theorem dX6_order_17 : decode cX6_order 17 = .ok (.iaload, 1) := by decide +kernel
theorem dX6_order_18 : decode cX6_order 18 = .ok (.goto 4, 3) := by decide +kernel
theorem dX6_order_21 : decode cX6_order 21 = .ok (.iconst (-1), 1) := by decide +kernel
theorem dX6_order_22 : decode cX6_order 22 = .ok (.ireturn, 1) := by decide +kernel
set_option maxRecDepth 20000 in
theorem ggX6_mend_X6_size : GoodIn wsX6_mend wsX6_size := goodIn_r _ [7] (by decide +kernel) (by decide +kernel)
set_option maxRecDepth 20000 in
theorem gX6_mend_X6_size : GoodIn wsX6_mend (va_wsS RX6 144 yX6_size wsX6_size) := goodIn_app (goodIn_of _ (by decide +kernel)) ggX6_mend_X6_size
theorem dX6_mend_0 : decode cX6_mend 0 = .ok (.iload_n 1, 1) := by decide +kernel
theorem dX6_mend_1 : decode cX6_mend 1 = .ok (.ldc 212, 2) := by decide +kernel
theorem dX6_mend_3 : decode cX6_mend 3 = .ok (.if_icmp .lt 22, 3) := by decide +kernel
theorem dX6_mend_6 : decode cX6_mend 6 = .ok (.iload_n 1, 1) := by decide +kernel
theorem dX6_mend_7 : decode cX6_mend 7 = .ok (.ldc 213, 2) := by decide +kernel
theorem dX6_mend_9 : decode cX6_mend 9 = .ok (.if_icmp .gt 16, 3) := by decide +kernel
theorem dX6_mend_12 : decode cX6_mend 12 = .ok (.iload_n 2, 1) := by decide +kernel
theorem dX6_mend_13 : decode cX6_mend 13 = .ok (.bipush 20, 2) := by decide +kernel
theorem dX6_mend_15 : decode cX6_mend 15 = .ok (.if_icmp .lt 10, 3) := by decide +kernel
theorem dX6_mend_18 : decode cX6_mend 18 = .ok (.iload_n 2, 1) := by decide +kernel
theorem dX6_mend_19 : decode cX6_mend 19 = .ok (.sipush 400, 3) := by decide +kernel
theorem dX6_mend_22 : decode cX6_mend 22 = .ok (.if_icmp .le 5, 3) := by decide +kernel
theorem dX6_mend_25 : decode cX6_mend 25 = .ok (.iconst (-1), 1) := by decide +kernel
theorem dX6_mend_26 : decode cX6_mend 26 = .ok (.ireturn, 1) := by decide +kernel
theorem dX6_mend_27 : decode cX6_mend 27 = .ok (.iload_n 2, 1) := by decide +kernel
theorem dX6_mend_28 : decode cX6_mend 28 = .ok (.aload_n 0, 1) := by decide +kernel
theorem dX6_mend_29 : decode cX6_mend 29 = .ok (.getfield 59, 3) := by decide +kernel
theorem dX6_mend_32 : decode cX6_mend 32 = .ok (.imul, 1) := by decide +kernel
theorem dX6_mend_33 : decode cX6_mend 33 = .ok (.sipush 1000, 3) := by decide +kernel
theorem dX6_mend_36 : decode cX6_mend 36 = .ok (.idiv, 1) := by decide +kernel
theorem dX6_mend_37 : decode cX6_mend 37 = .ok (.istore_n 3, 1) := by decide +kernel
theorem dX6_mend_38 : decode cX6_mend 38 = .ok (.iload_n 1, 1) := by decide +kernel
theorem dX6_mend_39 : decode cX6_mend 39 = .ok (.ifCond .ne 5, 3) := by decide +kernel
theorem dX6_mend_42 : decode cX6_mend 42 = .ok (.iconst 0, 1) := by decide +kernel
theorem dX6_mend_43 : decode cX6_mend 43 = .ok (.ireturn, 1) := by decide +kernel
theorem dX6_mend_44 : decode cX6_mend 44 = .ok (.iload_n 3, 1) := by decide +kernel
theorem dX6_mend_45 : decode cX6_mend 45 = .ok (.ifCond .ne 5, 3) := by decide +kernel
theorem dX6_mend_48 : decode cX6_mend 48 = .ok (.iconst (-1), 1) := by decide +kernel
theorem dX6_mend_49 : decode cX6_mend 49 = .ok (.ireturn, 1) := by decide +kernel
theorem dX6_mend_50 : decode cX6_mend 50 = .ok (.iload_n 1, 1) := by decide +kernel
theorem dX6_mend_51 : decode cX6_mend 51 = .ok (.invokestatic 144, 3) := by decide +kernel
theorem dX6_mend_54 : decode cX6_mend 54 = .ok (.iload_n 3, 1) := by decide +kernel
theorem dX6_mend_55 : decode cX6_mend 55 = .ok (.iadd, 1) := by decide +kernel
theorem dX6_mend_56 : decode cX6_mend 56 = .ok (.iconst 1, 1) := by decide +kernel
theorem dX6_mend_57 : decode cX6_mend 57 = .ok (.isub, 1) := by decide +kernel
theorem dX6_mend_58 : decode cX6_mend 58 = .ok (.iload_n 3, 1) := by decide +kernel
theorem dX6_mend_59 : decode cX6_mend 59 = .ok (.idiv, 1) := by decide +kernel
theorem dX6_mend_60 : decode cX6_mend 60 = .ok (.istore 4, 2) := by decide +kernel
theorem dX6_mend_62 : decode cX6_mend 62 = .ok (.iload 4, 2) := by decide +kernel
theorem dX6_mend_64 : decode cX6_mend 64 = .ok (.iconst 3, 1) := by decide +kernel
theorem dX6_mend_65 : decode cX6_mend 65 = .ok (.iadd, 1) := by decide +kernel
theorem dX6_mend_66 : decode cX6_mend 66 = .ok (.iconst 4, 1) := by decide +kernel
theorem dX6_mend_67 : decode cX6_mend 67 = .ok (.idiv, 1) := by decide +kernel
theorem dX6_mend_68 : decode cX6_mend 68 = .ok (.ireturn, 1) := by decide +kernel
