section
-- ===== PART A: goes FIRST, ahead of the names: the tables' words, and 'selects' of the private methods out of them =====
/-- a private method of a class that the tables say can be made, by its rows of tables_1 -/
def lw_okq (q : MethodName × Nat) : Prop := (q.1.cls ≠ "java/lang/invoke/MethodHandle" ∧ q.1.cls ≠ "java/lang/invoke/VarHandle") ∧ Cond.instantiable q.1.cls q.2 ∈ tables_1 ∧ Cond.privateMethod q.1 ∈ tables_1 ∧ Cond.instanceMethod q.1 ∈ tables_1
theorem lw_p0 : lw_okq (⟨"MixDesk", "forgetSong", "(I)V"⟩, 6) := ⟨⟨by decide +kernel, by decide +kernel⟩, List.mem_of_getElem? (i := 11) (by decide +kernel), List.mem_of_getElem? (i := 174) (by decide +kernel), List.mem_of_getElem? (i := 175) (by decide +kernel)⟩
theorem lw_p1 : lw_okq (⟨"MixDesk$Song", "layOutBeats", "()V"⟩, 19) := ⟨⟨by decide +kernel, by decide +kernel⟩, List.mem_of_getElem? (i := 184) (by decide +kernel), List.mem_of_getElem? (i := 191) (by decide +kernel), List.mem_of_getElem? (i := 192) (by decide +kernel)⟩
theorem lw_p2 : lw_okq (⟨"MixDesk$Song", "lasting", "(I)I"⟩, 19) := ⟨⟨by decide +kernel, by decide +kernel⟩, List.mem_of_getElem? (i := 184) (by decide +kernel), List.mem_of_getElem? (i := 195) (by decide +kernel), List.mem_of_getElem? (i := 196) (by decide +kernel)⟩
theorem lw_p3 : lw_okq (⟨"MixDesk$Song", "layOutPlayedBars", "()V"⟩, 19) := ⟨⟨by decide +kernel, by decide +kernel⟩, List.mem_of_getElem? (i := 184) (by decide +kernel), List.mem_of_getElem? (i := 208) (by decide +kernel), List.mem_of_getElem? (i := 209) (by decide +kernel)⟩
theorem lw_p4 : lw_okq (⟨"MixDesk$Song", "barPlayed", "(I)I"⟩, 19) := ⟨⟨by decide +kernel, by decide +kernel⟩, List.mem_of_getElem? (i := 184) (by decide +kernel), List.mem_of_getElem? (i := 212) (by decide +kernel), List.mem_of_getElem? (i := 213) (by decide +kernel)⟩
theorem lw_p5 : lw_okq (⟨"MixDesk", "songAt", "(I)LMixDesk$Song;"⟩, 6) := ⟨⟨by decide +kernel, by decide +kernel⟩, List.mem_of_getElem? (i := 11) (by decide +kernel), List.mem_of_getElem? (i := 300) (by decide +kernel), List.mem_of_getElem? (i := 301) (by decide +kernel)⟩
theorem lw_p6 : lw_okq (⟨"MixDesk$Strokes", "chooseNext", "(IIII)V"⟩, 6) := ⟨⟨by decide +kernel, by decide +kernel⟩, List.mem_of_getElem? (i := 21) (by decide +kernel), List.mem_of_getElem? (i := 379) (by decide +kernel), List.mem_of_getElem? (i := 380) (by decide +kernel)⟩
theorem lw_p7 : lw_okq (⟨"MixDesk$Strokes", "keepBeats", "(I)V"⟩, 6) := ⟨⟨by decide +kernel, by decide +kernel⟩, List.mem_of_getElem? (i := 21) (by decide +kernel), List.mem_of_getElem? (i := 391) (by decide +kernel), List.mem_of_getElem? (i := 392) (by decide +kernel)⟩
theorem lw_p8 : lw_okq (⟨"MixDesk$Joins", "seekJoin", "(LMixDesk$Song;LMixDesk$Song;II)V"⟩, 8) := ⟨⟨by decide +kernel, by decide +kernel⟩, List.mem_of_getElem? (i := 47) (by decide +kernel), List.mem_of_getElem? (i := 463) (by decide +kernel), List.mem_of_getElem? (i := 464) (by decide +kernel)⟩
theorem lw_p9 : lw_okq (⟨"MixDesk$Joins", "listLate", "(LMixDesk$Song;I)I"⟩, 8) := ⟨⟨by decide +kernel, by decide +kernel⟩, List.mem_of_getElem? (i := 47) (by decide +kernel), List.mem_of_getElem? (i := 467) (by decide +kernel), List.mem_of_getElem? (i := 468) (by decide +kernel)⟩
theorem lw_p10 : lw_okq (⟨"MixDesk$Joins", "listEarly", "(LMixDesk$Song;I)I"⟩, 8) := ⟨⟨by decide +kernel, by decide +kernel⟩, List.mem_of_getElem? (i := 47) (by decide +kernel), List.mem_of_getElem? (i := 479) (by decide +kernel), List.mem_of_getElem? (i := 480) (by decide +kernel)⟩
theorem lw_p11 : lw_okq (⟨"MixDesk", "weighSteps", "(II)V"⟩, 6) := ⟨⟨by decide +kernel, by decide +kernel⟩, List.mem_of_getElem? (i := 11) (by decide +kernel), List.mem_of_getElem? (i := 497) (by decide +kernel), List.mem_of_getElem? (i := 498) (by decide +kernel)⟩
theorem lw_p12 : lw_okq (⟨"MixDesk", "mustsInto", "(I)I"⟩, 6) := ⟨⟨by decide +kernel, by decide +kernel⟩, List.mem_of_getElem? (i := 11) (by decide +kernel), List.mem_of_getElem? (i := 501) (by decide +kernel), List.mem_of_getElem? (i := 502) (by decide +kernel)⟩
theorem lw_p13 : lw_okq (⟨"MixDesk", "wishAllows", "(II)Z"⟩, 6) := ⟨⟨by decide +kernel, by decide +kernel⟩, List.mem_of_getElem? (i := 11) (by decide +kernel), List.mem_of_getElem? (i := 505) (by decide +kernel), List.mem_of_getElem? (i := 506) (by decide +kernel)⟩
theorem lw_p14 : lw_okq (⟨"MixDesk$Nights", "weighSet", "(I)V"⟩, 8) := ⟨⟨by decide +kernel, by decide +kernel⟩, List.mem_of_getElem? (i := 104) (by decide +kernel), List.mem_of_getElem? (i := 513) (by decide +kernel), List.mem_of_getElem? (i := 514) (by decide +kernel)⟩
theorem lw_p15 : lw_okq (⟨"MixDesk$Nights", "leastNext", "(II)I"⟩, 8) := ⟨⟨by decide +kernel, by decide +kernel⟩, List.mem_of_getElem? (i := 104) (by decide +kernel), List.mem_of_getElem? (i := 517) (by decide +kernel), List.mem_of_getElem? (i := 518) (by decide +kernel)⟩
def lw_privs_1 : List (MethodName × Nat) := [(⟨"MixDesk", "forgetSong", "(I)V"⟩, 6), (⟨"MixDesk$Song", "layOutBeats", "()V"⟩, 19), (⟨"MixDesk$Song", "lasting", "(I)I"⟩, 19), (⟨"MixDesk$Song", "layOutPlayedBars", "()V"⟩, 19), (⟨"MixDesk$Song", "barPlayed", "(I)I"⟩, 19), (⟨"MixDesk", "songAt", "(I)LMixDesk$Song;"⟩, 6), (⟨"MixDesk$Strokes", "chooseNext", "(IIII)V"⟩, 6), (⟨"MixDesk$Strokes", "keepBeats", "(I)V"⟩, 6), (⟨"MixDesk$Joins", "seekJoin", "(LMixDesk$Song;LMixDesk$Song;II)V"⟩, 8), (⟨"MixDesk$Joins", "listLate", "(LMixDesk$Song;I)I"⟩, 8), (⟨"MixDesk$Joins", "listEarly", "(LMixDesk$Song;I)I"⟩, 8), (⟨"MixDesk", "weighSteps", "(II)V"⟩, 6), (⟨"MixDesk", "mustsInto", "(I)I"⟩, 6), (⟨"MixDesk", "wishAllows", "(II)Z"⟩, 6), (⟨"MixDesk$Nights", "weighSet", "(I)V"⟩, 8), (⟨"MixDesk$Nights", "leastNext", "(II)I"⟩, 8)]
theorem lw_r1 : ∀ q ∈ lw_privs_1, lw_okq q := List.forall_mem_cons.mpr ⟨lw_p0, List.forall_mem_cons.mpr ⟨lw_p1, List.forall_mem_cons.mpr ⟨lw_p2, List.forall_mem_cons.mpr ⟨lw_p3, List.forall_mem_cons.mpr ⟨lw_p4, List.forall_mem_cons.mpr ⟨lw_p5, List.forall_mem_cons.mpr ⟨lw_p6, List.forall_mem_cons.mpr ⟨lw_p7, List.forall_mem_cons.mpr ⟨lw_p8, List.forall_mem_cons.mpr ⟨lw_p9, List.forall_mem_cons.mpr ⟨lw_p10, List.forall_mem_cons.mpr ⟨lw_p11, List.forall_mem_cons.mpr ⟨lw_p12, List.forall_mem_cons.mpr ⟨lw_p13, List.forall_mem_cons.mpr ⟨lw_p14, List.forall_mem_cons.mpr ⟨lw_p15, fun _ h => absurd h List.not_mem_nil⟩⟩⟩⟩⟩⟩⟩⟩⟩⟩⟩⟩⟩⟩⟩⟩
theorem lw_p16 : lw_okq (⟨"MixDesk$Nights", "costOver", "(III)I"⟩, 8) := ⟨⟨by decide +kernel, by decide +kernel⟩, List.mem_of_getElem? (i := 104) (by decide +kernel), List.mem_of_getElem? (i := 521) (by decide +kernel), List.mem_of_getElem? (i := 522) (by decide +kernel)⟩
theorem lw_p17 : lw_okq (⟨"MixDesk$Nights", "leastFirst", "()I"⟩, 8) := ⟨⟨by decide +kernel, by decide +kernel⟩, List.mem_of_getElem? (i := 104) (by decide +kernel), List.mem_of_getElem? (i := 525) (by decide +kernel), List.mem_of_getElem? (i := 526) (by decide +kernel)⟩
theorem lw_p18 : lw_okq (⟨"MixDesk$Nights", "keepOrder", "(I)V"⟩, 8) := ⟨⟨by decide +kernel, by decide +kernel⟩, List.mem_of_getElem? (i := 104) (by decide +kernel), List.mem_of_getElem? (i := 529) (by decide +kernel), List.mem_of_getElem? (i := 530) (by decide +kernel)⟩
theorem lw_p19 : lw_okq (⟨"MixDeskModel", "forgets", "(I)V"⟩, 36) := ⟨⟨by decide +kernel, by decide +kernel⟩, List.mem_of_getElem? (i := 543) (by decide +kernel), List.mem_of_getElem? (i := 663) (by decide +kernel), List.mem_of_getElem? (i := 664) (by decide +kernel)⟩
theorem lw_p20 : lw_okq (⟨"MixDeskModel", "isSong", "(I)Z"⟩, 36) := ⟨⟨by decide +kernel, by decide +kernel⟩, List.mem_of_getElem? (i := 543) (by decide +kernel), List.mem_of_getElem? (i := 671) (by decide +kernel), List.mem_of_getElem? (i := 672) (by decide +kernel)⟩
theorem lw_p21 : lw_okq (⟨"MixDeskModel", "playedBars", "(I)I"⟩, 36) := ⟨⟨by decide +kernel, by decide +kernel⟩, List.mem_of_getElem? (i := 543) (by decide +kernel), List.mem_of_getElem? (i := 691) (by decide +kernel), List.mem_of_getElem? (i := 692) (by decide +kernel)⟩
theorem lw_p22 : lw_okq (⟨"MixDeskModel", "beatsOf", "(I)I"⟩, 36) := ⟨⟨by decide +kernel, by decide +kernel⟩, List.mem_of_getElem? (i := 543) (by decide +kernel), List.mem_of_getElem? (i := 695) (by decide +kernel), List.mem_of_getElem? (i := 696) (by decide +kernel)⟩
theorem lw_p23 : lw_okq (⟨"MixDeskModel", "tick", "(II)I"⟩, 36) := ⟨⟨by decide +kernel, by decide +kernel⟩, List.mem_of_getElem? (i := 543) (by decide +kernel), List.mem_of_getElem? (i := 703) (by decide +kernel), List.mem_of_getElem? (i := 704) (by decide +kernel)⟩
theorem lw_p24 : lw_okq (⟨"MixDeskModel", "lasts", "(II)I"⟩, 36) := ⟨⟨by decide +kernel, by decide +kernel⟩, List.mem_of_getElem? (i := 543) (by decide +kernel), List.mem_of_getElem? (i := 707) (by decide +kernel), List.mem_of_getElem? (i := 708) (by decide +kernel)⟩
theorem lw_p25 : lw_okq (⟨"MixDeskModel", "barOf", "(II)I"⟩, 36) := ⟨⟨by decide +kernel, by decide +kernel⟩, List.mem_of_getElem? (i := 543) (by decide +kernel), List.mem_of_getElem? (i := 718) (by decide +kernel), List.mem_of_getElem? (i := 719) (by decide +kernel)⟩
theorem lw_p26 : lw_okq (⟨"MixDeskModel", "begins", "(II)I"⟩, 36) := ⟨⟨by decide +kernel, by decide +kernel⟩, List.mem_of_getElem? (i := 543) (by decide +kernel), List.mem_of_getElem? (i := 722) (by decide +kernel), List.mem_of_getElem? (i := 723) (by decide +kernel)⟩
theorem lw_p27 : lw_okq (⟨"MixDeskModel", "barLong", "(II)I"⟩, 36) := ⟨⟨by decide +kernel, by decide +kernel⟩, List.mem_of_getElem? (i := 543) (by decide +kernel), List.mem_of_getElem? (i := 726) (by decide +kernel), List.mem_of_getElem? (i := 727) (by decide +kernel)⟩
theorem lw_p28 : lw_okq (⟨"MixDeskModel", "firstBeat", "(II)I"⟩, 36) := ⟨⟨by decide +kernel, by decide +kernel⟩, List.mem_of_getElem? (i := 543) (by decide +kernel), List.mem_of_getElem? (i := 730) (by decide +kernel), List.mem_of_getElem? (i := 731) (by decide +kernel)⟩
theorem lw_p29 : lw_okq (⟨"MixDeskModel", "loads", "(II)V"⟩, 36) := ⟨⟨by decide +kernel, by decide +kernel⟩, List.mem_of_getElem? (i := 543) (by decide +kernel), List.mem_of_getElem? (i := 769) (by decide +kernel), List.mem_of_getElem? (i := 770) (by decide +kernel)⟩
theorem lw_p30 : lw_okq (⟨"MixDeskModel", "plays", "(I[I[Z[Z)V"⟩, 36) := ⟨⟨by decide +kernel, by decide +kernel⟩, List.mem_of_getElem? (i := 543) (by decide +kernel), List.mem_of_getElem? (i := 773) (by decide +kernel), List.mem_of_getElem? (i := 774) (by decide +kernel)⟩
theorem lw_p31 : lw_okq (⟨"MixDeskModel", "beatsCost", "(III)I"⟩, 36) := ⟨⟨by decide +kernel, by decide +kernel⟩, List.mem_of_getElem? (i := 543) (by decide +kernel), List.mem_of_getElem? (i := 780) (by decide +kernel), List.mem_of_getElem? (i := 781) (by decide +kernel)⟩
def lw_privs_2 : List (MethodName × Nat) := [(⟨"MixDesk$Nights", "costOver", "(III)I"⟩, 8), (⟨"MixDesk$Nights", "leastFirst", "()I"⟩, 8), (⟨"MixDesk$Nights", "keepOrder", "(I)V"⟩, 8), (⟨"MixDeskModel", "forgets", "(I)V"⟩, 36), (⟨"MixDeskModel", "isSong", "(I)Z"⟩, 36), (⟨"MixDeskModel", "playedBars", "(I)I"⟩, 36), (⟨"MixDeskModel", "beatsOf", "(I)I"⟩, 36), (⟨"MixDeskModel", "tick", "(II)I"⟩, 36), (⟨"MixDeskModel", "lasts", "(II)I"⟩, 36), (⟨"MixDeskModel", "barOf", "(II)I"⟩, 36), (⟨"MixDeskModel", "begins", "(II)I"⟩, 36), (⟨"MixDeskModel", "barLong", "(II)I"⟩, 36), (⟨"MixDeskModel", "firstBeat", "(II)I"⟩, 36), (⟨"MixDeskModel", "loads", "(II)V"⟩, 36), (⟨"MixDeskModel", "plays", "(I[I[Z[Z)V"⟩, 36), (⟨"MixDeskModel", "beatsCost", "(III)I"⟩, 36)]
theorem lw_r2 : ∀ q ∈ lw_privs_2, lw_okq q := List.forall_mem_cons.mpr ⟨lw_p16, List.forall_mem_cons.mpr ⟨lw_p17, List.forall_mem_cons.mpr ⟨lw_p18, List.forall_mem_cons.mpr ⟨lw_p19, List.forall_mem_cons.mpr ⟨lw_p20, List.forall_mem_cons.mpr ⟨lw_p21, List.forall_mem_cons.mpr ⟨lw_p22, List.forall_mem_cons.mpr ⟨lw_p23, List.forall_mem_cons.mpr ⟨lw_p24, List.forall_mem_cons.mpr ⟨lw_p25, List.forall_mem_cons.mpr ⟨lw_p26, List.forall_mem_cons.mpr ⟨lw_p27, List.forall_mem_cons.mpr ⟨lw_p28, List.forall_mem_cons.mpr ⟨lw_p29, List.forall_mem_cons.mpr ⟨lw_p30, List.forall_mem_cons.mpr ⟨lw_p31, fun _ h => absurd h List.not_mem_nil⟩⟩⟩⟩⟩⟩⟩⟩⟩⟩⟩⟩⟩⟩⟩⟩
theorem lw_p32 : lw_okq (⟨"MixDeskModel", "always", "(II)I"⟩, 36) := ⟨⟨by decide +kernel, by decide +kernel⟩, List.mem_of_getElem? (i := 543) (by decide +kernel), List.mem_of_getElem? (i := 791) (by decide +kernel), List.mem_of_getElem? (i := 792) (by decide +kernel)⟩
theorem lw_p33 : lw_okq (⟨"MixDeskModel", "keysApart", "(II)I"⟩, 36) := ⟨⟨by decide +kernel, by decide +kernel⟩, List.mem_of_getElem? (i := 543) (by decide +kernel), List.mem_of_getElem? (i := 795) (by decide +kernel), List.mem_of_getElem? (i := 796) (by decide +kernel)⟩
theorem lw_p34 : lw_okq (⟨"MixDeskModel", "bestOf", "(III)I"⟩, 36) := ⟨⟨by decide +kernel, by decide +kernel⟩, List.mem_of_getElem? (i := 543) (by decide +kernel), List.mem_of_getElem? (i := 807) (by decide +kernel), List.mem_of_getElem? (i := 808) (by decide +kernel)⟩
theorem lw_p35 : lw_okq (⟨"MixDeskModel", "there", "()I"⟩, 36) := ⟨⟨by decide +kernel, by decide +kernel⟩, List.mem_of_getElem? (i := 543) (by decide +kernel), List.mem_of_getElem? (i := 819) (by decide +kernel), List.mem_of_getElem? (i := 820) (by decide +kernel)⟩
theorem lw_p36 : lw_okq (⟨"MixDeskModel", "edges", "(I)V"⟩, 36) := ⟨⟨by decide +kernel, by decide +kernel⟩, List.mem_of_getElem? (i := 543) (by decide +kernel), List.mem_of_getElem? (i := 823) (by decide +kernel), List.mem_of_getElem? (i := 824) (by decide +kernel)⟩
theorem lw_p37 : lw_okq (⟨"MixDeskModel", "weighs", "(I)V"⟩, 36) := ⟨⟨by decide +kernel, by decide +kernel⟩, List.mem_of_getElem? (i := 543) (by decide +kernel), List.mem_of_getElem? (i := 827) (by decide +kernel), List.mem_of_getElem? (i := 828) (by decide +kernel)⟩
theorem lw_p38 : lw_okq (⟨"MixDeskModel", "isBound", "(IZ)Z"⟩, 36) := ⟨⟨by decide +kernel, by decide +kernel⟩, List.mem_of_getElem? (i := 543) (by decide +kernel), List.mem_of_getElem? (i := 831) (by decide +kernel), List.mem_of_getElem? (i := 832) (by decide +kernel)⟩
def lw_privs_3 : List (MethodName × Nat) := [(⟨"MixDeskModel", "always", "(II)I"⟩, 36), (⟨"MixDeskModel", "keysApart", "(II)I"⟩, 36), (⟨"MixDeskModel", "bestOf", "(III)I"⟩, 36), (⟨"MixDeskModel", "there", "()I"⟩, 36), (⟨"MixDeskModel", "edges", "(I)V"⟩, 36), (⟨"MixDeskModel", "weighs", "(I)V"⟩, 36), (⟨"MixDeskModel", "isBound", "(IZ)Z"⟩, 36)]
theorem lw_r3 : ∀ q ∈ lw_privs_3, lw_okq q := List.forall_mem_cons.mpr ⟨lw_p32, List.forall_mem_cons.mpr ⟨lw_p33, List.forall_mem_cons.mpr ⟨lw_p34, List.forall_mem_cons.mpr ⟨lw_p35, List.forall_mem_cons.mpr ⟨lw_p36, List.forall_mem_cons.mpr ⟨lw_p37, List.forall_mem_cons.mpr ⟨lw_p38, fun _ h => absurd h List.not_mem_nil⟩⟩⟩⟩⟩⟩⟩
def lw_privs : List (MethodName × Nat) := lw_privs_1 ++ (lw_privs_2 ++ (lw_privs_3))
def lw_tbl : List Cond := k2_sels lw_privs ++ tables_1
theorem lw_privs_ok : ∀ q ∈ lw_privs, lw_okq q := by
  show ∀ q ∈ lw_privs_1 ++ (lw_privs_2 ++ (lw_privs_3)), lw_okq q
  exact List.forall_mem_append.mpr ⟨lw_r1, List.forall_mem_append.mpr ⟨lw_r2, lw_r3⟩⟩
end
section
/-! ===== BEGIN words of one list among another's, by their places ===== -/
theorem goodIn_r {big : List Cond} (ws : List Cond) (ps : List Nat) (hp : ws = ps.filterMap (fun i => big[i]?)) (h : ws.all goodWord = true) : GoodIn big ws := by
  intro w hw
  have h1 := List.all_eq_true.mp h w hw
  rw [hp] at hw
  obtain ⟨i, -, hi⟩ := List.mem_filterMap.mp hw
  have hm : w ∈ big := by first | exact List.mem_of_getElem? hi | exact List.getElem?_mem hi
  exact ⟨hm, good_of_word h1⟩
theorem goodIn_app {big a b : List Cond} (ha : GoodIn big a) (hb : GoodIn big b) : GoodIn big (a ++ b) := fun w h => (List.mem_append.mp h).elim (ha w) (hb w)
theorem goodIn_ca {big a b : List Cond} {c : Cond} (ha : GoodIn big (c :: a)) (hb : GoodIn big b) : GoodIn big (c :: (a ++ b)) := fun w h => (List.mem_cons.mp h).elim (fun e => ha w (List.mem_cons.mpr (Or.inl e))) (fun h => (List.mem_append.mp h).elim (fun h => ha w (List.mem_cons.mpr (Or.inr h))) (hb w))
theorem goodIn_sub {big ws : List Cond} (hm : ∀ w ∈ ws, w ∈ big) (h : ws.all goodWord = true) : GoodIn big ws := fun w hw => ⟨hm w hw, good_of_word (List.all_eq_true.mp h w hw)⟩
/-! ===== END ===== -/

/-! ===== BEGIN printed: names, fields, word lists, decode rows ===== -/
def RX0 : String := "MixDesk$Joins"
def TX0 : u_T := fun k => match k with
  | 0 => ("MixDesk$Joins", "bound", "I", false)
  | 1 => ("MixDesk$Joins", "keyCost", "I", false)
  | 2 => ("MixDesk$Joins", "heatCost", "I", false)
  | 3 => ("MixDesk$Joins", "leastCost", "[I", true)
  | 4 => ("MixDesk$Joins", "leastP", "[I", true)
  | 5 => ("MixDesk$Joins", "leastQ", "[I", true)
  | 6 => ("MixDesk$Joins", "late", "[I", true)
  | _ => ("MixDesk$Joins", "early", "[I", true)
def tyX0 : Nat → FieldType := fun k => match k with
  | 0 => .int
  | 1 => .int
  | 2 => .int
  | 3 => .array .int
  | 4 => .array .int
  | 5 => .array .int
  | 6 => .array .int
  | _ => .array .int
abbrev wsX00 : List Cond := u_ws RX0 TX0 8
theorem nmX0 : ∀ a, a < 8 → ∀ b, b < 8 → a ≠ b → (TX0 a).2.1 ≠ (TX0 b).2.1 := by decide +kernel
theorem tyX0_ok : ∀ k, k < 8 → parseFieldDescriptor (TX0 k).2.2.1 = some (tyX0 k) := by decide +kernel
abbrev cX0_init : ByteArray := prog_2_method_1_code
def yX0_init : MethodName := ⟨RX0, "<init>", "()V"⟩
abbrev cX0_setCosts : ByteArray := prog_2_method_2_code
def yX0_setCosts : MethodName := ⟨RX0, "setCosts", "(III)V"⟩
abbrev cX0_forgetJoinsOf : ByteArray := prog_2_method_3_code
def yX0_forgetJoinsOf : MethodName := ⟨RX0, "forgetJoinsOf", "(I)V"⟩
abbrev cX0_slotOf : ByteArray := prog_2_method_4_code
def yX0_slotOf : MethodName := ⟨RX0, "slotOf", "(LMixDesk$Song;LMixDesk$Song;I)I"⟩
abbrev cX0_bentBy : ByteArray := prog_2_method_5_code
def yX0_bentBy : MethodName := ⟨RX0, "bentBy", "(LMixDesk$Song;LMixDesk$Song;IIII)I"⟩
abbrev cX0_apart : ByteArray := prog_2_method_6_code
def yX0_apart : MethodName := ⟨RX0, "apart", "(LMixDesk$Song;LMixDesk$Song;)I"⟩
abbrev cX0_slot : ByteArray := prog_2_method_7_code
def yX0_slot : MethodName := ⟨RX0, "slot", "(III)I"⟩
abbrev cX0_seekJoin : ByteArray := prog_2_method_8_code
def yX0_seekJoin : MethodName := ⟨RX0, "seekJoin", "(LMixDesk$Song;LMixDesk$Song;II)V"⟩
abbrev cX0_listLate : ByteArray := prog_2_method_9_code
def yX0_listLate : MethodName := ⟨RX0, "listLate", "(LMixDesk$Song;I)I"⟩
abbrev cX0_listEarly : ByteArray := prog_2_method_10_code
def yX0_listEarly : MethodName := ⟨RX0, "listEarly", "(LMixDesk$Song;I)I"⟩
abbrev cX0_canBegin : ByteArray := prog_2_method_11_code
def yX0_canBegin : MethodName := ⟨RX0, "canBegin", "(LMixDesk$Song;II)Z"⟩
def RX1 : String := "MixDesk$Meeting"
def TX1 : u_T := fun k => match k with
  | 0 => ("MixDesk$Meeting", "beats", "I", false)
  | 1 => ("MixDesk$Meeting", "begins", "[I", true)
  | 2 => ("MixDesk$Meeting", "lasts", "[I", true)
  | _ => ("MixDesk$Meeting", "bends", "[I", true)
def tyX1 : Nat → FieldType := fun k => match k with
  | 0 => .int
  | 1 => .array .int
  | 2 => .array .int
  | _ => .array .int
abbrev wsX10 : List Cond := u_ws RX1 TX1 4
theorem nmX1 : ∀ a, a < 4 → ∀ b, b < 4 → a ≠ b → (TX1 a).2.1 ≠ (TX1 b).2.1 := by decide +kernel
theorem tyX1_ok : ∀ k, k < 4 → parseFieldDescriptor (TX1 k).2.2.1 = some (tyX1 k) := by decide +kernel
abbrev cX1_init : ByteArray := prog_3_method_1_code
def yX1_init : MethodName := ⟨RX1, "<init>", "()V"⟩
abbrev cX1_keep : ByteArray := prog_3_method_2_code
def yX1_keep : MethodName := ⟨RX1, "keep", "(LMixDesk$Song;LMixDesk$Song;III)V"⟩
abbrev cX1_tell : ByteArray := prog_3_method_3_code
def yX1_tell : MethodName := ⟨RX1, "tell", "(II)I"⟩
def RX2 : String := "MixDesk$Nights"
def TX2 : u_T := fun k => match k with
  | 0 => ("MixDesk$Nights", "songs", "[LMixDesk$Song;", true)
  | 1 => ("MixDesk$Nights", "count", "I", false)
  | 2 => ("MixDesk$Nights", "step", "[I", true)
  | 3 => ("MixDesk$Nights", "mayBegin", "[Z", true)
  | 4 => ("MixDesk$Nights", "rest", "[I", false)
  | 5 => ("MixDesk$Nights", "cost", "I", false)
  | 6 => ("MixDesk$Nights", "order", "[I", true)
  | _ => ("MixDesk$Nights", "told", "I", false)
def tyX2 : Nat → FieldType := fun k => match k with
  | 0 => .array (.object "MixDesk$Song")
  | 1 => .int
  | 2 => .array .int
  | 3 => .array .boolean
  | 4 => .array .int
  | 5 => .int
  | 6 => .array .int
  | _ => .int
abbrev wsX20 : List Cond := u_ws RX2 TX2 8
theorem nmX2 : ∀ a, a < 8 → ∀ b, b < 8 → a ≠ b → (TX2 a).2.1 ≠ (TX2 b).2.1 := by decide +kernel
theorem tyX2_ok : ∀ k, k < 8 → parseFieldDescriptor (TX2 k).2.2.1 = some (tyX2 k) := by decide +kernel
abbrev cX2_init : ByteArray := prog_4_method_1_code
def yX2_init : MethodName := ⟨RX2, "<init>", "()V"⟩
abbrev cX2_gather : ByteArray := prog_4_method_2_code
def yX2_gather : MethodName := ⟨RX2, "gather", "([LMixDesk$Song;)V"⟩
abbrev cX2_seekOrder : ByteArray := prog_4_method_3_code
def yX2_seekOrder : MethodName := ⟨RX2, "seekOrder", "()Z"⟩
abbrev cX2_weighSet : ByteArray := prog_4_method_4_code
def yX2_weighSet : MethodName := ⟨RX2, "weighSet", "(I)V"⟩
abbrev cX2_leastFirst : ByteArray := prog_4_method_5_code
def yX2_leastFirst : MethodName := ⟨RX2, "leastFirst", "()I"⟩
abbrev cX2_leastNext : ByteArray := prog_4_method_6_code
def yX2_leastNext : MethodName := ⟨RX2, "leastNext", "(II)I"⟩
abbrev cX2_costOver : ByteArray := prog_4_method_7_code
def yX2_costOver : MethodName := ⟨RX2, "costOver", "(III)I"⟩
abbrev cX2_keepOrder : ByteArray := prog_4_method_8_code
def yX2_keepOrder : MethodName := ⟨RX2, "keepOrder", "(I)V"⟩
def RX3 : String := "MixDesk$Song"
def TX3 : u_T := fun k => match k with
  | 0 => ("MixDesk$Song", "number", "I", true)
  | 1 => ("MixDesk$Song", "kind", "I", true)
  | 2 => ("MixDesk$Song", "bars", "I", true)
  | 3 => ("MixDesk$Song", "step", "I", true)
  | 4 => ("MixDesk$Song", "more", "I", true)
  | 5 => ("MixDesk$Song", "key", "I", false)
  | 6 => ("MixDesk$Song", "heat", "I", false)
  | 7 => ("MixDesk$Song", "phrase", "I", false)
  | 8 => ("MixDesk$Song", "loopFrom", "I", false)
  | 9 => ("MixDesk$Song", "loopTo", "I", false)
  | 10 => ("MixDesk$Song", "loopTimes", "I", false)
  | 11 => ("MixDesk$Song", "playedBars", "I", false)
  | 12 => ("MixDesk$Song", "beatsOf", "[I", true)
  | 13 => ("MixDesk$Song", "firstOf", "[I", true)
  | 14 => ("MixDesk$Song", "tickOf", "[I", true)
  | 15 => ("MixDesk$Song", "barAt", "[I", true)
  | 16 => ("MixDesk$Song", "tickAt", "[I", true)
  | 17 => ("MixDesk$Song", "wholeFrom", "[I", true)
  | _ => ("MixDesk$Song", "lastsAt", "[I", true)
def tyX3 : Nat → FieldType := fun k => match k with
  | 0 => .int
  | 1 => .int
  | 2 => .int
  | 3 => .int
  | 4 => .int
  | 5 => .int
  | 6 => .int
  | 7 => .int
  | 8 => .int
  | 9 => .int
  | 10 => .int
  | 11 => .int
  | 12 => .array .int
  | 13 => .array .int
  | 14 => .array .int
  | 15 => .array .int
  | 16 => .array .int
  | 17 => .array .int
  | _ => .array .int
abbrev wsX30 : List Cond := u_ws RX3 TX3 19
theorem nmX3 : ∀ a, a < 19 → ∀ b, b < 19 → a ≠ b → (TX3 a).2.1 ≠ (TX3 b).2.1 := by decide +kernel
theorem tyX3_ok : ∀ k, k < 19 → parseFieldDescriptor (TX3 k).2.2.1 = some (tyX3 k) := by decide +kernel
abbrev cX3_init : ByteArray := prog_5_method_1_code
def yX3_init : MethodName := ⟨RX3, "<init>", "(IIIII)V"⟩
abbrev cX3_setBeats : ByteArray := prog_5_method_2_code
def yX3_setBeats : MethodName := ⟨RX3, "setBeats", "(II)V"⟩
abbrev cX3_canLoop : ByteArray := prog_5_method_3_code
def yX3_canLoop : MethodName := ⟨RX3, "canLoop", "(III)Z"⟩
abbrev cX3_setLoop : ByteArray := prog_5_method_4_code
def yX3_setLoop : MethodName := ⟨RX3, "setLoop", "(III)V"⟩
abbrev cX3_beats : ByteArray := prog_5_method_5_code
def yX3_beats : MethodName := ⟨RX3, "beats", "()I"⟩
abbrev cX3_brokenBars : ByteArray := prog_5_method_6_code
def yX3_brokenBars : MethodName := ⟨RX3, "brokenBars", "()I"⟩
abbrev cX3_beginsPhrase : ByteArray := prog_5_method_7_code
def yX3_beginsPhrase : MethodName := ⟨RX3, "beginsPhrase", "(I)Z"⟩
abbrev cX3_soundsAlike : ByteArray := prog_5_method_8_code
def yX3_soundsAlike : MethodName := ⟨RX3, "soundsAlike", "(III)Z"⟩
abbrev cX3_layOutBeats : ByteArray := prog_5_method_9_code
def yX3_layOutBeats : MethodName := ⟨RX3, "layOutBeats", "()V"⟩
abbrev cX3_layOutPlayedBars : ByteArray := prog_5_method_10_code
def yX3_layOutPlayedBars : MethodName := ⟨RX3, "layOutPlayedBars", "()V"⟩
abbrev cX3_lasting : ByteArray := prog_5_method_11_code
def yX3_lasting : MethodName := ⟨RX3, "lasting", "(I)I"⟩
abbrev cX3_barPlayed : ByteArray := prog_5_method_12_code
def yX3_barPlayed : MethodName := ⟨RX3, "barPlayed", "(I)I"⟩
def RX4 : String := "MixDesk$Strokes"
def TX4 : u_T := fun k => match k with
  | 0 => ("MixDesk$Strokes", "ticks", "[I", true)
  | 1 => ("MixDesk$Strokes", "count", "I", false)
  | 2 => ("MixDesk$Strokes", "restCost", "[I", true)
  | 3 => ("MixDesk$Strokes", "nextTaken", "[I", true)
  | 4 => ("MixDesk$Strokes", "taken", "[I", true)
  | _ => ("MixDesk$Strokes", "takenCount", "I", false)
def tyX4 : Nat → FieldType := fun k => match k with
  | 0 => .array .int
  | 1 => .int
  | 2 => .array .int
  | 3 => .array .int
  | 4 => .array .int
  | _ => .int
abbrev wsX40 : List Cond := u_ws RX4 TX4 6
theorem nmX4 : ∀ a, a < 6 → ∀ b, b < 6 → a ≠ b → (TX4 a).2.1 ≠ (TX4 b).2.1 := by decide +kernel
theorem tyX4_ok : ∀ k, k < 6 → parseFieldDescriptor (TX4 k).2.2.1 = some (tyX4 k) := by decide +kernel
abbrev cX4_init : ByteArray := prog_6_method_1_code
def yX4_init : MethodName := ⟨RX4, "<init>", "()V"⟩
abbrev cX4_add : ByteArray := prog_6_method_2_code
def yX4_add : MethodName := ⟨RX4, "add", "(I)I"⟩
abbrev cX4_empty : ByteArray := prog_6_method_3_code
def yX4_empty : MethodName := ⟨RX4, "empty", "()I"⟩
abbrev cX4_foundStroke : ByteArray := prog_6_method_4_code
def yX4_foundStroke : MethodName := ⟨RX4, "foundStroke", "(I)I"⟩
abbrev cX4_seekBeats : ByteArray := prog_6_method_5_code
def yX4_seekBeats : MethodName := ⟨RX4, "seekBeats", "(III)I"⟩
abbrev cX4_chooseNext : ByteArray := prog_6_method_6_code
def yX4_chooseNext : MethodName := ⟨RX4, "chooseNext", "(IIII)V"⟩
abbrev cX4_gapCost : ByteArray := prog_6_method_7_code
def yX4_gapCost : MethodName := ⟨RX4, "gapCost", "(III)I"⟩
abbrev cX4_keepBeats : ByteArray := prog_6_method_8_code
def yX4_keepBeats : MethodName := ⟨RX4, "keepBeats", "(I)V"⟩
def RX5 : String := "MixDesk"
def TX5 : u_T := fun k => match k with
  | 0 => ("MixDesk", "songs", "[LMixDesk$Song;", true)
  | 1 => ("MixDesk", "wishes", "[I", true)
  | 2 => ("MixDesk", "strokes", "LMixDesk$Strokes;", true)
  | 3 => ("MixDesk", "joins", "LMixDesk$Joins;", true)
  | 4 => ("MixDesk", "meeting", "LMixDesk$Meeting;", true)
  | _ => ("MixDesk", "nights", "LMixDesk$Nights;", true)
def tyX5 : Nat → FieldType := fun k => match k with
  | 0 => .array (.object "MixDesk$Song")
  | 1 => .array .int
  | 2 => .object "MixDesk$Strokes"
  | 3 => .object "MixDesk$Joins"
  | 4 => .object "MixDesk$Meeting"
  | _ => .object "MixDesk$Nights"
abbrev wsX50 : List Cond := u_ws RX5 TX5 6
theorem nmX5 : ∀ a, a < 6 → ∀ b, b < 6 → a ≠ b → (TX5 a).2.1 ≠ (TX5 b).2.1 := by decide +kernel
theorem tyX5_ok : ∀ k, k < 6 → parseFieldDescriptor (TX5 k).2.2.1 = some (tyX5 k) := by decide +kernel
abbrev cX5_init : ByteArray := prog_1_method_1_code
def yX5_init : MethodName := ⟨RX5, "<init>", "()V"⟩
abbrev cX5_song : ByteArray := prog_1_method_2_code
def yX5_song : MethodName := ⟨RX5, "song", "(IIIII)Z"⟩
abbrev cX5_about : ByteArray := prog_1_method_3_code
def yX5_about : MethodName := ⟨RX5, "about", "(IIII)Z"⟩
abbrev cX5_bar : ByteArray := prog_1_method_4_code
def yX5_bar : MethodName := ⟨RX5, "bar", "(III)Z"⟩
abbrev cX5_loop : ByteArray := prog_1_method_5_code
def yX5_loop : MethodName := ⟨RX5, "loop", "(IIII)Z"⟩
abbrev cX5_drop : ByteArray := prog_1_method_6_code
def yX5_drop : MethodName := ⟨RX5, "drop", "(I)Z"⟩
abbrev cX5_of : ByteArray := prog_1_method_7_code
def yX5_of : MethodName := ⟨RX5, "of", "(II)I"⟩
abbrev cX5_beat : ByteArray := prog_1_method_8_code
def yX5_beat : MethodName := ⟨RX5, "beat", "(II)I"⟩
abbrev cX5_played : ByteArray := prog_1_method_9_code
def yX5_played : MethodName := ⟨RX5, "played", "(III)I"⟩
abbrev cX5_length : ByteArray := prog_1_method_10_code
def yX5_length : MethodName := ⟨RX5, "length", "(I)I"⟩
abbrev cX5_stroke : ByteArray := prog_1_method_11_code
def yX5_stroke : MethodName := ⟨RX5, "stroke", "(I)I"⟩
abbrev cX5_clear : ByteArray := prog_1_method_12_code
def yX5_clear : MethodName := ⟨RX5, "clear", "()I"⟩
abbrev cX5_find : ByteArray := prog_1_method_13_code
def yX5_find : MethodName := ⟨RX5, "find", "(III)I"⟩
abbrev cX5_found : ByteArray := prog_1_method_14_code
def yX5_found : MethodName := ⟨RX5, "found", "(I)I"⟩
abbrev cX5_costs : ByteArray := prog_1_method_15_code
def yX5_costs : MethodName := ⟨RX5, "costs", "(III)Z"⟩
abbrev cX5_join : ByteArray := prog_1_method_16_code
def yX5_join : MethodName := ⟨RX5, "join", "(IIIIIZ)I"⟩
abbrev cX5_meets : ByteArray := prog_1_method_17_code
def yX5_meets : MethodName := ⟨RX5, "meets", "(II)I"⟩
abbrev cX5_best : ByteArray := prog_1_method_18_code
def yX5_best : MethodName := ⟨RX5, "best", "(IIII)I"⟩
abbrev cX5_must : ByteArray := prog_1_method_19_code
def yX5_must : MethodName := ⟨RX5, "must", "(III)Z"⟩
abbrev cX5_night : ByteArray := prog_1_method_20_code
def yX5_night : MethodName := ⟨RX5, "night", "(I)I"⟩
abbrev cX5_order : ByteArray := prog_1_method_21_code
def yX5_order : MethodName := ⟨RX5, "order", "(I)I"⟩
abbrev cX5_mend : ByteArray := prog_1_method_22_code
def yX5_mend : MethodName := ⟨RX5, "mend", "(II)I"⟩
abbrev cX5_within : ByteArray := prog_1_method_23_code
def yX5_within : MethodName := ⟨RX5, "within", "(III)Z"⟩
abbrev cX5_canBeSong : ByteArray := prog_1_method_24_code
def yX5_canBeSong : MethodName := ⟨RX5, "canBeSong", "(IIII)Z"⟩
abbrev cX5_songAt : ByteArray := prog_1_method_25_code
def yX5_songAt : MethodName := ⟨RX5, "songAt", "(I)LMixDesk$Song;"⟩
abbrev cX5_forgetSong : ByteArray := prog_1_method_26_code
def yX5_forgetSong : MethodName := ⟨RX5, "forgetSong", "(I)V"⟩
abbrev cX5_weighSteps : ByteArray := prog_1_method_27_code
def yX5_weighSteps : MethodName := ⟨RX5, "weighSteps", "(II)V"⟩
abbrev cX5_wishAllows : ByteArray := prog_1_method_28_code
def yX5_wishAllows : MethodName := ⟨RX5, "wishAllows", "(II)Z"⟩
abbrev cX5_mustsInto : ByteArray := prog_1_method_29_code
def yX5_mustsInto : MethodName := ⟨RX5, "mustsInto", "(I)I"⟩
abbrev cX5_blend : ByteArray := prog_1_method_30_code
def yX5_blend : MethodName := ⟨RX5, "blend", "(IIII)I"⟩
abbrev cX5_bendOf : ByteArray := prog_1_method_31_code
def yX5_bendOf : MethodName := ⟨RX5, "bendOf", "(III)I"⟩
def RX6 : String := "MixDeskModel"
def TX6 : u_T := fun k => match k with
  | 0 => ("MixDeskModel", "isThere", "[Z", true)
  | 1 => ("MixDeskModel", "kind", "[I", true)
  | 2 => ("MixDeskModel", "bars", "[I", true)
  | 3 => ("MixDeskModel", "step", "[I", true)
  | 4 => ("MixDeskModel", "more", "[I", true)
  | 5 => ("MixDeskModel", "key", "[I", true)
  | 6 => ("MixDeskModel", "heat", "[I", true)
  | 7 => ("MixDeskModel", "phrase", "[I", true)
  | 8 => ("MixDeskModel", "beats", "[I", true)
  | 9 => ("MixDeskModel", "loopFrom", "[I", true)
  | 10 => ("MixDeskModel", "loopTo", "[I", true)
  | 11 => ("MixDeskModel", "loops", "[I", true)
  | 12 => ("MixDeskModel", "musts", "[I", true)
  | 13 => ("MixDeskModel", "strokes", "I", false)
  | 14 => ("MixDeskModel", "stroke", "[I", true)
  | 15 => ("MixDeskModel", "costs", "[I", true)
  | 16 => ("MixDeskModel", "founds", "I", false)
  | 17 => ("MixDeskModel", "foundOnes", "[I", true)
  | 18 => ("MixDeskModel", "bound", "I", false)
  | 19 => ("MixDeskModel", "keyCost", "I", false)
  | 20 => ("MixDeskModel", "heatCost", "I", false)
  | 21 => ("MixDeskModel", "rowX", "[I", true)
  | 22 => ("MixDeskModel", "rowY", "[I", true)
  | 23 => ("MixDeskModel", "brokenX", "[Z", true)
  | 24 => ("MixDeskModel", "brokenY", "[Z", true)
  | 25 => ("MixDeskModel", "phraseX", "[Z", true)
  | 26 => ("MixDeskModel", "phraseY", "[Z", true)
  | 27 => ("MixDeskModel", "meetMany", "I", false)
  | 28 => ("MixDeskModel", "meetLong", "[I", true)
  | 29 => ("MixDeskModel", "meetBend", "[I", true)
  | 30 => ("MixDeskModel", "bestP", "I", false)
  | 31 => ("MixDeskModel", "bestQ", "I", false)
  | 32 => ("MixDeskModel", "edge", "[I", true)
  | 33 => ("MixDeskModel", "weigh", "[I", true)
  | 34 => ("MixDeskModel", "orders", "I", false)
  | _ => ("MixDeskModel", "ordered", "[I", true)
def tyX6 : Nat → FieldType := fun k => match k with
  | 0 => .array .boolean
  | 1 => .array .int
  | 2 => .array .int
  | 3 => .array .int
  | 4 => .array .int
  | 5 => .array .int
  | 6 => .array .int
  | 7 => .array .int
  | 8 => .array .int
  | 9 => .array .int
  | 10 => .array .int
  | 11 => .array .int
  | 12 => .array .int
  | 13 => .int
  | 14 => .array .int
  | 15 => .array .int
  | 16 => .int
  | 17 => .array .int
  | 18 => .int
  | 19 => .int
  | 20 => .int
  | 21 => .array .int
  | 22 => .array .int
  | 23 => .array .boolean
  | 24 => .array .boolean
  | 25 => .array .boolean
  | 26 => .array .boolean
  | 27 => .int
  | 28 => .array .int
  | 29 => .array .int
  | 30 => .int
  | 31 => .int
  | 32 => .array .int
  | 33 => .array .int
  | 34 => .int
  | _ => .array .int
abbrev wsX60 : List Cond := u_ws RX6 TX6 36
theorem nmX6 : ∀ a, a < 36 → ∀ b, b < 36 → a ≠ b → (TX6 a).2.1 ≠ (TX6 b).2.1 := by decide +kernel
theorem tyX6_ok : ∀ k, k < 36 → parseFieldDescriptor (TX6 k).2.2.1 = some (tyX6 k) := by decide +kernel
abbrev cX6_init : ByteArray := prog_8_method_1_code
def yX6_init : MethodName := ⟨RX6, "<init>", "()V"⟩
abbrev cX6_isSong : ByteArray := prog_8_method_2_code
def yX6_isSong : MethodName := ⟨RX6, "isSong", "(I)Z"⟩
abbrev cX6_forgets : ByteArray := prog_8_method_3_code
def yX6_forgets : MethodName := ⟨RX6, "forgets", "(I)V"⟩
abbrev cX6_song : ByteArray := prog_8_method_4_code
def yX6_song : MethodName := ⟨RX6, "song", "(IIIII)Z"⟩
abbrev cX6_about : ByteArray := prog_8_method_5_code
def yX6_about : MethodName := ⟨RX6, "about", "(IIII)Z"⟩
abbrev cX6_bar : ByteArray := prog_8_method_6_code
def yX6_bar : MethodName := ⟨RX6, "bar", "(III)Z"⟩
abbrev cX6_loop : ByteArray := prog_8_method_7_code
def yX6_loop : MethodName := ⟨RX6, "loop", "(IIII)Z"⟩
abbrev cX6_drop : ByteArray := prog_8_method_8_code
def yX6_drop : MethodName := ⟨RX6, "drop", "(I)Z"⟩
abbrev cX6_playedBars : ByteArray := prog_8_method_9_code
def yX6_playedBars : MethodName := ⟨RX6, "playedBars", "(I)I"⟩
abbrev cX6_barOf : ByteArray := prog_8_method_10_code
def yX6_barOf : MethodName := ⟨RX6, "barOf", "(II)I"⟩
abbrev cX6_beatsOf : ByteArray := prog_8_method_11_code
def yX6_beatsOf : MethodName := ⟨RX6, "beatsOf", "(I)I"⟩
abbrev cX6_of : ByteArray := prog_8_method_12_code
def yX6_of : MethodName := ⟨RX6, "of", "(II)I"⟩
abbrev cX6_floor : ByteArray := prog_8_method_13_code
def yX6_floor : MethodName := ⟨RX6, "floor", "(II)I"⟩
abbrev cX6_lasts : ByteArray := prog_8_method_14_code
def yX6_lasts : MethodName := ⟨RX6, "lasts", "(II)I"⟩
abbrev cX6_firstBeat : ByteArray := prog_8_method_15_code
def yX6_firstBeat : MethodName := ⟨RX6, "firstBeat", "(II)I"⟩
abbrev cX6_tick : ByteArray := prog_8_method_16_code
def yX6_tick : MethodName := ⟨RX6, "tick", "(II)I"⟩
abbrev cX6_beat : ByteArray := prog_8_method_17_code
def yX6_beat : MethodName := ⟨RX6, "beat", "(II)I"⟩
abbrev cX6_barLong : ByteArray := prog_8_method_18_code
def yX6_barLong : MethodName := ⟨RX6, "barLong", "(II)I"⟩
abbrev cX6_begins : ByteArray := prog_8_method_19_code
def yX6_begins : MethodName := ⟨RX6, "begins", "(II)I"⟩
abbrev cX6_played : ByteArray := prog_8_method_20_code
def yX6_played : MethodName := ⟨RX6, "played", "(III)I"⟩
abbrev cX6_length : ByteArray := prog_8_method_21_code
def yX6_length : MethodName := ⟨RX6, "length", "(I)I"⟩
abbrev cX6_stroke : ByteArray := prog_8_method_22_code
def yX6_stroke : MethodName := ⟨RX6, "stroke", "(I)I"⟩
abbrev cX6_clear : ByteArray := prog_8_method_23_code
def yX6_clear : MethodName := ⟨RX6, "clear", "()I"⟩
abbrev cX6_size : ByteArray := prog_8_method_24_code
def yX6_size : MethodName := ⟨RX6, "size", "(I)I"⟩
abbrev cX6_apart : ByteArray := prog_8_method_25_code
def yX6_apart : MethodName := ⟨RX6, "apart", "(III)I"⟩
abbrev cX6_find : ByteArray := prog_8_method_26_code
def yX6_find : MethodName := ⟨RX6, "find", "(III)I"⟩
abbrev cX6_found : ByteArray := prog_8_method_27_code
def yX6_found : MethodName := ⟨RX6, "found", "(I)I"⟩
abbrev cX6_costs : ByteArray := prog_8_method_28_code
def yX6_costs : MethodName := ⟨RX6, "costs", "(III)Z"⟩
abbrev cX6_plays : ByteArray := prog_8_method_29_code
def yX6_plays : MethodName := ⟨RX6, "plays", "(I[I[Z[Z)V"⟩
abbrev cX6_keysApart : ByteArray := prog_8_method_30_code
def yX6_keysApart : MethodName := ⟨RX6, "keysApart", "(II)I"⟩
abbrev cX6_always : ByteArray := prog_8_method_31_code
def yX6_always : MethodName := ⟨RX6, "always", "(II)I"⟩
abbrev cX6_joined : ByteArray := prog_8_method_32_code
def yX6_joined : MethodName := ⟨RX6, "joined", "(IIII)I"⟩
abbrev cX6_bend : ByteArray := prog_8_method_33_code
def yX6_bend : MethodName := ⟨RX6, "bend", "(III)I"⟩
abbrev cX6_isWhole : ByteArray := prog_8_method_34_code
def yX6_isWhole : MethodName := ⟨RX6, "isWhole", "([ZIII)Z"⟩
abbrev cX6_beatsCost : ByteArray := prog_8_method_35_code
def yX6_beatsCost : MethodName := ⟨RX6, "beatsCost", "(III)I"⟩
abbrev cX6_loads : ByteArray := prog_8_method_36_code
def yX6_loads : MethodName := ⟨RX6, "loads", "(II)V"⟩
abbrev cX6_join : ByteArray := prog_8_method_37_code
def yX6_join : MethodName := ⟨RX6, "join", "(IIIIIZ)I"⟩
abbrev cX6_meets : ByteArray := prog_8_method_38_code
def yX6_meets : MethodName := ⟨RX6, "meets", "(II)I"⟩
abbrev cX6_bestOf : ByteArray := prog_8_method_39_code
def yX6_bestOf : MethodName := ⟨RX6, "bestOf", "(III)I"⟩
abbrev cX6_best : ByteArray := prog_8_method_40_code
def yX6_best : MethodName := ⟨RX6, "best", "(IIII)I"⟩
abbrev cX6_must : ByteArray := prog_8_method_41_code
def yX6_must : MethodName := ⟨RX6, "must", "(III)Z"⟩
abbrev cX6_there : ByteArray := prog_8_method_42_code
def yX6_there : MethodName := ⟨RX6, "there", "()I"⟩
abbrev cX6_edges : ByteArray := prog_8_method_43_code
def yX6_edges : MethodName := ⟨RX6, "edges", "(I)V"⟩
abbrev cX6_isBound : ByteArray := prog_8_method_44_code
def yX6_isBound : MethodName := ⟨RX6, "isBound", "(IZ)Z"⟩
abbrev cX6_weighs : ByteArray := prog_8_method_45_code
def yX6_weighs : MethodName := ⟨RX6, "weighs", "(I)V"⟩
abbrev cX6_night : ByteArray := prog_8_method_46_code
def yX6_night : MethodName := ⟨RX6, "night", "(I)I"⟩
abbrev cX6_order : ByteArray := prog_8_method_47_code
def yX6_order : MethodName := ⟨RX6, "order", "(I)I"⟩
abbrev cX6_mend : ByteArray := prog_8_method_48_code
def yX6_mend : MethodName := ⟨RX6, "mend", "(II)I"⟩
def RJ9 : String := "java/lang/Math"
def TJ9 : u_T := fun k => match k with
  | _ => ("", "", "", false)
def tyJ9 : Nat → FieldType := fun k => match k with
  | _ => .int
abbrev wsJ90 : List Cond := u_ws RJ9 TJ9 0
theorem nmJ9 : ∀ a, a < 0 → ∀ b, b < 0 → a ≠ b → (TJ9 a).2.1 ≠ (TJ9 b).2.1 := by decide +kernel
theorem tyJ9_ok : ∀ k, k < 0 → parseFieldDescriptor (TJ9 k).2.2.1 = some (tyJ9 k) := by decide +kernel
abbrev cJ9_floorDiv_7cf53 : ByteArray := prog_9_method_47_code
def yJ9_floorDiv_7cf53 : MethodName := ⟨RJ9, "floorDiv", "(II)I"⟩
abbrev cJ9_abs_0f7a4 : ByteArray := prog_9_method_59_code
def yJ9_abs_0f7a4 : MethodName := ⟨RJ9, "abs", "(I)I"⟩
abbrev cJ9_max_7cf53 : ByteArray := prog_9_method_65_code
def yJ9_max_7cf53 : MethodName := ⟨RJ9, "max", "(II)I"⟩
abbrev cJ9_min_7cf53 : ByteArray := prog_9_method_69_code
def yJ9_min_7cf53 : MethodName := ⟨RJ9, "min", "(II)I"⟩
def RJ7 : String := "java/util/Arrays"
def TJ7 : u_T := fun k => match k with
  | _ => ("", "", "", false)
def tyJ7 : Nat → FieldType := fun k => match k with
  | _ => .int
abbrev wsJ70 : List Cond := u_ws RJ7 TJ7 0
theorem nmJ7 : ∀ a, a < 0 → ∀ b, b < 0 → a ≠ b → (TJ7 a).2.1 ≠ (TJ7 b).2.1 := by decide +kernel
theorem tyJ7_ok : ∀ k, k < 0 → parseFieldDescriptor (TJ7 k).2.2.1 = some (tyJ7 k) := by decide +kernel
abbrev cJ7_fill_53178 : ByteArray := prog_10_method_103_code
def yJ7_fill_53178 : MethodName := ⟨RJ7, "fill", "([II)V"⟩
def RL : String := "MixDeskLaw"
abbrev cL_law : ByteArray := code
def yL_law : MethodName := ⟨RL, "law", "([I)Z"⟩
def wsJ7_fill_53178 : List Cond := .code yJ7_fill_53178 cJ7_fill_53178 4 none :: ([])
def wsX0_init : List Cond := .code yX0_init cX0_init 1 none :: ([.methodLink RX0 3 objectInit, .instanceMethod objectInit, .code objectInit ⟨#[0xb1]⟩ 1 none, .fieldLink RX0 9 "MixDesk$Joins" "bound" "I", .fieldLink RX0 15 "MixDesk$Joins" "keyCost" "I", .fieldLink RX0 18 "MixDesk$Joins" "heatCost" "I", .arrayClass .int, .fieldLink RX0 21 "MixDesk$Joins" "leastCost" "[I", .fieldLink RX0 25 "MixDesk$Joins" "leastP" "[I", .fieldLink RX0 28 "MixDesk$Joins" "leastQ" "[I", .fieldLink RX0 31 "MixDesk$Joins" "late" "[I", .fieldLink RX0 34 "MixDesk$Joins" "early" "[I", .methodLink RX0 37 yJ7_fill_53178, .static yJ7_fill_53178, .initialized RJ7, .code yJ7_fill_53178 cJ7_fill_53178 4 none] ++ wsX00)
def wsX0_setCosts : List Cond := .code yX0_setCosts cX0_setCosts 4 none :: ([.fieldLink RX0 9 "MixDesk$Joins" "bound" "I", .fieldLink RX0 15 "MixDesk$Joins" "keyCost" "I", .fieldLink RX0 18 "MixDesk$Joins" "heatCost" "I", .fieldLink RX0 21 "MixDesk$Joins" "leastCost" "[I", .methodLink RX0 37 yJ7_fill_53178, .static yJ7_fill_53178, .initialized RJ7, .code yJ7_fill_53178 cJ7_fill_53178 4 none] ++ wsX00)
def wsX0_slot : List Cond := .code yX0_slot cX0_slot 3 (some .int) :: ([])
def wsX0_forgetJoinsOf : List Cond := .code yX0_forgetJoinsOf cX0_forgetJoinsOf 4 none :: ([.fieldLink RX0 21 "MixDesk$Joins" "leastCost" "[I", .methodLink RX0 43 yX0_slot, .static yX0_slot, .initialized RX0, .code yX0_slot cX0_slot 3 (some .int)] ++ wsX00)
def wsX3_beginsPhrase : List Cond := .code yX3_beginsPhrase cX3_beginsPhrase 2 (some .boolean) :: ([.fieldLink RX3 40 "MixDesk$Song" "barAt" "[I", .fieldLink RX3 18 "MixDesk$Song" "phrase" "I"] ++ wsX30)
def wsX0_canBegin : List Cond := .code yX0_canBegin cX0_canBegin 3 (some .boolean) :: ([.fieldLink RX0 109 "MixDesk$Song" "wholeFrom" "[I", .methodLink RX0 112 yX3_beginsPhrase, .instanceMethod yX3_beginsPhrase, .selects RX3 yX3_beginsPhrase yX3_beginsPhrase, .initialized RX3, .code yX3_beginsPhrase cX3_beginsPhrase 2 (some .boolean), .fieldLink RX3 40 "MixDesk$Song" "barAt" "[I", .fieldLink RX3 18 "MixDesk$Song" "phrase" "I"] ++ wsX30)
def wsX3_soundsAlike : List Cond := .code yX3_soundsAlike cX3_soundsAlike 5 (some .boolean) :: ([.fieldLink RX3 49 "MixDesk$Song" "lastsAt" "[I"] ++ wsX30)
def wsX0_listLate : List Cond := .code yX0_listLate cX0_listLate 5 (some .int) :: ([.fieldLink RX0 98 "MixDesk$Song" "playedBars" "I", .fieldLink RX0 31 "MixDesk$Joins" "late" "[I", .methodLink RX0 101 yX0_canBegin, .static yX0_canBegin, .initialized RX0, .code yX0_canBegin cX0_canBegin 3 (some .boolean), .fieldLink RX0 109 "MixDesk$Song" "wholeFrom" "[I", .methodLink RX0 112 yX3_beginsPhrase, .instanceMethod yX3_beginsPhrase, .selects RX3 yX3_beginsPhrase yX3_beginsPhrase, .initialized RX3, .code yX3_beginsPhrase cX3_beginsPhrase 2 (some .boolean), .fieldLink RX3 40 "MixDesk$Song" "barAt" "[I", .fieldLink RX3 18 "MixDesk$Song" "phrase" "I", .methodLink RX0 105 yX3_soundsAlike, .instanceMethod yX3_soundsAlike, .selects RX3 yX3_soundsAlike yX3_soundsAlike, .code yX3_soundsAlike cX3_soundsAlike 5 (some .boolean), .fieldLink RX3 49 "MixDesk$Song" "lastsAt" "[I"] ++ wsX30 ++ wsX00)
def wsX0_listEarly : List Cond := .code yX0_listEarly cX0_listEarly 5 (some .int) :: ([.fieldLink RX0 98 "MixDesk$Song" "playedBars" "I", .fieldLink RX0 34 "MixDesk$Joins" "early" "[I", .methodLink RX0 101 yX0_canBegin, .static yX0_canBegin, .initialized RX0, .code yX0_canBegin cX0_canBegin 3 (some .boolean), .fieldLink RX0 109 "MixDesk$Song" "wholeFrom" "[I", .methodLink RX0 112 yX3_beginsPhrase, .instanceMethod yX3_beginsPhrase, .selects RX3 yX3_beginsPhrase yX3_beginsPhrase, .initialized RX3, .code yX3_beginsPhrase cX3_beginsPhrase 2 (some .boolean), .fieldLink RX3 40 "MixDesk$Song" "barAt" "[I", .fieldLink RX3 18 "MixDesk$Song" "phrase" "I", .methodLink RX0 105 yX3_soundsAlike, .instanceMethod yX3_soundsAlike, .selects RX3 yX3_soundsAlike yX3_soundsAlike, .code yX3_soundsAlike cX3_soundsAlike 5 (some .boolean), .fieldLink RX3 49 "MixDesk$Song" "lastsAt" "[I"] ++ wsX30 ++ wsX00)
def wsJ9_floorDiv_7cf53 : List Cond := .code yJ9_floorDiv_7cf53 cJ9_floorDiv_7cf53 3 (some .int) :: ([])
def wsX5_blend : List Cond := .code yX5_blend cX5_blend 4 (some .int) :: ([.methodLink RX5 228 yJ9_floorDiv_7cf53, .static yJ9_floorDiv_7cf53, .initialized RJ9, .code yJ9_floorDiv_7cf53 cJ9_floorDiv_7cf53 3 (some .int)])
def wsX5_bendOf : List Cond := .code yX5_bendOf cX5_bendOf 3 (some .int) :: ([.methodLink RX5 206 Lib.Math.abs.name, .static Lib.Math.abs.name, .initialized "java/lang/Math", .code Lib.Math.abs.name Lib.Math.abs.code 1 (some .int), .methodLink RX5 231 Lib.Math.max.name, .static Lib.Math.max.name, .code Lib.Math.max.name Lib.Math.max.code 2 (some .int)])
def wsX0_bentBy : List Cond := .code yX0_bentBy cX0_bentBy 12 (some .int) :: ([.fieldLink RX0 56 "MixDesk$Song" "lastsAt" "[I", .methodLink RX0 63 Lib.Math.abs.name, .static Lib.Math.abs.name, .initialized "java/lang/Math", .code Lib.Math.abs.name Lib.Math.abs.code 1 (some .int), .fieldLink RX0 9 "MixDesk$Joins" "bound" "I", .constant RX0 72 (1073741824), .static yX5_blend, .initialized RX5, .code yX5_blend cX5_blend 4 (some .int), .methodLink RX5 228 yJ9_floorDiv_7cf53, .static yJ9_floorDiv_7cf53, .initialized RJ9, .code yJ9_floorDiv_7cf53 cJ9_floorDiv_7cf53 3 (some .int), .static yX5_bendOf, .code yX5_bendOf cX5_bendOf 3 (some .int), .methodLink RX5 206 Lib.Math.abs.name, .methodLink RX5 231 Lib.Math.max.name, .static Lib.Math.max.name, .code Lib.Math.max.name Lib.Math.max.code 2 (some .int)] ++ wsX30 ++ wsX00)
def wsX0_apart : List Cond := .code yX0_apart cX0_apart 5 (some .int) :: ([.fieldLink RX0 73 "MixDesk$Song" "key" "I", .methodLink RX0 63 Lib.Math.abs.name, .static Lib.Math.abs.name, .initialized "java/lang/Math", .code Lib.Math.abs.name Lib.Math.abs.code 1 (some .int), .methodLink RX0 76 Lib.Math.min.name, .static Lib.Math.min.name, .code Lib.Math.min.name Lib.Math.min.code 2 (some .int), .fieldLink RX0 15 "MixDesk$Joins" "keyCost" "I", .fieldLink RX0 18 "MixDesk$Joins" "heatCost" "I", .fieldLink RX0 80 "MixDesk$Song" "heat" "I"] ++ wsX30 ++ wsX00)
def wsX0_seekJoin_r1 : List Cond := [Cond.constant RX0 72 (1073741824), Cond.fieldLink RX0 31 "MixDesk$Joins" "late" "[I", Cond.fieldLink RX0 34 "MixDesk$Joins" "early" "[I", Cond.fieldLink RX0 25 "MixDesk$Joins" "leastP" "[I", Cond.fieldLink RX0 28 "MixDesk$Joins" "leastQ" "[I", Cond.fieldLink RX0 21 "MixDesk$Joins" "leastCost" "[I", Cond.methodLink RX0 83 yX0_listLate, Cond.instanceMethod yX0_listLate, Cond.selects RX0 yX0_listLate yX0_listLate, Cond.initialized RX0, Cond.code yX0_listLate cX0_listLate 5 (some .int), Cond.fieldLink RX0 98 "MixDesk$Song" "playedBars" "I", Cond.methodLink RX0 101 yX0_canBegin, Cond.static yX0_canBegin, Cond.code yX0_canBegin cX0_canBegin 3 (some .boolean), Cond.fieldLink RX0 109 "MixDesk$Song" "wholeFrom" "[I", Cond.methodLink RX0 112 yX3_beginsPhrase, Cond.instanceMethod yX3_beginsPhrase, Cond.selects RX3 yX3_beginsPhrase yX3_beginsPhrase, Cond.initialized RX3, Cond.code yX3_beginsPhrase cX3_beginsPhrase 2 (some .boolean), Cond.fieldLink RX3 40 "MixDesk$Song" "barAt" "[I", Cond.fieldLink RX3 18 "MixDesk$Song" "phrase" "I", Cond.methodLink RX0 105 yX3_soundsAlike]
def wsX0_seekJoin_r2 : List Cond := [Cond.instanceMethod yX3_soundsAlike, Cond.selects RX3 yX3_soundsAlike yX3_soundsAlike, Cond.code yX3_soundsAlike cX3_soundsAlike 5 (some .boolean), Cond.fieldLink RX3 49 "MixDesk$Song" "lastsAt" "[I", Cond.methodLink RX0 87 yX0_listEarly, Cond.instanceMethod yX0_listEarly, Cond.selects RX0 yX0_listEarly yX0_listEarly, Cond.code yX0_listEarly cX0_listEarly 5 (some .int), Cond.methodLink RX0 90 yX0_bentBy, Cond.instanceMethod yX0_bentBy, Cond.selects RX0 yX0_bentBy yX0_bentBy, Cond.code yX0_bentBy cX0_bentBy 12 (some .int), Cond.fieldLink RX0 56 "MixDesk$Song" "lastsAt" "[I", Cond.methodLink RX0 63 Lib.Math.abs.name, Cond.static Lib.Math.abs.name, Cond.initialized "java/lang/Math", Cond.code Lib.Math.abs.name Lib.Math.abs.code 1 (some .int), Cond.fieldLink RX0 9 "MixDesk$Joins" "bound" "I", Cond.static yX5_blend, Cond.initialized RX5, Cond.code yX5_blend cX5_blend 4 (some .int), Cond.methodLink RX5 228 yJ9_floorDiv_7cf53, Cond.static yJ9_floorDiv_7cf53, Cond.initialized RJ9]
def wsX0_seekJoin_r3 : List Cond := [Cond.code yJ9_floorDiv_7cf53 cJ9_floorDiv_7cf53 3 (some .int), Cond.static yX5_bendOf, Cond.code yX5_bendOf cX5_bendOf 3 (some .int), Cond.methodLink RX5 206 Lib.Math.abs.name, Cond.methodLink RX5 231 Lib.Math.max.name, Cond.static Lib.Math.max.name, Cond.code Lib.Math.max.name Lib.Math.max.code 2 (some .int), Cond.methodLink RX0 94 yX0_apart, Cond.instanceMethod yX0_apart, Cond.selects RX0 yX0_apart yX0_apart, Cond.code yX0_apart cX0_apart 5 (some .int), Cond.fieldLink RX0 73 "MixDesk$Song" "key" "I", Cond.methodLink RX0 76 Lib.Math.min.name, Cond.static Lib.Math.min.name, Cond.code Lib.Math.min.name Lib.Math.min.code 2 (some .int), Cond.fieldLink RX0 15 "MixDesk$Joins" "keyCost" "I", Cond.fieldLink RX0 18 "MixDesk$Joins" "heatCost" "I", Cond.fieldLink RX0 80 "MixDesk$Song" "heat" "I"]
def wsX0_seekJoin : List Cond := .code yX0_seekJoin cX0_seekJoin 11 none :: ((wsX0_seekJoin_r1 ++ (wsX0_seekJoin_r2 ++ wsX0_seekJoin_r3)) ++ wsX00 ++ wsX30)
def wsX0_slotOf_r1 : List Cond := [Cond.fieldLink RX0 47 "MixDesk$Song" "number" "I", Cond.fieldLink RX0 21 "MixDesk$Joins" "leastCost" "[I", Cond.methodLink RX0 43 yX0_slot, Cond.static yX0_slot, Cond.initialized RX0, Cond.code yX0_slot cX0_slot 3 (some .int), Cond.methodLink RX0 52 yX0_seekJoin, Cond.instanceMethod yX0_seekJoin, Cond.selects RX0 yX0_seekJoin yX0_seekJoin, Cond.code yX0_seekJoin cX0_seekJoin 11 none, Cond.constant RX0 72 (1073741824), Cond.fieldLink RX0 31 "MixDesk$Joins" "late" "[I", Cond.fieldLink RX0 34 "MixDesk$Joins" "early" "[I", Cond.fieldLink RX0 25 "MixDesk$Joins" "leastP" "[I", Cond.fieldLink RX0 28 "MixDesk$Joins" "leastQ" "[I", Cond.methodLink RX0 83 yX0_listLate, Cond.instanceMethod yX0_listLate, Cond.selects RX0 yX0_listLate yX0_listLate, Cond.code yX0_listLate cX0_listLate 5 (some .int), Cond.fieldLink RX0 98 "MixDesk$Song" "playedBars" "I", Cond.methodLink RX0 101 yX0_canBegin, Cond.static yX0_canBegin, Cond.code yX0_canBegin cX0_canBegin 3 (some .boolean), Cond.fieldLink RX0 109 "MixDesk$Song" "wholeFrom" "[I"]
def wsX0_slotOf_r2 : List Cond := [Cond.methodLink RX0 112 yX3_beginsPhrase, Cond.instanceMethod yX3_beginsPhrase, Cond.selects RX3 yX3_beginsPhrase yX3_beginsPhrase, Cond.initialized RX3, Cond.code yX3_beginsPhrase cX3_beginsPhrase 2 (some .boolean), Cond.fieldLink RX3 40 "MixDesk$Song" "barAt" "[I", Cond.fieldLink RX3 18 "MixDesk$Song" "phrase" "I", Cond.methodLink RX0 105 yX3_soundsAlike, Cond.instanceMethod yX3_soundsAlike, Cond.selects RX3 yX3_soundsAlike yX3_soundsAlike, Cond.code yX3_soundsAlike cX3_soundsAlike 5 (some .boolean), Cond.fieldLink RX3 49 "MixDesk$Song" "lastsAt" "[I", Cond.methodLink RX0 87 yX0_listEarly, Cond.instanceMethod yX0_listEarly, Cond.selects RX0 yX0_listEarly yX0_listEarly, Cond.code yX0_listEarly cX0_listEarly 5 (some .int), Cond.methodLink RX0 90 yX0_bentBy, Cond.instanceMethod yX0_bentBy, Cond.selects RX0 yX0_bentBy yX0_bentBy, Cond.code yX0_bentBy cX0_bentBy 12 (some .int), Cond.fieldLink RX0 56 "MixDesk$Song" "lastsAt" "[I", Cond.methodLink RX0 63 Lib.Math.abs.name, Cond.static Lib.Math.abs.name, Cond.initialized "java/lang/Math"]
def wsX0_slotOf_r3 : List Cond := [Cond.code Lib.Math.abs.name Lib.Math.abs.code 1 (some .int), Cond.fieldLink RX0 9 "MixDesk$Joins" "bound" "I", Cond.static yX5_blend, Cond.initialized RX5, Cond.code yX5_blend cX5_blend 4 (some .int), Cond.methodLink RX5 228 yJ9_floorDiv_7cf53, Cond.static yJ9_floorDiv_7cf53, Cond.initialized RJ9, Cond.code yJ9_floorDiv_7cf53 cJ9_floorDiv_7cf53 3 (some .int), Cond.static yX5_bendOf, Cond.code yX5_bendOf cX5_bendOf 3 (some .int), Cond.methodLink RX5 206 Lib.Math.abs.name, Cond.methodLink RX5 231 Lib.Math.max.name, Cond.static Lib.Math.max.name, Cond.code Lib.Math.max.name Lib.Math.max.code 2 (some .int), Cond.methodLink RX0 94 yX0_apart, Cond.instanceMethod yX0_apart, Cond.selects RX0 yX0_apart yX0_apart, Cond.code yX0_apart cX0_apart 5 (some .int), Cond.fieldLink RX0 73 "MixDesk$Song" "key" "I", Cond.methodLink RX0 76 Lib.Math.min.name, Cond.static Lib.Math.min.name, Cond.code Lib.Math.min.name Lib.Math.min.code 2 (some .int), Cond.fieldLink RX0 15 "MixDesk$Joins" "keyCost" "I"]
def wsX0_slotOf_r4 : List Cond := [Cond.fieldLink RX0 18 "MixDesk$Joins" "heatCost" "I", Cond.fieldLink RX0 80 "MixDesk$Song" "heat" "I"]
def wsX0_slotOf : List Cond := .code yX0_slotOf cX0_slotOf 5 (some .int) :: ((wsX0_slotOf_r1 ++ (wsX0_slotOf_r2 ++ (wsX0_slotOf_r3 ++ wsX0_slotOf_r4))) ++ wsX30 ++ wsX00)
def wsX1_init : List Cond := .code yX1_init cX1_init 1 none :: ([.methodLink RX1 3 objectInit, .instanceMethod objectInit, .code objectInit ⟨#[0xb1]⟩ 1 none, .fieldLink RX1 9 "MixDesk$Meeting" "beats" "I", .arrayClass .int, .fieldLink RX1 15 "MixDesk$Meeting" "begins" "[I", .fieldLink RX1 19 "MixDesk$Meeting" "lasts" "[I", .fieldLink RX1 22 "MixDesk$Meeting" "bends" "[I"] ++ wsX10)
def wsX1_keep : List Cond := .code yX1_keep cX1_keep 9 none :: ([.fieldLink RX1 9 "MixDesk$Meeting" "beats" "I", .fieldLink RX1 15 "MixDesk$Meeting" "begins" "[I", .fieldLink RX1 25 "MixDesk$Song" "lastsAt" "[I", .fieldLink RX1 19 "MixDesk$Meeting" "lasts" "[I", .fieldLink RX1 22 "MixDesk$Meeting" "bends" "[I", .static yX5_blend, .initialized RX5, .code yX5_blend cX5_blend 4 (some .int), .methodLink RX5 228 yJ9_floorDiv_7cf53, .static yJ9_floorDiv_7cf53, .initialized RJ9, .code yJ9_floorDiv_7cf53 cJ9_floorDiv_7cf53 3 (some .int), .static yX5_bendOf, .code yX5_bendOf cX5_bendOf 3 (some .int), .methodLink RX5 206 Lib.Math.abs.name, .static Lib.Math.abs.name, .initialized "java/lang/Math", .code Lib.Math.abs.name Lib.Math.abs.code 1 (some .int), .methodLink RX5 231 Lib.Math.max.name, .static Lib.Math.max.name, .code Lib.Math.max.name Lib.Math.max.code 2 (some .int)] ++ wsX10 ++ wsX30)
def wsX5_within : List Cond := .code yX5_within cX5_within 3 (some .boolean) :: ([])
def wsX1_tell : List Cond := .code yX1_tell cX1_tell 3 (some .int) :: ([.fieldLink RX1 9 "MixDesk$Meeting" "beats" "I", .fieldLink RX1 15 "MixDesk$Meeting" "begins" "[I", .fieldLink RX1 19 "MixDesk$Meeting" "lasts" "[I", .fieldLink RX1 22 "MixDesk$Meeting" "bends" "[I", .static yX5_within, .initialized RX5, .code yX5_within cX5_within 3 (some .boolean)] ++ wsX10)
def wsX2_init : List Cond := .code yX2_init cX2_init 1 none :: ([.methodLink RX2 3 objectInit, .instanceMethod objectInit, .code objectInit ⟨#[0xb1]⟩ 1 none, .classLink RX2 9 RX3, .fieldLink RX2 11 "MixDesk$Nights" "songs" "[LMixDesk$Song;", .fieldLink RX2 17 "MixDesk$Nights" "count" "I", .arrayClass .int, .fieldLink RX2 21 "MixDesk$Nights" "step" "[I", .arrayClass .boolean, .fieldLink RX2 25 "MixDesk$Nights" "mayBegin" "[Z", .fieldLink RX2 29 "MixDesk$Nights" "rest" "[I", .constant RX2 32 (1073741824), .fieldLink RX2 33 "MixDesk$Nights" "cost" "I", .fieldLink RX2 36 "MixDesk$Nights" "order" "[I", .fieldLink RX2 39 "MixDesk$Nights" "told" "I"] ++ wsX20)
def wsX2_gather : List Cond := .code yX2_gather cX2_gather 3 none :: ([.fieldLink RX2 17 "MixDesk$Nights" "count" "I", .fieldLink RX2 11 "MixDesk$Nights" "songs" "[LMixDesk$Song;"] ++ wsX20)
def wsX2_costOver : List Cond := .code yX2_costOver cX2_costOver 5 (some .int) :: ([.fieldLink RX2 29 "MixDesk$Nights" "rest" "[I", .fieldLink RX2 17 "MixDesk$Nights" "count" "I", .constant RX2 32 (1073741824), .fieldLink RX2 21 "MixDesk$Nights" "step" "[I"] ++ wsX20)
def wsX2_leastNext : List Cond := .code yX2_leastNext cX2_leastNext 7 (some .int) :: ([.constant RX2 32 (1073741824), .fieldLink RX2 17 "MixDesk$Nights" "count" "I", .fieldLink RX2 21 "MixDesk$Nights" "step" "[I", .methodLink RX2 57 yX2_costOver, .instanceMethod yX2_costOver, .selects RX2 yX2_costOver yX2_costOver, .initialized RX2, .code yX2_costOver cX2_costOver 5 (some .int), .fieldLink RX2 29 "MixDesk$Nights" "rest" "[I"] ++ wsX20)
def wsX2_weighSet : List Cond := .code yX2_weighSet cX2_weighSet 4 none :: ([.fieldLink RX2 17 "MixDesk$Nights" "count" "I", .fieldLink RX2 29 "MixDesk$Nights" "rest" "[I", .constant RX2 32 (1073741824), .methodLink RX2 53 yX2_leastNext, .instanceMethod yX2_leastNext, .selects RX2 yX2_leastNext yX2_leastNext, .initialized RX2, .code yX2_leastNext cX2_leastNext 7 (some .int), .fieldLink RX2 21 "MixDesk$Nights" "step" "[I", .methodLink RX2 57 yX2_costOver, .instanceMethod yX2_costOver, .selects RX2 yX2_costOver yX2_costOver, .code yX2_costOver cX2_costOver 5 (some .int)] ++ wsX20)
def wsX2_leastFirst : List Cond := .code yX2_leastFirst cX2_leastFirst 5 (some .int) :: ([.constant RX2 32 (1073741824), .fieldLink RX2 17 "MixDesk$Nights" "count" "I", .fieldLink RX2 29 "MixDesk$Nights" "rest" "[I", .fieldLink RX2 25 "MixDesk$Nights" "mayBegin" "[Z"] ++ wsX20)
def wsX2_keepOrder : List Cond := .code yX2_keepOrder cX2_keepOrder 6 none :: ([.fieldLink RX2 36 "MixDesk$Nights" "order" "[I", .fieldLink RX2 11 "MixDesk$Nights" "songs" "[LMixDesk$Song;", .fieldLink RX2 61 "MixDesk$Song" "number" "I", .fieldLink RX2 17 "MixDesk$Nights" "count" "I", .fieldLink RX2 39 "MixDesk$Nights" "told" "I", .methodLink RX2 53 yX2_leastNext, .instanceMethod yX2_leastNext, .selects RX2 yX2_leastNext yX2_leastNext, .initialized RX2, .code yX2_leastNext cX2_leastNext 7 (some .int), .constant RX2 32 (1073741824), .fieldLink RX2 21 "MixDesk$Nights" "step" "[I", .methodLink RX2 57 yX2_costOver, .instanceMethod yX2_costOver, .selects RX2 yX2_costOver yX2_costOver, .code yX2_costOver cX2_costOver 5 (some .int), .fieldLink RX2 29 "MixDesk$Nights" "rest" "[I"] ++ wsX20 ++ wsX30)
def wsX2_seekOrder_r1 : List Cond := [Cond.fieldLink RX2 17 "MixDesk$Nights" "count" "I", Cond.fieldLink RX2 29 "MixDesk$Nights" "rest" "[I", Cond.arrayClass .int, Cond.fieldLink RX2 33 "MixDesk$Nights" "cost" "I", Cond.methodLink RX2 42 yX2_weighSet, Cond.instanceMethod yX2_weighSet, Cond.selects RX2 yX2_weighSet yX2_weighSet, Cond.initialized RX2, Cond.code yX2_weighSet cX2_weighSet 4 none, Cond.constant RX2 32 (1073741824), Cond.methodLink RX2 53 yX2_leastNext, Cond.instanceMethod yX2_leastNext, Cond.selects RX2 yX2_leastNext yX2_leastNext, Cond.code yX2_leastNext cX2_leastNext 7 (some .int), Cond.fieldLink RX2 21 "MixDesk$Nights" "step" "[I", Cond.methodLink RX2 57 yX2_costOver, Cond.instanceMethod yX2_costOver, Cond.selects RX2 yX2_costOver yX2_costOver, Cond.code yX2_costOver cX2_costOver 5 (some .int), Cond.methodLink RX2 46 yX2_leastFirst, Cond.instanceMethod yX2_leastFirst, Cond.selects RX2 yX2_leastFirst yX2_leastFirst, Cond.code yX2_leastFirst cX2_leastFirst 5 (some .int), Cond.fieldLink RX2 25 "MixDesk$Nights" "mayBegin" "[Z"]
def wsX2_seekOrder_r2 : List Cond := [Cond.methodLink RX2 50 yX2_keepOrder, Cond.instanceMethod yX2_keepOrder, Cond.selects RX2 yX2_keepOrder yX2_keepOrder, Cond.code yX2_keepOrder cX2_keepOrder 6 none, Cond.fieldLink RX2 36 "MixDesk$Nights" "order" "[I", Cond.fieldLink RX2 11 "MixDesk$Nights" "songs" "[LMixDesk$Song;", Cond.fieldLink RX2 61 "MixDesk$Song" "number" "I", Cond.fieldLink RX2 39 "MixDesk$Nights" "told" "I"]
def wsX2_seekOrder : List Cond := .code yX2_seekOrder cX2_seekOrder 3 (some .boolean) :: ((wsX2_seekOrder_r1 ++ wsX2_seekOrder_r2) ++ wsX20 ++ wsX30)
def wsX3_lasting : List Cond := .code yX3_lasting cX3_lasting 2 (some .int) :: ([.fieldLink RX3 55 "MixDesk$Song" "kind" "I", .fieldLink RX3 61 "MixDesk$Song" "step" "I", .fieldLink RX3 64 "MixDesk$Song" "more" "I", .methodLink RX3 99 Lib.Math.min.name, .static Lib.Math.min.name, .initialized "java/lang/Math", .code Lib.Math.min.name Lib.Math.min.code 2 (some .int), .methodLink RX3 102 Lib.Math.max.name, .static Lib.Math.max.name, .code Lib.Math.max.name Lib.Math.max.code 2 (some .int), .methodLink RX3 93 yJ9_floorDiv_7cf53, .static yJ9_floorDiv_7cf53, .initialized RJ9, .code yJ9_floorDiv_7cf53 cJ9_floorDiv_7cf53 3 (some .int)] ++ wsX30)
def wsX3_layOutBeats : List Cond := .code yX3_layOutBeats cX3_layOutBeats 5 none :: ([.fieldLink RX3 58 "MixDesk$Song" "bars" "I", .fieldLink RX3 34 "MixDesk$Song" "firstOf" "[I", .fieldLink RX3 30 "MixDesk$Song" "beatsOf" "[I", .fieldLink RX3 37 "MixDesk$Song" "tickOf" "[I", .methodLink RX3 83 yX3_lasting, .instanceMethod yX3_lasting, .selects RX3 yX3_lasting yX3_lasting, .initialized RX3, .code yX3_lasting cX3_lasting 2 (some .int), .fieldLink RX3 55 "MixDesk$Song" "kind" "I", .fieldLink RX3 61 "MixDesk$Song" "step" "I", .fieldLink RX3 64 "MixDesk$Song" "more" "I", .methodLink RX3 99 Lib.Math.min.name, .static Lib.Math.min.name, .initialized "java/lang/Math", .code Lib.Math.min.name Lib.Math.min.code 2 (some .int), .methodLink RX3 102 Lib.Math.max.name, .static Lib.Math.max.name, .code Lib.Math.max.name Lib.Math.max.code 2 (some .int), .methodLink RX3 93 yJ9_floorDiv_7cf53, .static yJ9_floorDiv_7cf53, .initialized RJ9, .code yJ9_floorDiv_7cf53 cJ9_floorDiv_7cf53 3 (some .int)] ++ wsX30)
def wsX3_barPlayed : List Cond := .code yX3_barPlayed cX3_barPlayed 3 (some .int) :: ([.fieldLink RX3 24 "MixDesk$Song" "loopTo" "I", .fieldLink RX3 21 "MixDesk$Song" "loopFrom" "I", .fieldLink RX3 27 "MixDesk$Song" "loopTimes" "I"] ++ wsX30)
def wsX3_layOutPlayedBars : List Cond := .code yX3_layOutPlayedBars cX3_layOutPlayedBars 6 none :: ([.fieldLink RX3 58 "MixDesk$Song" "bars" "I", .fieldLink RX3 27 "MixDesk$Song" "loopTimes" "I", .fieldLink RX3 24 "MixDesk$Song" "loopTo" "I", .fieldLink RX3 21 "MixDesk$Song" "loopFrom" "I", .fieldLink RX3 87 "MixDesk$Song" "playedBars" "I", .fieldLink RX3 40 "MixDesk$Song" "barAt" "[I", .fieldLink RX3 43 "MixDesk$Song" "tickAt" "[I", .fieldLink RX3 30 "MixDesk$Song" "beatsOf" "[I", .fieldLink RX3 34 "MixDesk$Song" "firstOf" "[I", .fieldLink RX3 49 "MixDesk$Song" "lastsAt" "[I", .fieldLink RX3 37 "MixDesk$Song" "tickOf" "[I", .fieldLink RX3 46 "MixDesk$Song" "wholeFrom" "[I", .methodLink RX3 90 yX3_barPlayed, .instanceMethod yX3_barPlayed, .selects RX3 yX3_barPlayed yX3_barPlayed, .initialized RX3, .code yX3_barPlayed cX3_barPlayed 3 (some .int)] ++ wsX30)
def wsX3_init_r1 : List Cond := [Cond.methodLink RX3 3 objectInit, Cond.instanceMethod objectInit, Cond.code objectInit ⟨#[0xb1]⟩ 1 none, Cond.fieldLink RX3 9 "MixDesk$Song" "key" "I", Cond.fieldLink RX3 15 "MixDesk$Song" "heat" "I", Cond.fieldLink RX3 18 "MixDesk$Song" "phrase" "I", Cond.fieldLink RX3 21 "MixDesk$Song" "loopFrom" "I", Cond.fieldLink RX3 24 "MixDesk$Song" "loopTo" "I", Cond.fieldLink RX3 27 "MixDesk$Song" "loopTimes" "I", Cond.arrayClass .int, Cond.fieldLink RX3 30 "MixDesk$Song" "beatsOf" "[I", Cond.fieldLink RX3 34 "MixDesk$Song" "firstOf" "[I", Cond.fieldLink RX3 37 "MixDesk$Song" "tickOf" "[I", Cond.fieldLink RX3 40 "MixDesk$Song" "barAt" "[I", Cond.fieldLink RX3 43 "MixDesk$Song" "tickAt" "[I", Cond.fieldLink RX3 46 "MixDesk$Song" "wholeFrom" "[I", Cond.fieldLink RX3 49 "MixDesk$Song" "lastsAt" "[I", Cond.fieldLink RX3 52 "MixDesk$Song" "number" "I", Cond.fieldLink RX3 55 "MixDesk$Song" "kind" "I", Cond.fieldLink RX3 58 "MixDesk$Song" "bars" "I", Cond.fieldLink RX3 61 "MixDesk$Song" "step" "I", Cond.fieldLink RX3 64 "MixDesk$Song" "more" "I", Cond.methodLink RX3 67 yJ7_fill_53178, Cond.static yJ7_fill_53178]
def wsX3_init_r2 : List Cond := [Cond.initialized RJ7, Cond.code yJ7_fill_53178 cJ7_fill_53178 4 none, Cond.methodLink RX3 73 yX3_layOutBeats, Cond.instanceMethod yX3_layOutBeats, Cond.selects RX3 yX3_layOutBeats yX3_layOutBeats, Cond.initialized RX3, Cond.code yX3_layOutBeats cX3_layOutBeats 5 none, Cond.methodLink RX3 83 yX3_lasting, Cond.instanceMethod yX3_lasting, Cond.selects RX3 yX3_lasting yX3_lasting, Cond.code yX3_lasting cX3_lasting 2 (some .int), Cond.methodLink RX3 99 Lib.Math.min.name, Cond.static Lib.Math.min.name, Cond.initialized "java/lang/Math", Cond.code Lib.Math.min.name Lib.Math.min.code 2 (some .int), Cond.methodLink RX3 102 Lib.Math.max.name, Cond.static Lib.Math.max.name, Cond.code Lib.Math.max.name Lib.Math.max.code 2 (some .int), Cond.methodLink RX3 93 yJ9_floorDiv_7cf53, Cond.static yJ9_floorDiv_7cf53, Cond.initialized RJ9, Cond.code yJ9_floorDiv_7cf53 cJ9_floorDiv_7cf53 3 (some .int), Cond.methodLink RX3 76 yX3_layOutPlayedBars, Cond.instanceMethod yX3_layOutPlayedBars]
def wsX3_init_r3 : List Cond := [Cond.selects RX3 yX3_layOutPlayedBars yX3_layOutPlayedBars, Cond.code yX3_layOutPlayedBars cX3_layOutPlayedBars 6 none, Cond.fieldLink RX3 87 "MixDesk$Song" "playedBars" "I", Cond.methodLink RX3 90 yX3_barPlayed, Cond.instanceMethod yX3_barPlayed, Cond.selects RX3 yX3_barPlayed yX3_barPlayed, Cond.code yX3_barPlayed cX3_barPlayed 3 (some .int)]
def wsX3_init : List Cond := .code yX3_init cX3_init 6 none :: ((wsX3_init_r1 ++ (wsX3_init_r2 ++ wsX3_init_r3)) ++ wsX30)
def wsX3_setBeats_r1 : List Cond := [Cond.fieldLink RX3 30 "MixDesk$Song" "beatsOf" "[I", Cond.methodLink RX3 73 yX3_layOutBeats, Cond.instanceMethod yX3_layOutBeats, Cond.selects RX3 yX3_layOutBeats yX3_layOutBeats, Cond.initialized RX3, Cond.code yX3_layOutBeats cX3_layOutBeats 5 none, Cond.fieldLink RX3 58 "MixDesk$Song" "bars" "I", Cond.fieldLink RX3 34 "MixDesk$Song" "firstOf" "[I", Cond.fieldLink RX3 37 "MixDesk$Song" "tickOf" "[I", Cond.methodLink RX3 83 yX3_lasting, Cond.instanceMethod yX3_lasting, Cond.selects RX3 yX3_lasting yX3_lasting, Cond.code yX3_lasting cX3_lasting 2 (some .int), Cond.fieldLink RX3 55 "MixDesk$Song" "kind" "I", Cond.fieldLink RX3 61 "MixDesk$Song" "step" "I", Cond.fieldLink RX3 64 "MixDesk$Song" "more" "I", Cond.methodLink RX3 99 Lib.Math.min.name, Cond.static Lib.Math.min.name, Cond.initialized "java/lang/Math", Cond.code Lib.Math.min.name Lib.Math.min.code 2 (some .int), Cond.methodLink RX3 102 Lib.Math.max.name, Cond.static Lib.Math.max.name, Cond.code Lib.Math.max.name Lib.Math.max.code 2 (some .int), Cond.methodLink RX3 93 yJ9_floorDiv_7cf53]
def wsX3_setBeats_r2 : List Cond := [Cond.static yJ9_floorDiv_7cf53, Cond.initialized RJ9, Cond.code yJ9_floorDiv_7cf53 cJ9_floorDiv_7cf53 3 (some .int), Cond.methodLink RX3 76 yX3_layOutPlayedBars, Cond.instanceMethod yX3_layOutPlayedBars, Cond.selects RX3 yX3_layOutPlayedBars yX3_layOutPlayedBars, Cond.code yX3_layOutPlayedBars cX3_layOutPlayedBars 6 none, Cond.fieldLink RX3 27 "MixDesk$Song" "loopTimes" "I", Cond.fieldLink RX3 24 "MixDesk$Song" "loopTo" "I", Cond.fieldLink RX3 21 "MixDesk$Song" "loopFrom" "I", Cond.fieldLink RX3 87 "MixDesk$Song" "playedBars" "I", Cond.fieldLink RX3 40 "MixDesk$Song" "barAt" "[I", Cond.fieldLink RX3 43 "MixDesk$Song" "tickAt" "[I", Cond.fieldLink RX3 49 "MixDesk$Song" "lastsAt" "[I", Cond.fieldLink RX3 46 "MixDesk$Song" "wholeFrom" "[I", Cond.methodLink RX3 90 yX3_barPlayed, Cond.instanceMethod yX3_barPlayed, Cond.selects RX3 yX3_barPlayed yX3_barPlayed, Cond.code yX3_barPlayed cX3_barPlayed 3 (some .int)]
def wsX3_setBeats : List Cond := .code yX3_setBeats cX3_setBeats 3 none :: ((wsX3_setBeats_r1 ++ wsX3_setBeats_r2) ++ wsX30)
def wsX3_canLoop : List Cond := .code yX3_canLoop cX3_canLoop 4 (some .boolean) :: ([.fieldLink RX3 58 "MixDesk$Song" "bars" "I", .static yX5_within, .initialized RX5, .code yX5_within cX5_within 3 (some .boolean)] ++ wsX30)
def wsX3_setLoop : List Cond := .code yX3_setLoop cX3_setLoop 4 none :: ([.fieldLink RX3 21 "MixDesk$Song" "loopFrom" "I", .fieldLink RX3 24 "MixDesk$Song" "loopTo" "I", .fieldLink RX3 27 "MixDesk$Song" "loopTimes" "I", .methodLink RX3 76 yX3_layOutPlayedBars, .instanceMethod yX3_layOutPlayedBars, .selects RX3 yX3_layOutPlayedBars yX3_layOutPlayedBars, .initialized RX3, .code yX3_layOutPlayedBars cX3_layOutPlayedBars 6 none, .fieldLink RX3 58 "MixDesk$Song" "bars" "I", .fieldLink RX3 87 "MixDesk$Song" "playedBars" "I", .fieldLink RX3 40 "MixDesk$Song" "barAt" "[I", .fieldLink RX3 43 "MixDesk$Song" "tickAt" "[I", .fieldLink RX3 30 "MixDesk$Song" "beatsOf" "[I", .fieldLink RX3 34 "MixDesk$Song" "firstOf" "[I", .fieldLink RX3 49 "MixDesk$Song" "lastsAt" "[I", .fieldLink RX3 37 "MixDesk$Song" "tickOf" "[I", .fieldLink RX3 46 "MixDesk$Song" "wholeFrom" "[I", .methodLink RX3 90 yX3_barPlayed, .instanceMethod yX3_barPlayed, .selects RX3 yX3_barPlayed yX3_barPlayed, .code yX3_barPlayed cX3_barPlayed 3 (some .int)] ++ wsX30)
def wsX3_beats : List Cond := .code yX3_beats cX3_beats 1 (some .int) :: ([.fieldLink RX3 34 "MixDesk$Song" "firstOf" "[I", .fieldLink RX3 58 "MixDesk$Song" "bars" "I"] ++ wsX30)
def wsX3_brokenBars : List Cond := .code yX3_brokenBars cX3_brokenBars 3 (some .int) :: ([.fieldLink RX3 58 "MixDesk$Song" "bars" "I", .fieldLink RX3 30 "MixDesk$Song" "beatsOf" "[I"] ++ wsX30)
def wsX4_init : List Cond := .code yX4_init cX4_init 1 none :: ([.methodLink RX4 3 objectInit, .instanceMethod objectInit, .code objectInit ⟨#[0xb1]⟩ 1 none, .arrayClass .int, .fieldLink RX4 11 "MixDesk$Strokes" "ticks" "[I", .fieldLink RX4 15 "MixDesk$Strokes" "count" "I", .fieldLink RX4 19 "MixDesk$Strokes" "restCost" "[I", .fieldLink RX4 22 "MixDesk$Strokes" "nextTaken" "[I", .fieldLink RX4 25 "MixDesk$Strokes" "taken" "[I", .fieldLink RX4 28 "MixDesk$Strokes" "takenCount" "I"] ++ wsX40)
def wsX4_add : List Cond := .code yX4_add cX4_add 2 (some .int) :: ([.fieldLink RX4 15 "MixDesk$Strokes" "count" "I", .constant RX4 31 (1000000), .fieldLink RX4 11 "MixDesk$Strokes" "ticks" "[I", .static yX5_within, .initialized RX5, .code yX5_within cX5_within 3 (some .boolean)] ++ wsX40)
def wsX4_empty : List Cond := .code yX4_empty cX4_empty 2 (some .int) :: ([.fieldLink RX4 15 "MixDesk$Strokes" "count" "I"] ++ wsX40)
def wsX4_foundStroke : List Cond := .code yX4_foundStroke cX4_foundStroke 2 (some .int) :: ([.fieldLink RX4 28 "MixDesk$Strokes" "takenCount" "I", .fieldLink RX4 25 "MixDesk$Strokes" "taken" "[I", .static yX5_within, .initialized RX5, .code yX5_within cX5_within 3 (some .boolean)] ++ wsX40)
def wsX4_gapCost : List Cond := .code yX4_gapCost cX4_gapCost 4 (some .int) :: ([.methodLink RX4 49 Lib.Math.max.name, .static Lib.Math.max.name, .initialized "java/lang/Math", .code Lib.Math.max.name Lib.Math.max.code 2 (some .int), .methodLink RX4 55 Lib.Math.abs.name, .static Lib.Math.abs.name, .code Lib.Math.abs.name Lib.Math.abs.code 1 (some .int)])
def wsX4_chooseNext : List Cond := .code yX4_chooseNext cX4_chooseNext 7 none :: ([.fieldLink RX4 19 "MixDesk$Strokes" "restCost" "[I", .constant RX4 44 (1073741824), .fieldLink RX4 22 "MixDesk$Strokes" "nextTaken" "[I", .fieldLink RX4 15 "MixDesk$Strokes" "count" "I", .fieldLink RX4 11 "MixDesk$Strokes" "ticks" "[I", .methodLink RX4 45 yX4_gapCost, .static yX4_gapCost, .initialized RX4, .code yX4_gapCost cX4_gapCost 4 (some .int), .methodLink RX4 49 Lib.Math.max.name, .static Lib.Math.max.name, .initialized "java/lang/Math", .code Lib.Math.max.name Lib.Math.max.code 2 (some .int), .methodLink RX4 55 Lib.Math.abs.name, .static Lib.Math.abs.name, .code Lib.Math.abs.name Lib.Math.abs.code 1 (some .int)] ++ wsX40)
def wsX4_keepBeats : List Cond := .code yX4_keepBeats cX4_keepBeats 4 none :: ([.fieldLink RX4 28 "MixDesk$Strokes" "takenCount" "I", .fieldLink RX4 15 "MixDesk$Strokes" "count" "I", .fieldLink RX4 25 "MixDesk$Strokes" "taken" "[I", .fieldLink RX4 22 "MixDesk$Strokes" "nextTaken" "[I"] ++ wsX40)
def wsX4_seekBeats_r1 : List Cond := [Cond.fieldLink RX4 15 "MixDesk$Strokes" "count" "I", Cond.fieldLink RX4 19 "MixDesk$Strokes" "restCost" "[I", Cond.methodLink RX4 36 yX4_chooseNext, Cond.instanceMethod yX4_chooseNext, Cond.selects RX4 yX4_chooseNext yX4_chooseNext, Cond.initialized RX4, Cond.code yX4_chooseNext cX4_chooseNext 7 none, Cond.constant RX4 44 (1073741824), Cond.fieldLink RX4 22 "MixDesk$Strokes" "nextTaken" "[I", Cond.fieldLink RX4 11 "MixDesk$Strokes" "ticks" "[I", Cond.methodLink RX4 45 yX4_gapCost, Cond.static yX4_gapCost, Cond.code yX4_gapCost cX4_gapCost 4 (some .int), Cond.methodLink RX4 49 Lib.Math.max.name, Cond.static Lib.Math.max.name, Cond.initialized "java/lang/Math", Cond.code Lib.Math.max.name Lib.Math.max.code 2 (some .int), Cond.methodLink RX4 55 Lib.Math.abs.name, Cond.static Lib.Math.abs.name, Cond.code Lib.Math.abs.name Lib.Math.abs.code 1 (some .int), Cond.methodLink RX4 40 yX4_keepBeats, Cond.instanceMethod yX4_keepBeats, Cond.selects RX4 yX4_keepBeats yX4_keepBeats, Cond.code yX4_keepBeats cX4_keepBeats 4 none]
def wsX4_seekBeats_r2 : List Cond := [Cond.fieldLink RX4 28 "MixDesk$Strokes" "takenCount" "I", Cond.fieldLink RX4 25 "MixDesk$Strokes" "taken" "[I"]
def wsX4_seekBeats : List Cond := .code yX4_seekBeats cX4_seekBeats 6 (some .int) :: ((wsX4_seekBeats_r1 ++ wsX4_seekBeats_r2) ++ wsX40)
def wsX5_init_r1 : List Cond := [Cond.methodLink RX5 1 objectInit, Cond.instanceMethod objectInit, Cond.code objectInit ⟨#[0xb1]⟩ 1 none, Cond.classLink RX5 9 RX3, Cond.fieldLink RX5 11 "MixDesk" "songs" "[LMixDesk$Song;", Cond.arrayClass .int, Cond.fieldLink RX5 15 "MixDesk" "wishes" "[I", Cond.classLink RX5 19 RX4, Cond.instantiable RX4 6, Cond.initialized RX4, Cond.fieldLink RX5 22 "MixDesk" "strokes" "LMixDesk$Strokes;", Cond.classLink RX5 26 RX0, Cond.instantiable RX0 8, Cond.initialized RX0, Cond.fieldLink RX5 29 "MixDesk" "joins" "LMixDesk$Joins;", Cond.classLink RX5 33 RX1, Cond.instantiable RX1 4, Cond.initialized RX1, Cond.fieldLink RX5 36 "MixDesk" "meeting" "LMixDesk$Meeting;", Cond.classLink RX5 40 RX2, Cond.instantiable RX2 8, Cond.initialized RX2, Cond.fieldLink RX5 43 "MixDesk" "nights" "LMixDesk$Nights;", Cond.instanceMethod yX4_init]
def wsX5_init_r2 : List Cond := [Cond.code yX4_init cX4_init 1 none, Cond.methodLink RX4 3 objectInit, Cond.fieldLink RX4 11 "MixDesk$Strokes" "ticks" "[I", Cond.fieldLink RX4 15 "MixDesk$Strokes" "count" "I", Cond.fieldLink RX4 19 "MixDesk$Strokes" "restCost" "[I", Cond.fieldLink RX4 22 "MixDesk$Strokes" "nextTaken" "[I", Cond.fieldLink RX4 25 "MixDesk$Strokes" "taken" "[I", Cond.fieldLink RX4 28 "MixDesk$Strokes" "takenCount" "I", Cond.methodLink RX5 28 yX0_init, Cond.instanceMethod yX0_init, Cond.code yX0_init cX0_init 1 none, Cond.methodLink RX0 3 objectInit, Cond.fieldLink RX0 9 "MixDesk$Joins" "bound" "I", Cond.fieldLink RX0 15 "MixDesk$Joins" "keyCost" "I", Cond.fieldLink RX0 18 "MixDesk$Joins" "heatCost" "I", Cond.fieldLink RX0 21 "MixDesk$Joins" "leastCost" "[I", Cond.fieldLink RX0 25 "MixDesk$Joins" "leastP" "[I", Cond.fieldLink RX0 28 "MixDesk$Joins" "leastQ" "[I", Cond.fieldLink RX0 31 "MixDesk$Joins" "late" "[I", Cond.fieldLink RX0 34 "MixDesk$Joins" "early" "[I", Cond.methodLink RX0 37 yJ7_fill_53178, Cond.static yJ7_fill_53178, Cond.initialized RJ7, Cond.code yJ7_fill_53178 cJ7_fill_53178 4 none]
def wsX5_init_r3 : List Cond := [Cond.instanceMethod yX1_init, Cond.code yX1_init cX1_init 1 none, Cond.methodLink RX1 3 objectInit, Cond.fieldLink RX1 9 "MixDesk$Meeting" "beats" "I", Cond.fieldLink RX1 15 "MixDesk$Meeting" "begins" "[I", Cond.fieldLink RX1 19 "MixDesk$Meeting" "lasts" "[I", Cond.fieldLink RX1 22 "MixDesk$Meeting" "bends" "[I", Cond.instanceMethod yX2_init, Cond.code yX2_init cX2_init 1 none, Cond.methodLink RX2 3 objectInit, Cond.classLink RX2 9 RX3, Cond.fieldLink RX2 11 "MixDesk$Nights" "songs" "[LMixDesk$Song;", Cond.fieldLink RX2 17 "MixDesk$Nights" "count" "I", Cond.fieldLink RX2 21 "MixDesk$Nights" "step" "[I", Cond.arrayClass .boolean, Cond.fieldLink RX2 25 "MixDesk$Nights" "mayBegin" "[Z", Cond.fieldLink RX2 29 "MixDesk$Nights" "rest" "[I", Cond.constant RX2 32 (1073741824), Cond.fieldLink RX2 33 "MixDesk$Nights" "cost" "I", Cond.fieldLink RX2 36 "MixDesk$Nights" "order" "[I", Cond.fieldLink RX2 39 "MixDesk$Nights" "told" "I"]
def wsX5_init : List Cond := .code yX5_init cX5_init 1 none :: ((wsX5_init_r1 ++ (wsX5_init_r2 ++ wsX5_init_r3)) ++ wsX50 ++ wsX40 ++ wsX00 ++ wsX10 ++ wsX20)
def wsX5_canBeSong : List Cond := .code yX5_canBeSong cX5_canBeSong 4 (some .boolean) :: ([.methodLink RX5 47 yX5_within, .static yX5_within, .initialized RX5, .code yX5_within cX5_within 3 (some .boolean)])
def wsX5_forgetSong : List Cond := .code yX5_forgetSong cX5_forgetSong 3 none :: ([.fieldLink RX5 15 "MixDesk" "wishes" "[I", .fieldLink RX5 29 "MixDesk" "joins" "LMixDesk$Joins;", .methodLink RX5 76 yX0_forgetJoinsOf, .instanceMethod yX0_forgetJoinsOf, .selects RX0 yX0_forgetJoinsOf yX0_forgetJoinsOf, .initialized RX0, .code yX0_forgetJoinsOf cX0_forgetJoinsOf 4 none, .fieldLink RX0 21 "MixDesk$Joins" "leastCost" "[I", .methodLink RX0 43 yX0_slot, .static yX0_slot, .code yX0_slot cX0_slot 3 (some .int)] ++ wsX50 ++ wsX00)
def wsX5_song_r1 : List Cond := [Cond.fieldLink RX5 11 "MixDesk" "songs" "[LMixDesk$Song;", Cond.classLink RX5 9 RX3, Cond.instantiable RX3 19, Cond.initialized RX3, Cond.methodLink RX5 47 yX5_within, Cond.static yX5_within, Cond.initialized RX5, Cond.code yX5_within cX5_within 3 (some .boolean), Cond.methodLink RX5 51 yX5_canBeSong, Cond.static yX5_canBeSong, Cond.code yX5_canBeSong cX5_canBeSong 4 (some .boolean), Cond.methodLink RX5 55 yX5_forgetSong, Cond.instanceMethod yX5_forgetSong, Cond.selects RX5 yX5_forgetSong yX5_forgetSong, Cond.code yX5_forgetSong cX5_forgetSong 3 none, Cond.fieldLink RX5 15 "MixDesk" "wishes" "[I", Cond.fieldLink RX5 29 "MixDesk" "joins" "LMixDesk$Joins;", Cond.methodLink RX5 76 yX0_forgetJoinsOf, Cond.instanceMethod yX0_forgetJoinsOf, Cond.selects RX0 yX0_forgetJoinsOf yX0_forgetJoinsOf, Cond.initialized RX0, Cond.code yX0_forgetJoinsOf cX0_forgetJoinsOf 4 none, Cond.fieldLink RX0 21 "MixDesk$Joins" "leastCost" "[I", Cond.methodLink RX0 43 yX0_slot]
def wsX5_song_r2 : List Cond := [Cond.static yX0_slot, Cond.code yX0_slot cX0_slot 3 (some .int), Cond.methodLink RX5 59 yX3_init, Cond.instanceMethod yX3_init, Cond.code yX3_init cX3_init 6 none, Cond.methodLink RX3 3 objectInit, Cond.instanceMethod objectInit, Cond.code objectInit ⟨#[0xb1]⟩ 1 none, Cond.fieldLink RX3 9 "MixDesk$Song" "key" "I", Cond.fieldLink RX3 15 "MixDesk$Song" "heat" "I", Cond.fieldLink RX3 18 "MixDesk$Song" "phrase" "I", Cond.fieldLink RX3 21 "MixDesk$Song" "loopFrom" "I", Cond.fieldLink RX3 24 "MixDesk$Song" "loopTo" "I", Cond.fieldLink RX3 27 "MixDesk$Song" "loopTimes" "I", Cond.arrayClass .int, Cond.fieldLink RX3 30 "MixDesk$Song" "beatsOf" "[I", Cond.fieldLink RX3 34 "MixDesk$Song" "firstOf" "[I", Cond.fieldLink RX3 37 "MixDesk$Song" "tickOf" "[I", Cond.fieldLink RX3 40 "MixDesk$Song" "barAt" "[I", Cond.fieldLink RX3 43 "MixDesk$Song" "tickAt" "[I", Cond.fieldLink RX3 46 "MixDesk$Song" "wholeFrom" "[I", Cond.fieldLink RX3 49 "MixDesk$Song" "lastsAt" "[I", Cond.fieldLink RX3 52 "MixDesk$Song" "number" "I", Cond.fieldLink RX3 55 "MixDesk$Song" "kind" "I"]
def wsX5_song_r3 : List Cond := [Cond.fieldLink RX3 58 "MixDesk$Song" "bars" "I", Cond.fieldLink RX3 61 "MixDesk$Song" "step" "I", Cond.fieldLink RX3 64 "MixDesk$Song" "more" "I", Cond.methodLink RX3 67 yJ7_fill_53178, Cond.static yJ7_fill_53178, Cond.initialized RJ7, Cond.code yJ7_fill_53178 cJ7_fill_53178 4 none, Cond.methodLink RX3 73 yX3_layOutBeats, Cond.instanceMethod yX3_layOutBeats, Cond.selects RX3 yX3_layOutBeats yX3_layOutBeats, Cond.code yX3_layOutBeats cX3_layOutBeats 5 none, Cond.methodLink RX3 83 yX3_lasting, Cond.instanceMethod yX3_lasting, Cond.selects RX3 yX3_lasting yX3_lasting, Cond.code yX3_lasting cX3_lasting 2 (some .int), Cond.methodLink RX3 99 Lib.Math.min.name, Cond.static Lib.Math.min.name, Cond.initialized "java/lang/Math", Cond.code Lib.Math.min.name Lib.Math.min.code 2 (some .int), Cond.methodLink RX3 102 Lib.Math.max.name, Cond.static Lib.Math.max.name, Cond.code Lib.Math.max.name Lib.Math.max.code 2 (some .int), Cond.methodLink RX3 93 yJ9_floorDiv_7cf53, Cond.static yJ9_floorDiv_7cf53]
def wsX5_song_r4 : List Cond := [Cond.initialized RJ9, Cond.code yJ9_floorDiv_7cf53 cJ9_floorDiv_7cf53 3 (some .int), Cond.methodLink RX3 76 yX3_layOutPlayedBars, Cond.instanceMethod yX3_layOutPlayedBars, Cond.selects RX3 yX3_layOutPlayedBars yX3_layOutPlayedBars, Cond.code yX3_layOutPlayedBars cX3_layOutPlayedBars 6 none, Cond.fieldLink RX3 87 "MixDesk$Song" "playedBars" "I", Cond.methodLink RX3 90 yX3_barPlayed, Cond.instanceMethod yX3_barPlayed, Cond.selects RX3 yX3_barPlayed yX3_barPlayed, Cond.code yX3_barPlayed cX3_barPlayed 3 (some .int)]
def wsX5_song : List Cond := .code yX5_song cX5_song 6 (some .boolean) :: ((wsX5_song_r1 ++ (wsX5_song_r2 ++ (wsX5_song_r3 ++ wsX5_song_r4))) ++ wsX50 ++ wsX30 ++ wsX00)
def wsX5_songAt : List Cond := .code yX5_songAt cX5_songAt 2 (some (.object "MixDesk$Song")) :: ([.fieldLink RX5 11 "MixDesk" "songs" "[LMixDesk$Song;", .methodLink RX5 47 yX5_within, .static yX5_within, .initialized RX5, .code yX5_within cX5_within 3 (some .boolean)] ++ wsX50)
def wsX5_about : List Cond := .code yX5_about cX5_about 6 (some .boolean) :: ([.fieldLink RX5 66 "MixDesk$Song" "key" "I", .fieldLink RX5 70 "MixDesk$Song" "heat" "I", .fieldLink RX5 73 "MixDesk$Song" "phrase" "I", .fieldLink RX5 29 "MixDesk" "joins" "LMixDesk$Joins;", .methodLink RX5 62 yX5_songAt, .instanceMethod yX5_songAt, .selects RX5 yX5_songAt yX5_songAt, .initialized RX5, .code yX5_songAt cX5_songAt 2 (some (.object "MixDesk$Song")), .fieldLink RX5 11 "MixDesk" "songs" "[LMixDesk$Song;", .methodLink RX5 47 yX5_within, .static yX5_within, .code yX5_within cX5_within 3 (some .boolean), .methodLink RX5 76 yX0_forgetJoinsOf, .instanceMethod yX0_forgetJoinsOf, .selects RX0 yX0_forgetJoinsOf yX0_forgetJoinsOf, .initialized RX0, .code yX0_forgetJoinsOf cX0_forgetJoinsOf 4 none, .fieldLink RX0 21 "MixDesk$Joins" "leastCost" "[I", .methodLink RX0 43 yX0_slot, .static yX0_slot, .code yX0_slot cX0_slot 3 (some .int)] ++ wsX30 ++ wsX50 ++ wsX00)
def wsX5_bar_r1 : List Cond := [Cond.fieldLink RX5 79 "MixDesk$Song" "bars" "I", Cond.fieldLink RX5 29 "MixDesk" "joins" "LMixDesk$Joins;", Cond.methodLink RX5 62 yX5_songAt, Cond.instanceMethod yX5_songAt, Cond.selects RX5 yX5_songAt yX5_songAt, Cond.initialized RX5, Cond.code yX5_songAt cX5_songAt 2 (some (.object "MixDesk$Song")), Cond.fieldLink RX5 11 "MixDesk" "songs" "[LMixDesk$Song;", Cond.methodLink RX5 47 yX5_within, Cond.static yX5_within, Cond.code yX5_within cX5_within 3 (some .boolean), Cond.methodLink RX5 82 yX3_setBeats, Cond.instanceMethod yX3_setBeats, Cond.selects RX3 yX3_setBeats yX3_setBeats, Cond.initialized RX3, Cond.code yX3_setBeats cX3_setBeats 3 none, Cond.fieldLink RX3 30 "MixDesk$Song" "beatsOf" "[I", Cond.methodLink RX3 73 yX3_layOutBeats, Cond.instanceMethod yX3_layOutBeats, Cond.selects RX3 yX3_layOutBeats yX3_layOutBeats, Cond.code yX3_layOutBeats cX3_layOutBeats 5 none, Cond.fieldLink RX3 58 "MixDesk$Song" "bars" "I", Cond.fieldLink RX3 34 "MixDesk$Song" "firstOf" "[I", Cond.fieldLink RX3 37 "MixDesk$Song" "tickOf" "[I"]
def wsX5_bar_r2 : List Cond := [Cond.methodLink RX3 83 yX3_lasting, Cond.instanceMethod yX3_lasting, Cond.selects RX3 yX3_lasting yX3_lasting, Cond.code yX3_lasting cX3_lasting 2 (some .int), Cond.fieldLink RX3 55 "MixDesk$Song" "kind" "I", Cond.fieldLink RX3 61 "MixDesk$Song" "step" "I", Cond.fieldLink RX3 64 "MixDesk$Song" "more" "I", Cond.methodLink RX3 99 Lib.Math.min.name, Cond.static Lib.Math.min.name, Cond.initialized "java/lang/Math", Cond.code Lib.Math.min.name Lib.Math.min.code 2 (some .int), Cond.methodLink RX3 102 Lib.Math.max.name, Cond.static Lib.Math.max.name, Cond.code Lib.Math.max.name Lib.Math.max.code 2 (some .int), Cond.methodLink RX3 93 yJ9_floorDiv_7cf53, Cond.static yJ9_floorDiv_7cf53, Cond.initialized RJ9, Cond.code yJ9_floorDiv_7cf53 cJ9_floorDiv_7cf53 3 (some .int), Cond.methodLink RX3 76 yX3_layOutPlayedBars, Cond.instanceMethod yX3_layOutPlayedBars, Cond.selects RX3 yX3_layOutPlayedBars yX3_layOutPlayedBars, Cond.code yX3_layOutPlayedBars cX3_layOutPlayedBars 6 none, Cond.fieldLink RX3 27 "MixDesk$Song" "loopTimes" "I", Cond.fieldLink RX3 24 "MixDesk$Song" "loopTo" "I"]
def wsX5_bar_r3 : List Cond := [Cond.fieldLink RX3 21 "MixDesk$Song" "loopFrom" "I", Cond.fieldLink RX3 87 "MixDesk$Song" "playedBars" "I", Cond.fieldLink RX3 40 "MixDesk$Song" "barAt" "[I", Cond.fieldLink RX3 43 "MixDesk$Song" "tickAt" "[I", Cond.fieldLink RX3 49 "MixDesk$Song" "lastsAt" "[I", Cond.fieldLink RX3 46 "MixDesk$Song" "wholeFrom" "[I", Cond.methodLink RX3 90 yX3_barPlayed, Cond.instanceMethod yX3_barPlayed, Cond.selects RX3 yX3_barPlayed yX3_barPlayed, Cond.code yX3_barPlayed cX3_barPlayed 3 (some .int), Cond.methodLink RX5 76 yX0_forgetJoinsOf, Cond.instanceMethod yX0_forgetJoinsOf, Cond.selects RX0 yX0_forgetJoinsOf yX0_forgetJoinsOf, Cond.initialized RX0, Cond.code yX0_forgetJoinsOf cX0_forgetJoinsOf 4 none, Cond.fieldLink RX0 21 "MixDesk$Joins" "leastCost" "[I", Cond.methodLink RX0 43 yX0_slot, Cond.static yX0_slot, Cond.code yX0_slot cX0_slot 3 (some .int)]
def wsX5_bar : List Cond := .code yX5_bar cX5_bar 5 (some .boolean) :: ((wsX5_bar_r1 ++ (wsX5_bar_r2 ++ wsX5_bar_r3)) ++ wsX30 ++ wsX50 ++ wsX00)
def wsX5_loop_r1 : List Cond := [Cond.fieldLink RX5 29 "MixDesk" "joins" "LMixDesk$Joins;", Cond.methodLink RX5 62 yX5_songAt, Cond.instanceMethod yX5_songAt, Cond.selects RX5 yX5_songAt yX5_songAt, Cond.initialized RX5, Cond.code yX5_songAt cX5_songAt 2 (some (.object "MixDesk$Song")), Cond.fieldLink RX5 11 "MixDesk" "songs" "[LMixDesk$Song;", Cond.methodLink RX5 47 yX5_within, Cond.static yX5_within, Cond.code yX5_within cX5_within 3 (some .boolean), Cond.methodLink RX5 86 yX3_canLoop, Cond.instanceMethod yX3_canLoop, Cond.selects RX3 yX3_canLoop yX3_canLoop, Cond.initialized RX3, Cond.code yX3_canLoop cX3_canLoop 4 (some .boolean), Cond.fieldLink RX3 58 "MixDesk$Song" "bars" "I", Cond.methodLink RX5 89 yX3_setLoop, Cond.instanceMethod yX3_setLoop, Cond.selects RX3 yX3_setLoop yX3_setLoop, Cond.code yX3_setLoop cX3_setLoop 4 none, Cond.fieldLink RX3 21 "MixDesk$Song" "loopFrom" "I", Cond.fieldLink RX3 24 "MixDesk$Song" "loopTo" "I", Cond.fieldLink RX3 27 "MixDesk$Song" "loopTimes" "I", Cond.methodLink RX3 76 yX3_layOutPlayedBars]
def wsX5_loop_r2 : List Cond := [Cond.instanceMethod yX3_layOutPlayedBars, Cond.selects RX3 yX3_layOutPlayedBars yX3_layOutPlayedBars, Cond.code yX3_layOutPlayedBars cX3_layOutPlayedBars 6 none, Cond.fieldLink RX3 87 "MixDesk$Song" "playedBars" "I", Cond.fieldLink RX3 40 "MixDesk$Song" "barAt" "[I", Cond.fieldLink RX3 43 "MixDesk$Song" "tickAt" "[I", Cond.fieldLink RX3 30 "MixDesk$Song" "beatsOf" "[I", Cond.fieldLink RX3 34 "MixDesk$Song" "firstOf" "[I", Cond.fieldLink RX3 49 "MixDesk$Song" "lastsAt" "[I", Cond.fieldLink RX3 37 "MixDesk$Song" "tickOf" "[I", Cond.fieldLink RX3 46 "MixDesk$Song" "wholeFrom" "[I", Cond.methodLink RX3 90 yX3_barPlayed, Cond.instanceMethod yX3_barPlayed, Cond.selects RX3 yX3_barPlayed yX3_barPlayed, Cond.code yX3_barPlayed cX3_barPlayed 3 (some .int), Cond.methodLink RX5 76 yX0_forgetJoinsOf, Cond.instanceMethod yX0_forgetJoinsOf, Cond.selects RX0 yX0_forgetJoinsOf yX0_forgetJoinsOf, Cond.initialized RX0, Cond.code yX0_forgetJoinsOf cX0_forgetJoinsOf 4 none, Cond.fieldLink RX0 21 "MixDesk$Joins" "leastCost" "[I", Cond.methodLink RX0 43 yX0_slot, Cond.static yX0_slot, Cond.code yX0_slot cX0_slot 3 (some .int)]
def wsX5_loop : List Cond := .code yX5_loop cX5_loop 6 (some .boolean) :: ((wsX5_loop_r1 ++ wsX5_loop_r2) ++ wsX50 ++ wsX30 ++ wsX00)
def wsX5_drop : List Cond := .code yX5_drop cX5_drop 2 (some .boolean) :: ([.fieldLink RX5 11 "MixDesk" "songs" "[LMixDesk$Song;", .methodLink RX5 62 yX5_songAt, .instanceMethod yX5_songAt, .selects RX5 yX5_songAt yX5_songAt, .initialized RX5, .code yX5_songAt cX5_songAt 2 (some (.object "MixDesk$Song")), .methodLink RX5 47 yX5_within, .static yX5_within, .code yX5_within cX5_within 3 (some .boolean), .methodLink RX5 55 yX5_forgetSong, .instanceMethod yX5_forgetSong, .selects RX5 yX5_forgetSong yX5_forgetSong, .code yX5_forgetSong cX5_forgetSong 3 none, .fieldLink RX5 15 "MixDesk" "wishes" "[I", .fieldLink RX5 29 "MixDesk" "joins" "LMixDesk$Joins;", .methodLink RX5 76 yX0_forgetJoinsOf, .instanceMethod yX0_forgetJoinsOf, .selects RX0 yX0_forgetJoinsOf yX0_forgetJoinsOf, .initialized RX0, .code yX0_forgetJoinsOf cX0_forgetJoinsOf 4 none, .fieldLink RX0 21 "MixDesk$Joins" "leastCost" "[I", .methodLink RX0 43 yX0_slot, .static yX0_slot, .code yX0_slot cX0_slot 3 (some .int)] ++ wsX50 ++ wsX00)
def wsX5_of_r1 : List Cond := [Cond.fieldLink RX5 93 "MixDesk$Song" "kind" "I", Cond.fieldLink RX5 79 "MixDesk$Song" "bars" "I", Cond.fieldLink RX5 96 "MixDesk$Song" "step" "I", Cond.fieldLink RX5 99 "MixDesk$Song" "more" "I", Cond.fieldLink RX5 66 "MixDesk$Song" "key" "I", Cond.fieldLink RX5 70 "MixDesk$Song" "heat" "I", Cond.fieldLink RX5 73 "MixDesk$Song" "phrase" "I", Cond.fieldLink RX5 102 "MixDesk$Song" "playedBars" "I", Cond.methodLink RX5 62 yX5_songAt, Cond.instanceMethod yX5_songAt, Cond.selects RX5 yX5_songAt yX5_songAt, Cond.initialized RX5, Cond.code yX5_songAt cX5_songAt 2 (some (.object "MixDesk$Song")), Cond.fieldLink RX5 11 "MixDesk" "songs" "[LMixDesk$Song;", Cond.methodLink RX5 47 yX5_within, Cond.static yX5_within, Cond.code yX5_within cX5_within 3 (some .boolean), Cond.methodLink RX5 105 yX3_beats, Cond.instanceMethod yX3_beats, Cond.selects RX3 yX3_beats yX3_beats, Cond.initialized RX3, Cond.code yX3_beats cX3_beats 1 (some .int), Cond.fieldLink RX3 34 "MixDesk$Song" "firstOf" "[I", Cond.fieldLink RX3 58 "MixDesk$Song" "bars" "I"]
def wsX5_of_r2 : List Cond := [Cond.methodLink RX5 109 yX3_brokenBars, Cond.instanceMethod yX3_brokenBars, Cond.selects RX3 yX3_brokenBars yX3_brokenBars, Cond.code yX3_brokenBars cX3_brokenBars 3 (some .int), Cond.fieldLink RX3 30 "MixDesk$Song" "beatsOf" "[I"]
def wsX5_of : List Cond := .code yX5_of cX5_of 4 (some .int) :: ((wsX5_of_r1 ++ wsX5_of_r2) ++ wsX30 ++ wsX50)
def wsX5_beat : List Cond := .code yX5_beat cX5_beat 4 (some .int) :: ([.fieldLink RX5 112 "MixDesk$Song" "tickOf" "[I", .methodLink RX5 62 yX5_songAt, .instanceMethod yX5_songAt, .selects RX5 yX5_songAt yX5_songAt, .initialized RX5, .code yX5_songAt cX5_songAt 2 (some (.object "MixDesk$Song")), .fieldLink RX5 11 "MixDesk" "songs" "[LMixDesk$Song;", .methodLink RX5 47 yX5_within, .static yX5_within, .code yX5_within cX5_within 3 (some .boolean), .methodLink RX5 105 yX3_beats, .instanceMethod yX3_beats, .selects RX3 yX3_beats yX3_beats, .initialized RX3, .code yX3_beats cX3_beats 1 (some .int), .fieldLink RX3 34 "MixDesk$Song" "firstOf" "[I", .fieldLink RX3 58 "MixDesk$Song" "bars" "I"] ++ wsX30 ++ wsX50)
def wsX5_played : List Cond := .code yX5_played cX5_played 5 (some .int) :: ([.fieldLink RX5 102 "MixDesk$Song" "playedBars" "I", .fieldLink RX5 115 "MixDesk$Song" "barAt" "[I", .fieldLink RX5 118 "MixDesk$Song" "tickAt" "[I", .fieldLink RX5 121 "MixDesk$Song" "beatsOf" "[I", .methodLink RX5 62 yX5_songAt, .instanceMethod yX5_songAt, .selects RX5 yX5_songAt yX5_songAt, .initialized RX5, .code yX5_songAt cX5_songAt 2 (some (.object "MixDesk$Song")), .fieldLink RX5 11 "MixDesk" "songs" "[LMixDesk$Song;", .methodLink RX5 47 yX5_within, .static yX5_within, .code yX5_within cX5_within 3 (some .boolean)] ++ wsX30 ++ wsX50)
def wsX5_length : List Cond := .code yX5_length cX5_length 3 (some .int) :: ([.fieldLink RX5 118 "MixDesk$Song" "tickAt" "[I", .fieldLink RX5 102 "MixDesk$Song" "playedBars" "I", .methodLink RX5 62 yX5_songAt, .instanceMethod yX5_songAt, .selects RX5 yX5_songAt yX5_songAt, .initialized RX5, .code yX5_songAt cX5_songAt 2 (some (.object "MixDesk$Song")), .fieldLink RX5 11 "MixDesk" "songs" "[LMixDesk$Song;", .methodLink RX5 47 yX5_within, .static yX5_within, .code yX5_within cX5_within 3 (some .boolean)] ++ wsX30 ++ wsX50)
def wsX5_stroke : List Cond := .code yX5_stroke cX5_stroke 2 (some .int) :: ([.fieldLink RX5 22 "MixDesk" "strokes" "LMixDesk$Strokes;", .methodLink RX5 124 yX4_add, .instanceMethod yX4_add, .selects RX4 yX4_add yX4_add, .initialized RX4, .code yX4_add cX4_add 2 (some .int), .fieldLink RX4 15 "MixDesk$Strokes" "count" "I", .constant RX4 31 (1000000), .fieldLink RX4 11 "MixDesk$Strokes" "ticks" "[I", .static yX5_within, .initialized RX5, .code yX5_within cX5_within 3 (some .boolean)] ++ wsX50 ++ wsX40)
def wsX5_clear : List Cond := .code yX5_clear cX5_clear 1 (some .int) :: ([.fieldLink RX5 22 "MixDesk" "strokes" "LMixDesk$Strokes;", .methodLink RX5 128 yX4_empty, .instanceMethod yX4_empty, .selects RX4 yX4_empty yX4_empty, .initialized RX4, .code yX4_empty cX4_empty 2 (some .int), .fieldLink RX4 15 "MixDesk$Strokes" "count" "I"] ++ wsX50 ++ wsX40)
def wsX5_find_r1 : List Cond := [Cond.fieldLink RX5 22 "MixDesk" "strokes" "LMixDesk$Strokes;", Cond.methodLink RX5 47 yX5_within, Cond.static yX5_within, Cond.initialized RX5, Cond.code yX5_within cX5_within 3 (some .boolean), Cond.methodLink RX5 131 yX4_seekBeats, Cond.instanceMethod yX4_seekBeats, Cond.selects RX4 yX4_seekBeats yX4_seekBeats, Cond.initialized RX4, Cond.code yX4_seekBeats cX4_seekBeats 6 (some .int), Cond.fieldLink RX4 15 "MixDesk$Strokes" "count" "I", Cond.fieldLink RX4 19 "MixDesk$Strokes" "restCost" "[I", Cond.methodLink RX4 36 yX4_chooseNext, Cond.instanceMethod yX4_chooseNext, Cond.selects RX4 yX4_chooseNext yX4_chooseNext, Cond.code yX4_chooseNext cX4_chooseNext 7 none, Cond.constant RX4 44 (1073741824), Cond.fieldLink RX4 22 "MixDesk$Strokes" "nextTaken" "[I", Cond.fieldLink RX4 11 "MixDesk$Strokes" "ticks" "[I", Cond.methodLink RX4 45 yX4_gapCost, Cond.static yX4_gapCost, Cond.code yX4_gapCost cX4_gapCost 4 (some .int), Cond.methodLink RX4 49 Lib.Math.max.name, Cond.static Lib.Math.max.name]
def wsX5_find_r2 : List Cond := [Cond.initialized "java/lang/Math", Cond.code Lib.Math.max.name Lib.Math.max.code 2 (some .int), Cond.methodLink RX4 55 Lib.Math.abs.name, Cond.static Lib.Math.abs.name, Cond.code Lib.Math.abs.name Lib.Math.abs.code 1 (some .int), Cond.methodLink RX4 40 yX4_keepBeats, Cond.instanceMethod yX4_keepBeats, Cond.selects RX4 yX4_keepBeats yX4_keepBeats, Cond.code yX4_keepBeats cX4_keepBeats 4 none, Cond.fieldLink RX4 28 "MixDesk$Strokes" "takenCount" "I", Cond.fieldLink RX4 25 "MixDesk$Strokes" "taken" "[I"]
def wsX5_find : List Cond := .code yX5_find cX5_find 4 (some .int) :: ((wsX5_find_r1 ++ wsX5_find_r2) ++ wsX50 ++ wsX40)
def wsX5_found : List Cond := .code yX5_found cX5_found 2 (some .int) :: ([.fieldLink RX5 22 "MixDesk" "strokes" "LMixDesk$Strokes;", .methodLink RX5 135 yX4_foundStroke, .instanceMethod yX4_foundStroke, .selects RX4 yX4_foundStroke yX4_foundStroke, .initialized RX4, .code yX4_foundStroke cX4_foundStroke 2 (some .int), .fieldLink RX4 28 "MixDesk$Strokes" "takenCount" "I", .fieldLink RX4 25 "MixDesk$Strokes" "taken" "[I", .static yX5_within, .initialized RX5, .code yX5_within cX5_within 3 (some .boolean)] ++ wsX50 ++ wsX40)
def wsX5_costs : List Cond := .code yX5_costs cX5_costs 4 (some .boolean) :: ([.fieldLink RX5 29 "MixDesk" "joins" "LMixDesk$Joins;", .methodLink RX5 47 yX5_within, .static yX5_within, .initialized RX5, .code yX5_within cX5_within 3 (some .boolean), .methodLink RX5 138 yX0_setCosts, .instanceMethod yX0_setCosts, .selects RX0 yX0_setCosts yX0_setCosts, .initialized RX0, .code yX0_setCosts cX0_setCosts 4 none, .fieldLink RX0 9 "MixDesk$Joins" "bound" "I", .fieldLink RX0 15 "MixDesk$Joins" "keyCost" "I", .fieldLink RX0 18 "MixDesk$Joins" "heatCost" "I", .fieldLink RX0 21 "MixDesk$Joins" "leastCost" "[I", .methodLink RX0 37 yJ7_fill_53178, .static yJ7_fill_53178, .initialized RJ7, .code yJ7_fill_53178 cJ7_fill_53178 4 none] ++ wsX50 ++ wsX00)
def wsX5_join_r1 : List Cond := [Cond.fieldLink RX5 102 "MixDesk$Song" "playedBars" "I", Cond.fieldLink RX5 141 "MixDesk$Song" "wholeFrom" "[I", Cond.fieldLink RX5 29 "MixDesk" "joins" "LMixDesk$Joins;", Cond.constant RX5 148 (1073741824), Cond.fieldLink RX5 36 "MixDesk" "meeting" "LMixDesk$Meeting;", Cond.methodLink RX5 62 yX5_songAt, Cond.instanceMethod yX5_songAt, Cond.selects RX5 yX5_songAt yX5_songAt, Cond.initialized RX5, Cond.code yX5_songAt cX5_songAt 2 (some (.object "MixDesk$Song")), Cond.fieldLink RX5 11 "MixDesk" "songs" "[LMixDesk$Song;", Cond.methodLink RX5 47 yX5_within, Cond.static yX5_within, Cond.code yX5_within cX5_within 3 (some .boolean), Cond.methodLink RX5 144 yX3_beginsPhrase, Cond.instanceMethod yX3_beginsPhrase, Cond.selects RX3 yX3_beginsPhrase yX3_beginsPhrase, Cond.initialized RX3, Cond.code yX3_beginsPhrase cX3_beginsPhrase 2 (some .boolean), Cond.fieldLink RX3 40 "MixDesk$Song" "barAt" "[I", Cond.fieldLink RX3 18 "MixDesk$Song" "phrase" "I", Cond.methodLink RX5 149 yX0_bentBy, Cond.instanceMethod yX0_bentBy, Cond.selects RX0 yX0_bentBy yX0_bentBy]
def wsX5_join_r2 : List Cond := [Cond.initialized RX0, Cond.code yX0_bentBy cX0_bentBy 12 (some .int), Cond.fieldLink RX0 56 "MixDesk$Song" "lastsAt" "[I", Cond.methodLink RX0 63 Lib.Math.abs.name, Cond.static Lib.Math.abs.name, Cond.initialized "java/lang/Math", Cond.code Lib.Math.abs.name Lib.Math.abs.code 1 (some .int), Cond.fieldLink RX0 9 "MixDesk$Joins" "bound" "I", Cond.constant RX0 72 (1073741824), Cond.static yX5_blend, Cond.code yX5_blend cX5_blend 4 (some .int), Cond.methodLink RX5 228 yJ9_floorDiv_7cf53, Cond.static yJ9_floorDiv_7cf53, Cond.initialized RJ9, Cond.code yJ9_floorDiv_7cf53 cJ9_floorDiv_7cf53 3 (some .int), Cond.static yX5_bendOf, Cond.code yX5_bendOf cX5_bendOf 3 (some .int), Cond.methodLink RX5 206 Lib.Math.abs.name, Cond.methodLink RX5 231 Lib.Math.max.name, Cond.static Lib.Math.max.name, Cond.code Lib.Math.max.name Lib.Math.max.code 2 (some .int), Cond.methodLink RX5 153 yX1_keep, Cond.instanceMethod yX1_keep, Cond.selects RX1 yX1_keep yX1_keep]
def wsX5_join_r3 : List Cond := [Cond.initialized RX1, Cond.code yX1_keep cX1_keep 9 none, Cond.fieldLink RX1 9 "MixDesk$Meeting" "beats" "I", Cond.fieldLink RX1 15 "MixDesk$Meeting" "begins" "[I", Cond.fieldLink RX1 25 "MixDesk$Song" "lastsAt" "[I", Cond.fieldLink RX1 19 "MixDesk$Meeting" "lasts" "[I", Cond.fieldLink RX1 22 "MixDesk$Meeting" "bends" "[I", Cond.methodLink RX5 157 yX0_apart, Cond.instanceMethod yX0_apart, Cond.selects RX0 yX0_apart yX0_apart, Cond.code yX0_apart cX0_apart 5 (some .int), Cond.fieldLink RX0 73 "MixDesk$Song" "key" "I", Cond.methodLink RX0 76 Lib.Math.min.name, Cond.static Lib.Math.min.name, Cond.code Lib.Math.min.name Lib.Math.min.code 2 (some .int), Cond.fieldLink RX0 15 "MixDesk$Joins" "keyCost" "I", Cond.fieldLink RX0 18 "MixDesk$Joins" "heatCost" "I", Cond.fieldLink RX0 80 "MixDesk$Song" "heat" "I"]
def wsX5_join : List Cond := .code yX5_join cX5_join 10 (some .int) :: ((wsX5_join_r1 ++ (wsX5_join_r2 ++ wsX5_join_r3)) ++ wsX30 ++ wsX50 ++ wsX00 ++ wsX10)
def wsX5_meets : List Cond := .code yX5_meets cX5_meets 3 (some .int) :: ([.fieldLink RX5 36 "MixDesk" "meeting" "LMixDesk$Meeting;", .methodLink RX5 161 yX1_tell, .instanceMethod yX1_tell, .selects RX1 yX1_tell yX1_tell, .initialized RX1, .code yX1_tell cX1_tell 3 (some .int), .fieldLink RX1 9 "MixDesk$Meeting" "beats" "I", .fieldLink RX1 15 "MixDesk$Meeting" "begins" "[I", .fieldLink RX1 19 "MixDesk$Meeting" "lasts" "[I", .fieldLink RX1 22 "MixDesk$Meeting" "bends" "[I", .static yX5_within, .initialized RX5, .code yX5_within cX5_within 3 (some .boolean)] ++ wsX50 ++ wsX10)
def wsX5_best_r1 : List Cond := [Cond.fieldLink RX5 29 "MixDesk" "joins" "LMixDesk$Joins;", Cond.fieldLink RX5 169 "MixDesk$Joins" "leastCost" "[I", Cond.constant RX5 148 (1073741824), Cond.fieldLink RX5 172 "MixDesk$Joins" "leastP" "[I", Cond.fieldLink RX5 175 "MixDesk$Joins" "leastQ" "[I", Cond.methodLink RX5 62 yX5_songAt, Cond.instanceMethod yX5_songAt, Cond.selects RX5 yX5_songAt yX5_songAt, Cond.initialized RX5, Cond.code yX5_songAt cX5_songAt 2 (some (.object "MixDesk$Song")), Cond.fieldLink RX5 11 "MixDesk" "songs" "[LMixDesk$Song;", Cond.methodLink RX5 47 yX5_within, Cond.static yX5_within, Cond.code yX5_within cX5_within 3 (some .boolean), Cond.methodLink RX5 165 yX0_slotOf, Cond.instanceMethod yX0_slotOf, Cond.selects RX0 yX0_slotOf yX0_slotOf, Cond.initialized RX0, Cond.code yX0_slotOf cX0_slotOf 5 (some .int), Cond.fieldLink RX0 47 "MixDesk$Song" "number" "I", Cond.fieldLink RX0 21 "MixDesk$Joins" "leastCost" "[I", Cond.methodLink RX0 43 yX0_slot, Cond.static yX0_slot, Cond.code yX0_slot cX0_slot 3 (some .int)]
def wsX5_best_r2 : List Cond := [Cond.methodLink RX0 52 yX0_seekJoin, Cond.instanceMethod yX0_seekJoin, Cond.selects RX0 yX0_seekJoin yX0_seekJoin, Cond.code yX0_seekJoin cX0_seekJoin 11 none, Cond.constant RX0 72 (1073741824), Cond.fieldLink RX0 31 "MixDesk$Joins" "late" "[I", Cond.fieldLink RX0 34 "MixDesk$Joins" "early" "[I", Cond.fieldLink RX0 25 "MixDesk$Joins" "leastP" "[I", Cond.fieldLink RX0 28 "MixDesk$Joins" "leastQ" "[I", Cond.methodLink RX0 83 yX0_listLate, Cond.instanceMethod yX0_listLate, Cond.selects RX0 yX0_listLate yX0_listLate, Cond.code yX0_listLate cX0_listLate 5 (some .int), Cond.fieldLink RX0 98 "MixDesk$Song" "playedBars" "I", Cond.methodLink RX0 101 yX0_canBegin, Cond.static yX0_canBegin, Cond.code yX0_canBegin cX0_canBegin 3 (some .boolean), Cond.fieldLink RX0 109 "MixDesk$Song" "wholeFrom" "[I", Cond.methodLink RX0 112 yX3_beginsPhrase, Cond.instanceMethod yX3_beginsPhrase, Cond.selects RX3 yX3_beginsPhrase yX3_beginsPhrase, Cond.initialized RX3, Cond.code yX3_beginsPhrase cX3_beginsPhrase 2 (some .boolean), Cond.fieldLink RX3 40 "MixDesk$Song" "barAt" "[I"]
def wsX5_best_r3 : List Cond := [Cond.fieldLink RX3 18 "MixDesk$Song" "phrase" "I", Cond.methodLink RX0 105 yX3_soundsAlike, Cond.instanceMethod yX3_soundsAlike, Cond.selects RX3 yX3_soundsAlike yX3_soundsAlike, Cond.code yX3_soundsAlike cX3_soundsAlike 5 (some .boolean), Cond.fieldLink RX3 49 "MixDesk$Song" "lastsAt" "[I", Cond.methodLink RX0 87 yX0_listEarly, Cond.instanceMethod yX0_listEarly, Cond.selects RX0 yX0_listEarly yX0_listEarly, Cond.code yX0_listEarly cX0_listEarly 5 (some .int), Cond.methodLink RX0 90 yX0_bentBy, Cond.instanceMethod yX0_bentBy, Cond.selects RX0 yX0_bentBy yX0_bentBy, Cond.code yX0_bentBy cX0_bentBy 12 (some .int), Cond.fieldLink RX0 56 "MixDesk$Song" "lastsAt" "[I", Cond.methodLink RX0 63 Lib.Math.abs.name, Cond.static Lib.Math.abs.name, Cond.initialized "java/lang/Math", Cond.code Lib.Math.abs.name Lib.Math.abs.code 1 (some .int), Cond.fieldLink RX0 9 "MixDesk$Joins" "bound" "I", Cond.static yX5_blend, Cond.code yX5_blend cX5_blend 4 (some .int), Cond.methodLink RX5 228 yJ9_floorDiv_7cf53, Cond.static yJ9_floorDiv_7cf53]
def wsX5_best_r4 : List Cond := [Cond.initialized RJ9, Cond.code yJ9_floorDiv_7cf53 cJ9_floorDiv_7cf53 3 (some .int), Cond.static yX5_bendOf, Cond.code yX5_bendOf cX5_bendOf 3 (some .int), Cond.methodLink RX5 206 Lib.Math.abs.name, Cond.methodLink RX5 231 Lib.Math.max.name, Cond.static Lib.Math.max.name, Cond.code Lib.Math.max.name Lib.Math.max.code 2 (some .int), Cond.methodLink RX0 94 yX0_apart, Cond.instanceMethod yX0_apart, Cond.selects RX0 yX0_apart yX0_apart, Cond.code yX0_apart cX0_apart 5 (some .int), Cond.fieldLink RX0 73 "MixDesk$Song" "key" "I", Cond.methodLink RX0 76 Lib.Math.min.name, Cond.static Lib.Math.min.name, Cond.code Lib.Math.min.name Lib.Math.min.code 2 (some .int), Cond.fieldLink RX0 15 "MixDesk$Joins" "keyCost" "I", Cond.fieldLink RX0 18 "MixDesk$Joins" "heatCost" "I", Cond.fieldLink RX0 80 "MixDesk$Song" "heat" "I"]
def wsX5_best : List Cond := .code yX5_best cX5_best 8 (some .int) :: ((wsX5_best_r1 ++ (wsX5_best_r2 ++ (wsX5_best_r3 ++ wsX5_best_r4))) ++ wsX50 ++ wsX00 ++ wsX30)
def wsX5_must : List Cond := .code yX5_must cX5_must 4 (some .boolean) :: ([.fieldLink RX5 15 "MixDesk" "wishes" "[I", .methodLink RX5 62 yX5_songAt, .instanceMethod yX5_songAt, .selects RX5 yX5_songAt yX5_songAt, .initialized RX5, .code yX5_songAt cX5_songAt 2 (some (.object "MixDesk$Song")), .fieldLink RX5 11 "MixDesk" "songs" "[LMixDesk$Song;", .methodLink RX5 47 yX5_within, .static yX5_within, .code yX5_within cX5_within 3 (some .boolean)] ++ wsX50)
def wsX5_mustsInto : List Cond := .code yX5_mustsInto cX5_mustsInto 4 (some .int) :: ([.fieldLink RX5 15 "MixDesk" "wishes" "[I"] ++ wsX50)
def wsX5_wishAllows : List Cond := .code yX5_wishAllows cX5_wishAllows 4 (some .boolean) :: ([.fieldLink RX5 15 "MixDesk" "wishes" "[I", .methodLink RX5 219 yX5_mustsInto, .instanceMethod yX5_mustsInto, .selects RX5 yX5_mustsInto yX5_mustsInto, .initialized RX5, .code yX5_mustsInto cX5_mustsInto 4 (some .int)] ++ wsX50)
def wsX5_weighSteps_r1 : List Cond := [Cond.fieldLink RX5 43 "MixDesk" "nights" "LMixDesk$Nights;", Cond.fieldLink RX5 211 "MixDesk$Nights" "songs" "[LMixDesk$Song;", Cond.fieldLink RX5 212 "MixDesk$Nights" "mayBegin" "[Z", Cond.fieldLink RX5 216 "MixDesk$Song" "number" "I", Cond.fieldLink RX5 182 "MixDesk$Nights" "count" "I", Cond.fieldLink RX5 226 "MixDesk$Nights" "step" "[I", Cond.fieldLink RX5 29 "MixDesk" "joins" "LMixDesk$Joins;", Cond.fieldLink RX5 169 "MixDesk$Joins" "leastCost" "[I", Cond.constant RX5 148 (1073741824), Cond.methodLink RX5 219 yX5_mustsInto, Cond.instanceMethod yX5_mustsInto, Cond.selects RX5 yX5_mustsInto yX5_mustsInto, Cond.initialized RX5, Cond.code yX5_mustsInto cX5_mustsInto 4 (some .int), Cond.fieldLink RX5 15 "MixDesk" "wishes" "[I", Cond.methodLink RX5 222 yX5_wishAllows, Cond.instanceMethod yX5_wishAllows, Cond.selects RX5 yX5_wishAllows yX5_wishAllows, Cond.code yX5_wishAllows cX5_wishAllows 4 (some .boolean), Cond.methodLink RX5 165 yX0_slotOf, Cond.instanceMethod yX0_slotOf, Cond.selects RX0 yX0_slotOf yX0_slotOf, Cond.initialized RX0, Cond.code yX0_slotOf cX0_slotOf 5 (some .int)]
def wsX5_weighSteps_r2 : List Cond := [Cond.fieldLink RX0 47 "MixDesk$Song" "number" "I", Cond.fieldLink RX0 21 "MixDesk$Joins" "leastCost" "[I", Cond.methodLink RX0 43 yX0_slot, Cond.static yX0_slot, Cond.code yX0_slot cX0_slot 3 (some .int), Cond.methodLink RX0 52 yX0_seekJoin, Cond.instanceMethod yX0_seekJoin, Cond.selects RX0 yX0_seekJoin yX0_seekJoin, Cond.code yX0_seekJoin cX0_seekJoin 11 none, Cond.constant RX0 72 (1073741824), Cond.fieldLink RX0 31 "MixDesk$Joins" "late" "[I", Cond.fieldLink RX0 34 "MixDesk$Joins" "early" "[I", Cond.fieldLink RX0 25 "MixDesk$Joins" "leastP" "[I", Cond.fieldLink RX0 28 "MixDesk$Joins" "leastQ" "[I", Cond.methodLink RX0 83 yX0_listLate, Cond.instanceMethod yX0_listLate, Cond.selects RX0 yX0_listLate yX0_listLate, Cond.code yX0_listLate cX0_listLate 5 (some .int), Cond.fieldLink RX0 98 "MixDesk$Song" "playedBars" "I", Cond.methodLink RX0 101 yX0_canBegin, Cond.static yX0_canBegin, Cond.code yX0_canBegin cX0_canBegin 3 (some .boolean), Cond.fieldLink RX0 109 "MixDesk$Song" "wholeFrom" "[I", Cond.methodLink RX0 112 yX3_beginsPhrase]
def wsX5_weighSteps_r3 : List Cond := [Cond.instanceMethod yX3_beginsPhrase, Cond.selects RX3 yX3_beginsPhrase yX3_beginsPhrase, Cond.initialized RX3, Cond.code yX3_beginsPhrase cX3_beginsPhrase 2 (some .boolean), Cond.fieldLink RX3 40 "MixDesk$Song" "barAt" "[I", Cond.fieldLink RX3 18 "MixDesk$Song" "phrase" "I", Cond.methodLink RX0 105 yX3_soundsAlike, Cond.instanceMethod yX3_soundsAlike, Cond.selects RX3 yX3_soundsAlike yX3_soundsAlike, Cond.code yX3_soundsAlike cX3_soundsAlike 5 (some .boolean), Cond.fieldLink RX3 49 "MixDesk$Song" "lastsAt" "[I", Cond.methodLink RX0 87 yX0_listEarly, Cond.instanceMethod yX0_listEarly, Cond.selects RX0 yX0_listEarly yX0_listEarly, Cond.code yX0_listEarly cX0_listEarly 5 (some .int), Cond.methodLink RX0 90 yX0_bentBy, Cond.instanceMethod yX0_bentBy, Cond.selects RX0 yX0_bentBy yX0_bentBy, Cond.code yX0_bentBy cX0_bentBy 12 (some .int), Cond.fieldLink RX0 56 "MixDesk$Song" "lastsAt" "[I", Cond.methodLink RX0 63 Lib.Math.abs.name, Cond.static Lib.Math.abs.name, Cond.initialized "java/lang/Math", Cond.code Lib.Math.abs.name Lib.Math.abs.code 1 (some .int)]
def wsX5_weighSteps_r4 : List Cond := [Cond.fieldLink RX0 9 "MixDesk$Joins" "bound" "I", Cond.static yX5_blend, Cond.code yX5_blend cX5_blend 4 (some .int), Cond.methodLink RX5 228 yJ9_floorDiv_7cf53, Cond.static yJ9_floorDiv_7cf53, Cond.initialized RJ9, Cond.code yJ9_floorDiv_7cf53 cJ9_floorDiv_7cf53 3 (some .int), Cond.static yX5_bendOf, Cond.code yX5_bendOf cX5_bendOf 3 (some .int), Cond.methodLink RX5 206 Lib.Math.abs.name, Cond.methodLink RX5 231 Lib.Math.max.name, Cond.static Lib.Math.max.name, Cond.code Lib.Math.max.name Lib.Math.max.code 2 (some .int), Cond.methodLink RX0 94 yX0_apart, Cond.instanceMethod yX0_apart, Cond.selects RX0 yX0_apart yX0_apart, Cond.code yX0_apart cX0_apart 5 (some .int), Cond.fieldLink RX0 73 "MixDesk$Song" "key" "I", Cond.methodLink RX0 76 Lib.Math.min.name, Cond.static Lib.Math.min.name, Cond.code Lib.Math.min.name Lib.Math.min.code 2 (some .int), Cond.fieldLink RX0 15 "MixDesk$Joins" "keyCost" "I", Cond.fieldLink RX0 18 "MixDesk$Joins" "heatCost" "I", Cond.fieldLink RX0 80 "MixDesk$Song" "heat" "I"]
def wsX5_weighSteps : List Cond := .code yX5_weighSteps cX5_weighSteps 7 none :: ((wsX5_weighSteps_r1 ++ (wsX5_weighSteps_r2 ++ (wsX5_weighSteps_r3 ++ wsX5_weighSteps_r4))) ++ wsX50 ++ wsX20 ++ wsX30 ++ wsX00)
def wsX5_night_r1 : List Cond := [Cond.fieldLink RX5 43 "MixDesk" "nights" "LMixDesk$Nights;", Cond.fieldLink RX5 11 "MixDesk" "songs" "[LMixDesk$Song;", Cond.fieldLink RX5 182 "MixDesk$Nights" "count" "I", Cond.fieldLink RX5 192 "MixDesk$Nights" "cost" "I", Cond.methodLink RX5 47 yX5_within, Cond.static yX5_within, Cond.initialized RX5, Cond.code yX5_within cX5_within 3 (some .boolean), Cond.methodLink RX5 178 yX2_gather, Cond.instanceMethod yX2_gather, Cond.selects RX2 yX2_gather yX2_gather, Cond.initialized RX2, Cond.code yX2_gather cX2_gather 3 none, Cond.fieldLink RX2 17 "MixDesk$Nights" "count" "I", Cond.fieldLink RX2 11 "MixDesk$Nights" "songs" "[LMixDesk$Song;", Cond.methodLink RX5 185 yX5_weighSteps, Cond.instanceMethod yX5_weighSteps, Cond.selects RX5 yX5_weighSteps yX5_weighSteps, Cond.code yX5_weighSteps cX5_weighSteps 7 none, Cond.fieldLink RX5 211 "MixDesk$Nights" "songs" "[LMixDesk$Song;", Cond.fieldLink RX5 212 "MixDesk$Nights" "mayBegin" "[Z", Cond.fieldLink RX5 216 "MixDesk$Song" "number" "I", Cond.fieldLink RX5 226 "MixDesk$Nights" "step" "[I", Cond.fieldLink RX5 29 "MixDesk" "joins" "LMixDesk$Joins;"]
def wsX5_night_r2 : List Cond := [Cond.fieldLink RX5 169 "MixDesk$Joins" "leastCost" "[I", Cond.constant RX5 148 (1073741824), Cond.methodLink RX5 219 yX5_mustsInto, Cond.instanceMethod yX5_mustsInto, Cond.selects RX5 yX5_mustsInto yX5_mustsInto, Cond.code yX5_mustsInto cX5_mustsInto 4 (some .int), Cond.fieldLink RX5 15 "MixDesk" "wishes" "[I", Cond.methodLink RX5 222 yX5_wishAllows, Cond.instanceMethod yX5_wishAllows, Cond.selects RX5 yX5_wishAllows yX5_wishAllows, Cond.code yX5_wishAllows cX5_wishAllows 4 (some .boolean), Cond.methodLink RX5 165 yX0_slotOf, Cond.instanceMethod yX0_slotOf, Cond.selects RX0 yX0_slotOf yX0_slotOf, Cond.initialized RX0, Cond.code yX0_slotOf cX0_slotOf 5 (some .int), Cond.fieldLink RX0 47 "MixDesk$Song" "number" "I", Cond.fieldLink RX0 21 "MixDesk$Joins" "leastCost" "[I", Cond.methodLink RX0 43 yX0_slot, Cond.static yX0_slot, Cond.code yX0_slot cX0_slot 3 (some .int), Cond.methodLink RX0 52 yX0_seekJoin, Cond.instanceMethod yX0_seekJoin, Cond.selects RX0 yX0_seekJoin yX0_seekJoin]
def wsX5_night_r3 : List Cond := [Cond.code yX0_seekJoin cX0_seekJoin 11 none, Cond.constant RX0 72 (1073741824), Cond.fieldLink RX0 31 "MixDesk$Joins" "late" "[I", Cond.fieldLink RX0 34 "MixDesk$Joins" "early" "[I", Cond.fieldLink RX0 25 "MixDesk$Joins" "leastP" "[I", Cond.fieldLink RX0 28 "MixDesk$Joins" "leastQ" "[I", Cond.methodLink RX0 83 yX0_listLate, Cond.instanceMethod yX0_listLate, Cond.selects RX0 yX0_listLate yX0_listLate, Cond.code yX0_listLate cX0_listLate 5 (some .int), Cond.fieldLink RX0 98 "MixDesk$Song" "playedBars" "I", Cond.methodLink RX0 101 yX0_canBegin, Cond.static yX0_canBegin, Cond.code yX0_canBegin cX0_canBegin 3 (some .boolean), Cond.fieldLink RX0 109 "MixDesk$Song" "wholeFrom" "[I", Cond.methodLink RX0 112 yX3_beginsPhrase, Cond.instanceMethod yX3_beginsPhrase, Cond.selects RX3 yX3_beginsPhrase yX3_beginsPhrase, Cond.initialized RX3, Cond.code yX3_beginsPhrase cX3_beginsPhrase 2 (some .boolean), Cond.fieldLink RX3 40 "MixDesk$Song" "barAt" "[I", Cond.fieldLink RX3 18 "MixDesk$Song" "phrase" "I", Cond.methodLink RX0 105 yX3_soundsAlike, Cond.instanceMethod yX3_soundsAlike]
def wsX5_night_r4 : List Cond := [Cond.selects RX3 yX3_soundsAlike yX3_soundsAlike, Cond.code yX3_soundsAlike cX3_soundsAlike 5 (some .boolean), Cond.fieldLink RX3 49 "MixDesk$Song" "lastsAt" "[I", Cond.methodLink RX0 87 yX0_listEarly, Cond.instanceMethod yX0_listEarly, Cond.selects RX0 yX0_listEarly yX0_listEarly, Cond.code yX0_listEarly cX0_listEarly 5 (some .int), Cond.methodLink RX0 90 yX0_bentBy, Cond.instanceMethod yX0_bentBy, Cond.selects RX0 yX0_bentBy yX0_bentBy, Cond.code yX0_bentBy cX0_bentBy 12 (some .int), Cond.fieldLink RX0 56 "MixDesk$Song" "lastsAt" "[I", Cond.methodLink RX0 63 Lib.Math.abs.name, Cond.static Lib.Math.abs.name, Cond.initialized "java/lang/Math", Cond.code Lib.Math.abs.name Lib.Math.abs.code 1 (some .int), Cond.fieldLink RX0 9 "MixDesk$Joins" "bound" "I", Cond.static yX5_blend, Cond.code yX5_blend cX5_blend 4 (some .int), Cond.methodLink RX5 228 yJ9_floorDiv_7cf53, Cond.static yJ9_floorDiv_7cf53, Cond.initialized RJ9, Cond.code yJ9_floorDiv_7cf53 cJ9_floorDiv_7cf53 3 (some .int), Cond.static yX5_bendOf]
def wsX5_night_r5 : List Cond := [Cond.code yX5_bendOf cX5_bendOf 3 (some .int), Cond.methodLink RX5 206 Lib.Math.abs.name, Cond.methodLink RX5 231 Lib.Math.max.name, Cond.static Lib.Math.max.name, Cond.code Lib.Math.max.name Lib.Math.max.code 2 (some .int), Cond.methodLink RX0 94 yX0_apart, Cond.instanceMethod yX0_apart, Cond.selects RX0 yX0_apart yX0_apart, Cond.code yX0_apart cX0_apart 5 (some .int), Cond.fieldLink RX0 73 "MixDesk$Song" "key" "I", Cond.methodLink RX0 76 Lib.Math.min.name, Cond.static Lib.Math.min.name, Cond.code Lib.Math.min.name Lib.Math.min.code 2 (some .int), Cond.fieldLink RX0 15 "MixDesk$Joins" "keyCost" "I", Cond.fieldLink RX0 18 "MixDesk$Joins" "heatCost" "I", Cond.fieldLink RX0 80 "MixDesk$Song" "heat" "I", Cond.methodLink RX5 188 yX2_seekOrder, Cond.instanceMethod yX2_seekOrder, Cond.selects RX2 yX2_seekOrder yX2_seekOrder, Cond.code yX2_seekOrder cX2_seekOrder 3 (some .boolean), Cond.fieldLink RX2 29 "MixDesk$Nights" "rest" "[I", Cond.arrayClass .int, Cond.fieldLink RX2 33 "MixDesk$Nights" "cost" "I", Cond.methodLink RX2 42 yX2_weighSet]
def wsX5_night_r6 : List Cond := [Cond.instanceMethod yX2_weighSet, Cond.selects RX2 yX2_weighSet yX2_weighSet, Cond.code yX2_weighSet cX2_weighSet 4 none, Cond.constant RX2 32 (1073741824), Cond.methodLink RX2 53 yX2_leastNext, Cond.instanceMethod yX2_leastNext, Cond.selects RX2 yX2_leastNext yX2_leastNext, Cond.code yX2_leastNext cX2_leastNext 7 (some .int), Cond.fieldLink RX2 21 "MixDesk$Nights" "step" "[I", Cond.methodLink RX2 57 yX2_costOver, Cond.instanceMethod yX2_costOver, Cond.selects RX2 yX2_costOver yX2_costOver, Cond.code yX2_costOver cX2_costOver 5 (some .int), Cond.methodLink RX2 46 yX2_leastFirst, Cond.instanceMethod yX2_leastFirst, Cond.selects RX2 yX2_leastFirst yX2_leastFirst, Cond.code yX2_leastFirst cX2_leastFirst 5 (some .int), Cond.fieldLink RX2 25 "MixDesk$Nights" "mayBegin" "[Z", Cond.methodLink RX2 50 yX2_keepOrder, Cond.instanceMethod yX2_keepOrder, Cond.selects RX2 yX2_keepOrder yX2_keepOrder, Cond.code yX2_keepOrder cX2_keepOrder 6 none, Cond.fieldLink RX2 36 "MixDesk$Nights" "order" "[I", Cond.fieldLink RX2 61 "MixDesk$Song" "number" "I"]
def wsX5_night_r7 : List Cond := [Cond.fieldLink RX2 39 "MixDesk$Nights" "told" "I"]
def wsX5_night : List Cond := .code yX5_night cX5_night 3 (some .int) :: ((wsX5_night_r1 ++ (wsX5_night_r2 ++ (wsX5_night_r3 ++ (wsX5_night_r4 ++ (wsX5_night_r5 ++ (wsX5_night_r6 ++ wsX5_night_r7)))))) ++ wsX50 ++ wsX20 ++ wsX30 ++ wsX00)
def wsX5_order : List Cond := .code yX5_order cX5_order 2 (some .int) :: ([.fieldLink RX5 43 "MixDesk" "nights" "LMixDesk$Nights;", .fieldLink RX5 195 "MixDesk$Nights" "told" "I", .fieldLink RX5 198 "MixDesk$Nights" "order" "[I", .methodLink RX5 47 yX5_within, .static yX5_within, .initialized RX5, .code yX5_within cX5_within 3 (some .boolean)] ++ wsX50 ++ wsX20)
def wsX5_mend : List Cond := .code yX5_mend cX5_mend 4 (some .int) :: ([.constant RX5 201 (-100000), .constant RX5 202 (100000), .fieldLink RX5 29 "MixDesk" "joins" "LMixDesk$Joins;", .fieldLink RX5 203 "MixDesk$Joins" "bound" "I", .methodLink RX5 206 Lib.Math.abs.name, .static Lib.Math.abs.name, .initialized "java/lang/Math", .code Lib.Math.abs.name Lib.Math.abs.code 1 (some .int), .methodLink RX5 47 yX5_within, .static yX5_within, .initialized RX5, .code yX5_within cX5_within 3 (some .boolean)] ++ wsX50 ++ wsX00)
def wsX6_init_r1 : List Cond := [Cond.methodLink RX6 1 objectInit, Cond.instanceMethod objectInit, Cond.code objectInit ⟨#[0xb1]⟩ 1 none, Cond.arrayClass .boolean, Cond.fieldLink RX6 7 "MixDeskModel" "isThere" "[Z", Cond.arrayClass .int, Cond.fieldLink RX6 13 "MixDeskModel" "kind" "[I", Cond.fieldLink RX6 17 "MixDeskModel" "bars" "[I", Cond.fieldLink RX6 20 "MixDeskModel" "step" "[I", Cond.fieldLink RX6 23 "MixDeskModel" "more" "[I", Cond.fieldLink RX6 26 "MixDeskModel" "key" "[I", Cond.fieldLink RX6 29 "MixDeskModel" "heat" "[I", Cond.fieldLink RX6 32 "MixDeskModel" "phrase" "[I", Cond.fieldLink RX6 35 "MixDeskModel" "beats" "[I", Cond.fieldLink RX6 38 "MixDeskModel" "loopFrom" "[I", Cond.fieldLink RX6 41 "MixDeskModel" "loopTo" "[I", Cond.fieldLink RX6 44 "MixDeskModel" "loops" "[I", Cond.fieldLink RX6 47 "MixDeskModel" "musts" "[I", Cond.fieldLink RX6 50 "MixDeskModel" "stroke" "[I", Cond.fieldLink RX6 53 "MixDeskModel" "costs" "[I", Cond.fieldLink RX6 56 "MixDeskModel" "foundOnes" "[I", Cond.fieldLink RX6 59 "MixDeskModel" "bound" "I", Cond.fieldLink RX6 63 "MixDeskModel" "keyCost" "I", Cond.fieldLink RX6 66 "MixDeskModel" "heatCost" "I"]
def wsX6_init_r2 : List Cond := [Cond.fieldLink RX6 69 "MixDeskModel" "rowX" "[I", Cond.fieldLink RX6 72 "MixDeskModel" "rowY" "[I", Cond.fieldLink RX6 75 "MixDeskModel" "brokenX" "[Z", Cond.fieldLink RX6 78 "MixDeskModel" "brokenY" "[Z", Cond.fieldLink RX6 81 "MixDeskModel" "phraseX" "[Z", Cond.fieldLink RX6 84 "MixDeskModel" "phraseY" "[Z", Cond.fieldLink RX6 87 "MixDeskModel" "meetLong" "[I", Cond.fieldLink RX6 90 "MixDeskModel" "meetBend" "[I", Cond.fieldLink RX6 93 "MixDeskModel" "edge" "[I", Cond.constant RX6 96 (49152), Cond.fieldLink RX6 97 "MixDeskModel" "weigh" "[I", Cond.fieldLink RX6 100 "MixDeskModel" "ordered" "[I"]
def wsX6_init : List Cond := .code yX6_init cX6_init 1 none :: ((wsX6_init_r1 ++ wsX6_init_r2) ++ wsX60)
def wsX6_isSong : List Cond := .code yX6_isSong cX6_isSong 2 (some .boolean) :: ([.fieldLink RX6 7 "MixDeskModel" "isThere" "[Z"] ++ wsX60)
def wsX6_forgets : List Cond := .code yX6_forgets cX6_forgets 3 none :: ([.fieldLink RX6 47 "MixDeskModel" "musts" "[I"] ++ wsX60)
def wsX6_song : List Cond := .code yX6_song cX6_song 7 (some .boolean) :: ([.fieldLink RX6 7 "MixDeskModel" "isThere" "[Z", .fieldLink RX6 13 "MixDeskModel" "kind" "[I", .fieldLink RX6 17 "MixDeskModel" "bars" "[I", .fieldLink RX6 20 "MixDeskModel" "step" "[I", .fieldLink RX6 23 "MixDeskModel" "more" "[I", .fieldLink RX6 26 "MixDeskModel" "key" "[I", .fieldLink RX6 29 "MixDeskModel" "heat" "[I", .fieldLink RX6 32 "MixDeskModel" "phrase" "[I", .fieldLink RX6 35 "MixDeskModel" "beats" "[I", .fieldLink RX6 38 "MixDeskModel" "loopFrom" "[I", .fieldLink RX6 41 "MixDeskModel" "loopTo" "[I", .fieldLink RX6 44 "MixDeskModel" "loops" "[I", .methodLink RX6 103 yX6_forgets, .instanceMethod yX6_forgets, .selects RX6 yX6_forgets yX6_forgets, .initialized RX6, .code yX6_forgets cX6_forgets 3 none, .fieldLink RX6 47 "MixDeskModel" "musts" "[I"] ++ wsX60)
def wsX6_about : List Cond := .code yX6_about cX6_about 5 (some .boolean) :: ([.fieldLink RX6 26 "MixDeskModel" "key" "[I", .fieldLink RX6 29 "MixDeskModel" "heat" "[I", .fieldLink RX6 32 "MixDeskModel" "phrase" "[I", .methodLink RX6 107 yX6_isSong, .instanceMethod yX6_isSong, .selects RX6 yX6_isSong yX6_isSong, .initialized RX6, .code yX6_isSong cX6_isSong 2 (some .boolean), .fieldLink RX6 7 "MixDeskModel" "isThere" "[Z"] ++ wsX60)
def wsX6_bar : List Cond := .code yX6_bar cX6_bar 4 (some .boolean) :: ([.fieldLink RX6 17 "MixDeskModel" "bars" "[I", .fieldLink RX6 35 "MixDeskModel" "beats" "[I", .methodLink RX6 107 yX6_isSong, .instanceMethod yX6_isSong, .selects RX6 yX6_isSong yX6_isSong, .initialized RX6, .code yX6_isSong cX6_isSong 2 (some .boolean), .fieldLink RX6 7 "MixDeskModel" "isThere" "[Z"] ++ wsX60)
def wsX6_loop : List Cond := .code yX6_loop cX6_loop 5 (some .boolean) :: ([.fieldLink RX6 17 "MixDeskModel" "bars" "[I", .fieldLink RX6 38 "MixDeskModel" "loopFrom" "[I", .fieldLink RX6 41 "MixDeskModel" "loopTo" "[I", .fieldLink RX6 44 "MixDeskModel" "loops" "[I", .methodLink RX6 107 yX6_isSong, .instanceMethod yX6_isSong, .selects RX6 yX6_isSong yX6_isSong, .initialized RX6, .code yX6_isSong cX6_isSong 2 (some .boolean), .fieldLink RX6 7 "MixDeskModel" "isThere" "[Z"] ++ wsX60)
def wsX6_drop : List Cond := .code yX6_drop cX6_drop 2 (some .boolean) :: ([.fieldLink RX6 7 "MixDeskModel" "isThere" "[Z", .methodLink RX6 107 yX6_isSong, .instanceMethod yX6_isSong, .selects RX6 yX6_isSong yX6_isSong, .initialized RX6, .code yX6_isSong cX6_isSong 2 (some .boolean), .methodLink RX6 103 yX6_forgets, .instanceMethod yX6_forgets, .selects RX6 yX6_forgets yX6_forgets, .code yX6_forgets cX6_forgets 3 none, .fieldLink RX6 47 "MixDeskModel" "musts" "[I"] ++ wsX60)
def wsX6_playedBars : List Cond := .code yX6_playedBars cX6_playedBars 2 (some .int) :: ([.fieldLink RX6 17 "MixDeskModel" "bars" "[I", .fieldLink RX6 44 "MixDeskModel" "loops" "[I", .fieldLink RX6 41 "MixDeskModel" "loopTo" "[I", .fieldLink RX6 38 "MixDeskModel" "loopFrom" "[I"] ++ wsX60)
def wsX6_barOf : List Cond := .code yX6_barOf cX6_barOf 5 (some .int) :: ([.fieldLink RX6 41 "MixDeskModel" "loopTo" "[I", .fieldLink RX6 38 "MixDeskModel" "loopFrom" "[I", .fieldLink RX6 44 "MixDeskModel" "loops" "[I"] ++ wsX60)
def wsX6_beatsOf : List Cond := .code yX6_beatsOf cX6_beatsOf 4 (some .int) :: ([.fieldLink RX6 17 "MixDeskModel" "bars" "[I", .fieldLink RX6 35 "MixDeskModel" "beats" "[I"] ++ wsX60)
def wsX6_of_r1 : List Cond := [Cond.fieldLink RX6 13 "MixDeskModel" "kind" "[I", Cond.fieldLink RX6 17 "MixDeskModel" "bars" "[I", Cond.fieldLink RX6 20 "MixDeskModel" "step" "[I", Cond.fieldLink RX6 23 "MixDeskModel" "more" "[I", Cond.fieldLink RX6 26 "MixDeskModel" "key" "[I", Cond.fieldLink RX6 29 "MixDeskModel" "heat" "[I", Cond.fieldLink RX6 32 "MixDeskModel" "phrase" "[I", Cond.fieldLink RX6 35 "MixDeskModel" "beats" "[I", Cond.methodLink RX6 107 yX6_isSong, Cond.instanceMethod yX6_isSong, Cond.selects RX6 yX6_isSong yX6_isSong, Cond.initialized RX6, Cond.code yX6_isSong cX6_isSong 2 (some .boolean), Cond.fieldLink RX6 7 "MixDeskModel" "isThere" "[Z", Cond.methodLink RX6 111 yX6_playedBars, Cond.instanceMethod yX6_playedBars, Cond.selects RX6 yX6_playedBars yX6_playedBars, Cond.code yX6_playedBars cX6_playedBars 2 (some .int), Cond.fieldLink RX6 44 "MixDeskModel" "loops" "[I", Cond.fieldLink RX6 41 "MixDeskModel" "loopTo" "[I", Cond.fieldLink RX6 38 "MixDeskModel" "loopFrom" "[I", Cond.methodLink RX6 115 yX6_beatsOf, Cond.instanceMethod yX6_beatsOf, Cond.selects RX6 yX6_beatsOf yX6_beatsOf]
def wsX6_of_r2 : List Cond := [Cond.code yX6_beatsOf cX6_beatsOf 4 (some .int)]
def wsX6_of : List Cond := .code yX6_of cX6_of 5 (some .int) :: ((wsX6_of_r1 ++ wsX6_of_r2) ++ wsX60)
def wsX6_floor : List Cond := .code yX6_floor cX6_floor 2 (some .int) :: ([])
def wsX6_lasts : List Cond := .code yX6_lasts cX6_lasts 4 (some .int) :: ([.fieldLink RX6 13 "MixDeskModel" "kind" "[I", .fieldLink RX6 20 "MixDeskModel" "step" "[I", .fieldLink RX6 23 "MixDeskModel" "more" "[I", .methodLink RX6 118 yX6_floor, .static yX6_floor, .initialized RX6, .code yX6_floor cX6_floor 2 (some .int)] ++ wsX60)
def wsX6_firstBeat : List Cond := .code yX6_firstBeat cX6_firstBeat 5 (some .int) :: ([.fieldLink RX6 35 "MixDeskModel" "beats" "[I"] ++ wsX60)
def wsX6_tick : List Cond := .code yX6_tick cX6_tick 5 (some .int) :: ([.methodLink RX6 122 yX6_lasts, .instanceMethod yX6_lasts, .selects RX6 yX6_lasts yX6_lasts, .initialized RX6, .code yX6_lasts cX6_lasts 4 (some .int), .fieldLink RX6 13 "MixDeskModel" "kind" "[I", .fieldLink RX6 20 "MixDeskModel" "step" "[I", .fieldLink RX6 23 "MixDeskModel" "more" "[I", .methodLink RX6 118 yX6_floor, .static yX6_floor, .code yX6_floor cX6_floor 2 (some .int)] ++ wsX60)
def wsX6_beat_r1 : List Cond := [Cond.methodLink RX6 107 yX6_isSong, Cond.instanceMethod yX6_isSong, Cond.selects RX6 yX6_isSong yX6_isSong, Cond.initialized RX6, Cond.code yX6_isSong cX6_isSong 2 (some .boolean), Cond.fieldLink RX6 7 "MixDeskModel" "isThere" "[Z", Cond.methodLink RX6 115 yX6_beatsOf, Cond.instanceMethod yX6_beatsOf, Cond.selects RX6 yX6_beatsOf yX6_beatsOf, Cond.code yX6_beatsOf cX6_beatsOf 4 (some .int), Cond.fieldLink RX6 17 "MixDeskModel" "bars" "[I", Cond.fieldLink RX6 35 "MixDeskModel" "beats" "[I", Cond.methodLink RX6 125 yX6_tick, Cond.instanceMethod yX6_tick, Cond.selects RX6 yX6_tick yX6_tick, Cond.code yX6_tick cX6_tick 5 (some .int), Cond.methodLink RX6 122 yX6_lasts, Cond.instanceMethod yX6_lasts, Cond.selects RX6 yX6_lasts yX6_lasts, Cond.code yX6_lasts cX6_lasts 4 (some .int), Cond.fieldLink RX6 13 "MixDeskModel" "kind" "[I", Cond.fieldLink RX6 20 "MixDeskModel" "step" "[I", Cond.fieldLink RX6 23 "MixDeskModel" "more" "[I", Cond.methodLink RX6 118 yX6_floor]
def wsX6_beat_r2 : List Cond := [Cond.static yX6_floor, Cond.code yX6_floor cX6_floor 2 (some .int)]
def wsX6_beat : List Cond := .code yX6_beat cX6_beat 3 (some .int) :: ((wsX6_beat_r1 ++ wsX6_beat_r2) ++ wsX60)
def wsX6_barLong : List Cond := .code yX6_barLong cX6_barLong 6 (some .int) :: ([.fieldLink RX6 35 "MixDeskModel" "beats" "[I", .methodLink RX6 128 yX6_firstBeat, .instanceMethod yX6_firstBeat, .selects RX6 yX6_firstBeat yX6_firstBeat, .initialized RX6, .code yX6_firstBeat cX6_firstBeat 5 (some .int), .methodLink RX6 122 yX6_lasts, .instanceMethod yX6_lasts, .selects RX6 yX6_lasts yX6_lasts, .code yX6_lasts cX6_lasts 4 (some .int), .fieldLink RX6 13 "MixDeskModel" "kind" "[I", .fieldLink RX6 20 "MixDeskModel" "step" "[I", .fieldLink RX6 23 "MixDeskModel" "more" "[I", .methodLink RX6 118 yX6_floor, .static yX6_floor, .code yX6_floor cX6_floor 2 (some .int)] ++ wsX60)
def wsX6_begins_r1 : List Cond := [Cond.methodLink RX6 131 yX6_barOf, Cond.instanceMethod yX6_barOf, Cond.selects RX6 yX6_barOf yX6_barOf, Cond.initialized RX6, Cond.code yX6_barOf cX6_barOf 5 (some .int), Cond.fieldLink RX6 41 "MixDeskModel" "loopTo" "[I", Cond.fieldLink RX6 38 "MixDeskModel" "loopFrom" "[I", Cond.fieldLink RX6 44 "MixDeskModel" "loops" "[I", Cond.methodLink RX6 134 yX6_barLong, Cond.instanceMethod yX6_barLong, Cond.selects RX6 yX6_barLong yX6_barLong, Cond.code yX6_barLong cX6_barLong 6 (some .int), Cond.fieldLink RX6 35 "MixDeskModel" "beats" "[I", Cond.methodLink RX6 128 yX6_firstBeat, Cond.instanceMethod yX6_firstBeat, Cond.selects RX6 yX6_firstBeat yX6_firstBeat, Cond.code yX6_firstBeat cX6_firstBeat 5 (some .int), Cond.methodLink RX6 122 yX6_lasts, Cond.instanceMethod yX6_lasts, Cond.selects RX6 yX6_lasts yX6_lasts, Cond.code yX6_lasts cX6_lasts 4 (some .int), Cond.fieldLink RX6 13 "MixDeskModel" "kind" "[I", Cond.fieldLink RX6 20 "MixDeskModel" "step" "[I", Cond.fieldLink RX6 23 "MixDeskModel" "more" "[I"]
def wsX6_begins_r2 : List Cond := [Cond.methodLink RX6 118 yX6_floor, Cond.static yX6_floor, Cond.code yX6_floor cX6_floor 2 (some .int)]
def wsX6_begins : List Cond := .code yX6_begins cX6_begins 5 (some .int) :: ((wsX6_begins_r1 ++ wsX6_begins_r2) ++ wsX60)
def wsX6_played_r1 : List Cond := [Cond.fieldLink RX6 35 "MixDeskModel" "beats" "[I", Cond.methodLink RX6 107 yX6_isSong, Cond.instanceMethod yX6_isSong, Cond.selects RX6 yX6_isSong yX6_isSong, Cond.initialized RX6, Cond.code yX6_isSong cX6_isSong 2 (some .boolean), Cond.fieldLink RX6 7 "MixDeskModel" "isThere" "[Z", Cond.methodLink RX6 111 yX6_playedBars, Cond.instanceMethod yX6_playedBars, Cond.selects RX6 yX6_playedBars yX6_playedBars, Cond.code yX6_playedBars cX6_playedBars 2 (some .int), Cond.fieldLink RX6 17 "MixDeskModel" "bars" "[I", Cond.fieldLink RX6 44 "MixDeskModel" "loops" "[I", Cond.fieldLink RX6 41 "MixDeskModel" "loopTo" "[I", Cond.fieldLink RX6 38 "MixDeskModel" "loopFrom" "[I", Cond.methodLink RX6 131 yX6_barOf, Cond.instanceMethod yX6_barOf, Cond.selects RX6 yX6_barOf yX6_barOf, Cond.code yX6_barOf cX6_barOf 5 (some .int), Cond.methodLink RX6 137 yX6_begins, Cond.instanceMethod yX6_begins, Cond.selects RX6 yX6_begins yX6_begins, Cond.code yX6_begins cX6_begins 5 (some .int), Cond.methodLink RX6 134 yX6_barLong]
def wsX6_played_r2 : List Cond := [Cond.instanceMethod yX6_barLong, Cond.selects RX6 yX6_barLong yX6_barLong, Cond.code yX6_barLong cX6_barLong 6 (some .int), Cond.methodLink RX6 128 yX6_firstBeat, Cond.instanceMethod yX6_firstBeat, Cond.selects RX6 yX6_firstBeat yX6_firstBeat, Cond.code yX6_firstBeat cX6_firstBeat 5 (some .int), Cond.methodLink RX6 122 yX6_lasts, Cond.instanceMethod yX6_lasts, Cond.selects RX6 yX6_lasts yX6_lasts, Cond.code yX6_lasts cX6_lasts 4 (some .int), Cond.fieldLink RX6 13 "MixDeskModel" "kind" "[I", Cond.fieldLink RX6 20 "MixDeskModel" "step" "[I", Cond.fieldLink RX6 23 "MixDeskModel" "more" "[I", Cond.methodLink RX6 118 yX6_floor, Cond.static yX6_floor, Cond.code yX6_floor cX6_floor 2 (some .int)]
def wsX6_played : List Cond := .code yX6_played cX6_played 5 (some .int) :: ((wsX6_played_r1 ++ wsX6_played_r2) ++ wsX60)
def wsX6_length_r1 : List Cond := [Cond.methodLink RX6 107 yX6_isSong, Cond.instanceMethod yX6_isSong, Cond.selects RX6 yX6_isSong yX6_isSong, Cond.initialized RX6, Cond.code yX6_isSong cX6_isSong 2 (some .boolean), Cond.fieldLink RX6 7 "MixDeskModel" "isThere" "[Z", Cond.methodLink RX6 111 yX6_playedBars, Cond.instanceMethod yX6_playedBars, Cond.selects RX6 yX6_playedBars yX6_playedBars, Cond.code yX6_playedBars cX6_playedBars 2 (some .int), Cond.fieldLink RX6 17 "MixDeskModel" "bars" "[I", Cond.fieldLink RX6 44 "MixDeskModel" "loops" "[I", Cond.fieldLink RX6 41 "MixDeskModel" "loopTo" "[I", Cond.fieldLink RX6 38 "MixDeskModel" "loopFrom" "[I", Cond.methodLink RX6 137 yX6_begins, Cond.instanceMethod yX6_begins, Cond.selects RX6 yX6_begins yX6_begins, Cond.code yX6_begins cX6_begins 5 (some .int), Cond.methodLink RX6 131 yX6_barOf, Cond.instanceMethod yX6_barOf, Cond.selects RX6 yX6_barOf yX6_barOf, Cond.code yX6_barOf cX6_barOf 5 (some .int), Cond.methodLink RX6 134 yX6_barLong, Cond.instanceMethod yX6_barLong]
def wsX6_length_r2 : List Cond := [Cond.selects RX6 yX6_barLong yX6_barLong, Cond.code yX6_barLong cX6_barLong 6 (some .int), Cond.fieldLink RX6 35 "MixDeskModel" "beats" "[I", Cond.methodLink RX6 128 yX6_firstBeat, Cond.instanceMethod yX6_firstBeat, Cond.selects RX6 yX6_firstBeat yX6_firstBeat, Cond.code yX6_firstBeat cX6_firstBeat 5 (some .int), Cond.methodLink RX6 122 yX6_lasts, Cond.instanceMethod yX6_lasts, Cond.selects RX6 yX6_lasts yX6_lasts, Cond.code yX6_lasts cX6_lasts 4 (some .int), Cond.fieldLink RX6 13 "MixDeskModel" "kind" "[I", Cond.fieldLink RX6 20 "MixDeskModel" "step" "[I", Cond.fieldLink RX6 23 "MixDeskModel" "more" "[I", Cond.methodLink RX6 118 yX6_floor, Cond.static yX6_floor, Cond.code yX6_floor cX6_floor 2 (some .int)]
def wsX6_length : List Cond := .code yX6_length cX6_length 2 (some .int) :: ((wsX6_length_r1 ++ wsX6_length_r2) ++ wsX60)
def wsX6_stroke : List Cond := .code yX6_stroke cX6_stroke 2 (some .int) :: ([.constant RX6 140 (1000000), .fieldLink RX6 141 "MixDeskModel" "strokes" "I", .fieldLink RX6 50 "MixDeskModel" "stroke" "[I"] ++ wsX60)
def wsX6_clear : List Cond := .code yX6_clear cX6_clear 2 (some .int) :: ([.fieldLink RX6 141 "MixDeskModel" "strokes" "I"] ++ wsX60)
def wsX6_size : List Cond := .code yX6_size cX6_size 1 (some .int) :: ([])
def wsX6_apart : List Cond := .code yX6_apart cX6_apart 4 (some .int) :: ([.methodLink RX6 144 yX6_size, .static yX6_size, .initialized RX6, .code yX6_size cX6_size 1 (some .int)])
def wsX6_find : List Cond := .code yX6_find cX6_find 9 (some .int) :: ([.fieldLink RX6 141 "MixDeskModel" "strokes" "I", .fieldLink RX6 53 "MixDeskModel" "costs" "[I", .fieldLink RX6 50 "MixDeskModel" "stroke" "[I", .fieldLink RX6 151 "MixDeskModel" "founds" "I", .fieldLink RX6 56 "MixDeskModel" "foundOnes" "[I", .methodLink RX6 147 yX6_apart, .static yX6_apart, .initialized RX6, .code yX6_apart cX6_apart 4 (some .int), .methodLink RX6 144 yX6_size, .static yX6_size, .code yX6_size cX6_size 1 (some .int)] ++ wsX60)
def wsX6_found : List Cond := .code yX6_found cX6_found 2 (some .int) :: ([.fieldLink RX6 151 "MixDeskModel" "founds" "I", .fieldLink RX6 56 "MixDeskModel" "foundOnes" "[I"] ++ wsX60)
def wsX6_costs : List Cond := .code yX6_costs cX6_costs 4 (some .boolean) :: ([.fieldLink RX6 59 "MixDeskModel" "bound" "I", .fieldLink RX6 63 "MixDeskModel" "keyCost" "I", .fieldLink RX6 66 "MixDeskModel" "heatCost" "I"] ++ wsX60)
def wsX6_plays_r1 : List Cond := [Cond.fieldLink RX6 35 "MixDeskModel" "beats" "[I", Cond.fieldLink RX6 32 "MixDeskModel" "phrase" "[I", Cond.methodLink RX6 111 yX6_playedBars, Cond.instanceMethod yX6_playedBars, Cond.selects RX6 yX6_playedBars yX6_playedBars, Cond.initialized RX6, Cond.code yX6_playedBars cX6_playedBars 2 (some .int), Cond.fieldLink RX6 17 "MixDeskModel" "bars" "[I", Cond.fieldLink RX6 44 "MixDeskModel" "loops" "[I", Cond.fieldLink RX6 41 "MixDeskModel" "loopTo" "[I", Cond.fieldLink RX6 38 "MixDeskModel" "loopFrom" "[I", Cond.methodLink RX6 131 yX6_barOf, Cond.instanceMethod yX6_barOf, Cond.selects RX6 yX6_barOf yX6_barOf, Cond.code yX6_barOf cX6_barOf 5 (some .int), Cond.methodLink RX6 128 yX6_firstBeat, Cond.instanceMethod yX6_firstBeat, Cond.selects RX6 yX6_firstBeat yX6_firstBeat, Cond.code yX6_firstBeat cX6_firstBeat 5 (some .int), Cond.methodLink RX6 122 yX6_lasts, Cond.instanceMethod yX6_lasts, Cond.selects RX6 yX6_lasts yX6_lasts, Cond.code yX6_lasts cX6_lasts 4 (some .int), Cond.fieldLink RX6 13 "MixDeskModel" "kind" "[I"]
def wsX6_plays_r2 : List Cond := [Cond.fieldLink RX6 20 "MixDeskModel" "step" "[I", Cond.fieldLink RX6 23 "MixDeskModel" "more" "[I", Cond.methodLink RX6 118 yX6_floor, Cond.static yX6_floor, Cond.code yX6_floor cX6_floor 2 (some .int)]
def wsX6_plays : List Cond := .code yX6_plays cX6_plays 9 none :: ((wsX6_plays_r1 ++ wsX6_plays_r2) ++ wsX60)
def wsX6_keysApart : List Cond := .code yX6_keysApart cX6_keysApart 4 (some .int) :: ([.fieldLink RX6 26 "MixDeskModel" "key" "[I", .methodLink RX6 144 yX6_size, .static yX6_size, .initialized RX6, .code yX6_size cX6_size 1 (some .int)] ++ wsX60)
def wsX6_always : List Cond := .code yX6_always cX6_always 3 (some .int) :: ([.fieldLink RX6 63 "MixDeskModel" "keyCost" "I", .fieldLink RX6 66 "MixDeskModel" "heatCost" "I", .fieldLink RX6 29 "MixDeskModel" "heat" "[I", .methodLink RX6 154 yX6_keysApart, .instanceMethod yX6_keysApart, .selects RX6 yX6_keysApart yX6_keysApart, .initialized RX6, .code yX6_keysApart cX6_keysApart 4 (some .int), .fieldLink RX6 26 "MixDeskModel" "key" "[I", .methodLink RX6 144 yX6_size, .static yX6_size, .code yX6_size cX6_size 1 (some .int)] ++ wsX60)
def wsX6_joined : List Cond := .code yX6_joined cX6_joined 4 (some .int) :: ([.methodLink RX6 118 yX6_floor, .static yX6_floor, .initialized RX6, .code yX6_floor cX6_floor 2 (some .int)])
def wsX6_bend : List Cond := .code yX6_bend cX6_bend 5 (some .int) :: ([.methodLink RX6 144 yX6_size, .static yX6_size, .initialized RX6, .code yX6_size cX6_size 1 (some .int)])
def wsX6_isWhole : List Cond := .code yX6_isWhole cX6_isWhole 5 (some .boolean) :: ([])
def wsX6_beatsCost : List Cond := .code yX6_beatsCost cX6_beatsCost 9 (some .int) :: ([.fieldLink RX6 69 "MixDeskModel" "rowX" "[I", .fieldLink RX6 72 "MixDeskModel" "rowY" "[I", .fieldLink RX6 59 "MixDeskModel" "bound" "I", .constant RX6 164 (1000000000), .methodLink RX6 157 yX6_joined, .static yX6_joined, .initialized RX6, .code yX6_joined cX6_joined 4 (some .int), .methodLink RX6 118 yX6_floor, .static yX6_floor, .code yX6_floor cX6_floor 2 (some .int), .methodLink RX6 161 yX6_bend, .static yX6_bend, .code yX6_bend cX6_bend 5 (some .int), .methodLink RX6 144 yX6_size, .static yX6_size, .code yX6_size cX6_size 1 (some .int)] ++ wsX60)
def wsX6_loads_r1 : List Cond := [Cond.fieldLink RX6 69 "MixDeskModel" "rowX" "[I", Cond.fieldLink RX6 75 "MixDeskModel" "brokenX" "[Z", Cond.fieldLink RX6 81 "MixDeskModel" "phraseX" "[Z", Cond.fieldLink RX6 72 "MixDeskModel" "rowY" "[I", Cond.fieldLink RX6 78 "MixDeskModel" "brokenY" "[Z", Cond.fieldLink RX6 84 "MixDeskModel" "phraseY" "[Z", Cond.methodLink RX6 165 yX6_plays, Cond.instanceMethod yX6_plays, Cond.selects RX6 yX6_plays yX6_plays, Cond.initialized RX6, Cond.code yX6_plays cX6_plays 9 none, Cond.fieldLink RX6 35 "MixDeskModel" "beats" "[I", Cond.fieldLink RX6 32 "MixDeskModel" "phrase" "[I", Cond.methodLink RX6 111 yX6_playedBars, Cond.instanceMethod yX6_playedBars, Cond.selects RX6 yX6_playedBars yX6_playedBars, Cond.code yX6_playedBars cX6_playedBars 2 (some .int), Cond.fieldLink RX6 17 "MixDeskModel" "bars" "[I", Cond.fieldLink RX6 44 "MixDeskModel" "loops" "[I", Cond.fieldLink RX6 41 "MixDeskModel" "loopTo" "[I", Cond.fieldLink RX6 38 "MixDeskModel" "loopFrom" "[I", Cond.methodLink RX6 131 yX6_barOf, Cond.instanceMethod yX6_barOf, Cond.selects RX6 yX6_barOf yX6_barOf]
def wsX6_loads_r2 : List Cond := [Cond.code yX6_barOf cX6_barOf 5 (some .int), Cond.methodLink RX6 128 yX6_firstBeat, Cond.instanceMethod yX6_firstBeat, Cond.selects RX6 yX6_firstBeat yX6_firstBeat, Cond.code yX6_firstBeat cX6_firstBeat 5 (some .int), Cond.methodLink RX6 122 yX6_lasts, Cond.instanceMethod yX6_lasts, Cond.selects RX6 yX6_lasts yX6_lasts, Cond.code yX6_lasts cX6_lasts 4 (some .int), Cond.fieldLink RX6 13 "MixDeskModel" "kind" "[I", Cond.fieldLink RX6 20 "MixDeskModel" "step" "[I", Cond.fieldLink RX6 23 "MixDeskModel" "more" "[I", Cond.methodLink RX6 118 yX6_floor, Cond.static yX6_floor, Cond.code yX6_floor cX6_floor 2 (some .int)]
def wsX6_loads : List Cond := .code yX6_loads cX6_loads 3 none :: ((wsX6_loads_r1 ++ wsX6_loads_r2) ++ wsX60)
def wsX6_join_r1 : List Cond := [Cond.fieldLink RX6 75 "MixDeskModel" "brokenX" "[Z", Cond.fieldLink RX6 78 "MixDeskModel" "brokenY" "[Z", Cond.fieldLink RX6 81 "MixDeskModel" "phraseX" "[Z", Cond.fieldLink RX6 84 "MixDeskModel" "phraseY" "[Z", Cond.constant RX6 164 (1000000000), Cond.fieldLink RX6 180 "MixDeskModel" "meetMany" "I", Cond.fieldLink RX6 69 "MixDeskModel" "rowX" "[I", Cond.fieldLink RX6 72 "MixDeskModel" "rowY" "[I", Cond.fieldLink RX6 87 "MixDeskModel" "meetLong" "[I", Cond.fieldLink RX6 90 "MixDeskModel" "meetBend" "[I", Cond.methodLink RX6 107 yX6_isSong, Cond.instanceMethod yX6_isSong, Cond.selects RX6 yX6_isSong yX6_isSong, Cond.initialized RX6, Cond.code yX6_isSong cX6_isSong 2 (some .boolean), Cond.fieldLink RX6 7 "MixDeskModel" "isThere" "[Z", Cond.methodLink RX6 111 yX6_playedBars, Cond.instanceMethod yX6_playedBars, Cond.selects RX6 yX6_playedBars yX6_playedBars, Cond.code yX6_playedBars cX6_playedBars 2 (some .int), Cond.fieldLink RX6 17 "MixDeskModel" "bars" "[I", Cond.fieldLink RX6 44 "MixDeskModel" "loops" "[I", Cond.fieldLink RX6 41 "MixDeskModel" "loopTo" "[I", Cond.fieldLink RX6 38 "MixDeskModel" "loopFrom" "[I"]
def wsX6_join_r2 : List Cond := [Cond.methodLink RX6 169 yX6_loads, Cond.instanceMethod yX6_loads, Cond.selects RX6 yX6_loads yX6_loads, Cond.code yX6_loads cX6_loads 3 none, Cond.methodLink RX6 165 yX6_plays, Cond.instanceMethod yX6_plays, Cond.selects RX6 yX6_plays yX6_plays, Cond.code yX6_plays cX6_plays 9 none, Cond.fieldLink RX6 35 "MixDeskModel" "beats" "[I", Cond.fieldLink RX6 32 "MixDeskModel" "phrase" "[I", Cond.methodLink RX6 131 yX6_barOf, Cond.instanceMethod yX6_barOf, Cond.selects RX6 yX6_barOf yX6_barOf, Cond.code yX6_barOf cX6_barOf 5 (some .int), Cond.methodLink RX6 128 yX6_firstBeat, Cond.instanceMethod yX6_firstBeat, Cond.selects RX6 yX6_firstBeat yX6_firstBeat, Cond.code yX6_firstBeat cX6_firstBeat 5 (some .int), Cond.methodLink RX6 122 yX6_lasts, Cond.instanceMethod yX6_lasts, Cond.selects RX6 yX6_lasts yX6_lasts, Cond.code yX6_lasts cX6_lasts 4 (some .int), Cond.fieldLink RX6 13 "MixDeskModel" "kind" "[I", Cond.fieldLink RX6 20 "MixDeskModel" "step" "[I"]
def wsX6_join_r3 : List Cond := [Cond.fieldLink RX6 23 "MixDeskModel" "more" "[I", Cond.methodLink RX6 118 yX6_floor, Cond.static yX6_floor, Cond.code yX6_floor cX6_floor 2 (some .int), Cond.methodLink RX6 173 yX6_isWhole, Cond.static yX6_isWhole, Cond.code yX6_isWhole cX6_isWhole 5 (some .boolean), Cond.methodLink RX6 177 yX6_beatsCost, Cond.instanceMethod yX6_beatsCost, Cond.selects RX6 yX6_beatsCost yX6_beatsCost, Cond.code yX6_beatsCost cX6_beatsCost 9 (some .int), Cond.fieldLink RX6 59 "MixDeskModel" "bound" "I", Cond.methodLink RX6 157 yX6_joined, Cond.static yX6_joined, Cond.code yX6_joined cX6_joined 4 (some .int), Cond.methodLink RX6 161 yX6_bend, Cond.static yX6_bend, Cond.code yX6_bend cX6_bend 5 (some .int), Cond.methodLink RX6 144 yX6_size, Cond.static yX6_size, Cond.code yX6_size cX6_size 1 (some .int), Cond.methodLink RX6 183 yX6_always, Cond.instanceMethod yX6_always, Cond.selects RX6 yX6_always yX6_always]
def wsX6_join_r4 : List Cond := [Cond.code yX6_always cX6_always 3 (some .int), Cond.fieldLink RX6 63 "MixDeskModel" "keyCost" "I", Cond.fieldLink RX6 66 "MixDeskModel" "heatCost" "I", Cond.fieldLink RX6 29 "MixDeskModel" "heat" "[I", Cond.methodLink RX6 154 yX6_keysApart, Cond.instanceMethod yX6_keysApart, Cond.selects RX6 yX6_keysApart yX6_keysApart, Cond.code yX6_keysApart cX6_keysApart 4 (some .int), Cond.fieldLink RX6 26 "MixDeskModel" "key" "[I"]
def wsX6_join : List Cond := .code yX6_join cX6_join 11 (some .int) :: ((wsX6_join_r1 ++ (wsX6_join_r2 ++ (wsX6_join_r3 ++ wsX6_join_r4))) ++ wsX60)
def wsX6_meets : List Cond := .code yX6_meets cX6_meets 5 (some .int) :: ([.fieldLink RX6 180 "MixDeskModel" "meetMany" "I", .fieldLink RX6 87 "MixDeskModel" "meetLong" "[I", .fieldLink RX6 90 "MixDeskModel" "meetBend" "[I"] ++ wsX60)
def wsX6_bestOf_r1 : List Cond := [Cond.constant RX6 164 (1000000000), Cond.fieldLink RX6 81 "MixDeskModel" "phraseX" "[Z", Cond.fieldLink RX6 75 "MixDeskModel" "brokenX" "[Z", Cond.fieldLink RX6 84 "MixDeskModel" "phraseY" "[Z", Cond.fieldLink RX6 78 "MixDeskModel" "brokenY" "[Z", Cond.fieldLink RX6 186 "MixDeskModel" "bestP" "I", Cond.fieldLink RX6 189 "MixDeskModel" "bestQ" "I", Cond.methodLink RX6 169 yX6_loads, Cond.instanceMethod yX6_loads, Cond.selects RX6 yX6_loads yX6_loads, Cond.initialized RX6, Cond.code yX6_loads cX6_loads 3 none, Cond.fieldLink RX6 69 "MixDeskModel" "rowX" "[I", Cond.fieldLink RX6 72 "MixDeskModel" "rowY" "[I", Cond.methodLink RX6 165 yX6_plays, Cond.instanceMethod yX6_plays, Cond.selects RX6 yX6_plays yX6_plays, Cond.code yX6_plays cX6_plays 9 none, Cond.fieldLink RX6 35 "MixDeskModel" "beats" "[I", Cond.fieldLink RX6 32 "MixDeskModel" "phrase" "[I", Cond.methodLink RX6 111 yX6_playedBars, Cond.instanceMethod yX6_playedBars, Cond.selects RX6 yX6_playedBars yX6_playedBars, Cond.code yX6_playedBars cX6_playedBars 2 (some .int)]
def wsX6_bestOf_r2 : List Cond := [Cond.fieldLink RX6 17 "MixDeskModel" "bars" "[I", Cond.fieldLink RX6 44 "MixDeskModel" "loops" "[I", Cond.fieldLink RX6 41 "MixDeskModel" "loopTo" "[I", Cond.fieldLink RX6 38 "MixDeskModel" "loopFrom" "[I", Cond.methodLink RX6 131 yX6_barOf, Cond.instanceMethod yX6_barOf, Cond.selects RX6 yX6_barOf yX6_barOf, Cond.code yX6_barOf cX6_barOf 5 (some .int), Cond.methodLink RX6 128 yX6_firstBeat, Cond.instanceMethod yX6_firstBeat, Cond.selects RX6 yX6_firstBeat yX6_firstBeat, Cond.code yX6_firstBeat cX6_firstBeat 5 (some .int), Cond.methodLink RX6 122 yX6_lasts, Cond.instanceMethod yX6_lasts, Cond.selects RX6 yX6_lasts yX6_lasts, Cond.code yX6_lasts cX6_lasts 4 (some .int), Cond.fieldLink RX6 13 "MixDeskModel" "kind" "[I", Cond.fieldLink RX6 20 "MixDeskModel" "step" "[I", Cond.fieldLink RX6 23 "MixDeskModel" "more" "[I", Cond.methodLink RX6 118 yX6_floor, Cond.static yX6_floor, Cond.code yX6_floor cX6_floor 2 (some .int), Cond.methodLink RX6 173 yX6_isWhole, Cond.static yX6_isWhole]
def wsX6_bestOf_r3 : List Cond := [Cond.code yX6_isWhole cX6_isWhole 5 (some .boolean), Cond.methodLink RX6 177 yX6_beatsCost, Cond.instanceMethod yX6_beatsCost, Cond.selects RX6 yX6_beatsCost yX6_beatsCost, Cond.code yX6_beatsCost cX6_beatsCost 9 (some .int), Cond.fieldLink RX6 59 "MixDeskModel" "bound" "I", Cond.methodLink RX6 157 yX6_joined, Cond.static yX6_joined, Cond.code yX6_joined cX6_joined 4 (some .int), Cond.methodLink RX6 161 yX6_bend, Cond.static yX6_bend, Cond.code yX6_bend cX6_bend 5 (some .int), Cond.methodLink RX6 144 yX6_size, Cond.static yX6_size, Cond.code yX6_size cX6_size 1 (some .int), Cond.methodLink RX6 183 yX6_always, Cond.instanceMethod yX6_always, Cond.selects RX6 yX6_always yX6_always, Cond.code yX6_always cX6_always 3 (some .int), Cond.fieldLink RX6 63 "MixDeskModel" "keyCost" "I", Cond.fieldLink RX6 66 "MixDeskModel" "heatCost" "I", Cond.fieldLink RX6 29 "MixDeskModel" "heat" "[I", Cond.methodLink RX6 154 yX6_keysApart, Cond.instanceMethod yX6_keysApart]
def wsX6_bestOf_r4 : List Cond := [Cond.selects RX6 yX6_keysApart yX6_keysApart, Cond.code yX6_keysApart cX6_keysApart 4 (some .int), Cond.fieldLink RX6 26 "MixDeskModel" "key" "[I"]
def wsX6_bestOf : List Cond := .code yX6_bestOf cX6_bestOf 10 (some .int) :: ((wsX6_bestOf_r1 ++ (wsX6_bestOf_r2 ++ (wsX6_bestOf_r3 ++ wsX6_bestOf_r4))) ++ wsX60)
def wsX6_best_r1 : List Cond := [Cond.constant RX6 164 (1000000000), Cond.fieldLink RX6 186 "MixDeskModel" "bestP" "I", Cond.fieldLink RX6 189 "MixDeskModel" "bestQ" "I", Cond.methodLink RX6 107 yX6_isSong, Cond.instanceMethod yX6_isSong, Cond.selects RX6 yX6_isSong yX6_isSong, Cond.initialized RX6, Cond.code yX6_isSong cX6_isSong 2 (some .boolean), Cond.fieldLink RX6 7 "MixDeskModel" "isThere" "[Z", Cond.methodLink RX6 192 yX6_bestOf, Cond.instanceMethod yX6_bestOf, Cond.selects RX6 yX6_bestOf yX6_bestOf, Cond.code yX6_bestOf cX6_bestOf 10 (some .int), Cond.fieldLink RX6 81 "MixDeskModel" "phraseX" "[Z", Cond.fieldLink RX6 75 "MixDeskModel" "brokenX" "[Z", Cond.fieldLink RX6 84 "MixDeskModel" "phraseY" "[Z", Cond.fieldLink RX6 78 "MixDeskModel" "brokenY" "[Z", Cond.methodLink RX6 169 yX6_loads, Cond.instanceMethod yX6_loads, Cond.selects RX6 yX6_loads yX6_loads, Cond.code yX6_loads cX6_loads 3 none, Cond.fieldLink RX6 69 "MixDeskModel" "rowX" "[I", Cond.fieldLink RX6 72 "MixDeskModel" "rowY" "[I", Cond.methodLink RX6 165 yX6_plays]
def wsX6_best_r2 : List Cond := [Cond.instanceMethod yX6_plays, Cond.selects RX6 yX6_plays yX6_plays, Cond.code yX6_plays cX6_plays 9 none, Cond.fieldLink RX6 35 "MixDeskModel" "beats" "[I", Cond.fieldLink RX6 32 "MixDeskModel" "phrase" "[I", Cond.methodLink RX6 111 yX6_playedBars, Cond.instanceMethod yX6_playedBars, Cond.selects RX6 yX6_playedBars yX6_playedBars, Cond.code yX6_playedBars cX6_playedBars 2 (some .int), Cond.fieldLink RX6 17 "MixDeskModel" "bars" "[I", Cond.fieldLink RX6 44 "MixDeskModel" "loops" "[I", Cond.fieldLink RX6 41 "MixDeskModel" "loopTo" "[I", Cond.fieldLink RX6 38 "MixDeskModel" "loopFrom" "[I", Cond.methodLink RX6 131 yX6_barOf, Cond.instanceMethod yX6_barOf, Cond.selects RX6 yX6_barOf yX6_barOf, Cond.code yX6_barOf cX6_barOf 5 (some .int), Cond.methodLink RX6 128 yX6_firstBeat, Cond.instanceMethod yX6_firstBeat, Cond.selects RX6 yX6_firstBeat yX6_firstBeat, Cond.code yX6_firstBeat cX6_firstBeat 5 (some .int), Cond.methodLink RX6 122 yX6_lasts, Cond.instanceMethod yX6_lasts, Cond.selects RX6 yX6_lasts yX6_lasts]
def wsX6_best_r3 : List Cond := [Cond.code yX6_lasts cX6_lasts 4 (some .int), Cond.fieldLink RX6 13 "MixDeskModel" "kind" "[I", Cond.fieldLink RX6 20 "MixDeskModel" "step" "[I", Cond.fieldLink RX6 23 "MixDeskModel" "more" "[I", Cond.methodLink RX6 118 yX6_floor, Cond.static yX6_floor, Cond.code yX6_floor cX6_floor 2 (some .int), Cond.methodLink RX6 173 yX6_isWhole, Cond.static yX6_isWhole, Cond.code yX6_isWhole cX6_isWhole 5 (some .boolean), Cond.methodLink RX6 177 yX6_beatsCost, Cond.instanceMethod yX6_beatsCost, Cond.selects RX6 yX6_beatsCost yX6_beatsCost, Cond.code yX6_beatsCost cX6_beatsCost 9 (some .int), Cond.fieldLink RX6 59 "MixDeskModel" "bound" "I", Cond.methodLink RX6 157 yX6_joined, Cond.static yX6_joined, Cond.code yX6_joined cX6_joined 4 (some .int), Cond.methodLink RX6 161 yX6_bend, Cond.static yX6_bend, Cond.code yX6_bend cX6_bend 5 (some .int), Cond.methodLink RX6 144 yX6_size, Cond.static yX6_size, Cond.code yX6_size cX6_size 1 (some .int)]
def wsX6_best_r4 : List Cond := [Cond.methodLink RX6 183 yX6_always, Cond.instanceMethod yX6_always, Cond.selects RX6 yX6_always yX6_always, Cond.code yX6_always cX6_always 3 (some .int), Cond.fieldLink RX6 63 "MixDeskModel" "keyCost" "I", Cond.fieldLink RX6 66 "MixDeskModel" "heatCost" "I", Cond.fieldLink RX6 29 "MixDeskModel" "heat" "[I", Cond.methodLink RX6 154 yX6_keysApart, Cond.instanceMethod yX6_keysApart, Cond.selects RX6 yX6_keysApart yX6_keysApart, Cond.code yX6_keysApart cX6_keysApart 4 (some .int), Cond.fieldLink RX6 26 "MixDeskModel" "key" "[I"]
def wsX6_best : List Cond := .code yX6_best cX6_best 6 (some .int) :: ((wsX6_best_r1 ++ (wsX6_best_r2 ++ (wsX6_best_r3 ++ wsX6_best_r4))) ++ wsX60)
def wsX6_must : List Cond := .code yX6_must cX6_must 4 (some .boolean) :: ([.fieldLink RX6 47 "MixDeskModel" "musts" "[I", .methodLink RX6 107 yX6_isSong, .instanceMethod yX6_isSong, .selects RX6 yX6_isSong yX6_isSong, .initialized RX6, .code yX6_isSong cX6_isSong 2 (some .boolean), .fieldLink RX6 7 "MixDeskModel" "isThere" "[Z"] ++ wsX60)
def wsX6_there : List Cond := .code yX6_there cX6_there 3 (some .int) :: ([.fieldLink RX6 7 "MixDeskModel" "isThere" "[Z"] ++ wsX60)
def wsX6_edges_r1 : List Cond := [Cond.fieldLink RX6 93 "MixDeskModel" "edge" "[I", Cond.constant RX6 164 (1000000000), Cond.fieldLink RX6 7 "MixDeskModel" "isThere" "[Z", Cond.fieldLink RX6 47 "MixDeskModel" "musts" "[I", Cond.methodLink RX6 192 yX6_bestOf, Cond.instanceMethod yX6_bestOf, Cond.selects RX6 yX6_bestOf yX6_bestOf, Cond.initialized RX6, Cond.code yX6_bestOf cX6_bestOf 10 (some .int), Cond.fieldLink RX6 81 "MixDeskModel" "phraseX" "[Z", Cond.fieldLink RX6 75 "MixDeskModel" "brokenX" "[Z", Cond.fieldLink RX6 84 "MixDeskModel" "phraseY" "[Z", Cond.fieldLink RX6 78 "MixDeskModel" "brokenY" "[Z", Cond.fieldLink RX6 186 "MixDeskModel" "bestP" "I", Cond.fieldLink RX6 189 "MixDeskModel" "bestQ" "I", Cond.methodLink RX6 169 yX6_loads, Cond.instanceMethod yX6_loads, Cond.selects RX6 yX6_loads yX6_loads, Cond.code yX6_loads cX6_loads 3 none, Cond.fieldLink RX6 69 "MixDeskModel" "rowX" "[I", Cond.fieldLink RX6 72 "MixDeskModel" "rowY" "[I", Cond.methodLink RX6 165 yX6_plays, Cond.instanceMethod yX6_plays, Cond.selects RX6 yX6_plays yX6_plays]
def wsX6_edges_r2 : List Cond := [Cond.code yX6_plays cX6_plays 9 none, Cond.fieldLink RX6 35 "MixDeskModel" "beats" "[I", Cond.fieldLink RX6 32 "MixDeskModel" "phrase" "[I", Cond.methodLink RX6 111 yX6_playedBars, Cond.instanceMethod yX6_playedBars, Cond.selects RX6 yX6_playedBars yX6_playedBars, Cond.code yX6_playedBars cX6_playedBars 2 (some .int), Cond.fieldLink RX6 17 "MixDeskModel" "bars" "[I", Cond.fieldLink RX6 44 "MixDeskModel" "loops" "[I", Cond.fieldLink RX6 41 "MixDeskModel" "loopTo" "[I", Cond.fieldLink RX6 38 "MixDeskModel" "loopFrom" "[I", Cond.methodLink RX6 131 yX6_barOf, Cond.instanceMethod yX6_barOf, Cond.selects RX6 yX6_barOf yX6_barOf, Cond.code yX6_barOf cX6_barOf 5 (some .int), Cond.methodLink RX6 128 yX6_firstBeat, Cond.instanceMethod yX6_firstBeat, Cond.selects RX6 yX6_firstBeat yX6_firstBeat, Cond.code yX6_firstBeat cX6_firstBeat 5 (some .int), Cond.methodLink RX6 122 yX6_lasts, Cond.instanceMethod yX6_lasts, Cond.selects RX6 yX6_lasts yX6_lasts, Cond.code yX6_lasts cX6_lasts 4 (some .int), Cond.fieldLink RX6 13 "MixDeskModel" "kind" "[I"]
def wsX6_edges_r3 : List Cond := [Cond.fieldLink RX6 20 "MixDeskModel" "step" "[I", Cond.fieldLink RX6 23 "MixDeskModel" "more" "[I", Cond.methodLink RX6 118 yX6_floor, Cond.static yX6_floor, Cond.code yX6_floor cX6_floor 2 (some .int), Cond.methodLink RX6 173 yX6_isWhole, Cond.static yX6_isWhole, Cond.code yX6_isWhole cX6_isWhole 5 (some .boolean), Cond.methodLink RX6 177 yX6_beatsCost, Cond.instanceMethod yX6_beatsCost, Cond.selects RX6 yX6_beatsCost yX6_beatsCost, Cond.code yX6_beatsCost cX6_beatsCost 9 (some .int), Cond.fieldLink RX6 59 "MixDeskModel" "bound" "I", Cond.methodLink RX6 157 yX6_joined, Cond.static yX6_joined, Cond.code yX6_joined cX6_joined 4 (some .int), Cond.methodLink RX6 161 yX6_bend, Cond.static yX6_bend, Cond.code yX6_bend cX6_bend 5 (some .int), Cond.methodLink RX6 144 yX6_size, Cond.static yX6_size, Cond.code yX6_size cX6_size 1 (some .int), Cond.methodLink RX6 183 yX6_always, Cond.instanceMethod yX6_always]
def wsX6_edges_r4 : List Cond := [Cond.selects RX6 yX6_always yX6_always, Cond.code yX6_always cX6_always 3 (some .int), Cond.fieldLink RX6 63 "MixDeskModel" "keyCost" "I", Cond.fieldLink RX6 66 "MixDeskModel" "heatCost" "I", Cond.fieldLink RX6 29 "MixDeskModel" "heat" "[I", Cond.methodLink RX6 154 yX6_keysApart, Cond.instanceMethod yX6_keysApart, Cond.selects RX6 yX6_keysApart yX6_keysApart, Cond.code yX6_keysApart cX6_keysApart 4 (some .int), Cond.fieldLink RX6 26 "MixDeskModel" "key" "[I"]
def wsX6_edges : List Cond := .code yX6_edges cX6_edges 5 none :: ((wsX6_edges_r1 ++ (wsX6_edges_r2 ++ (wsX6_edges_r3 ++ wsX6_edges_r4))) ++ wsX60)
def wsX6_isBound : List Cond := .code yX6_isBound cX6_isBound 4 (some .boolean) :: ([.fieldLink RX6 47 "MixDeskModel" "musts" "[I"] ++ wsX60)
def wsX6_weighs : List Cond := .code yX6_weighs cX6_weighs 7 none :: ([.constant RX6 164 (1000000000), .fieldLink RX6 93 "MixDeskModel" "edge" "[I", .fieldLink RX6 97 "MixDeskModel" "weigh" "[I", .methodLink RX6 195 yX6_isBound, .instanceMethod yX6_isBound, .selects RX6 yX6_isBound yX6_isBound, .initialized RX6, .code yX6_isBound cX6_isBound 4 (some .boolean), .fieldLink RX6 47 "MixDeskModel" "musts" "[I"] ++ wsX60)
def wsX6_night_r1 : List Cond := [Cond.constant RX6 164 (1000000000), Cond.fieldLink RX6 97 "MixDeskModel" "weigh" "[I", Cond.fieldLink RX6 209 "MixDeskModel" "orders" "I", Cond.fieldLink RX6 100 "MixDeskModel" "ordered" "[I", Cond.fieldLink RX6 93 "MixDeskModel" "edge" "[I", Cond.methodLink RX6 199 yX6_there, Cond.instanceMethod yX6_there, Cond.selects RX6 yX6_there yX6_there, Cond.initialized RX6, Cond.code yX6_there cX6_there 3 (some .int), Cond.fieldLink RX6 7 "MixDeskModel" "isThere" "[Z", Cond.methodLink RX6 203 yX6_edges, Cond.instanceMethod yX6_edges, Cond.selects RX6 yX6_edges yX6_edges, Cond.code yX6_edges cX6_edges 5 none, Cond.fieldLink RX6 47 "MixDeskModel" "musts" "[I", Cond.methodLink RX6 192 yX6_bestOf, Cond.instanceMethod yX6_bestOf, Cond.selects RX6 yX6_bestOf yX6_bestOf, Cond.code yX6_bestOf cX6_bestOf 10 (some .int), Cond.fieldLink RX6 81 "MixDeskModel" "phraseX" "[Z", Cond.fieldLink RX6 75 "MixDeskModel" "brokenX" "[Z", Cond.fieldLink RX6 84 "MixDeskModel" "phraseY" "[Z", Cond.fieldLink RX6 78 "MixDeskModel" "brokenY" "[Z"]
def wsX6_night_r2 : List Cond := [Cond.fieldLink RX6 186 "MixDeskModel" "bestP" "I", Cond.fieldLink RX6 189 "MixDeskModel" "bestQ" "I", Cond.methodLink RX6 169 yX6_loads, Cond.instanceMethod yX6_loads, Cond.selects RX6 yX6_loads yX6_loads, Cond.code yX6_loads cX6_loads 3 none, Cond.fieldLink RX6 69 "MixDeskModel" "rowX" "[I", Cond.fieldLink RX6 72 "MixDeskModel" "rowY" "[I", Cond.methodLink RX6 165 yX6_plays, Cond.instanceMethod yX6_plays, Cond.selects RX6 yX6_plays yX6_plays, Cond.code yX6_plays cX6_plays 9 none, Cond.fieldLink RX6 35 "MixDeskModel" "beats" "[I", Cond.fieldLink RX6 32 "MixDeskModel" "phrase" "[I", Cond.methodLink RX6 111 yX6_playedBars, Cond.instanceMethod yX6_playedBars, Cond.selects RX6 yX6_playedBars yX6_playedBars, Cond.code yX6_playedBars cX6_playedBars 2 (some .int), Cond.fieldLink RX6 17 "MixDeskModel" "bars" "[I", Cond.fieldLink RX6 44 "MixDeskModel" "loops" "[I", Cond.fieldLink RX6 41 "MixDeskModel" "loopTo" "[I", Cond.fieldLink RX6 38 "MixDeskModel" "loopFrom" "[I", Cond.methodLink RX6 131 yX6_barOf, Cond.instanceMethod yX6_barOf]
def wsX6_night_r3 : List Cond := [Cond.selects RX6 yX6_barOf yX6_barOf, Cond.code yX6_barOf cX6_barOf 5 (some .int), Cond.methodLink RX6 128 yX6_firstBeat, Cond.instanceMethod yX6_firstBeat, Cond.selects RX6 yX6_firstBeat yX6_firstBeat, Cond.code yX6_firstBeat cX6_firstBeat 5 (some .int), Cond.methodLink RX6 122 yX6_lasts, Cond.instanceMethod yX6_lasts, Cond.selects RX6 yX6_lasts yX6_lasts, Cond.code yX6_lasts cX6_lasts 4 (some .int), Cond.fieldLink RX6 13 "MixDeskModel" "kind" "[I", Cond.fieldLink RX6 20 "MixDeskModel" "step" "[I", Cond.fieldLink RX6 23 "MixDeskModel" "more" "[I", Cond.methodLink RX6 118 yX6_floor, Cond.static yX6_floor, Cond.code yX6_floor cX6_floor 2 (some .int), Cond.methodLink RX6 173 yX6_isWhole, Cond.static yX6_isWhole, Cond.code yX6_isWhole cX6_isWhole 5 (some .boolean), Cond.methodLink RX6 177 yX6_beatsCost, Cond.instanceMethod yX6_beatsCost, Cond.selects RX6 yX6_beatsCost yX6_beatsCost, Cond.code yX6_beatsCost cX6_beatsCost 9 (some .int), Cond.fieldLink RX6 59 "MixDeskModel" "bound" "I"]
def wsX6_night_r4 : List Cond := [Cond.methodLink RX6 157 yX6_joined, Cond.static yX6_joined, Cond.code yX6_joined cX6_joined 4 (some .int), Cond.methodLink RX6 161 yX6_bend, Cond.static yX6_bend, Cond.code yX6_bend cX6_bend 5 (some .int), Cond.methodLink RX6 144 yX6_size, Cond.static yX6_size, Cond.code yX6_size cX6_size 1 (some .int), Cond.methodLink RX6 183 yX6_always, Cond.instanceMethod yX6_always, Cond.selects RX6 yX6_always yX6_always, Cond.code yX6_always cX6_always 3 (some .int), Cond.fieldLink RX6 63 "MixDeskModel" "keyCost" "I", Cond.fieldLink RX6 66 "MixDeskModel" "heatCost" "I", Cond.fieldLink RX6 29 "MixDeskModel" "heat" "[I", Cond.methodLink RX6 154 yX6_keysApart, Cond.instanceMethod yX6_keysApart, Cond.selects RX6 yX6_keysApart yX6_keysApart, Cond.code yX6_keysApart cX6_keysApart 4 (some .int), Cond.fieldLink RX6 26 "MixDeskModel" "key" "[I", Cond.methodLink RX6 206 yX6_weighs, Cond.instanceMethod yX6_weighs, Cond.selects RX6 yX6_weighs yX6_weighs]
def wsX6_night_r5 : List Cond := [Cond.code yX6_weighs cX6_weighs 7 none, Cond.methodLink RX6 195 yX6_isBound, Cond.instanceMethod yX6_isBound, Cond.selects RX6 yX6_isBound yX6_isBound, Cond.code yX6_isBound cX6_isBound 4 (some .boolean)]
def wsX6_night : List Cond := .code yX6_night cX6_night 9 (some .int) :: ((wsX6_night_r1 ++ (wsX6_night_r2 ++ (wsX6_night_r3 ++ (wsX6_night_r4 ++ wsX6_night_r5)))) ++ wsX60)
def wsX6_order : List Cond := .code yX6_order cX6_order 2 (some .int) :: ([.fieldLink RX6 209 "MixDeskModel" "orders" "I", .fieldLink RX6 100 "MixDeskModel" "ordered" "[I"] ++ wsX60)
def wsX6_mend : List Cond := .code yX6_mend cX6_mend 5 (some .int) :: ([.constant RX6 212 (-100000), .constant RX6 213 (100000), .fieldLink RX6 59 "MixDeskModel" "bound" "I", .methodLink RX6 144 yX6_size, .static yX6_size, .initialized RX6, .code yX6_size cX6_size 1 (some .int)] ++ wsX60)
def wsJ9_abs_0f7a4 : List Cond := .code yJ9_abs_0f7a4 cJ9_abs_0f7a4 1 (some .int) :: ([])
def wsJ9_max_7cf53 : List Cond := .code yJ9_max_7cf53 cJ9_max_7cf53 2 (some .int) :: ([])
def wsJ9_min_7cf53 : List Cond := .code yJ9_min_7cf53 cJ9_min_7cf53 2 (some .int) :: ([])
def wsL_law_r1 : List Cond := [Cond.classLink RL 7 RX5, Cond.instantiable RX5 6, Cond.initialized RX5, Cond.classLink RL 10 RX6, Cond.instantiable RX6 36, Cond.initialized RX6, Cond.methodLink RL 9 yX5_init, Cond.instanceMethod yX5_init, Cond.code yX5_init cX5_init 1 none, Cond.methodLink RX5 1 objectInit, Cond.instanceMethod objectInit, Cond.code objectInit ⟨#[0xb1]⟩ 1 none, Cond.classLink RX5 9 RX3, Cond.fieldLink RX5 11 "MixDesk" "songs" "[LMixDesk$Song;", Cond.arrayClass .int, Cond.fieldLink RX5 15 "MixDesk" "wishes" "[I", Cond.classLink RX5 19 RX4, Cond.instantiable RX4 6, Cond.initialized RX4, Cond.fieldLink RX5 22 "MixDesk" "strokes" "LMixDesk$Strokes;", Cond.classLink RX5 26 RX0, Cond.instantiable RX0 8, Cond.initialized RX0, Cond.fieldLink RX5 29 "MixDesk" "joins" "LMixDesk$Joins;"]
def wsL_law_r2 : List Cond := [Cond.classLink RX5 33 RX1, Cond.instantiable RX1 4, Cond.initialized RX1, Cond.fieldLink RX5 36 "MixDesk" "meeting" "LMixDesk$Meeting;", Cond.classLink RX5 40 RX2, Cond.instantiable RX2 8, Cond.initialized RX2, Cond.fieldLink RX5 43 "MixDesk" "nights" "LMixDesk$Nights;", Cond.instanceMethod yX4_init, Cond.code yX4_init cX4_init 1 none, Cond.methodLink RX4 3 objectInit, Cond.fieldLink RX4 11 "MixDesk$Strokes" "ticks" "[I", Cond.fieldLink RX4 15 "MixDesk$Strokes" "count" "I", Cond.fieldLink RX4 19 "MixDesk$Strokes" "restCost" "[I", Cond.fieldLink RX4 22 "MixDesk$Strokes" "nextTaken" "[I", Cond.fieldLink RX4 25 "MixDesk$Strokes" "taken" "[I", Cond.fieldLink RX4 28 "MixDesk$Strokes" "takenCount" "I", Cond.methodLink RX5 28 yX0_init, Cond.instanceMethod yX0_init, Cond.code yX0_init cX0_init 1 none, Cond.methodLink RX0 3 objectInit, Cond.fieldLink RX0 9 "MixDesk$Joins" "bound" "I", Cond.fieldLink RX0 15 "MixDesk$Joins" "keyCost" "I", Cond.fieldLink RX0 18 "MixDesk$Joins" "heatCost" "I"]
def wsL_law_r3 : List Cond := [Cond.fieldLink RX0 21 "MixDesk$Joins" "leastCost" "[I", Cond.fieldLink RX0 25 "MixDesk$Joins" "leastP" "[I", Cond.fieldLink RX0 28 "MixDesk$Joins" "leastQ" "[I", Cond.fieldLink RX0 31 "MixDesk$Joins" "late" "[I", Cond.fieldLink RX0 34 "MixDesk$Joins" "early" "[I", Cond.methodLink RX0 37 yJ7_fill_53178, Cond.static yJ7_fill_53178, Cond.initialized RJ7, Cond.code yJ7_fill_53178 cJ7_fill_53178 4 none, Cond.instanceMethod yX1_init, Cond.code yX1_init cX1_init 1 none, Cond.methodLink RX1 3 objectInit, Cond.fieldLink RX1 9 "MixDesk$Meeting" "beats" "I", Cond.fieldLink RX1 15 "MixDesk$Meeting" "begins" "[I", Cond.fieldLink RX1 19 "MixDesk$Meeting" "lasts" "[I", Cond.fieldLink RX1 22 "MixDesk$Meeting" "bends" "[I", Cond.instanceMethod yX2_init, Cond.code yX2_init cX2_init 1 none, Cond.methodLink RX2 3 objectInit, Cond.classLink RX2 9 RX3, Cond.fieldLink RX2 11 "MixDesk$Nights" "songs" "[LMixDesk$Song;", Cond.fieldLink RX2 17 "MixDesk$Nights" "count" "I", Cond.fieldLink RX2 21 "MixDesk$Nights" "step" "[I", Cond.arrayClass .boolean]
def wsL_law_r4 : List Cond := [Cond.fieldLink RX2 25 "MixDesk$Nights" "mayBegin" "[Z", Cond.fieldLink RX2 29 "MixDesk$Nights" "rest" "[I", Cond.constant RX2 32 (1073741824), Cond.fieldLink RX2 33 "MixDesk$Nights" "cost" "I", Cond.fieldLink RX2 36 "MixDesk$Nights" "order" "[I", Cond.fieldLink RX2 39 "MixDesk$Nights" "told" "I", Cond.methodLink RL 12 yX6_init, Cond.instanceMethod yX6_init, Cond.code yX6_init cX6_init 1 none, Cond.methodLink RX6 1 objectInit, Cond.fieldLink RX6 7 "MixDeskModel" "isThere" "[Z", Cond.fieldLink RX6 13 "MixDeskModel" "kind" "[I", Cond.fieldLink RX6 17 "MixDeskModel" "bars" "[I", Cond.fieldLink RX6 20 "MixDeskModel" "step" "[I", Cond.fieldLink RX6 23 "MixDeskModel" "more" "[I", Cond.fieldLink RX6 26 "MixDeskModel" "key" "[I", Cond.fieldLink RX6 29 "MixDeskModel" "heat" "[I", Cond.fieldLink RX6 32 "MixDeskModel" "phrase" "[I", Cond.fieldLink RX6 35 "MixDeskModel" "beats" "[I", Cond.fieldLink RX6 38 "MixDeskModel" "loopFrom" "[I", Cond.fieldLink RX6 41 "MixDeskModel" "loopTo" "[I", Cond.fieldLink RX6 44 "MixDeskModel" "loops" "[I", Cond.fieldLink RX6 47 "MixDeskModel" "musts" "[I", Cond.fieldLink RX6 50 "MixDeskModel" "stroke" "[I"]
def wsL_law_r5 : List Cond := [Cond.fieldLink RX6 53 "MixDeskModel" "costs" "[I", Cond.fieldLink RX6 56 "MixDeskModel" "foundOnes" "[I", Cond.fieldLink RX6 59 "MixDeskModel" "bound" "I", Cond.fieldLink RX6 63 "MixDeskModel" "keyCost" "I", Cond.fieldLink RX6 66 "MixDeskModel" "heatCost" "I", Cond.fieldLink RX6 69 "MixDeskModel" "rowX" "[I", Cond.fieldLink RX6 72 "MixDeskModel" "rowY" "[I", Cond.fieldLink RX6 75 "MixDeskModel" "brokenX" "[Z", Cond.fieldLink RX6 78 "MixDeskModel" "brokenY" "[Z", Cond.fieldLink RX6 81 "MixDeskModel" "phraseX" "[Z", Cond.fieldLink RX6 84 "MixDeskModel" "phraseY" "[Z", Cond.fieldLink RX6 87 "MixDeskModel" "meetLong" "[I", Cond.fieldLink RX6 90 "MixDeskModel" "meetBend" "[I", Cond.fieldLink RX6 93 "MixDeskModel" "edge" "[I", Cond.constant RX6 96 (49152), Cond.fieldLink RX6 97 "MixDeskModel" "weigh" "[I", Cond.fieldLink RX6 100 "MixDeskModel" "ordered" "[I", Cond.methodLink RL 13 yX5_song, Cond.instanceMethod yX5_song, Cond.selects RX5 yX5_song yX5_song, Cond.code yX5_song cX5_song 6 (some .boolean), Cond.instantiable RX3 19, Cond.initialized RX3, Cond.methodLink RX5 47 yX5_within]
def wsL_law_r6 : List Cond := [Cond.static yX5_within, Cond.code yX5_within cX5_within 3 (some .boolean), Cond.methodLink RX5 51 yX5_canBeSong, Cond.static yX5_canBeSong, Cond.code yX5_canBeSong cX5_canBeSong 4 (some .boolean), Cond.methodLink RX5 55 yX5_forgetSong, Cond.instanceMethod yX5_forgetSong, Cond.selects RX5 yX5_forgetSong yX5_forgetSong, Cond.code yX5_forgetSong cX5_forgetSong 3 none, Cond.methodLink RX5 76 yX0_forgetJoinsOf, Cond.instanceMethod yX0_forgetJoinsOf, Cond.selects RX0 yX0_forgetJoinsOf yX0_forgetJoinsOf, Cond.code yX0_forgetJoinsOf cX0_forgetJoinsOf 4 none, Cond.methodLink RX0 43 yX0_slot, Cond.static yX0_slot, Cond.code yX0_slot cX0_slot 3 (some .int), Cond.methodLink RX5 59 yX3_init, Cond.instanceMethod yX3_init, Cond.code yX3_init cX3_init 6 none, Cond.methodLink RX3 3 objectInit, Cond.fieldLink RX3 9 "MixDesk$Song" "key" "I", Cond.fieldLink RX3 15 "MixDesk$Song" "heat" "I", Cond.fieldLink RX3 18 "MixDesk$Song" "phrase" "I", Cond.fieldLink RX3 21 "MixDesk$Song" "loopFrom" "I"]
def wsL_law_r7 : List Cond := [Cond.fieldLink RX3 24 "MixDesk$Song" "loopTo" "I", Cond.fieldLink RX3 27 "MixDesk$Song" "loopTimes" "I", Cond.fieldLink RX3 30 "MixDesk$Song" "beatsOf" "[I", Cond.fieldLink RX3 34 "MixDesk$Song" "firstOf" "[I", Cond.fieldLink RX3 37 "MixDesk$Song" "tickOf" "[I", Cond.fieldLink RX3 40 "MixDesk$Song" "barAt" "[I", Cond.fieldLink RX3 43 "MixDesk$Song" "tickAt" "[I", Cond.fieldLink RX3 46 "MixDesk$Song" "wholeFrom" "[I", Cond.fieldLink RX3 49 "MixDesk$Song" "lastsAt" "[I", Cond.fieldLink RX3 52 "MixDesk$Song" "number" "I", Cond.fieldLink RX3 55 "MixDesk$Song" "kind" "I", Cond.fieldLink RX3 58 "MixDesk$Song" "bars" "I", Cond.fieldLink RX3 61 "MixDesk$Song" "step" "I", Cond.fieldLink RX3 64 "MixDesk$Song" "more" "I", Cond.methodLink RX3 67 yJ7_fill_53178, Cond.methodLink RX3 73 yX3_layOutBeats, Cond.instanceMethod yX3_layOutBeats, Cond.selects RX3 yX3_layOutBeats yX3_layOutBeats, Cond.code yX3_layOutBeats cX3_layOutBeats 5 none, Cond.methodLink RX3 83 yX3_lasting, Cond.instanceMethod yX3_lasting, Cond.selects RX3 yX3_lasting yX3_lasting, Cond.code yX3_lasting cX3_lasting 2 (some .int), Cond.methodLink RX3 99 Lib.Math.min.name]
def wsL_law_r8 : List Cond := [Cond.static Lib.Math.min.name, Cond.initialized "java/lang/Math", Cond.code Lib.Math.min.name Lib.Math.min.code 2 (some .int), Cond.methodLink RX3 102 Lib.Math.max.name, Cond.static Lib.Math.max.name, Cond.code Lib.Math.max.name Lib.Math.max.code 2 (some .int), Cond.methodLink RX3 93 yJ9_floorDiv_7cf53, Cond.static yJ9_floorDiv_7cf53, Cond.initialized RJ9, Cond.code yJ9_floorDiv_7cf53 cJ9_floorDiv_7cf53 3 (some .int), Cond.methodLink RX3 76 yX3_layOutPlayedBars, Cond.instanceMethod yX3_layOutPlayedBars, Cond.selects RX3 yX3_layOutPlayedBars yX3_layOutPlayedBars, Cond.code yX3_layOutPlayedBars cX3_layOutPlayedBars 6 none, Cond.fieldLink RX3 87 "MixDesk$Song" "playedBars" "I", Cond.methodLink RX3 90 yX3_barPlayed, Cond.instanceMethod yX3_barPlayed, Cond.selects RX3 yX3_barPlayed yX3_barPlayed, Cond.code yX3_barPlayed cX3_barPlayed 3 (some .int), Cond.methodLink RL 17 yX6_song, Cond.instanceMethod yX6_song, Cond.selects RX6 yX6_song yX6_song, Cond.code yX6_song cX6_song 7 (some .boolean), Cond.methodLink RX6 103 yX6_forgets]
def wsL_law_r9 : List Cond := [Cond.instanceMethod yX6_forgets, Cond.selects RX6 yX6_forgets yX6_forgets, Cond.code yX6_forgets cX6_forgets 3 none, Cond.methodLink RL 18 yX5_about, Cond.instanceMethod yX5_about, Cond.selects RX5 yX5_about yX5_about, Cond.code yX5_about cX5_about 6 (some .boolean), Cond.fieldLink RX5 66 "MixDesk$Song" "key" "I", Cond.fieldLink RX5 70 "MixDesk$Song" "heat" "I", Cond.fieldLink RX5 73 "MixDesk$Song" "phrase" "I", Cond.methodLink RX5 62 yX5_songAt, Cond.instanceMethod yX5_songAt, Cond.selects RX5 yX5_songAt yX5_songAt, Cond.code yX5_songAt cX5_songAt 2 (some (.object "MixDesk$Song")), Cond.methodLink RL 22 yX6_about, Cond.instanceMethod yX6_about, Cond.selects RX6 yX6_about yX6_about, Cond.code yX6_about cX6_about 5 (some .boolean), Cond.methodLink RX6 107 yX6_isSong, Cond.instanceMethod yX6_isSong, Cond.selects RX6 yX6_isSong yX6_isSong, Cond.code yX6_isSong cX6_isSong 2 (some .boolean), Cond.methodLink RL 23 yX5_bar, Cond.instanceMethod yX5_bar]
def wsL_law_r10 : List Cond := [Cond.selects RX5 yX5_bar yX5_bar, Cond.code yX5_bar cX5_bar 5 (some .boolean), Cond.fieldLink RX5 79 "MixDesk$Song" "bars" "I", Cond.methodLink RX5 82 yX3_setBeats, Cond.instanceMethod yX3_setBeats, Cond.selects RX3 yX3_setBeats yX3_setBeats, Cond.code yX3_setBeats cX3_setBeats 3 none, Cond.methodLink RL 27 yX6_bar, Cond.instanceMethod yX6_bar, Cond.selects RX6 yX6_bar yX6_bar, Cond.code yX6_bar cX6_bar 4 (some .boolean), Cond.methodLink RL 28 yX5_loop, Cond.instanceMethod yX5_loop, Cond.selects RX5 yX5_loop yX5_loop, Cond.code yX5_loop cX5_loop 6 (some .boolean), Cond.methodLink RX5 86 yX3_canLoop, Cond.instanceMethod yX3_canLoop, Cond.selects RX3 yX3_canLoop yX3_canLoop, Cond.code yX3_canLoop cX3_canLoop 4 (some .boolean), Cond.methodLink RX5 89 yX3_setLoop, Cond.instanceMethod yX3_setLoop, Cond.selects RX3 yX3_setLoop yX3_setLoop, Cond.code yX3_setLoop cX3_setLoop 4 none, Cond.methodLink RL 31 yX6_loop]
def wsL_law_r11 : List Cond := [Cond.instanceMethod yX6_loop, Cond.selects RX6 yX6_loop yX6_loop, Cond.code yX6_loop cX6_loop 5 (some .boolean), Cond.methodLink RL 32 yX5_drop, Cond.instanceMethod yX5_drop, Cond.selects RX5 yX5_drop yX5_drop, Cond.code yX5_drop cX5_drop 2 (some .boolean), Cond.methodLink RL 36 yX6_drop, Cond.instanceMethod yX6_drop, Cond.selects RX6 yX6_drop yX6_drop, Cond.code yX6_drop cX6_drop 2 (some .boolean), Cond.methodLink RL 37 yX5_of, Cond.instanceMethod yX5_of, Cond.selects RX5 yX5_of yX5_of, Cond.code yX5_of cX5_of 4 (some .int), Cond.fieldLink RX5 93 "MixDesk$Song" "kind" "I", Cond.fieldLink RX5 96 "MixDesk$Song" "step" "I", Cond.fieldLink RX5 99 "MixDesk$Song" "more" "I", Cond.fieldLink RX5 102 "MixDesk$Song" "playedBars" "I", Cond.methodLink RX5 105 yX3_beats, Cond.instanceMethod yX3_beats, Cond.selects RX3 yX3_beats yX3_beats, Cond.code yX3_beats cX3_beats 1 (some .int), Cond.methodLink RX5 109 yX3_brokenBars]
def wsL_law_r12 : List Cond := [Cond.instanceMethod yX3_brokenBars, Cond.selects RX3 yX3_brokenBars yX3_brokenBars, Cond.code yX3_brokenBars cX3_brokenBars 3 (some .int), Cond.methodLink RL 41 yX6_of, Cond.instanceMethod yX6_of, Cond.selects RX6 yX6_of yX6_of, Cond.code yX6_of cX6_of 5 (some .int), Cond.methodLink RX6 111 yX6_playedBars, Cond.instanceMethod yX6_playedBars, Cond.selects RX6 yX6_playedBars yX6_playedBars, Cond.code yX6_playedBars cX6_playedBars 2 (some .int), Cond.methodLink RX6 115 yX6_beatsOf, Cond.instanceMethod yX6_beatsOf, Cond.selects RX6 yX6_beatsOf yX6_beatsOf, Cond.code yX6_beatsOf cX6_beatsOf 4 (some .int), Cond.methodLink RL 42 yX5_beat, Cond.instanceMethod yX5_beat, Cond.selects RX5 yX5_beat yX5_beat, Cond.code yX5_beat cX5_beat 4 (some .int), Cond.fieldLink RX5 112 "MixDesk$Song" "tickOf" "[I", Cond.methodLink RL 45 yX6_beat, Cond.instanceMethod yX6_beat, Cond.selects RX6 yX6_beat yX6_beat, Cond.code yX6_beat cX6_beat 3 (some .int)]
def wsL_law_r13 : List Cond := [Cond.methodLink RX6 125 yX6_tick, Cond.instanceMethod yX6_tick, Cond.selects RX6 yX6_tick yX6_tick, Cond.code yX6_tick cX6_tick 5 (some .int), Cond.methodLink RX6 122 yX6_lasts, Cond.instanceMethod yX6_lasts, Cond.selects RX6 yX6_lasts yX6_lasts, Cond.code yX6_lasts cX6_lasts 4 (some .int), Cond.methodLink RX6 118 yX6_floor, Cond.static yX6_floor, Cond.code yX6_floor cX6_floor 2 (some .int), Cond.methodLink RL 46 yX5_played, Cond.instanceMethod yX5_played, Cond.selects RX5 yX5_played yX5_played, Cond.code yX5_played cX5_played 5 (some .int), Cond.fieldLink RX5 115 "MixDesk$Song" "barAt" "[I", Cond.fieldLink RX5 118 "MixDesk$Song" "tickAt" "[I", Cond.fieldLink RX5 121 "MixDesk$Song" "beatsOf" "[I", Cond.methodLink RL 50 yX6_played, Cond.instanceMethod yX6_played, Cond.selects RX6 yX6_played yX6_played, Cond.code yX6_played cX6_played 5 (some .int), Cond.methodLink RX6 131 yX6_barOf, Cond.instanceMethod yX6_barOf]
def wsL_law_r14 : List Cond := [Cond.selects RX6 yX6_barOf yX6_barOf, Cond.code yX6_barOf cX6_barOf 5 (some .int), Cond.methodLink RX6 137 yX6_begins, Cond.instanceMethod yX6_begins, Cond.selects RX6 yX6_begins yX6_begins, Cond.code yX6_begins cX6_begins 5 (some .int), Cond.methodLink RX6 134 yX6_barLong, Cond.instanceMethod yX6_barLong, Cond.selects RX6 yX6_barLong yX6_barLong, Cond.code yX6_barLong cX6_barLong 6 (some .int), Cond.methodLink RX6 128 yX6_firstBeat, Cond.instanceMethod yX6_firstBeat, Cond.selects RX6 yX6_firstBeat yX6_firstBeat, Cond.code yX6_firstBeat cX6_firstBeat 5 (some .int), Cond.methodLink RL 51 yX5_length, Cond.instanceMethod yX5_length, Cond.selects RX5 yX5_length yX5_length, Cond.code yX5_length cX5_length 3 (some .int), Cond.methodLink RL 55 yX6_length, Cond.instanceMethod yX6_length, Cond.selects RX6 yX6_length yX6_length, Cond.code yX6_length cX6_length 2 (some .int), Cond.methodLink RL 56 yX5_stroke, Cond.instanceMethod yX5_stroke]
def wsL_law_r15 : List Cond := [Cond.selects RX5 yX5_stroke yX5_stroke, Cond.code yX5_stroke cX5_stroke 2 (some .int), Cond.methodLink RX5 124 yX4_add, Cond.instanceMethod yX4_add, Cond.selects RX4 yX4_add yX4_add, Cond.code yX4_add cX4_add 2 (some .int), Cond.constant RX4 31 (1000000), Cond.methodLink RL 59 yX6_stroke, Cond.instanceMethod yX6_stroke, Cond.selects RX6 yX6_stroke yX6_stroke, Cond.code yX6_stroke cX6_stroke 2 (some .int), Cond.constant RX6 140 (1000000), Cond.fieldLink RX6 141 "MixDeskModel" "strokes" "I", Cond.methodLink RL 60 yX5_clear, Cond.instanceMethod yX5_clear, Cond.selects RX5 yX5_clear yX5_clear, Cond.code yX5_clear cX5_clear 1 (some .int), Cond.methodLink RX5 128 yX4_empty, Cond.instanceMethod yX4_empty, Cond.selects RX4 yX4_empty yX4_empty, Cond.code yX4_empty cX4_empty 2 (some .int), Cond.methodLink RL 64 yX6_clear, Cond.instanceMethod yX6_clear, Cond.selects RX6 yX6_clear yX6_clear]
def wsL_law_r16 : List Cond := [Cond.code yX6_clear cX6_clear 2 (some .int), Cond.methodLink RL 65 yX5_find, Cond.instanceMethod yX5_find, Cond.selects RX5 yX5_find yX5_find, Cond.code yX5_find cX5_find 4 (some .int), Cond.methodLink RX5 131 yX4_seekBeats, Cond.instanceMethod yX4_seekBeats, Cond.selects RX4 yX4_seekBeats yX4_seekBeats, Cond.code yX4_seekBeats cX4_seekBeats 6 (some .int), Cond.methodLink RX4 36 yX4_chooseNext, Cond.instanceMethod yX4_chooseNext, Cond.selects RX4 yX4_chooseNext yX4_chooseNext, Cond.code yX4_chooseNext cX4_chooseNext 7 none, Cond.constant RX4 44 (1073741824), Cond.methodLink RX4 45 yX4_gapCost, Cond.static yX4_gapCost, Cond.code yX4_gapCost cX4_gapCost 4 (some .int), Cond.methodLink RX4 49 Lib.Math.max.name, Cond.methodLink RX4 55 Lib.Math.abs.name, Cond.static Lib.Math.abs.name, Cond.code Lib.Math.abs.name Lib.Math.abs.code 1 (some .int), Cond.methodLink RX4 40 yX4_keepBeats, Cond.instanceMethod yX4_keepBeats, Cond.selects RX4 yX4_keepBeats yX4_keepBeats]
def wsL_law_r17 : List Cond := [Cond.code yX4_keepBeats cX4_keepBeats 4 none, Cond.methodLink RL 68 yX6_find, Cond.instanceMethod yX6_find, Cond.selects RX6 yX6_find yX6_find, Cond.code yX6_find cX6_find 9 (some .int), Cond.fieldLink RX6 151 "MixDeskModel" "founds" "I", Cond.methodLink RX6 147 yX6_apart, Cond.static yX6_apart, Cond.code yX6_apart cX6_apart 4 (some .int), Cond.methodLink RX6 144 yX6_size, Cond.static yX6_size, Cond.code yX6_size cX6_size 1 (some .int), Cond.methodLink RL 69 yX5_found, Cond.instanceMethod yX5_found, Cond.selects RX5 yX5_found yX5_found, Cond.code yX5_found cX5_found 2 (some .int), Cond.methodLink RX5 135 yX4_foundStroke, Cond.instanceMethod yX4_foundStroke, Cond.selects RX4 yX4_foundStroke yX4_foundStroke, Cond.code yX4_foundStroke cX4_foundStroke 2 (some .int), Cond.methodLink RL 72 yX6_found, Cond.instanceMethod yX6_found, Cond.selects RX6 yX6_found yX6_found, Cond.code yX6_found cX6_found 2 (some .int)]
def wsL_law_r18 : List Cond := [Cond.methodLink RL 73 yX5_costs, Cond.instanceMethod yX5_costs, Cond.selects RX5 yX5_costs yX5_costs, Cond.code yX5_costs cX5_costs 4 (some .boolean), Cond.methodLink RX5 138 yX0_setCosts, Cond.instanceMethod yX0_setCosts, Cond.selects RX0 yX0_setCosts yX0_setCosts, Cond.code yX0_setCosts cX0_setCosts 4 none, Cond.methodLink RL 76 yX6_costs, Cond.instanceMethod yX6_costs, Cond.selects RX6 yX6_costs yX6_costs, Cond.code yX6_costs cX6_costs 4 (some .boolean), Cond.methodLink RL 77 yX5_join, Cond.instanceMethod yX5_join, Cond.selects RX5 yX5_join yX5_join, Cond.code yX5_join cX5_join 10 (some .int), Cond.fieldLink RX5 141 "MixDesk$Song" "wholeFrom" "[I", Cond.constant RX5 148 (1073741824), Cond.methodLink RX5 144 yX3_beginsPhrase, Cond.instanceMethod yX3_beginsPhrase, Cond.selects RX3 yX3_beginsPhrase yX3_beginsPhrase, Cond.code yX3_beginsPhrase cX3_beginsPhrase 2 (some .boolean), Cond.methodLink RX5 149 yX0_bentBy, Cond.instanceMethod yX0_bentBy]
def wsL_law_r19 : List Cond := [Cond.selects RX0 yX0_bentBy yX0_bentBy, Cond.code yX0_bentBy cX0_bentBy 12 (some .int), Cond.fieldLink RX0 56 "MixDesk$Song" "lastsAt" "[I", Cond.methodLink RX0 63 Lib.Math.abs.name, Cond.constant RX0 72 (1073741824), Cond.static yX5_blend, Cond.code yX5_blend cX5_blend 4 (some .int), Cond.methodLink RX5 228 yJ9_floorDiv_7cf53, Cond.static yX5_bendOf, Cond.code yX5_bendOf cX5_bendOf 3 (some .int), Cond.methodLink RX5 206 Lib.Math.abs.name, Cond.methodLink RX5 231 Lib.Math.max.name, Cond.methodLink RX5 153 yX1_keep, Cond.instanceMethod yX1_keep, Cond.selects RX1 yX1_keep yX1_keep, Cond.code yX1_keep cX1_keep 9 none, Cond.fieldLink RX1 25 "MixDesk$Song" "lastsAt" "[I", Cond.methodLink RX5 157 yX0_apart, Cond.instanceMethod yX0_apart, Cond.selects RX0 yX0_apart yX0_apart, Cond.code yX0_apart cX0_apart 5 (some .int), Cond.fieldLink RX0 73 "MixDesk$Song" "key" "I", Cond.methodLink RX0 76 Lib.Math.min.name, Cond.fieldLink RX0 80 "MixDesk$Song" "heat" "I"]
def wsL_law_r20 : List Cond := [Cond.methodLink RL 81 yX6_join, Cond.instanceMethod yX6_join, Cond.selects RX6 yX6_join yX6_join, Cond.code yX6_join cX6_join 11 (some .int), Cond.constant RX6 164 (1000000000), Cond.fieldLink RX6 180 "MixDeskModel" "meetMany" "I", Cond.methodLink RX6 169 yX6_loads, Cond.instanceMethod yX6_loads, Cond.selects RX6 yX6_loads yX6_loads, Cond.code yX6_loads cX6_loads 3 none, Cond.methodLink RX6 165 yX6_plays, Cond.instanceMethod yX6_plays, Cond.selects RX6 yX6_plays yX6_plays, Cond.code yX6_plays cX6_plays 9 none, Cond.methodLink RX6 173 yX6_isWhole, Cond.static yX6_isWhole, Cond.code yX6_isWhole cX6_isWhole 5 (some .boolean), Cond.methodLink RX6 177 yX6_beatsCost, Cond.instanceMethod yX6_beatsCost, Cond.selects RX6 yX6_beatsCost yX6_beatsCost, Cond.code yX6_beatsCost cX6_beatsCost 9 (some .int), Cond.methodLink RX6 157 yX6_joined, Cond.static yX6_joined, Cond.code yX6_joined cX6_joined 4 (some .int)]
def wsL_law_r21 : List Cond := [Cond.methodLink RX6 161 yX6_bend, Cond.static yX6_bend, Cond.code yX6_bend cX6_bend 5 (some .int), Cond.methodLink RX6 183 yX6_always, Cond.instanceMethod yX6_always, Cond.selects RX6 yX6_always yX6_always, Cond.code yX6_always cX6_always 3 (some .int), Cond.methodLink RX6 154 yX6_keysApart, Cond.instanceMethod yX6_keysApart, Cond.selects RX6 yX6_keysApart yX6_keysApart, Cond.code yX6_keysApart cX6_keysApart 4 (some .int), Cond.methodLink RL 82 yX5_meets, Cond.instanceMethod yX5_meets, Cond.selects RX5 yX5_meets yX5_meets, Cond.code yX5_meets cX5_meets 3 (some .int), Cond.methodLink RX5 161 yX1_tell, Cond.instanceMethod yX1_tell, Cond.selects RX1 yX1_tell yX1_tell, Cond.code yX1_tell cX1_tell 3 (some .int), Cond.methodLink RL 85 yX6_meets, Cond.instanceMethod yX6_meets, Cond.selects RX6 yX6_meets yX6_meets, Cond.code yX6_meets cX6_meets 5 (some .int), Cond.methodLink RL 86 yX5_best]
def wsL_law_r22 : List Cond := [Cond.instanceMethod yX5_best, Cond.selects RX5 yX5_best yX5_best, Cond.code yX5_best cX5_best 8 (some .int), Cond.fieldLink RX5 169 "MixDesk$Joins" "leastCost" "[I", Cond.fieldLink RX5 172 "MixDesk$Joins" "leastP" "[I", Cond.fieldLink RX5 175 "MixDesk$Joins" "leastQ" "[I", Cond.methodLink RX5 165 yX0_slotOf, Cond.instanceMethod yX0_slotOf, Cond.selects RX0 yX0_slotOf yX0_slotOf, Cond.code yX0_slotOf cX0_slotOf 5 (some .int), Cond.fieldLink RX0 47 "MixDesk$Song" "number" "I", Cond.methodLink RX0 52 yX0_seekJoin, Cond.instanceMethod yX0_seekJoin, Cond.selects RX0 yX0_seekJoin yX0_seekJoin, Cond.code yX0_seekJoin cX0_seekJoin 11 none, Cond.methodLink RX0 83 yX0_listLate, Cond.instanceMethod yX0_listLate, Cond.selects RX0 yX0_listLate yX0_listLate, Cond.code yX0_listLate cX0_listLate 5 (some .int), Cond.fieldLink RX0 98 "MixDesk$Song" "playedBars" "I", Cond.methodLink RX0 101 yX0_canBegin, Cond.static yX0_canBegin, Cond.code yX0_canBegin cX0_canBegin 3 (some .boolean), Cond.fieldLink RX0 109 "MixDesk$Song" "wholeFrom" "[I"]
def wsL_law_r23 : List Cond := [Cond.methodLink RX0 112 yX3_beginsPhrase, Cond.methodLink RX0 105 yX3_soundsAlike, Cond.instanceMethod yX3_soundsAlike, Cond.selects RX3 yX3_soundsAlike yX3_soundsAlike, Cond.code yX3_soundsAlike cX3_soundsAlike 5 (some .boolean), Cond.methodLink RX0 87 yX0_listEarly, Cond.instanceMethod yX0_listEarly, Cond.selects RX0 yX0_listEarly yX0_listEarly, Cond.code yX0_listEarly cX0_listEarly 5 (some .int), Cond.methodLink RX0 90 yX0_bentBy, Cond.methodLink RX0 94 yX0_apart, Cond.methodLink RL 90 yX6_best, Cond.instanceMethod yX6_best, Cond.selects RX6 yX6_best yX6_best, Cond.code yX6_best cX6_best 6 (some .int), Cond.fieldLink RX6 186 "MixDeskModel" "bestP" "I", Cond.fieldLink RX6 189 "MixDeskModel" "bestQ" "I", Cond.methodLink RX6 192 yX6_bestOf, Cond.instanceMethod yX6_bestOf, Cond.selects RX6 yX6_bestOf yX6_bestOf, Cond.code yX6_bestOf cX6_bestOf 10 (some .int), Cond.methodLink RL 91 yX5_must, Cond.instanceMethod yX5_must, Cond.selects RX5 yX5_must yX5_must]
def wsL_law_r24 : List Cond := [Cond.code yX5_must cX5_must 4 (some .boolean), Cond.methodLink RL 94 yX6_must, Cond.instanceMethod yX6_must, Cond.selects RX6 yX6_must yX6_must, Cond.code yX6_must cX6_must 4 (some .boolean), Cond.methodLink RL 95 yX5_night, Cond.instanceMethod yX5_night, Cond.selects RX5 yX5_night yX5_night, Cond.code yX5_night cX5_night 3 (some .int), Cond.fieldLink RX5 182 "MixDesk$Nights" "count" "I", Cond.fieldLink RX5 192 "MixDesk$Nights" "cost" "I", Cond.methodLink RX5 178 yX2_gather, Cond.instanceMethod yX2_gather, Cond.selects RX2 yX2_gather yX2_gather, Cond.code yX2_gather cX2_gather 3 none, Cond.methodLink RX5 185 yX5_weighSteps, Cond.instanceMethod yX5_weighSteps, Cond.selects RX5 yX5_weighSteps yX5_weighSteps, Cond.code yX5_weighSteps cX5_weighSteps 7 none, Cond.fieldLink RX5 211 "MixDesk$Nights" "songs" "[LMixDesk$Song;", Cond.fieldLink RX5 212 "MixDesk$Nights" "mayBegin" "[Z", Cond.fieldLink RX5 216 "MixDesk$Song" "number" "I", Cond.fieldLink RX5 226 "MixDesk$Nights" "step" "[I", Cond.methodLink RX5 219 yX5_mustsInto]
def wsL_law_r25 : List Cond := [Cond.instanceMethod yX5_mustsInto, Cond.selects RX5 yX5_mustsInto yX5_mustsInto, Cond.code yX5_mustsInto cX5_mustsInto 4 (some .int), Cond.methodLink RX5 222 yX5_wishAllows, Cond.instanceMethod yX5_wishAllows, Cond.selects RX5 yX5_wishAllows yX5_wishAllows, Cond.code yX5_wishAllows cX5_wishAllows 4 (some .boolean), Cond.methodLink RX5 188 yX2_seekOrder, Cond.instanceMethod yX2_seekOrder, Cond.selects RX2 yX2_seekOrder yX2_seekOrder, Cond.code yX2_seekOrder cX2_seekOrder 3 (some .boolean), Cond.methodLink RX2 42 yX2_weighSet, Cond.instanceMethod yX2_weighSet, Cond.selects RX2 yX2_weighSet yX2_weighSet, Cond.code yX2_weighSet cX2_weighSet 4 none, Cond.methodLink RX2 53 yX2_leastNext, Cond.instanceMethod yX2_leastNext, Cond.selects RX2 yX2_leastNext yX2_leastNext, Cond.code yX2_leastNext cX2_leastNext 7 (some .int), Cond.methodLink RX2 57 yX2_costOver, Cond.instanceMethod yX2_costOver, Cond.selects RX2 yX2_costOver yX2_costOver, Cond.code yX2_costOver cX2_costOver 5 (some .int), Cond.methodLink RX2 46 yX2_leastFirst]
def wsL_law_r26 : List Cond := [Cond.instanceMethod yX2_leastFirst, Cond.selects RX2 yX2_leastFirst yX2_leastFirst, Cond.code yX2_leastFirst cX2_leastFirst 5 (some .int), Cond.methodLink RX2 50 yX2_keepOrder, Cond.instanceMethod yX2_keepOrder, Cond.selects RX2 yX2_keepOrder yX2_keepOrder, Cond.code yX2_keepOrder cX2_keepOrder 6 none, Cond.fieldLink RX2 61 "MixDesk$Song" "number" "I", Cond.methodLink RL 98 yX6_night, Cond.instanceMethod yX6_night, Cond.selects RX6 yX6_night yX6_night, Cond.code yX6_night cX6_night 9 (some .int), Cond.fieldLink RX6 209 "MixDeskModel" "orders" "I", Cond.methodLink RX6 199 yX6_there, Cond.instanceMethod yX6_there, Cond.selects RX6 yX6_there yX6_there, Cond.code yX6_there cX6_there 3 (some .int), Cond.methodLink RX6 203 yX6_edges, Cond.instanceMethod yX6_edges, Cond.selects RX6 yX6_edges yX6_edges, Cond.code yX6_edges cX6_edges 5 none, Cond.methodLink RX6 206 yX6_weighs, Cond.instanceMethod yX6_weighs, Cond.selects RX6 yX6_weighs yX6_weighs]
def wsL_law_r27 : List Cond := [Cond.code yX6_weighs cX6_weighs 7 none, Cond.methodLink RX6 195 yX6_isBound, Cond.instanceMethod yX6_isBound, Cond.selects RX6 yX6_isBound yX6_isBound, Cond.code yX6_isBound cX6_isBound 4 (some .boolean), Cond.methodLink RL 99 yX5_order, Cond.instanceMethod yX5_order, Cond.selects RX5 yX5_order yX5_order, Cond.code yX5_order cX5_order 2 (some .int), Cond.fieldLink RX5 195 "MixDesk$Nights" "told" "I", Cond.fieldLink RX5 198 "MixDesk$Nights" "order" "[I", Cond.methodLink RL 102 yX6_order, Cond.instanceMethod yX6_order, Cond.selects RX6 yX6_order yX6_order, Cond.code yX6_order cX6_order 2 (some .int), Cond.methodLink RL 103 yX5_mend, Cond.instanceMethod yX5_mend, Cond.selects RX5 yX5_mend yX5_mend, Cond.code yX5_mend cX5_mend 4 (some .int), Cond.constant RX5 201 (-100000), Cond.constant RX5 202 (100000), Cond.fieldLink RX5 203 "MixDesk$Joins" "bound" "I", Cond.methodLink RL 106 yX6_mend, Cond.instanceMethod yX6_mend]
def wsL_law_r28 : List Cond := [Cond.selects RX6 yX6_mend yX6_mend, Cond.code yX6_mend cX6_mend 5 (some .int), Cond.constant RX6 212 (-100000), Cond.constant RX6 213 (100000)]
def wsL_law : List Cond := (wsL_law_r1 ++ (wsL_law_r2 ++ (wsL_law_r3 ++ (wsL_law_r4 ++ (wsL_law_r5 ++ (wsL_law_r6 ++ (wsL_law_r7 ++ (wsL_law_r8 ++ (wsL_law_r9 ++ (wsL_law_r10 ++ (wsL_law_r11 ++ (wsL_law_r12 ++ (wsL_law_r13 ++ (wsL_law_r14 ++ (wsL_law_r15 ++ (wsL_law_r16 ++ (wsL_law_r17 ++ (wsL_law_r18 ++ (wsL_law_r19 ++ (wsL_law_r20 ++ (wsL_law_r21 ++ (wsL_law_r22 ++ (wsL_law_r23 ++ (wsL_law_r24 ++ (wsL_law_r25 ++ (wsL_law_r26 ++ (wsL_law_r27 ++ wsL_law_r28))))))))))))))))))))))))))) ++ wsX50 ++ wsX60 ++ wsX40 ++ wsX00 ++ wsX10 ++ wsX20 ++ wsX30 ++ ([] : List Cond)
end
section
set_option maxRecDepth 20000 in
theorem in_wsL_law_r1 : ∀ w ∈ wsL_law_r1, w ∈ lw_tbl := fun w h => (goodIn_p wsL_law_r1 [53, 56] (by decide +kernel) (by decide +kernel) w h).1
set_option maxRecDepth 20000 in
theorem in_wsL_law_r2 : ∀ w ∈ wsL_law_r2, w ∈ lw_tbl := fun w h => (goodIn_p wsL_law_r2 [63, 89] (by decide +kernel) (by decide +kernel) w h).1
set_option maxRecDepth 20000 in
theorem in_wsL_law_r3 : ∀ w ∈ wsL_law_r3, w ∈ lw_tbl := fun w h => (goodIn_p wsL_law_r3 [93, 127, 146] (by decide +kernel) (by decide +kernel) w h).1
set_option maxRecDepth 20000 in
theorem in_wsL_law_r4 : ∀ w ∈ wsL_law_r4, w ∈ lw_tbl := fun w h => (goodIn_p wsL_law_r4 [585] (by decide +kernel) (by decide +kernel) w h).1
set_option maxRecDepth 20000 in
theorem in_wsL_law_r5 : ∀ w ∈ wsL_law_r5, w ∈ lw_tbl := fun w h => (goodIn_p wsL_law_r5 [205] (by decide +kernel) (by decide +kernel) w h).1
set_option maxRecDepth 20000 in
theorem in_wsL_law_r6 : ∀ w ∈ wsL_law_r6, w ∈ lw_tbl := fun w h => (goodIn_p wsL_law_r6 [208, 211, 215, 219, 222, 226] (by decide +kernel) (by decide +kernel) w h).1
set_option maxRecDepth 20000 in
theorem in_wsL_law_r7 : ∀ w ∈ wsL_law_r7, w ∈ lw_tbl := fun w h => (goodIn_p wsL_law_r7 [232, 236] (by decide +kernel) (by decide +kernel) w h).1
set_option maxRecDepth 20000 in
theorem in_wsL_law_r8 : ∀ w ∈ wsL_law_r8, w ∈ lw_tbl := fun w h => (goodIn_p wsL_law_r8 [242, 245, 239, 249, 253, 700] (by decide +kernel) (by decide +kernel) w h).1
set_option maxRecDepth 20000 in
theorem in_wsL_law_r9 : ∀ w ∈ wsL_law_r9, w ∈ lw_tbl := fun w h => (goodIn_p wsL_law_r9 [704, 337, 341, 708, 712] (by decide +kernel) (by decide +kernel) w h).1
set_option maxRecDepth 20000 in
theorem in_wsL_law_r10 : ∀ w ∈ wsL_law_r10, w ∈ lw_tbl := fun w h => (goodIn_p wsL_law_r10 [345, 349, 716, 353, 357, 362] (by decide +kernel) (by decide +kernel) w h).1
set_option maxRecDepth 20000 in
theorem in_wsL_law_r11 : ∀ w ∈ wsL_law_r11, w ∈ lw_tbl := fun w h => (goodIn_p wsL_law_r11 [720, 366, 724, 370, 374] (by decide +kernel) (by decide +kernel) w h).1
set_option maxRecDepth 20000 in
theorem in_wsL_law_r12 : ∀ w ∈ wsL_law_r12, w ∈ lw_tbl := fun w h => (goodIn_p wsL_law_r12 [378, 728, 732, 736, 382, 740] (by decide +kernel) (by decide +kernel) w h).1
set_option maxRecDepth 20000 in
theorem in_wsL_law_r13 : ∀ w ∈ wsL_law_r13, w ∈ lw_tbl := fun w h => (goodIn_p wsL_law_r13 [744, 748, 751, 386, 755] (by decide +kernel) (by decide +kernel) w h).1
set_option maxRecDepth 20000 in
theorem in_wsL_law_r14 : ∀ w ∈ wsL_law_r14, w ∈ lw_tbl := fun w h => (goodIn_p wsL_law_r14 [759, 763, 767, 771, 390, 775] (by decide +kernel) (by decide +kernel) w h).1
set_option maxRecDepth 20000 in
theorem in_wsL_law_r15 : ∀ w ∈ wsL_law_r15, w ∈ lw_tbl := fun w h => (goodIn_p wsL_law_r15 [394, 398, 779, 404, 408] (by decide +kernel) (by decide +kernel) w h).1
set_option maxRecDepth 20000 in
theorem in_wsL_law_r16 : ∀ w ∈ wsL_law_r16, w ∈ lw_tbl := fun w h => (goodIn_p wsL_law_r16 [784, 412, 416, 420, 424, 428] (by decide +kernel) (by decide +kernel) w h).1
set_option maxRecDepth 20000 in
theorem in_wsL_law_r17 : ∀ w ∈ wsL_law_r17, w ∈ lw_tbl := fun w h => (goodIn_p wsL_law_r17 [432, 788, 791, 794, 436, 440, 798] (by decide +kernel) (by decide +kernel) w h).1
set_option maxRecDepth 20000 in
theorem in_wsL_law_r18 : ∀ w ∈ wsL_law_r18, w ∈ lw_tbl := fun w h => (goodIn_p wsL_law_r18 [444, 448, 802, 452, 456] (by decide +kernel) (by decide +kernel) w h).1
set_option maxRecDepth 20000 in
theorem in_wsL_law_r19 : ∀ w ∈ wsL_law_r19, w ∈ lw_tbl := fun w h => (goodIn_p wsL_law_r19 [461, 464, 469, 476, 482] (by decide +kernel) (by decide +kernel) w h).1
set_option maxRecDepth 20000 in
theorem in_wsL_law_r20 : ∀ w ∈ wsL_law_r20, w ∈ lw_tbl := fun w h => (goodIn_p wsL_law_r20 [806, 810, 814, 817, 821, 824] (by decide +kernel) (by decide +kernel) w h).1
set_option maxRecDepth 20000 in
theorem in_wsL_law_r21 : ∀ w ∈ wsL_law_r21, w ∈ lw_tbl := fun w h => (goodIn_p wsL_law_r21 [827, 832, 836, 487, 491, 840] (by decide +kernel) (by decide +kernel) w h).1
set_option maxRecDepth 20000 in
theorem in_wsL_law_r22 : ∀ w ∈ wsL_law_r22, w ∈ lw_tbl := fun w h => (goodIn_p wsL_law_r22 [496, 500, 504, 508, 511] (by decide +kernel) (by decide +kernel) w h).1
set_option maxRecDepth 20000 in
theorem in_wsL_law_r23 : ∀ w ∈ wsL_law_r23, w ∈ lw_tbl := fun w h => (goodIn_p wsL_law_r23 [516, 520, 844, 848] (by decide +kernel) (by decide +kernel) w h).1
set_option maxRecDepth 20000 in
theorem in_wsL_law_r24 : ∀ w ∈ wsL_law_r24, w ∈ lw_tbl := fun w h => (goodIn_p wsL_law_r24 [526, 852, 530, 534, 538] (by decide +kernel) (by decide +kernel) w h).1
set_option maxRecDepth 20000 in
theorem in_wsL_law_r25 : ∀ w ∈ wsL_law_r25, w ∈ lw_tbl := fun w h => (goodIn_p wsL_law_r25 [542, 546, 550, 554, 558, 562] (by decide +kernel) (by decide +kernel) w h).1
set_option maxRecDepth 20000 in
theorem in_wsL_law_r26 : ∀ w ∈ wsL_law_r26, w ∈ lw_tbl := fun w h => (goodIn_p wsL_law_r26 [566, 570, 856, 860, 864] (by decide +kernel) (by decide +kernel) w h).1
set_option maxRecDepth 20000 in
theorem in_wsL_law_r27 : ∀ w ∈ wsL_law_r27, w ∈ lw_tbl := fun w h => (goodIn_p wsL_law_r27 [868, 872, 574, 876, 578] (by decide +kernel) (by decide +kernel) w h).1
set_option maxRecDepth 20000 in
theorem in_wsL_law_r28 : ∀ w ∈ wsL_law_r28, w ∈ lw_tbl := fun w h => (goodIn_p wsL_law_r28 [880] (by decide +kernel) (by decide +kernel) w h).1
set_option maxRecDepth 20000 in
theorem in_wsX50 : ∀ w ∈ wsX50, w ∈ lw_tbl := fun w h => (goodIn_p wsX50 [] (by decide +kernel) (by decide +kernel) w h).1
set_option maxRecDepth 20000 in
theorem in_wsX60 : ∀ w ∈ wsX60, w ∈ lw_tbl := fun w h => (goodIn_p wsX60 [] (by decide +kernel) (by decide +kernel) w h).1
set_option maxRecDepth 20000 in
theorem in_wsX40 : ∀ w ∈ wsX40, w ∈ lw_tbl := fun w h => (goodIn_p wsX40 [] (by decide +kernel) (by decide +kernel) w h).1
set_option maxRecDepth 20000 in
theorem in_wsX00 : ∀ w ∈ wsX00, w ∈ lw_tbl := fun w h => (goodIn_p wsX00 [] (by decide +kernel) (by decide +kernel) w h).1
set_option maxRecDepth 20000 in
theorem in_wsX10 : ∀ w ∈ wsX10, w ∈ lw_tbl := fun w h => (goodIn_p wsX10 [] (by decide +kernel) (by decide +kernel) w h).1
set_option maxRecDepth 20000 in
theorem in_wsX20 : ∀ w ∈ wsX20, w ∈ lw_tbl := fun w h => (goodIn_p wsX20 [] (by decide +kernel) (by decide +kernel) w h).1
set_option maxRecDepth 20000 in
theorem in_wsX30 : ∀ w ∈ wsX30, w ∈ lw_tbl := fun w h => (goodIn_p wsX30 [] (by decide +kernel) (by decide +kernel) w h).1
theorem wsL_law_in : ∀ w ∈ wsL_law, w ∈ lw_tbl := List.forall_mem_append.mpr ⟨List.forall_mem_append.mpr ⟨List.forall_mem_append.mpr ⟨List.forall_mem_append.mpr ⟨List.forall_mem_append.mpr ⟨List.forall_mem_append.mpr ⟨List.forall_mem_append.mpr ⟨List.forall_mem_append.mpr ⟨List.forall_mem_append.mpr ⟨in_wsL_law_r1, List.forall_mem_append.mpr ⟨in_wsL_law_r2, List.forall_mem_append.mpr ⟨in_wsL_law_r3, List.forall_mem_append.mpr ⟨in_wsL_law_r4, List.forall_mem_append.mpr ⟨in_wsL_law_r5, List.forall_mem_append.mpr ⟨in_wsL_law_r6, List.forall_mem_append.mpr ⟨in_wsL_law_r7, List.forall_mem_append.mpr ⟨in_wsL_law_r8, List.forall_mem_append.mpr ⟨in_wsL_law_r9, List.forall_mem_append.mpr ⟨in_wsL_law_r10, List.forall_mem_append.mpr ⟨in_wsL_law_r11, List.forall_mem_append.mpr ⟨in_wsL_law_r12, List.forall_mem_append.mpr ⟨in_wsL_law_r13, List.forall_mem_append.mpr ⟨in_wsL_law_r14, List.forall_mem_append.mpr ⟨in_wsL_law_r15, List.forall_mem_append.mpr ⟨in_wsL_law_r16, List.forall_mem_append.mpr ⟨in_wsL_law_r17, List.forall_mem_append.mpr ⟨in_wsL_law_r18, List.forall_mem_append.mpr ⟨in_wsL_law_r19, List.forall_mem_append.mpr ⟨in_wsL_law_r20, List.forall_mem_append.mpr ⟨in_wsL_law_r21, List.forall_mem_append.mpr ⟨in_wsL_law_r22, List.forall_mem_append.mpr ⟨in_wsL_law_r23, List.forall_mem_append.mpr ⟨in_wsL_law_r24, List.forall_mem_append.mpr ⟨in_wsL_law_r25, List.forall_mem_append.mpr ⟨in_wsL_law_r26, List.forall_mem_append.mpr ⟨in_wsL_law_r27, in_wsL_law_r28⟩⟩⟩⟩⟩⟩⟩⟩⟩⟩⟩⟩⟩⟩⟩⟩⟩⟩⟩⟩⟩⟩⟩⟩⟩⟩⟩, in_wsX50⟩, in_wsX60⟩, in_wsX40⟩, in_wsX00⟩, in_wsX10⟩, in_wsX20⟩, in_wsX30⟩, fun _ h => absurd h List.not_mem_nil⟩
theorem inlX0 : ∀ w ∈ wsX00, w ∈ wsL_law := fun _ h => List.mem_append_left _ (List.mem_append_left _ (List.mem_append_left _ (List.mem_append_left _ (List.mem_append_right _ h))))
theorem inX0 : ∀ w ∈ wsX00, w ∈ lw_tbl := fun w h => wsL_law_in w (inlX0 w h)
theorem inlX1 : ∀ w ∈ wsX10, w ∈ wsL_law := fun _ h => List.mem_append_left _ (List.mem_append_left _ (List.mem_append_left _ (List.mem_append_right _ h)))
theorem inX1 : ∀ w ∈ wsX10, w ∈ lw_tbl := fun w h => wsL_law_in w (inlX1 w h)
theorem inlX2 : ∀ w ∈ wsX20, w ∈ wsL_law := fun _ h => List.mem_append_left _ (List.mem_append_left _ (List.mem_append_right _ h))
theorem inX2 : ∀ w ∈ wsX20, w ∈ lw_tbl := fun w h => wsL_law_in w (inlX2 w h)
theorem inlX3 : ∀ w ∈ wsX30, w ∈ wsL_law := fun _ h => List.mem_append_left _ (List.mem_append_right _ h)
theorem inX3 : ∀ w ∈ wsX30, w ∈ lw_tbl := fun w h => wsL_law_in w (inlX3 w h)
theorem inlX4 : ∀ w ∈ wsX40, w ∈ wsL_law := fun _ h => List.mem_append_left _ (List.mem_append_left _ (List.mem_append_left _ (List.mem_append_left _ (List.mem_append_left _ (List.mem_append_right _ h)))))
theorem inX4 : ∀ w ∈ wsX40, w ∈ lw_tbl := fun w h => wsL_law_in w (inlX4 w h)
theorem inlX5 : ∀ w ∈ wsX50, w ∈ wsL_law := fun _ h => List.mem_append_left _ (List.mem_append_left _ (List.mem_append_left _ (List.mem_append_left _ (List.mem_append_left _ (List.mem_append_left _ (List.mem_append_left _ (List.mem_append_right _ h)))))))
theorem inX5 : ∀ w ∈ wsX50, w ∈ lw_tbl := fun w h => wsL_law_in w (inlX5 w h)
theorem inlX6 : ∀ w ∈ wsX60, w ∈ wsL_law := fun _ h => List.mem_append_left _ (List.mem_append_left _ (List.mem_append_left _ (List.mem_append_left _ (List.mem_append_left _ (List.mem_append_left _ (List.mem_append_right _ h))))))
theorem inX6 : ∀ w ∈ wsX60, w ∈ lw_tbl := fun w h => wsL_law_in w (inlX6 w h)
theorem inJ9 : ∀ w ∈ wsJ90, w ∈ lw_tbl := by decide +kernel
theorem inJ7 : ∀ w ∈ wsJ70, w ∈ lw_tbl := by decide +kernel
set_option maxRecDepth 20000 in
theorem ggX0_init_J7_fill_53178 : GoodIn wsX0_init wsJ7_fill_53178 := goodIn_r _ [16] (by decide +kernel) (by decide +kernel)
set_option maxRecDepth 20000 in
theorem gX0_init_J7_fill_53178 : GoodIn wsX0_init (va_wsS RX0 37 yJ7_fill_53178 wsJ7_fill_53178) := goodIn_app (goodIn_of _ (by decide +kernel)) ggX0_init_J7_fill_53178
end
section
theorem dX0_init_0 : decode cX0_init 0 = .ok (.aload_n 0, 1) := by decide +kernel
theorem dX0_init_1 : decode cX0_init 1 = .ok (.invokespecial 3, 3) := by decide +kernel
theorem dX0_init_4 : decode cX0_init 4 = .ok (.aload_n 0, 1) := by decide +kernel
theorem dX0_init_5 : decode cX0_init 5 = .ok (.bipush 80, 2) := by decide +kernel
theorem dX0_init_7 : decode cX0_init 7 = .ok (.putfield 9, 3) := by decide +kernel
theorem dX0_init_10 : decode cX0_init 10 = .ok (.aload_n 0, 1) := by decide +kernel
theorem dX0_init_11 : decode cX0_init 11 = .ok (.bipush 10, 2) := by decide +kernel
theorem dX0_init_13 : decode cX0_init 13 = .ok (.putfield 15, 3) := by decide +kernel
theorem dX0_init_16 : decode cX0_init 16 = .ok (.aload_n 0, 1) := by decide +kernel
theorem dX0_init_17 : decode cX0_init 17 = .ok (.iconst 5, 1) := by decide +kernel
theorem dX0_init_18 : decode cX0_init 18 = .ok (.putfield 18, 3) := by decide +kernel
theorem dX0_init_21 : decode cX0_init 21 = .ok (.aload_n 0, 1) := by decide +kernel
theorem dX0_init_22 : decode cX0_init 22 = .ok (.sipush 1152, 3) := by decide +kernel
theorem dX0_init_25 : decode cX0_init 25 = .ok (.newarray .int, 2) := by decide +kernel
theorem dX0_init_27 : decode cX0_init 27 = .ok (.putfield 21, 3) := by decide +kernel
theorem dX0_init_30 : decode cX0_init 30 = .ok (.aload_n 0, 1) := by decide +kernel
theorem dX0_init_31 : decode cX0_init 31 = .ok (.sipush 1152, 3) := by decide +kernel
theorem dX0_init_34 : decode cX0_init 34 = .ok (.newarray .int, 2) := by decide +kernel
theorem dX0_init_36 : decode cX0_init 36 = .ok (.putfield 25, 3) := by decide +kernel
theorem dX0_init_39 : decode cX0_init 39 = .ok (.aload_n 0, 1) := by decide +kernel
theorem dX0_init_40 : decode cX0_init 40 = .ok (.sipush 1152, 3) := by decide +kernel
theorem dX0_init_43 : decode cX0_init 43 = .ok (.newarray .int, 2) := by decide +kernel
theorem dX0_init_45 : decode cX0_init 45 = .ok (.putfield 28, 3) := by decide +kernel
theorem dX0_init_48 : decode cX0_init 48 = .ok (.aload_n 0, 1) := by decide +kernel
theorem dX0_init_49 : decode cX0_init 49 = .ok (.bipush 64, 2) := by decide +kernel
theorem dX0_init_51 : decode cX0_init 51 = .ok (.newarray .int, 2) := by decide +kernel
theorem dX0_init_53 : decode cX0_init 53 = .ok (.putfield 31, 3) := by decide +kernel
theorem dX0_init_56 : decode cX0_init 56 = .ok (.aload_n 0, 1) := by decide +kernel
theorem dX0_init_57 : decode cX0_init 57 = .ok (.bipush 64, 2) := by decide +kernel
theorem dX0_init_59 : decode cX0_init 59 = .ok (.newarray .int, 2) := by decide +kernel
theorem dX0_init_61 : decode cX0_init 61 = .ok (.putfield 34, 3) := by decide +kernel
theorem dX0_init_64 : decode cX0_init 64 = .ok (.aload_n 0, 1) := by decide +kernel
theorem dX0_init_65 : decode cX0_init 65 = .ok (.getfield 21, 3) := by decide +kernel
theorem dX0_init_68 : decode cX0_init 68 = .ok (.iconst (-1), 1) := by decide +kernel
theorem dX0_init_69 : decode cX0_init 69 = .ok (.invokestatic 37, 3) := by decide +kernel
theorem dX0_init_72 : decode cX0_init 72 = .ok (.return_, 1) := by decide +kernel
set_option maxRecDepth 20000 in
theorem ggX0_setCosts_J7_fill_53178 : GoodIn wsX0_setCosts wsJ7_fill_53178 := goodIn_r _ [8] (by decide +kernel) (by decide +kernel)
set_option maxRecDepth 20000 in
theorem gX0_setCosts_J7_fill_53178 : GoodIn wsX0_setCosts (va_wsS RX0 37 yJ7_fill_53178 wsJ7_fill_53178) := goodIn_app (goodIn_of _ (by decide +kernel)) ggX0_setCosts_J7_fill_53178
theorem dX0_setCosts_0 : decode cX0_setCosts 0 = .ok (.aload_n 0, 1) := by decide +kernel
theorem dX0_setCosts_1 : decode cX0_setCosts 1 = .ok (.iload_n 1, 1) := by decide +kernel
theorem dX0_setCosts_2 : decode cX0_setCosts 2 = .ok (.putfield 9, 3) := by decide +kernel
theorem dX0_setCosts_5 : decode cX0_setCosts 5 = .ok (.aload_n 0, 1) := by decide +kernel
theorem dX0_setCosts_6 : decode cX0_setCosts 6 = .ok (.iload_n 2, 1) := by decide +kernel
theorem dX0_setCosts_7 : decode cX0_setCosts 7 = .ok (.putfield 15, 3) := by decide +kernel
theorem dX0_setCosts_10 : decode cX0_setCosts 10 = .ok (.aload_n 0, 1) := by decide +kernel
theorem dX0_setCosts_11 : decode cX0_setCosts 11 = .ok (.iload_n 3, 1) := by decide +kernel
theorem dX0_setCosts_12 : decode cX0_setCosts 12 = .ok (.putfield 18, 3) := by decide +kernel
theorem dX0_setCosts_15 : decode cX0_setCosts 15 = .ok (.aload_n 0, 1) := by decide +kernel
theorem dX0_setCosts_16 : decode cX0_setCosts 16 = .ok (.getfield 21, 3) := by decide +kernel
theorem dX0_setCosts_19 : decode cX0_setCosts 19 = .ok (.iconst (-1), 1) := by decide +kernel
theorem dX0_setCosts_20 : decode cX0_setCosts 20 = .ok (.invokestatic 37, 3) := by decide +kernel
theorem dX0_setCosts_23 : decode cX0_setCosts 23 = .ok (.return_, 1) := by decide +kernel
set_option maxRecDepth 20000 in
theorem ggX0_forgetJoinsOf_X0_slot : GoodIn wsX0_forgetJoinsOf wsX0_slot := goodIn_r _ [5] (by decide +kernel) (by decide +kernel)
set_option maxRecDepth 20000 in
theorem gX0_forgetJoinsOf_X0_slot : GoodIn wsX0_forgetJoinsOf (va_wsS RX0 43 yX0_slot wsX0_slot) := goodIn_app (goodIn_of _ (by decide +kernel)) ggX0_forgetJoinsOf_X0_slot
theorem dX0_forgetJoinsOf_0 : decode cX0_forgetJoinsOf 0 = .ok (.iconst 1, 1) := by decide +kernel
theorem dX0_forgetJoinsOf_1 : decode cX0_forgetJoinsOf 1 = .ok (.istore_n 2, 1) := by decide +kernel
theorem dX0_forgetJoinsOf_2 : decode cX0_forgetJoinsOf 2 = .ok (.iload_n 2, 1) := by decide +kernel
theorem dX0_forgetJoinsOf_3 : decode cX0_forgetJoinsOf 3 = .ok (.bipush 8, 2) := by decide +kernel
theorem dX0_forgetJoinsOf_5 : decode cX0_forgetJoinsOf 5 = .ok (.if_icmp .gt 47, 3) := by decide +kernel
theorem dX0_forgetJoinsOf_8 : decode cX0_forgetJoinsOf 8 = .ok (.iconst 0, 1) := by decide +kernel
theorem dX0_forgetJoinsOf_9 : decode cX0_forgetJoinsOf 9 = .ok (.istore_n 3, 1) := by decide +kernel
theorem dX0_forgetJoinsOf_10 : decode cX0_forgetJoinsOf 10 = .ok (.iload_n 3, 1) := by decide +kernel
theorem dX0_forgetJoinsOf_11 : decode cX0_forgetJoinsOf 11 = .ok (.bipush 12, 2) := by decide +kernel
theorem dX0_forgetJoinsOf_13 : decode cX0_forgetJoinsOf 13 = .ok (.if_icmp .ge 33, 3) := by decide +kernel
theorem dX0_forgetJoinsOf_16 : decode cX0_forgetJoinsOf 16 = .ok (.aload_n 0, 1) := by decide +kernel
theorem dX0_forgetJoinsOf_17 : decode cX0_forgetJoinsOf 17 = .ok (.getfield 21, 3) := by decide +kernel
theorem dX0_forgetJoinsOf_20 : decode cX0_forgetJoinsOf 20 = .ok (.iload_n 1, 1) := by decide +kernel
theorem dX0_forgetJoinsOf_21 : decode cX0_forgetJoinsOf 21 = .ok (.iload_n 3, 1) := by decide +kernel
theorem dX0_forgetJoinsOf_22 : decode cX0_forgetJoinsOf 22 = .ok (.iload_n 2, 1) := by decide +kernel
theorem dX0_forgetJoinsOf_23 : decode cX0_forgetJoinsOf 23 = .ok (.invokestatic 43, 3) := by decide +kernel
theorem dX0_forgetJoinsOf_26 : decode cX0_forgetJoinsOf 26 = .ok (.iconst (-1), 1) := by decide +kernel
theorem dX0_forgetJoinsOf_27 : decode cX0_forgetJoinsOf 27 = .ok (.iastore, 1) := by decide +kernel
theorem dX0_forgetJoinsOf_28 : decode cX0_forgetJoinsOf 28 = .ok (.aload_n 0, 1) := by decide +kernel
theorem dX0_forgetJoinsOf_29 : decode cX0_forgetJoinsOf 29 = .ok (.getfield 21, 3) := by decide +kernel
theorem dX0_forgetJoinsOf_32 : decode cX0_forgetJoinsOf 32 = .ok (.iload_n 3, 1) := by decide +kernel
theorem dX0_forgetJoinsOf_33 : decode cX0_forgetJoinsOf 33 = .ok (.iload_n 1, 1) := by decide +kernel
theorem dX0_forgetJoinsOf_34 : decode cX0_forgetJoinsOf 34 = .ok (.iload_n 2, 1) := by decide +kernel
theorem dX0_forgetJoinsOf_35 : decode cX0_forgetJoinsOf 35 = .ok (.invokestatic 43, 3) := by decide +kernel
theorem dX0_forgetJoinsOf_38 : decode cX0_forgetJoinsOf 38 = .ok (.iconst (-1), 1) := by decide +kernel
theorem dX0_forgetJoinsOf_39 : decode cX0_forgetJoinsOf 39 = .ok (.iastore, 1) := by decide +kernel
theorem dX0_forgetJoinsOf_40 : decode cX0_forgetJoinsOf 40 = .ok (.iinc 3 1, 3) := by decide +kernel
theorem dX0_forgetJoinsOf_43 : decode cX0_forgetJoinsOf 43 = .ok (.goto (-33), 3) := by decide +kernel
theorem dX0_forgetJoinsOf_46 : decode cX0_forgetJoinsOf 46 = .ok (.iinc 2 1, 3) := by decide +kernel
theorem dX0_forgetJoinsOf_49 : decode cX0_forgetJoinsOf 49 = .ok (.goto (-47), 3) := by decide +kernel
theorem dX0_forgetJoinsOf_52 : decode cX0_forgetJoinsOf 52 = .ok (.return_, 1) := by decide +kernel
set_option maxRecDepth 20000 in
theorem ggX0_slotOf_X0_slot : GoodIn wsX0_slotOf wsX0_slot := goodIn_r _ [6] (by decide +kernel) (by decide +kernel)
set_option maxRecDepth 20000 in
theorem gX0_slotOf_X0_slot : GoodIn wsX0_slotOf (va_wsS RX0 43 yX0_slot wsX0_slot) := goodIn_app (goodIn_of _ (by decide +kernel)) ggX0_slotOf_X0_slot
set_option maxRecDepth 20000 in
theorem ggX0_slotOf_X0_seekJoin : GoodIn wsX0_slotOf wsX0_seekJoin := goodIn_r _ [10, 11, 12, 13, 14, 15, 2, 16, 17, 18, 5, 19, 20, 21, 22, 23, 24, 25, 26, 27, 28, 29, 30, 31, 32, 33, 34, 35, 36, 37, 38, 39, 40, 41, 42, 43, 44, 45, 46, 47, 48, 49, 50, 51, 52, 53, 54, 55, 56, 57, 58, 59, 60, 61, 62, 63, 64, 65, 66, 67, 68, 69, 70, 71, 72, 73, 74, 94, 95, 96, 97, 98, 99, 100, 101, 75, 76, 77, 78, 79, 80, 81, 82, 83, 84, 85, 86, 87, 88, 89, 90, 91, 92, 93] (by decide +kernel) (by decide +kernel)
set_option maxRecDepth 20000 in
theorem gX0_slotOf_X0_seekJoin : GoodIn wsX0_slotOf (wsV RX0 52 RX0 yX0_seekJoin wsX0_seekJoin) := goodIn_app (goodIn_of _ (by decide +kernel)) ggX0_slotOf_X0_seekJoin
theorem dX0_slotOf_0 : decode cX0_slotOf 0 = .ok (.aload_n 1, 1) := by decide +kernel
theorem dX0_slotOf_1 : decode cX0_slotOf 1 = .ok (.getfield 47, 3) := by decide +kernel
theorem dX0_slotOf_4 : decode cX0_slotOf 4 = .ok (.aload_n 2, 1) := by decide +kernel
theorem dX0_slotOf_5 : decode cX0_slotOf 5 = .ok (.getfield 47, 3) := by decide +kernel
theorem dX0_slotOf_8 : decode cX0_slotOf 8 = .ok (.iload_n 3, 1) := by decide +kernel
theorem dX0_slotOf_9 : decode cX0_slotOf 9 = .ok (.invokestatic 43, 3) := by decide +kernel
theorem dX0_slotOf_12 : decode cX0_slotOf 12 = .ok (.istore 4, 2) := by decide +kernel
theorem dX0_slotOf_14 : decode cX0_slotOf 14 = .ok (.aload_n 0, 1) := by decide +kernel
theorem dX0_slotOf_15 : decode cX0_slotOf 15 = .ok (.getfield 21, 3) := by decide +kernel
theorem dX0_slotOf_18 : decode cX0_slotOf 18 = .ok (.iload 4, 2) := by decide +kernel
theorem dX0_slotOf_20 : decode cX0_slotOf 20 = .ok (.iaload, 1) := by decide +kernel
theorem dX0_slotOf_21 : decode cX0_slotOf 21 = .ok (.iconst (-1), 1) := by decide +kernel
theorem dX0_slotOf_22 : decode cX0_slotOf 22 = .ok (.if_icmp .ne 12, 3) := by decide +kernel
theorem dX0_slotOf_25 : decode cX0_slotOf 25 = .ok (.aload_n 0, 1) := by decide +kernel
theorem dX0_slotOf_26 : decode cX0_slotOf 26 = .ok (.aload_n 1, 1) := by decide +kernel
theorem dX0_slotOf_27 : decode cX0_slotOf 27 = .ok (.aload_n 2, 1) := by decide +kernel
theorem dX0_slotOf_28 : decode cX0_slotOf 28 = .ok (.iload_n 3, 1) := by decide +kernel
theorem dX0_slotOf_29 : decode cX0_slotOf 29 = .ok (.iload 4, 2) := by decide +kernel
theorem dX0_slotOf_31 : decode cX0_slotOf 31 = .ok (.invokevirtual 52, 3) := by decide +kernel
theorem dX0_slotOf_34 : decode cX0_slotOf 34 = .ok (.iload 4, 2) := by decide +kernel
theorem dX0_slotOf_36 : decode cX0_slotOf 36 = .ok (.ireturn, 1) := by decide +kernel
set_option maxRecDepth 20000 in
theorem ggX0_bentBy_X5_blend : GoodIn wsX0_bentBy wsX5_blend := goodIn_r _ [10, 11, 12, 13, 14] (by decide +kernel) (by decide +kernel)
set_option maxRecDepth 20000 in
theorem gX0_bentBy_X5_blend_n59 : GoodIn wsX0_bentBy (wsX5_blend) := ggX0_bentBy_X5_blend
set_option maxRecDepth 20000 in
theorem ggX0_bentBy_X5_bendOf : GoodIn wsX0_bentBy wsX5_bendOf := goodIn_r _ [16, 17, 3, 4, 5, 18, 19, 20] (by decide +kernel) (by decide +kernel)
set_option maxRecDepth 20000 in
theorem gX0_bentBy_X5_bendOf_n69 : GoodIn wsX0_bentBy (wsX5_bendOf) := ggX0_bentBy_X5_bendOf
theorem dX0_bentBy_0 : decode cX0_bentBy 0 = .ok (.iconst 0, 1) := by decide +kernel
theorem dX0_bentBy_1 : decode cX0_bentBy 1 = .ok (.istore 7, 2) := by decide +kernel
theorem dX0_bentBy_3 : decode cX0_bentBy 3 = .ok (.iconst 0, 1) := by decide +kernel
theorem dX0_bentBy_4 : decode cX0_bentBy 4 = .ok (.istore 8, 2) := by decide +kernel
theorem dX0_bentBy_6 : decode cX0_bentBy 6 = .ok (.iload 8, 2) := by decide +kernel
theorem dX0_bentBy_8 : decode cX0_bentBy 8 = .ok (.iconst 4, 1) := by decide +kernel
theorem dX0_bentBy_9 : decode cX0_bentBy 9 = .ok (.iload_n 3, 1) := by decide +kernel
theorem dX0_bentBy_10 : decode cX0_bentBy 10 = .ok (.imul, 1) := by decide +kernel
theorem dX0_bentBy_11 : decode cX0_bentBy 11 = .ok (.if_icmp .ge 97, 3) := by decide +kernel
theorem dX0_bentBy_14 : decode cX0_bentBy 14 = .ok (.aload_n 1, 1) := by decide +kernel
theorem dX0_bentBy_15 : decode cX0_bentBy 15 = .ok (.getfield 56, 3) := by decide +kernel
theorem dX0_bentBy_18 : decode cX0_bentBy 18 = .ok (.iconst 4, 1) := by decide +kernel
theorem dX0_bentBy_19 : decode cX0_bentBy 19 = .ok (.iload 4, 2) := by decide +kernel
theorem dX0_bentBy_21 : decode cX0_bentBy 21 = .ok (.imul, 1) := by decide +kernel
theorem dX0_bentBy_22 : decode cX0_bentBy 22 = .ok (.iload 8, 2) := by decide +kernel
theorem dX0_bentBy_24 : decode cX0_bentBy 24 = .ok (.iadd, 1) := by decide +kernel
theorem dX0_bentBy_25 : decode cX0_bentBy 25 = .ok (.iaload, 1) := by decide +kernel
theorem dX0_bentBy_26 : decode cX0_bentBy 26 = .ok (.istore 9, 2) := by decide +kernel
theorem dX0_bentBy_28 : decode cX0_bentBy 28 = .ok (.aload_n 2, 1) := by decide +kernel
theorem dX0_bentBy_29 : decode cX0_bentBy 29 = .ok (.getfield 56, 3) := by decide +kernel
theorem dX0_bentBy_32 : decode cX0_bentBy 32 = .ok (.iconst 4, 1) := by decide +kernel
theorem dX0_bentBy_33 : decode cX0_bentBy 33 = .ok (.iload 5, 2) := by decide +kernel
theorem dX0_bentBy_35 : decode cX0_bentBy 35 = .ok (.imul, 1) := by decide +kernel
theorem dX0_bentBy_36 : decode cX0_bentBy 36 = .ok (.iload 8, 2) := by decide +kernel
theorem dX0_bentBy_38 : decode cX0_bentBy 38 = .ok (.iadd, 1) := by decide +kernel
theorem dX0_bentBy_39 : decode cX0_bentBy 39 = .ok (.iaload, 1) := by decide +kernel
theorem dX0_bentBy_40 : decode cX0_bentBy 40 = .ok (.istore 10, 2) := by decide +kernel
theorem dX0_bentBy_42 : decode cX0_bentBy 42 = .ok (.iload 9, 2) := by decide +kernel
theorem dX0_bentBy_44 : decode cX0_bentBy 44 = .ok (.iload 10, 2) := by decide +kernel
theorem dX0_bentBy_46 : decode cX0_bentBy 46 = .ok (.iload 8, 2) := by decide +kernel
theorem dX0_bentBy_48 : decode cX0_bentBy 48 = .ok (.iload_n 3, 1) := by decide +kernel
theorem dX0_bentBy_49 : decode cX0_bentBy 49 = .ok (.invokestatic 59, 3) := by decide +kernel
theorem dX0_bentBy_52 : decode cX0_bentBy 52 = .ok (.istore 11, 2) := by decide +kernel
theorem dX0_bentBy_54 : decode cX0_bentBy 54 = .ok (.iload 7, 2) := by decide +kernel
theorem dX0_bentBy_56 : decode cX0_bentBy 56 = .ok (.iload 11, 2) := by decide +kernel
theorem dX0_bentBy_58 : decode cX0_bentBy 58 = .ok (.iload 9, 2) := by decide +kernel
theorem dX0_bentBy_60 : decode cX0_bentBy 60 = .ok (.isub, 1) := by decide +kernel
theorem dX0_bentBy_61 : decode cX0_bentBy 61 = .ok (.invokestatic 63, 3) := by decide +kernel
theorem dX0_bentBy_64 : decode cX0_bentBy 64 = .ok (.iload 11, 2) := by decide +kernel
theorem dX0_bentBy_66 : decode cX0_bentBy 66 = .ok (.iload 10, 2) := by decide +kernel
theorem dX0_bentBy_68 : decode cX0_bentBy 68 = .ok (.isub, 1) := by decide +kernel
theorem dX0_bentBy_69 : decode cX0_bentBy 69 = .ok (.invokestatic 63, 3) := by decide +kernel
theorem dX0_bentBy_72 : decode cX0_bentBy 72 = .ok (.iadd, 1) := by decide +kernel
theorem dX0_bentBy_73 : decode cX0_bentBy 73 = .ok (.iadd, 1) := by decide +kernel
theorem dX0_bentBy_74 : decode cX0_bentBy 74 = .ok (.istore 7, 2) := by decide +kernel
theorem dX0_bentBy_76 : decode cX0_bentBy 76 = .ok (.iload 7, 2) := by decide +kernel
theorem dX0_bentBy_78 : decode cX0_bentBy 78 = .ok (.iload 6, 2) := by decide +kernel
theorem dX0_bentBy_80 : decode cX0_bentBy 80 = .ok (.if_icmp .ge 19, 3) := by decide +kernel
theorem dX0_bentBy_83 : decode cX0_bentBy 83 = .ok (.iload 9, 2) := by decide +kernel
theorem dX0_bentBy_85 : decode cX0_bentBy 85 = .ok (.iload 10, 2) := by decide +kernel
theorem dX0_bentBy_87 : decode cX0_bentBy 87 = .ok (.iload 11, 2) := by decide +kernel
theorem dX0_bentBy_89 : decode cX0_bentBy 89 = .ok (.invokestatic 69, 3) := by decide +kernel
theorem dX0_bentBy_92 : decode cX0_bentBy 92 = .ok (.aload_n 0, 1) := by decide +kernel
theorem dX0_bentBy_93 : decode cX0_bentBy 93 = .ok (.getfield 9, 3) := by decide +kernel
theorem dX0_bentBy_96 : decode cX0_bentBy 96 = .ok (.if_icmp .le 6, 3) := by decide +kernel
theorem dX0_bentBy_99 : decode cX0_bentBy 99 = .ok (.ldc 72, 2) := by decide +kernel
theorem dX0_bentBy_101 : decode cX0_bentBy 101 = .ok (.ireturn, 1) := by decide +kernel
theorem dX0_bentBy_102 : decode cX0_bentBy 102 = .ok (.iinc 8 1, 3) := by decide +kernel
theorem dX0_bentBy_105 : decode cX0_bentBy 105 = .ok (.goto (-99), 3) := by decide +kernel
theorem dX0_bentBy_108 : decode cX0_bentBy 108 = .ok (.iload 7, 2) := by decide +kernel
theorem dX0_bentBy_110 : decode cX0_bentBy 110 = .ok (.ireturn, 1) := by decide +kernel
theorem dX0_apart_0 : decode cX0_apart 0 = .ok (.aload_n 1, 1) := by decide +kernel
theorem dX0_apart_1 : decode cX0_apart 1 = .ok (.getfield 73, 3) := by decide +kernel
theorem dX0_apart_4 : decode cX0_apart 4 = .ok (.bipush 12, 2) := by decide +kernel
theorem dX0_apart_6 : decode cX0_apart 6 = .ok (.irem, 1) := by decide +kernel
theorem dX0_apart_7 : decode cX0_apart 7 = .ok (.aload_n 2, 1) := by decide +kernel
theorem dX0_apart_8 : decode cX0_apart 8 = .ok (.getfield 73, 3) := by decide +kernel
theorem dX0_apart_11 : decode cX0_apart 11 = .ok (.bipush 12, 2) := by decide +kernel
theorem dX0_apart_13 : decode cX0_apart 13 = .ok (.irem, 1) := by decide +kernel
theorem dX0_apart_14 : decode cX0_apart 14 = .ok (.isub, 1) := by decide +kernel
theorem dX0_apart_15 : decode cX0_apart 15 = .ok (.invokestatic 63, 3) := by decide +kernel
theorem dX0_apart_18 : decode cX0_apart 18 = .ok (.istore_n 3, 1) := by decide +kernel
theorem dX0_apart_19 : decode cX0_apart 19 = .ok (.iload_n 3, 1) := by decide +kernel
theorem dX0_apart_20 : decode cX0_apart 20 = .ok (.bipush 12, 2) := by decide +kernel
theorem dX0_apart_22 : decode cX0_apart 22 = .ok (.iload_n 3, 1) := by decide +kernel
theorem dX0_apart_23 : decode cX0_apart 23 = .ok (.isub, 1) := by decide +kernel
theorem dX0_apart_24 : decode cX0_apart 24 = .ok (.invokestatic 76, 3) := by decide +kernel
theorem dX0_apart_27 : decode cX0_apart 27 = .ok (.aload_n 1, 1) := by decide +kernel
theorem dX0_apart_28 : decode cX0_apart 28 = .ok (.getfield 73, 3) := by decide +kernel
theorem dX0_apart_31 : decode cX0_apart 31 = .ok (.bipush 12, 2) := by decide +kernel
theorem dX0_apart_33 : decode cX0_apart 33 = .ok (.idiv, 1) := by decide +kernel
theorem dX0_apart_34 : decode cX0_apart 34 = .ok (.aload_n 2, 1) := by decide +kernel
theorem dX0_apart_35 : decode cX0_apart 35 = .ok (.getfield 73, 3) := by decide +kernel
theorem dX0_apart_38 : decode cX0_apart 38 = .ok (.bipush 12, 2) := by decide +kernel
theorem dX0_apart_40 : decode cX0_apart 40 = .ok (.idiv, 1) := by decide +kernel
theorem dX0_apart_41 : decode cX0_apart 41 = .ok (.if_icmp .ne 7, 3) := by decide +kernel
theorem dX0_apart_44 : decode cX0_apart 44 = .ok (.iconst 0, 1) := by decide +kernel
theorem dX0_apart_45 : decode cX0_apart 45 = .ok (.goto 4, 3) := by decide +kernel
theorem dX0_apart_48 : decode cX0_apart 48 = .ok (.iconst 1, 1) := by decide +kernel
theorem dX0_apart_49 : decode cX0_apart 49 = .ok (.iadd, 1) := by decide +kernel
theorem dX0_apart_50 : decode cX0_apart 50 = .ok (.istore 4, 2) := by decide +kernel
theorem dX0_apart_52 : decode cX0_apart 52 = .ok (.aload_n 0, 1) := by decide +kernel
theorem dX0_apart_53 : decode cX0_apart 53 = .ok (.getfield 15, 3) := by decide +kernel
theorem dX0_apart_56 : decode cX0_apart 56 = .ok (.iload 4, 2) := by decide +kernel
theorem dX0_apart_58 : decode cX0_apart 58 = .ok (.imul, 1) := by decide +kernel
theorem dX0_apart_59 : decode cX0_apart 59 = .ok (.aload_n 0, 1) := by decide +kernel
theorem dX0_apart_60 : decode cX0_apart 60 = .ok (.getfield 18, 3) := by decide +kernel
theorem dX0_apart_63 : decode cX0_apart 63 = .ok (.aload_n 1, 1) := by decide +kernel
theorem dX0_apart_64 : decode cX0_apart 64 = .ok (.getfield 80, 3) := by decide +kernel
theorem dX0_apart_67 : decode cX0_apart 67 = .ok (.aload_n 2, 1) := by decide +kernel
theorem dX0_apart_68 : decode cX0_apart 68 = .ok (.getfield 80, 3) := by decide +kernel
theorem dX0_apart_71 : decode cX0_apart 71 = .ok (.isub, 1) := by decide +kernel
theorem dX0_apart_72 : decode cX0_apart 72 = .ok (.invokestatic 63, 3) := by decide +kernel
theorem dX0_apart_75 : decode cX0_apart 75 = .ok (.imul, 1) := by decide +kernel
theorem dX0_apart_76 : decode cX0_apart 76 = .ok (.iadd, 1) := by decide +kernel
theorem dX0_apart_77 : decode cX0_apart 77 = .ok (.ireturn, 1) := by decide +kernel
theorem dX0_slot_0 : decode cX0_slot 0 = .ok (.iload_n 2, 1) := by decide +kernel
theorem dX0_slot_1 : decode cX0_slot 1 = .ok (.iconst 1, 1) := by decide +kernel
theorem dX0_slot_2 : decode cX0_slot 2 = .ok (.isub, 1) := by decide +kernel
theorem dX0_slot_3 : decode cX0_slot 3 = .ok (.bipush 12, 2) := by decide +kernel
theorem dX0_slot_5 : decode cX0_slot 5 = .ok (.imul, 1) := by decide +kernel
theorem dX0_slot_6 : decode cX0_slot 6 = .ok (.iload_n 0, 1) := by decide +kernel
theorem dX0_slot_7 : decode cX0_slot 7 = .ok (.iadd, 1) := by decide +kernel
theorem dX0_slot_8 : decode cX0_slot 8 = .ok (.bipush 12, 2) := by decide +kernel
theorem dX0_slot_10 : decode cX0_slot 10 = .ok (.imul, 1) := by decide +kernel
theorem dX0_slot_11 : decode cX0_slot 11 = .ok (.iload_n 1, 1) := by decide +kernel
theorem dX0_slot_12 : decode cX0_slot 12 = .ok (.iadd, 1) := by decide +kernel
theorem dX0_slot_13 : decode cX0_slot 13 = .ok (.ireturn, 1) := by decide +kernel
set_option maxRecDepth 20000 in
theorem ggX0_seekJoin_X0_listLate : GoodIn wsX0_seekJoin wsX0_listLate := goodIn_r _ [11, 12, 2, 13, 14, 10, 15, 16, 17, 18, 19, 20, 21, 22, 23, 24, 25, 26, 27, 28, 75, 76, 77, 78, 79, 80, 81, 82, 83, 84, 85, 86, 87, 88, 89, 90, 91, 92, 93, 67, 68, 69, 70, 71, 72, 73, 74] (by decide +kernel) (by decide +kernel)
set_option maxRecDepth 20000 in
theorem gX0_seekJoin_X0_listLate : GoodIn wsX0_seekJoin (wsV RX0 83 RX0 yX0_listLate wsX0_listLate) := goodIn_app (goodIn_of _ (by decide +kernel)) ggX0_seekJoin_X0_listLate
set_option maxRecDepth 20000 in
theorem ggX0_seekJoin_X0_listEarly : GoodIn wsX0_seekJoin wsX0_listEarly := goodIn_r _ [32, 12, 3, 13, 14, 10, 15, 16, 17, 18, 19, 20, 21, 22, 23, 24, 25, 26, 27, 28, 75, 76, 77, 78, 79, 80, 81, 82, 83, 84, 85, 86, 87, 88, 89, 90, 91, 92, 93, 67, 68, 69, 70, 71, 72, 73, 74] (by decide +kernel) (by decide +kernel)
set_option maxRecDepth 20000 in
theorem gX0_seekJoin_X0_listEarly : GoodIn wsX0_seekJoin (wsV RX0 87 RX0 yX0_listEarly wsX0_listEarly) := goodIn_app (goodIn_of _ (by decide +kernel)) ggX0_seekJoin_X0_listEarly
set_option maxRecDepth 20000 in
theorem ggX0_seekJoin_X0_bentBy : GoodIn wsX0_seekJoin wsX0_bentBy := goodIn_r _ [36, 37, 38, 39, 40, 41, 42, 1, 43, 44, 45, 46, 47, 48, 49, 50, 51, 52, 53, 54, 55, 75, 76, 77, 78, 79, 80, 81, 82, 83, 84, 85, 86, 87, 88, 89, 90, 91, 92, 93, 67, 68, 69, 70, 71, 72, 73, 74] (by decide +kernel) (by decide +kernel)
set_option maxRecDepth 20000 in
theorem gX0_seekJoin_X0_bentBy : GoodIn wsX0_seekJoin (wsV RX0 90 RX0 yX0_bentBy wsX0_bentBy) := goodIn_app (goodIn_of _ (by decide +kernel)) ggX0_seekJoin_X0_bentBy
set_option maxRecDepth 20000 in
theorem ggX0_seekJoin_X0_apart : GoodIn wsX0_seekJoin wsX0_apart := goodIn_r _ [59, 60, 38, 39, 40, 41, 61, 62, 63, 64, 65, 66, 75, 76, 77, 78, 79, 80, 81, 82, 83, 84, 85, 86, 87, 88, 89, 90, 91, 92, 93, 67, 68, 69, 70, 71, 72, 73, 74] (by decide +kernel) (by decide +kernel)
set_option maxRecDepth 20000 in
theorem gX0_seekJoin_X0_apart : GoodIn wsX0_seekJoin (wsV RX0 94 RX0 yX0_apart wsX0_apart) := goodIn_app (goodIn_of _ (by decide +kernel)) ggX0_seekJoin_X0_apart
theorem dX0_seekJoin_0 : decode cX0_seekJoin 0 = .ok (.aload_n 0, 1) := by decide +kernel
theorem dX0_seekJoin_1 : decode cX0_seekJoin 1 = .ok (.aload_n 1, 1) := by decide +kernel
theorem dX0_seekJoin_2 : decode cX0_seekJoin 2 = .ok (.iload_n 3, 1) := by decide +kernel
theorem dX0_seekJoin_3 : decode cX0_seekJoin 3 = .ok (.invokevirtual 83, 3) := by decide +kernel
theorem dX0_seekJoin_6 : decode cX0_seekJoin 6 = .ok (.istore 5, 2) := by decide +kernel
theorem dX0_seekJoin_8 : decode cX0_seekJoin 8 = .ok (.aload_n 0, 1) := by decide +kernel
theorem dX0_seekJoin_9 : decode cX0_seekJoin 9 = .ok (.aload_n 2, 1) := by decide +kernel
theorem dX0_seekJoin_10 : decode cX0_seekJoin 10 = .ok (.iload_n 3, 1) := by decide +kernel
theorem dX0_seekJoin_11 : decode cX0_seekJoin 11 = .ok (.invokevirtual 87, 3) := by decide +kernel
theorem dX0_seekJoin_14 : decode cX0_seekJoin 14 = .ok (.istore 6, 2) := by decide +kernel
theorem dX0_seekJoin_16 : decode cX0_seekJoin 16 = .ok (.ldc 72, 2) := by decide +kernel
theorem dX0_seekJoin_18 : decode cX0_seekJoin 18 = .ok (.istore 7, 2) := by decide +kernel
theorem dX0_seekJoin_20 : decode cX0_seekJoin 20 = .ok (.iconst 0, 1) := by decide +kernel
theorem dX0_seekJoin_21 : decode cX0_seekJoin 21 = .ok (.istore 8, 2) := by decide +kernel
theorem dX0_seekJoin_23 : decode cX0_seekJoin 23 = .ok (.iload 8, 2) := by decide +kernel
theorem dX0_seekJoin_25 : decode cX0_seekJoin 25 = .ok (.iload 5, 2) := by decide +kernel
theorem dX0_seekJoin_27 : decode cX0_seekJoin 27 = .ok (.if_icmp .ge 89, 3) := by decide +kernel
theorem dX0_seekJoin_30 : decode cX0_seekJoin 30 = .ok (.iconst 0, 1) := by decide +kernel
theorem dX0_seekJoin_31 : decode cX0_seekJoin 31 = .ok (.istore 9, 2) := by decide +kernel
theorem dX0_seekJoin_33 : decode cX0_seekJoin 33 = .ok (.iload 9, 2) := by decide +kernel
theorem dX0_seekJoin_35 : decode cX0_seekJoin 35 = .ok (.iload 6, 2) := by decide +kernel
theorem dX0_seekJoin_37 : decode cX0_seekJoin 37 = .ok (.if_icmp .ge 73, 3) := by decide +kernel
theorem dX0_seekJoin_40 : decode cX0_seekJoin 40 = .ok (.aload_n 0, 1) := by decide +kernel
theorem dX0_seekJoin_41 : decode cX0_seekJoin 41 = .ok (.aload_n 1, 1) := by decide +kernel
theorem dX0_seekJoin_42 : decode cX0_seekJoin 42 = .ok (.aload_n 2, 1) := by decide +kernel
theorem dX0_seekJoin_43 : decode cX0_seekJoin 43 = .ok (.iload_n 3, 1) := by decide +kernel
theorem dX0_seekJoin_44 : decode cX0_seekJoin 44 = .ok (.aload_n 0, 1) := by decide +kernel
theorem dX0_seekJoin_45 : decode cX0_seekJoin 45 = .ok (.getfield 31, 3) := by decide +kernel
theorem dX0_seekJoin_48 : decode cX0_seekJoin 48 = .ok (.iload 8, 2) := by decide +kernel
theorem dX0_seekJoin_50 : decode cX0_seekJoin 50 = .ok (.iaload, 1) := by decide +kernel
theorem dX0_seekJoin_51 : decode cX0_seekJoin 51 = .ok (.aload_n 0, 1) := by decide +kernel
theorem dX0_seekJoin_52 : decode cX0_seekJoin 52 = .ok (.getfield 34, 3) := by decide +kernel
theorem dX0_seekJoin_55 : decode cX0_seekJoin 55 = .ok (.iload 9, 2) := by decide +kernel
theorem dX0_seekJoin_57 : decode cX0_seekJoin 57 = .ok (.iaload, 1) := by decide +kernel
theorem dX0_seekJoin_58 : decode cX0_seekJoin 58 = .ok (.iload 7, 2) := by decide +kernel
theorem dX0_seekJoin_60 : decode cX0_seekJoin 60 = .ok (.invokevirtual 90, 3) := by decide +kernel
theorem dX0_seekJoin_63 : decode cX0_seekJoin 63 = .ok (.istore 10, 2) := by decide +kernel
theorem dX0_seekJoin_65 : decode cX0_seekJoin 65 = .ok (.iload 10, 2) := by decide +kernel
theorem dX0_seekJoin_67 : decode cX0_seekJoin 67 = .ok (.iload 7, 2) := by decide +kernel
theorem dX0_seekJoin_69 : decode cX0_seekJoin 69 = .ok (.if_icmp .ge 35, 3) := by decide +kernel
theorem dX0_seekJoin_72 : decode cX0_seekJoin 72 = .ok (.iload 10, 2) := by decide +kernel
theorem dX0_seekJoin_74 : decode cX0_seekJoin 74 = .ok (.istore 7, 2) := by decide +kernel
theorem dX0_seekJoin_76 : decode cX0_seekJoin 76 = .ok (.aload_n 0, 1) := by decide +kernel
theorem dX0_seekJoin_77 : decode cX0_seekJoin 77 = .ok (.getfield 25, 3) := by decide +kernel
theorem dX0_seekJoin_80 : decode cX0_seekJoin 80 = .ok (.iload 4, 2) := by decide +kernel
theorem dX0_seekJoin_82 : decode cX0_seekJoin 82 = .ok (.aload_n 0, 1) := by decide +kernel
theorem dX0_seekJoin_83 : decode cX0_seekJoin 83 = .ok (.getfield 31, 3) := by decide +kernel
theorem dX0_seekJoin_86 : decode cX0_seekJoin 86 = .ok (.iload 8, 2) := by decide +kernel
theorem dX0_seekJoin_88 : decode cX0_seekJoin 88 = .ok (.iaload, 1) := by decide +kernel
theorem dX0_seekJoin_89 : decode cX0_seekJoin 89 = .ok (.iastore, 1) := by decide +kernel
theorem dX0_seekJoin_90 : decode cX0_seekJoin 90 = .ok (.aload_n 0, 1) := by decide +kernel
theorem dX0_seekJoin_91 : decode cX0_seekJoin 91 = .ok (.getfield 28, 3) := by decide +kernel
theorem dX0_seekJoin_94 : decode cX0_seekJoin 94 = .ok (.iload 4, 2) := by decide +kernel
theorem dX0_seekJoin_96 : decode cX0_seekJoin 96 = .ok (.aload_n 0, 1) := by decide +kernel
theorem dX0_seekJoin_97 : decode cX0_seekJoin 97 = .ok (.getfield 34, 3) := by decide +kernel
theorem dX0_seekJoin_100 : decode cX0_seekJoin 100 = .ok (.iload 9, 2) := by decide +kernel
theorem dX0_seekJoin_102 : decode cX0_seekJoin 102 = .ok (.iaload, 1) := by decide +kernel
theorem dX0_seekJoin_103 : decode cX0_seekJoin 103 = .ok (.iastore, 1) := by decide +kernel
theorem dX0_seekJoin_104 : decode cX0_seekJoin 104 = .ok (.iinc 9 1, 3) := by decide +kernel
theorem dX0_seekJoin_107 : decode cX0_seekJoin 107 = .ok (.goto (-74), 3) := by decide +kernel
theorem dX0_seekJoin_110 : decode cX0_seekJoin 110 = .ok (.iinc 8 1, 3) := by decide +kernel
theorem dX0_seekJoin_113 : decode cX0_seekJoin 113 = .ok (.goto (-90), 3) := by decide +kernel
theorem dX0_seekJoin_116 : decode cX0_seekJoin 116 = .ok (.aload_n 0, 1) := by decide +kernel
theorem dX0_seekJoin_117 : decode cX0_seekJoin 117 = .ok (.getfield 21, 3) := by decide +kernel
theorem dX0_seekJoin_120 : decode cX0_seekJoin 120 = .ok (.iload 4, 2) := by decide +kernel
theorem dX0_seekJoin_122 : decode cX0_seekJoin 122 = .ok (.iload 7, 2) := by decide +kernel
theorem dX0_seekJoin_124 : decode cX0_seekJoin 124 = .ok (.ldc 72, 2) := by decide +kernel
theorem dX0_seekJoin_126 : decode cX0_seekJoin 126 = .ok (.if_icmp .ne 8, 3) := by decide +kernel
theorem dX0_seekJoin_129 : decode cX0_seekJoin 129 = .ok (.ldc 72, 2) := by decide +kernel
theorem dX0_seekJoin_131 : decode cX0_seekJoin 131 = .ok (.goto 12, 3) := by decide +kernel
theorem dX0_seekJoin_134 : decode cX0_seekJoin 134 = .ok (.iload 7, 2) := by decide +kernel
theorem dX0_seekJoin_136 : decode cX0_seekJoin 136 = .ok (.aload_n 0, 1) := by decide +kernel
theorem dX0_seekJoin_137 : decode cX0_seekJoin 137 = .ok (.aload_n 1, 1) := by decide +kernel
theorem dX0_seekJoin_138 : decode cX0_seekJoin 138 = .ok (.aload_n 2, 1) := by decide +kernel
theorem dX0_seekJoin_139 : decode cX0_seekJoin 139 = .ok (.invokevirtual 94, 3) := by decide +kernel
theorem dX0_seekJoin_142 : decode cX0_seekJoin 142 = .ok (.iadd, 1) := by decide +kernel
theorem dX0_seekJoin_143 : decode cX0_seekJoin 143 = .ok (.iastore, 1) := by decide +kernel
theorem dX0_seekJoin_144 : decode cX0_seekJoin 144 = .ok (.return_, 1) := by decide +kernel
set_option maxRecDepth 20000 in
theorem ggX0_listLate_X0_canBegin : GoodIn wsX0_listLate wsX0_canBegin := goodIn_r _ [6, 7, 8, 9, 10, 11, 12, 13, 14, 20, 21, 22, 23, 24, 25, 26, 27, 28, 29, 30, 31, 32, 33, 34, 35, 36, 37, 38] (by decide +kernel) (by decide +kernel)
set_option maxRecDepth 20000 in
theorem gX0_listLate_X0_canBegin : GoodIn wsX0_listLate (va_wsS RX0 101 yX0_canBegin wsX0_canBegin) := goodIn_app (goodIn_of _ (by decide +kernel)) ggX0_listLate_X0_canBegin
set_option maxRecDepth 20000 in
theorem ggX0_listLate_X3_soundsAlike : GoodIn wsX0_listLate wsX3_soundsAlike := goodIn_r _ [18, 19, 20, 21, 22, 23, 24, 25, 26, 27, 28, 29, 30, 31, 32, 33, 34, 35, 36, 37, 38] (by decide +kernel) (by decide +kernel)
set_option maxRecDepth 20000 in
theorem gX0_listLate_X3_soundsAlike : GoodIn wsX0_listLate (wsV RX0 105 RX3 yX3_soundsAlike wsX3_soundsAlike) := goodIn_app (goodIn_of _ (by decide +kernel)) ggX0_listLate_X3_soundsAlike
theorem dX0_listLate_0 : decode cX0_listLate 0 = .ok (.iconst 0, 1) := by decide +kernel
theorem dX0_listLate_1 : decode cX0_listLate 1 = .ok (.istore_n 3, 1) := by decide +kernel
theorem dX0_listLate_2 : decode cX0_listLate 2 = .ok (.aload_n 1, 1) := by decide +kernel
theorem dX0_listLate_3 : decode cX0_listLate 3 = .ok (.getfield 98, 3) := by decide +kernel
theorem dX0_listLate_6 : decode cX0_listLate 6 = .ok (.iload_n 2, 1) := by decide +kernel
theorem dX0_listLate_7 : decode cX0_listLate 7 = .ok (.isub, 1) := by decide +kernel
theorem dX0_listLate_8 : decode cX0_listLate 8 = .ok (.istore 4, 2) := by decide +kernel
theorem dX0_listLate_10 : decode cX0_listLate 10 = .ok (.iload 4, 2) := by decide +kernel
theorem dX0_listLate_12 : decode cX0_listLate 12 = .ok (.ifCond .lt 52, 3) := by decide +kernel
theorem dX0_listLate_15 : decode cX0_listLate 15 = .ok (.aload_n 1, 1) := by decide +kernel
theorem dX0_listLate_16 : decode cX0_listLate 16 = .ok (.iload 4, 2) := by decide +kernel
theorem dX0_listLate_18 : decode cX0_listLate 18 = .ok (.iload_n 2, 1) := by decide +kernel
theorem dX0_listLate_19 : decode cX0_listLate 19 = .ok (.invokestatic 101, 3) := by decide +kernel
theorem dX0_listLate_22 : decode cX0_listLate 22 = .ok (.ifCond .eq 36, 3) := by decide +kernel
theorem dX0_listLate_25 : decode cX0_listLate 25 = .ok (.iload_n 3, 1) := by decide +kernel
theorem dX0_listLate_26 : decode cX0_listLate 26 = .ok (.ifCond .eq 21, 3) := by decide +kernel
theorem dX0_listLate_29 : decode cX0_listLate 29 = .ok (.aload_n 1, 1) := by decide +kernel
theorem dX0_listLate_30 : decode cX0_listLate 30 = .ok (.iload 4, 2) := by decide +kernel
theorem dX0_listLate_32 : decode cX0_listLate 32 = .ok (.aload_n 0, 1) := by decide +kernel
theorem dX0_listLate_33 : decode cX0_listLate 33 = .ok (.getfield 31, 3) := by decide +kernel
theorem dX0_listLate_36 : decode cX0_listLate 36 = .ok (.iload_n 3, 1) := by decide +kernel
theorem dX0_listLate_37 : decode cX0_listLate 37 = .ok (.iconst 1, 1) := by decide +kernel
theorem dX0_listLate_38 : decode cX0_listLate 38 = .ok (.isub, 1) := by decide +kernel
theorem dX0_listLate_39 : decode cX0_listLate 39 = .ok (.iaload, 1) := by decide +kernel
theorem dX0_listLate_40 : decode cX0_listLate 40 = .ok (.iload_n 2, 1) := by decide +kernel
theorem dX0_listLate_41 : decode cX0_listLate 41 = .ok (.invokevirtual 105, 3) := by decide +kernel
theorem dX0_listLate_44 : decode cX0_listLate 44 = .ok (.ifCond .ne 14, 3) := by decide +kernel
theorem dX0_listLate_47 : decode cX0_listLate 47 = .ok (.aload_n 0, 1) := by decide +kernel
theorem dX0_listLate_48 : decode cX0_listLate 48 = .ok (.getfield 31, 3) := by decide +kernel
theorem dX0_listLate_51 : decode cX0_listLate 51 = .ok (.iload_n 3, 1) := by decide +kernel
theorem dX0_listLate_52 : decode cX0_listLate 52 = .ok (.iload 4, 2) := by decide +kernel
theorem dX0_listLate_54 : decode cX0_listLate 54 = .ok (.iastore, 1) := by decide +kernel
theorem dX0_listLate_55 : decode cX0_listLate 55 = .ok (.iinc 3 1, 3) := by decide +kernel
theorem dX0_listLate_58 : decode cX0_listLate 58 = .ok (.iinc 4 (-1), 3) := by decide +kernel
theorem dX0_listLate_61 : decode cX0_listLate 61 = .ok (.goto (-51), 3) := by decide +kernel
theorem dX0_listLate_64 : decode cX0_listLate 64 = .ok (.iload_n 3, 1) := by decide +kernel
theorem dX0_listLate_65 : decode cX0_listLate 65 = .ok (.ireturn, 1) := by decide +kernel
set_option maxRecDepth 20000 in
theorem ggX0_listEarly_X0_canBegin : GoodIn wsX0_listEarly wsX0_canBegin := goodIn_r _ [6, 7, 8, 9, 10, 11, 12, 13, 14, 20, 21, 22, 23, 24, 25, 26, 27, 28, 29, 30, 31, 32, 33, 34, 35, 36, 37, 38] (by decide +kernel) (by decide +kernel)
set_option maxRecDepth 20000 in
theorem gX0_listEarly_X0_canBegin : GoodIn wsX0_listEarly (va_wsS RX0 101 yX0_canBegin wsX0_canBegin) := goodIn_app (goodIn_of _ (by decide +kernel)) ggX0_listEarly_X0_canBegin
set_option maxRecDepth 20000 in
theorem ggX0_listEarly_X3_soundsAlike : GoodIn wsX0_listEarly wsX3_soundsAlike := goodIn_r _ [18, 19, 20, 21, 22, 23, 24, 25, 26, 27, 28, 29, 30, 31, 32, 33, 34, 35, 36, 37, 38] (by decide +kernel) (by decide +kernel)
set_option maxRecDepth 20000 in
theorem gX0_listEarly_X3_soundsAlike : GoodIn wsX0_listEarly (wsV RX0 105 RX3 yX3_soundsAlike wsX3_soundsAlike) := goodIn_app (goodIn_of _ (by decide +kernel)) ggX0_listEarly_X3_soundsAlike
theorem dX0_listEarly_0 : decode cX0_listEarly 0 = .ok (.iconst 0, 1) := by decide +kernel
theorem dX0_listEarly_1 : decode cX0_listEarly 1 = .ok (.istore_n 3, 1) := by decide +kernel
theorem dX0_listEarly_2 : decode cX0_listEarly 2 = .ok (.iconst 0, 1) := by decide +kernel
theorem dX0_listEarly_3 : decode cX0_listEarly 3 = .ok (.istore 4, 2) := by decide +kernel
theorem dX0_listEarly_5 : decode cX0_listEarly 5 = .ok (.iload 4, 2) := by decide +kernel
theorem dX0_listEarly_7 : decode cX0_listEarly 7 = .ok (.aload_n 1, 1) := by decide +kernel
theorem dX0_listEarly_8 : decode cX0_listEarly 8 = .ok (.getfield 98, 3) := by decide +kernel
theorem dX0_listEarly_11 : decode cX0_listEarly 11 = .ok (.iload_n 2, 1) := by decide +kernel
theorem dX0_listEarly_12 : decode cX0_listEarly 12 = .ok (.isub, 1) := by decide +kernel
theorem dX0_listEarly_13 : decode cX0_listEarly 13 = .ok (.if_icmp .gt 52, 3) := by decide +kernel
theorem dX0_listEarly_16 : decode cX0_listEarly 16 = .ok (.aload_n 1, 1) := by decide +kernel
theorem dX0_listEarly_17 : decode cX0_listEarly 17 = .ok (.iload 4, 2) := by decide +kernel
theorem dX0_listEarly_19 : decode cX0_listEarly 19 = .ok (.iload_n 2, 1) := by decide +kernel
theorem dX0_listEarly_20 : decode cX0_listEarly 20 = .ok (.invokestatic 101, 3) := by decide +kernel
theorem dX0_listEarly_23 : decode cX0_listEarly 23 = .ok (.ifCond .eq 36, 3) := by decide +kernel
theorem dX0_listEarly_26 : decode cX0_listEarly 26 = .ok (.iload_n 3, 1) := by decide +kernel
theorem dX0_listEarly_27 : decode cX0_listEarly 27 = .ok (.ifCond .eq 21, 3) := by decide +kernel
theorem dX0_listEarly_30 : decode cX0_listEarly 30 = .ok (.aload_n 1, 1) := by decide +kernel
theorem dX0_listEarly_31 : decode cX0_listEarly 31 = .ok (.iload 4, 2) := by decide +kernel
theorem dX0_listEarly_33 : decode cX0_listEarly 33 = .ok (.aload_n 0, 1) := by decide +kernel
theorem dX0_listEarly_34 : decode cX0_listEarly 34 = .ok (.getfield 34, 3) := by decide +kernel
theorem dX0_listEarly_37 : decode cX0_listEarly 37 = .ok (.iload_n 3, 1) := by decide +kernel
theorem dX0_listEarly_38 : decode cX0_listEarly 38 = .ok (.iconst 1, 1) := by decide +kernel
theorem dX0_listEarly_39 : decode cX0_listEarly 39 = .ok (.isub, 1) := by decide +kernel
theorem dX0_listEarly_40 : decode cX0_listEarly 40 = .ok (.iaload, 1) := by decide +kernel
theorem dX0_listEarly_41 : decode cX0_listEarly 41 = .ok (.iload_n 2, 1) := by decide +kernel
theorem dX0_listEarly_42 : decode cX0_listEarly 42 = .ok (.invokevirtual 105, 3) := by decide +kernel
theorem dX0_listEarly_45 : decode cX0_listEarly 45 = .ok (.ifCond .ne 14, 3) := by decide +kernel
theorem dX0_listEarly_48 : decode cX0_listEarly 48 = .ok (.aload_n 0, 1) := by decide +kernel
theorem dX0_listEarly_49 : decode cX0_listEarly 49 = .ok (.getfield 34, 3) := by decide +kernel
theorem dX0_listEarly_52 : decode cX0_listEarly 52 = .ok (.iload_n 3, 1) := by decide +kernel
theorem dX0_listEarly_53 : decode cX0_listEarly 53 = .ok (.iload 4, 2) := by decide +kernel
theorem dX0_listEarly_55 : decode cX0_listEarly 55 = .ok (.iastore, 1) := by decide +kernel
theorem dX0_listEarly_56 : decode cX0_listEarly 56 = .ok (.iinc 3 1, 3) := by decide +kernel
theorem dX0_listEarly_59 : decode cX0_listEarly 59 = .ok (.iinc 4 1, 3) := by decide +kernel
theorem dX0_listEarly_62 : decode cX0_listEarly 62 = .ok (.goto (-57), 3) := by decide +kernel
theorem dX0_listEarly_65 : decode cX0_listEarly 65 = .ok (.iload_n 3, 1) := by decide +kernel
theorem dX0_listEarly_66 : decode cX0_listEarly 66 = .ok (.ireturn, 1) := by decide +kernel
set_option maxRecDepth 20000 in
theorem ggX0_canBegin_X3_beginsPhrase : GoodIn wsX0_canBegin wsX3_beginsPhrase := goodIn_r _ [6, 7, 8, 9, 10, 11, 12, 13, 14, 15, 16, 17, 18, 19, 20, 21, 22, 23, 24, 25, 26, 27] (by decide +kernel) (by decide +kernel)
set_option maxRecDepth 20000 in
theorem gX0_canBegin_X3_beginsPhrase : GoodIn wsX0_canBegin (wsV RX0 112 RX3 yX3_beginsPhrase wsX3_beginsPhrase) := goodIn_app (goodIn_of _ (by decide +kernel)) ggX0_canBegin_X3_beginsPhrase
theorem dX0_canBegin_0 : decode cX0_canBegin 0 = .ok (.aload_n 0, 1) := by decide +kernel
theorem dX0_canBegin_1 : decode cX0_canBegin 1 = .ok (.getfield 109, 3) := by decide +kernel
theorem dX0_canBegin_4 : decode cX0_canBegin 4 = .ok (.iload_n 1, 1) := by decide +kernel
theorem dX0_canBegin_5 : decode cX0_canBegin 5 = .ok (.iaload, 1) := by decide +kernel
theorem dX0_canBegin_6 : decode cX0_canBegin 6 = .ok (.iload_n 2, 1) := by decide +kernel
theorem dX0_canBegin_7 : decode cX0_canBegin 7 = .ok (.if_icmp .lt 15, 3) := by decide +kernel
theorem dX0_canBegin_10 : decode cX0_canBegin 10 = .ok (.aload_n 0, 1) := by decide +kernel
theorem dX0_canBegin_11 : decode cX0_canBegin 11 = .ok (.iload_n 1, 1) := by decide +kernel
theorem dX0_canBegin_12 : decode cX0_canBegin 12 = .ok (.invokevirtual 112, 3) := by decide +kernel
theorem dX0_canBegin_15 : decode cX0_canBegin 15 = .ok (.ifCond .eq 7, 3) := by decide +kernel
theorem dX0_canBegin_18 : decode cX0_canBegin 18 = .ok (.iconst 1, 1) := by decide +kernel
theorem dX0_canBegin_19 : decode cX0_canBegin 19 = .ok (.goto 4, 3) := by decide +kernel
theorem dX0_canBegin_22 : decode cX0_canBegin 22 = .ok (.iconst 0, 1) := by decide +kernel
theorem dX0_canBegin_23 : decode cX0_canBegin 23 = .ok (.ireturn, 1) := by decide +kernel
theorem dX1_init_0 : decode cX1_init 0 = .ok (.aload_n 0, 1) := by decide +kernel
theorem dX1_init_1 : decode cX1_init 1 = .ok (.invokespecial 3, 3) := by decide +kernel
theorem dX1_init_4 : decode cX1_init 4 = .ok (.aload_n 0, 1) := by decide +kernel
theorem dX1_init_5 : decode cX1_init 5 = .ok (.iconst 0, 1) := by decide +kernel
theorem dX1_init_6 : decode cX1_init 6 = .ok (.putfield 9, 3) := by decide +kernel
theorem dX1_init_9 : decode cX1_init 9 = .ok (.aload_n 0, 1) := by decide +kernel
theorem dX1_init_10 : decode cX1_init 10 = .ok (.bipush 33, 2) := by decide +kernel
theorem dX1_init_12 : decode cX1_init 12 = .ok (.newarray .int, 2) := by decide +kernel
theorem dX1_init_14 : decode cX1_init 14 = .ok (.putfield 15, 3) := by decide +kernel
theorem dX1_init_17 : decode cX1_init 17 = .ok (.aload_n 0, 1) := by decide +kernel
theorem dX1_init_18 : decode cX1_init 18 = .ok (.bipush 32, 2) := by decide +kernel
theorem dX1_init_20 : decode cX1_init 20 = .ok (.newarray .int, 2) := by decide +kernel
theorem dX1_init_22 : decode cX1_init 22 = .ok (.putfield 19, 3) := by decide +kernel
theorem dX1_init_25 : decode cX1_init 25 = .ok (.aload_n 0, 1) := by decide +kernel
theorem dX1_init_26 : decode cX1_init 26 = .ok (.bipush 32, 2) := by decide +kernel
theorem dX1_init_28 : decode cX1_init 28 = .ok (.newarray .int, 2) := by decide +kernel
theorem dX1_init_30 : decode cX1_init 30 = .ok (.putfield 22, 3) := by decide +kernel
theorem dX1_init_33 : decode cX1_init 33 = .ok (.return_, 1) := by decide +kernel
set_option maxRecDepth 20000 in
theorem ggX1_keep_X5_blend : GoodIn wsX1_keep wsX5_blend := goodIn_r _ [8, 9, 10, 11, 12] (by decide +kernel) (by decide +kernel)
set_option maxRecDepth 20000 in
theorem gX1_keep_X5_blend_n30 : GoodIn wsX1_keep (wsX5_blend) := ggX1_keep_X5_blend
set_option maxRecDepth 20000 in
theorem ggX1_keep_X5_bendOf : GoodIn wsX1_keep wsX5_bendOf := goodIn_r _ [14, 15, 16, 17, 18, 19, 20, 21] (by decide +kernel) (by decide +kernel)
set_option maxRecDepth 20000 in
theorem gX1_keep_X5_bendOf_n34 : GoodIn wsX1_keep (wsX5_bendOf) := ggX1_keep_X5_bendOf
theorem dX1_keep_0 : decode cX1_keep 0 = .ok (.aload_n 0, 1) := by decide +kernel
theorem dX1_keep_1 : decode cX1_keep 1 = .ok (.iconst 4, 1) := by decide +kernel
theorem dX1_keep_2 : decode cX1_keep 2 = .ok (.iload_n 3, 1) := by decide +kernel
theorem dX1_keep_3 : decode cX1_keep 3 = .ok (.imul, 1) := by decide +kernel
theorem dX1_keep_4 : decode cX1_keep 4 = .ok (.putfield 9, 3) := by decide +kernel
theorem dX1_keep_7 : decode cX1_keep 7 = .ok (.aload_n 0, 1) := by decide +kernel
theorem dX1_keep_8 : decode cX1_keep 8 = .ok (.getfield 15, 3) := by decide +kernel
theorem dX1_keep_11 : decode cX1_keep 11 = .ok (.iconst 0, 1) := by decide +kernel
theorem dX1_keep_12 : decode cX1_keep 12 = .ok (.iconst 0, 1) := by decide +kernel
theorem dX1_keep_13 : decode cX1_keep 13 = .ok (.iastore, 1) := by decide +kernel
theorem dX1_keep_14 : decode cX1_keep 14 = .ok (.iconst 0, 1) := by decide +kernel
theorem dX1_keep_15 : decode cX1_keep 15 = .ok (.istore 6, 2) := by decide +kernel
theorem dX1_keep_17 : decode cX1_keep 17 = .ok (.iload 6, 2) := by decide +kernel
theorem dX1_keep_19 : decode cX1_keep 19 = .ok (.aload_n 0, 1) := by decide +kernel
theorem dX1_keep_20 : decode cX1_keep 20 = .ok (.getfield 9, 3) := by decide +kernel
theorem dX1_keep_23 : decode cX1_keep 23 = .ok (.if_icmp .ge 99, 3) := by decide +kernel
theorem dX1_keep_26 : decode cX1_keep 26 = .ok (.aload_n 1, 1) := by decide +kernel
theorem dX1_keep_27 : decode cX1_keep 27 = .ok (.getfield 25, 3) := by decide +kernel
theorem dX1_keep_30 : decode cX1_keep 30 = .ok (.iconst 4, 1) := by decide +kernel
theorem dX1_keep_31 : decode cX1_keep 31 = .ok (.iload 4, 2) := by decide +kernel
theorem dX1_keep_33 : decode cX1_keep 33 = .ok (.imul, 1) := by decide +kernel
theorem dX1_keep_34 : decode cX1_keep 34 = .ok (.iload 6, 2) := by decide +kernel
theorem dX1_keep_36 : decode cX1_keep 36 = .ok (.iadd, 1) := by decide +kernel
theorem dX1_keep_37 : decode cX1_keep 37 = .ok (.iaload, 1) := by decide +kernel
theorem dX1_keep_38 : decode cX1_keep 38 = .ok (.istore 7, 2) := by decide +kernel
theorem dX1_keep_40 : decode cX1_keep 40 = .ok (.aload_n 2, 1) := by decide +kernel
theorem dX1_keep_41 : decode cX1_keep 41 = .ok (.getfield 25, 3) := by decide +kernel
theorem dX1_keep_44 : decode cX1_keep 44 = .ok (.iconst 4, 1) := by decide +kernel
theorem dX1_keep_45 : decode cX1_keep 45 = .ok (.iload 5, 2) := by decide +kernel
theorem dX1_keep_47 : decode cX1_keep 47 = .ok (.imul, 1) := by decide +kernel
theorem dX1_keep_48 : decode cX1_keep 48 = .ok (.iload 6, 2) := by decide +kernel
theorem dX1_keep_50 : decode cX1_keep 50 = .ok (.iadd, 1) := by decide +kernel
theorem dX1_keep_51 : decode cX1_keep 51 = .ok (.iaload, 1) := by decide +kernel
theorem dX1_keep_52 : decode cX1_keep 52 = .ok (.istore 8, 2) := by decide +kernel
theorem dX1_keep_54 : decode cX1_keep 54 = .ok (.aload_n 0, 1) := by decide +kernel
theorem dX1_keep_55 : decode cX1_keep 55 = .ok (.getfield 19, 3) := by decide +kernel
theorem dX1_keep_58 : decode cX1_keep 58 = .ok (.iload 6, 2) := by decide +kernel
theorem dX1_keep_60 : decode cX1_keep 60 = .ok (.iload 7, 2) := by decide +kernel
theorem dX1_keep_62 : decode cX1_keep 62 = .ok (.iload 8, 2) := by decide +kernel
theorem dX1_keep_64 : decode cX1_keep 64 = .ok (.iload 6, 2) := by decide +kernel
theorem dX1_keep_66 : decode cX1_keep 66 = .ok (.iload_n 3, 1) := by decide +kernel
theorem dX1_keep_67 : decode cX1_keep 67 = .ok (.invokestatic 30, 3) := by decide +kernel
theorem dX1_keep_70 : decode cX1_keep 70 = .ok (.iastore, 1) := by decide +kernel
theorem dX1_keep_71 : decode cX1_keep 71 = .ok (.aload_n 0, 1) := by decide +kernel
theorem dX1_keep_72 : decode cX1_keep 72 = .ok (.getfield 22, 3) := by decide +kernel
theorem dX1_keep_75 : decode cX1_keep 75 = .ok (.iload 6, 2) := by decide +kernel
theorem dX1_keep_77 : decode cX1_keep 77 = .ok (.iload 7, 2) := by decide +kernel
theorem dX1_keep_79 : decode cX1_keep 79 = .ok (.iload 8, 2) := by decide +kernel
theorem dX1_keep_81 : decode cX1_keep 81 = .ok (.aload_n 0, 1) := by decide +kernel
theorem dX1_keep_82 : decode cX1_keep 82 = .ok (.getfield 19, 3) := by decide +kernel
theorem dX1_keep_85 : decode cX1_keep 85 = .ok (.iload 6, 2) := by decide +kernel
theorem dX1_keep_87 : decode cX1_keep 87 = .ok (.iaload, 1) := by decide +kernel
theorem dX1_keep_88 : decode cX1_keep 88 = .ok (.invokestatic 34, 3) := by decide +kernel
theorem dX1_keep_91 : decode cX1_keep 91 = .ok (.iastore, 1) := by decide +kernel
theorem dX1_keep_92 : decode cX1_keep 92 = .ok (.aload_n 0, 1) := by decide +kernel
theorem dX1_keep_93 : decode cX1_keep 93 = .ok (.getfield 15, 3) := by decide +kernel
theorem dX1_keep_96 : decode cX1_keep 96 = .ok (.iload 6, 2) := by decide +kernel
theorem dX1_keep_98 : decode cX1_keep 98 = .ok (.iconst 1, 1) := by decide +kernel
theorem dX1_keep_99 : decode cX1_keep 99 = .ok (.iadd, 1) := by decide +kernel
theorem dX1_keep_100 : decode cX1_keep 100 = .ok (.aload_n 0, 1) := by decide +kernel
theorem dX1_keep_101 : decode cX1_keep 101 = .ok (.getfield 15, 3) := by decide +kernel
theorem dX1_keep_104 : decode cX1_keep 104 = .ok (.iload 6, 2) := by decide +kernel
theorem dX1_keep_106 : decode cX1_keep 106 = .ok (.iaload, 1) := by decide +kernel
theorem dX1_keep_107 : decode cX1_keep 107 = .ok (.aload_n 0, 1) := by decide +kernel
theorem dX1_keep_108 : decode cX1_keep 108 = .ok (.getfield 19, 3) := by decide +kernel
theorem dX1_keep_111 : decode cX1_keep 111 = .ok (.iload 6, 2) := by decide +kernel
theorem dX1_keep_113 : decode cX1_keep 113 = .ok (.iaload, 1) := by decide +kernel
theorem dX1_keep_114 : decode cX1_keep 114 = .ok (.iadd, 1) := by decide +kernel
theorem dX1_keep_115 : decode cX1_keep 115 = .ok (.iastore, 1) := by decide +kernel
theorem dX1_keep_116 : decode cX1_keep 116 = .ok (.iinc 6 1, 3) := by decide +kernel
theorem dX1_keep_119 : decode cX1_keep 119 = .ok (.goto (-102), 3) := by decide +kernel
theorem dX1_keep_122 : decode cX1_keep 122 = .ok (.return_, 1) := by decide +kernel
set_option maxRecDepth 20000 in
theorem ggX1_tell_X5_within : GoodIn wsX1_tell wsX5_within := goodIn_r _ [7] (by decide +kernel) (by decide +kernel)
set_option maxRecDepth 20000 in
theorem gX1_tell_X5_within_n38 : GoodIn wsX1_tell (wsX5_within) := ggX1_tell_X5_within
theorem dX1_tell_0 : decode cX1_tell 0 = .ok (.aload_n 0, 1) := by decide +kernel
theorem dX1_tell_1 : decode cX1_tell 1 = .ok (.getfield 9, 3) := by decide +kernel
theorem dX1_tell_4 : decode cX1_tell 4 = .ok (.ifCond .eq 28, 3) := by decide +kernel
theorem dX1_tell_7 : decode cX1_tell 7 = .ok (.iload_n 1, 1) := by decide +kernel
theorem dX1_tell_8 : decode cX1_tell 8 = .ok (.iconst 0, 1) := by decide +kernel
theorem dX1_tell_9 : decode cX1_tell 9 = .ok (.iload_n 2, 1) := by decide +kernel
theorem dX1_tell_10 : decode cX1_tell 10 = .ok (.ifCond .ne 10, 3) := by decide +kernel
theorem dX1_tell_13 : decode cX1_tell 13 = .ok (.aload_n 0, 1) := by decide +kernel
theorem dX1_tell_14 : decode cX1_tell 14 = .ok (.getfield 9, 3) := by decide +kernel
theorem dX1_tell_17 : decode cX1_tell 17 = .ok (.goto 9, 3) := by decide +kernel
theorem dX1_tell_20 : decode cX1_tell 20 = .ok (.aload_n 0, 1) := by decide +kernel
theorem dX1_tell_21 : decode cX1_tell 21 = .ok (.getfield 9, 3) := by decide +kernel
theorem dX1_tell_24 : decode cX1_tell 24 = .ok (.iconst 1, 1) := by decide +kernel
theorem dX1_tell_25 : decode cX1_tell 25 = .ok (.isub, 1) := by decide +kernel
theorem dX1_tell_26 : decode cX1_tell 26 = .ok (.invokestatic 38, 3) := by decide +kernel
theorem dX1_tell_29 : decode cX1_tell 29 = .ok (.ifCond .ne 5, 3) := by decide +kernel
theorem dX1_tell_32 : decode cX1_tell 32 = .ok (.iconst (-1), 1) := by decide +kernel
theorem dX1_tell_33 : decode cX1_tell 33 = .ok (.ireturn, 1) := by decide +kernel
theorem dX1_tell_34 : decode cX1_tell 34 = .ok (.iload_n 2, 1) := by decide +kernel
theorem dX1_tell_35 : decode cX1_tell 35 = .ok (.tableswitch 46 0 2 #[25, 32, 39], 25) := by decide +kernel
theorem dX1_tell_60 : decode cX1_tell 60 = .ok (.aload_n 0, 1) := by decide +kernel
theorem dX1_tell_61 : decode cX1_tell 61 = .ok (.getfield 15, 3) := by decide +kernel
theorem dX1_tell_64 : decode cX1_tell 64 = .ok (.iload_n 1, 1) := by decide +kernel
theorem dX1_tell_65 : decode cX1_tell 65 = .ok (.iaload, 1) := by decide +kernel
theorem dX1_tell_66 : decode cX1_tell 66 = .ok (.ireturn, 1) := by decide +kernel
theorem dX1_tell_67 : decode cX1_tell 67 = .ok (.aload_n 0, 1) := by decide +kernel
theorem dX1_tell_68 : decode cX1_tell 68 = .ok (.getfield 19, 3) := by decide +kernel
theorem dX1_tell_71 : decode cX1_tell 71 = .ok (.iload_n 1, 1) := by decide +kernel
theorem dX1_tell_72 : decode cX1_tell 72 = .ok (.iaload, 1) := by decide +kernel
theorem dX1_tell_73 : decode cX1_tell 73 = .ok (.ireturn, 1) := by decide +kernel
theorem dX1_tell_74 : decode cX1_tell 74 = .ok (.aload_n 0, 1) := by decide +kernel
theorem dX1_tell_75 : decode cX1_tell 75 = .ok (.getfield 22, 3) := by decide +kernel
theorem dX1_tell_78 : decode cX1_tell 78 = .ok (.iload_n 1, 1) := by decide +kernel
theorem dX1_tell_79 : decode cX1_tell 79 = .ok (.iaload, 1) := by decide +kernel
theorem dX1_tell_80 : decode cX1_tell 80 = .ok (.ireturn, 1) := by decide +kernel
theorem dX1_tell_81 : decode cX1_tell 81 = .ok (.iconst (-1), 1) := by decide +kernel
theorem dX1_tell_82 : decode cX1_tell 82 = .ok (.ireturn, 1) := by decide +kernel
theorem dX2_init_0 : decode cX2_init 0 = .ok (.aload_n 0, 1) := by decide +kernel
theorem dX2_init_1 : decode cX2_init 1 = .ok (.invokespecial 3, 3) := by decide +kernel
theorem dX2_init_4 : decode cX2_init 4 = .ok (.aload_n 0, 1) := by decide +kernel
theorem dX2_init_5 : decode cX2_init 5 = .ok (.bipush 12, 2) := by decide +kernel
theorem dX2_init_7 : decode cX2_init 7 = .ok (.anewarray 9, 3) := by decide +kernel
theorem dX2_init_10 : decode cX2_init 10 = .ok (.putfield 11, 3) := by decide +kernel
theorem dX2_init_13 : decode cX2_init 13 = .ok (.aload_n 0, 1) := by decide +kernel
theorem dX2_init_14 : decode cX2_init 14 = .ok (.iconst 0, 1) := by decide +kernel
theorem dX2_init_15 : decode cX2_init 15 = .ok (.putfield 17, 3) := by decide +kernel
theorem dX2_init_18 : decode cX2_init 18 = .ok (.aload_n 0, 1) := by decide +kernel
theorem dX2_init_19 : decode cX2_init 19 = .ok (.sipush 144, 3) := by decide +kernel
theorem dX2_init_22 : decode cX2_init 22 = .ok (.newarray .int, 2) := by decide +kernel
theorem dX2_init_24 : decode cX2_init 24 = .ok (.putfield 21, 3) := by decide +kernel
theorem dX2_init_27 : decode cX2_init 27 = .ok (.aload_n 0, 1) := by decide +kernel
theorem dX2_init_28 : decode cX2_init 28 = .ok (.bipush 12, 2) := by decide +kernel
theorem dX2_init_30 : decode cX2_init 30 = .ok (.newarray .boolean, 2) := by decide +kernel
theorem dX2_init_32 : decode cX2_init 32 = .ok (.putfield 25, 3) := by decide +kernel
theorem dX2_init_35 : decode cX2_init 35 = .ok (.aload_n 0, 1) := by decide +kernel
theorem dX2_init_36 : decode cX2_init 36 = .ok (.iconst 0, 1) := by decide +kernel
theorem dX2_init_37 : decode cX2_init 37 = .ok (.newarray .int, 2) := by decide +kernel
theorem dX2_init_39 : decode cX2_init 39 = .ok (.putfield 29, 3) := by decide +kernel
theorem dX2_init_42 : decode cX2_init 42 = .ok (.aload_n 0, 1) := by decide +kernel
theorem dX2_init_43 : decode cX2_init 43 = .ok (.ldc 32, 2) := by decide +kernel
theorem dX2_init_45 : decode cX2_init 45 = .ok (.putfield 33, 3) := by decide +kernel
theorem dX2_init_48 : decode cX2_init 48 = .ok (.aload_n 0, 1) := by decide +kernel
theorem dX2_init_49 : decode cX2_init 49 = .ok (.bipush 12, 2) := by decide +kernel
theorem dX2_init_51 : decode cX2_init 51 = .ok (.newarray .int, 2) := by decide +kernel
theorem dX2_init_53 : decode cX2_init 53 = .ok (.putfield 36, 3) := by decide +kernel
theorem dX2_init_56 : decode cX2_init 56 = .ok (.aload_n 0, 1) := by decide +kernel
theorem dX2_init_57 : decode cX2_init 57 = .ok (.iconst 0, 1) := by decide +kernel
theorem dX2_init_58 : decode cX2_init 58 = .ok (.putfield 39, 3) := by decide +kernel
theorem dX2_init_61 : decode cX2_init 61 = .ok (.return_, 1) := by decide +kernel
theorem dX2_gather_0 : decode cX2_gather 0 = .ok (.aload_n 0, 1) := by decide +kernel
theorem dX2_gather_1 : decode cX2_gather 1 = .ok (.iconst 0, 1) := by decide +kernel
theorem dX2_gather_2 : decode cX2_gather 2 = .ok (.putfield 17, 3) := by decide +kernel
theorem dX2_gather_5 : decode cX2_gather 5 = .ok (.iconst 0, 1) := by decide +kernel
theorem dX2_gather_6 : decode cX2_gather 6 = .ok (.istore_n 2, 1) := by decide +kernel
theorem dX2_gather_7 : decode cX2_gather 7 = .ok (.iload_n 2, 1) := by decide +kernel
theorem dX2_gather_8 : decode cX2_gather 8 = .ok (.bipush 12, 2) := by decide +kernel
theorem dX2_gather_10 : decode cX2_gather 10 = .ok (.if_icmp .ge 37, 3) := by decide +kernel
theorem dX2_gather_13 : decode cX2_gather 13 = .ok (.aload_n 1, 1) := by decide +kernel
theorem dX2_gather_14 : decode cX2_gather 14 = .ok (.iload_n 2, 1) := by decide +kernel
theorem dX2_gather_15 : decode cX2_gather 15 = .ok (.aaload, 1) := by decide +kernel
theorem dX2_gather_16 : decode cX2_gather 16 = .ok (.ifnull 25, 3) := by decide +kernel
theorem dX2_gather_19 : decode cX2_gather 19 = .ok (.aload_n 0, 1) := by decide +kernel
theorem dX2_gather_20 : decode cX2_gather 20 = .ok (.getfield 11, 3) := by decide +kernel
theorem dX2_gather_23 : decode cX2_gather 23 = .ok (.aload_n 0, 1) := by decide +kernel
theorem dX2_gather_24 : decode cX2_gather 24 = .ok (.getfield 17, 3) := by decide +kernel
theorem dX2_gather_27 : decode cX2_gather 27 = .ok (.aload_n 1, 1) := by decide +kernel
theorem dX2_gather_28 : decode cX2_gather 28 = .ok (.iload_n 2, 1) := by decide +kernel
theorem dX2_gather_29 : decode cX2_gather 29 = .ok (.aaload, 1) := by decide +kernel
theorem dX2_gather_30 : decode cX2_gather 30 = .ok (.aastore, 1) := by decide +kernel
theorem dX2_gather_31 : decode cX2_gather 31 = .ok (.aload_n 0, 1) := by decide +kernel
theorem dX2_gather_32 : decode cX2_gather 32 = .ok (.dup, 1) := by decide +kernel
theorem dX2_gather_33 : decode cX2_gather 33 = .ok (.getfield 17, 3) := by decide +kernel
theorem dX2_gather_36 : decode cX2_gather 36 = .ok (.iconst 1, 1) := by decide +kernel
theorem dX2_gather_37 : decode cX2_gather 37 = .ok (.iadd, 1) := by decide +kernel
theorem dX2_gather_38 : decode cX2_gather 38 = .ok (.putfield 17, 3) := by decide +kernel
theorem dX2_gather_41 : decode cX2_gather 41 = .ok (.iinc 2 1, 3) := by decide +kernel
theorem dX2_gather_44 : decode cX2_gather 44 = .ok (.goto (-37), 3) := by decide +kernel
theorem dX2_gather_47 : decode cX2_gather 47 = .ok (.return_, 1) := by decide +kernel
set_option maxRecDepth 20000 in
theorem ggX2_seekOrder_X2_weighSet : GoodIn wsX2_seekOrder wsX2_weighSet := goodIn_r _ [9, 1, 2, 10, 11, 12, 13, 8, 14, 15, 16, 17, 18, 19, 33, 34, 35, 36, 37, 38, 39, 40] (by decide +kernel) (by decide +kernel)
set_option maxRecDepth 20000 in
theorem gX2_seekOrder_X2_weighSet : GoodIn wsX2_seekOrder (wsV RX2 42 RX2 yX2_weighSet wsX2_weighSet) := goodIn_app (goodIn_of _ (by decide +kernel)) ggX2_seekOrder_X2_weighSet
set_option maxRecDepth 20000 in
theorem ggX2_seekOrder_X2_leastFirst : GoodIn wsX2_seekOrder wsX2_leastFirst := goodIn_r _ [23, 10, 1, 2, 24, 33, 34, 35, 36, 37, 38, 39, 40] (by decide +kernel) (by decide +kernel)
set_option maxRecDepth 20000 in
theorem gX2_seekOrder_X2_leastFirst : GoodIn wsX2_seekOrder (wsV RX2 46 RX2 yX2_leastFirst wsX2_leastFirst) := goodIn_app (goodIn_of _ (by decide +kernel)) ggX2_seekOrder_X2_leastFirst
set_option maxRecDepth 20000 in
theorem ggX2_seekOrder_X2_keepOrder : GoodIn wsX2_seekOrder wsX2_keepOrder := goodIn_r _ [28, 29, 30, 31, 1, 32, 11, 12, 13, 8, 14, 10, 15, 16, 17, 18, 19, 2, 33, 34, 35, 36, 37, 38, 39, 40, 41, 42, 43, 44, 45, 46, 47, 48, 49, 50, 51, 52, 53, 54, 55, 56, 57, 58, 59] (by decide +kernel) (by decide +kernel)
set_option maxRecDepth 20000 in
theorem gX2_seekOrder_X2_keepOrder : GoodIn wsX2_seekOrder (wsV RX2 50 RX2 yX2_keepOrder wsX2_keepOrder) := goodIn_app (goodIn_of _ (by decide +kernel)) ggX2_seekOrder_X2_keepOrder
theorem dX2_seekOrder_0 : decode cX2_seekOrder 0 = .ok (.iconst 1, 1) := by decide +kernel
theorem dX2_seekOrder_1 : decode cX2_seekOrder 1 = .ok (.aload_n 0, 1) := by decide +kernel
theorem dX2_seekOrder_2 : decode cX2_seekOrder 2 = .ok (.getfield 17, 3) := by decide +kernel
theorem dX2_seekOrder_5 : decode cX2_seekOrder 5 = .ok (.ishl, 1) := by decide +kernel
theorem dX2_seekOrder_6 : decode cX2_seekOrder 6 = .ok (.iconst 1, 1) := by decide +kernel
theorem dX2_seekOrder_7 : decode cX2_seekOrder 7 = .ok (.isub, 1) := by decide +kernel
theorem dX2_seekOrder_8 : decode cX2_seekOrder 8 = .ok (.istore_n 1, 1) := by decide +kernel
theorem dX2_seekOrder_9 : decode cX2_seekOrder 9 = .ok (.aload_n 0, 1) := by decide +kernel
theorem dX2_seekOrder_10 : decode cX2_seekOrder 10 = .ok (.getfield 29, 3) := by decide +kernel
theorem dX2_seekOrder_13 : decode cX2_seekOrder 13 = .ok (.arraylength, 1) := by decide +kernel
theorem dX2_seekOrder_14 : decode cX2_seekOrder 14 = .ok (.iload_n 1, 1) := by decide +kernel
theorem dX2_seekOrder_15 : decode cX2_seekOrder 15 = .ok (.iconst 1, 1) := by decide +kernel
theorem dX2_seekOrder_16 : decode cX2_seekOrder 16 = .ok (.iadd, 1) := by decide +kernel
theorem dX2_seekOrder_17 : decode cX2_seekOrder 17 = .ok (.aload_n 0, 1) := by decide +kernel
theorem dX2_seekOrder_18 : decode cX2_seekOrder 18 = .ok (.getfield 17, 3) := by decide +kernel
theorem dX2_seekOrder_21 : decode cX2_seekOrder 21 = .ok (.imul, 1) := by decide +kernel
theorem dX2_seekOrder_22 : decode cX2_seekOrder 22 = .ok (.if_icmp .ge 17, 3) := by decide +kernel
theorem dX2_seekOrder_25 : decode cX2_seekOrder 25 = .ok (.aload_n 0, 1) := by decide +kernel
theorem dX2_seekOrder_26 : decode cX2_seekOrder 26 = .ok (.iload_n 1, 1) := by decide +kernel
theorem dX2_seekOrder_27 : decode cX2_seekOrder 27 = .ok (.iconst 1, 1) := by decide +kernel
theorem dX2_seekOrder_28 : decode cX2_seekOrder 28 = .ok (.iadd, 1) := by decide +kernel
theorem dX2_seekOrder_29 : decode cX2_seekOrder 29 = .ok (.aload_n 0, 1) := by decide +kernel
theorem dX2_seekOrder_30 : decode cX2_seekOrder 30 = .ok (.getfield 17, 3) := by decide +kernel
theorem dX2_seekOrder_33 : decode cX2_seekOrder 33 = .ok (.imul, 1) := by decide +kernel
theorem dX2_seekOrder_34 : decode cX2_seekOrder 34 = .ok (.newarray .int, 2) := by decide +kernel
theorem dX2_seekOrder_36 : decode cX2_seekOrder 36 = .ok (.putfield 29, 3) := by decide +kernel
theorem dX2_seekOrder_39 : decode cX2_seekOrder 39 = .ok (.iconst 0, 1) := by decide +kernel
theorem dX2_seekOrder_40 : decode cX2_seekOrder 40 = .ok (.istore_n 2, 1) := by decide +kernel
theorem dX2_seekOrder_41 : decode cX2_seekOrder 41 = .ok (.iload_n 2, 1) := by decide +kernel
theorem dX2_seekOrder_42 : decode cX2_seekOrder 42 = .ok (.aload_n 0, 1) := by decide +kernel
theorem dX2_seekOrder_43 : decode cX2_seekOrder 43 = .ok (.getfield 17, 3) := by decide +kernel
theorem dX2_seekOrder_46 : decode cX2_seekOrder 46 = .ok (.if_icmp .ge 23, 3) := by decide +kernel
theorem dX2_seekOrder_49 : decode cX2_seekOrder 49 = .ok (.aload_n 0, 1) := by decide +kernel
theorem dX2_seekOrder_50 : decode cX2_seekOrder 50 = .ok (.getfield 29, 3) := by decide +kernel
theorem dX2_seekOrder_53 : decode cX2_seekOrder 53 = .ok (.iload_n 1, 1) := by decide +kernel
theorem dX2_seekOrder_54 : decode cX2_seekOrder 54 = .ok (.aload_n 0, 1) := by decide +kernel
theorem dX2_seekOrder_55 : decode cX2_seekOrder 55 = .ok (.getfield 17, 3) := by decide +kernel
theorem dX2_seekOrder_58 : decode cX2_seekOrder 58 = .ok (.imul, 1) := by decide +kernel
theorem dX2_seekOrder_59 : decode cX2_seekOrder 59 = .ok (.iload_n 2, 1) := by decide +kernel
theorem dX2_seekOrder_60 : decode cX2_seekOrder 60 = .ok (.iadd, 1) := by decide +kernel
theorem dX2_seekOrder_61 : decode cX2_seekOrder 61 = .ok (.iconst 0, 1) := by decide +kernel
theorem dX2_seekOrder_62 : decode cX2_seekOrder 62 = .ok (.iastore, 1) := by decide +kernel
theorem dX2_seekOrder_63 : decode cX2_seekOrder 63 = .ok (.iinc 2 1, 3) := by decide +kernel
theorem dX2_seekOrder_66 : decode cX2_seekOrder 66 = .ok (.goto (-25), 3) := by decide +kernel
theorem dX2_seekOrder_69 : decode cX2_seekOrder 69 = .ok (.iload_n 1, 1) := by decide +kernel
theorem dX2_seekOrder_70 : decode cX2_seekOrder 70 = .ok (.iconst 1, 1) := by decide +kernel
theorem dX2_seekOrder_71 : decode cX2_seekOrder 71 = .ok (.isub, 1) := by decide +kernel
theorem dX2_seekOrder_72 : decode cX2_seekOrder 72 = .ok (.istore_n 2, 1) := by decide +kernel
theorem dX2_seekOrder_73 : decode cX2_seekOrder 73 = .ok (.iload_n 2, 1) := by decide +kernel
theorem dX2_seekOrder_74 : decode cX2_seekOrder 74 = .ok (.ifCond .le 14, 3) := by decide +kernel
theorem dX2_seekOrder_77 : decode cX2_seekOrder 77 = .ok (.aload_n 0, 1) := by decide +kernel
theorem dX2_seekOrder_78 : decode cX2_seekOrder 78 = .ok (.iload_n 2, 1) := by decide +kernel
theorem dX2_seekOrder_79 : decode cX2_seekOrder 79 = .ok (.invokevirtual 42, 3) := by decide +kernel
theorem dX2_seekOrder_82 : decode cX2_seekOrder 82 = .ok (.iinc 2 (-1), 3) := by decide +kernel
theorem dX2_seekOrder_85 : decode cX2_seekOrder 85 = .ok (.goto (-12), 3) := by decide +kernel
theorem dX2_seekOrder_88 : decode cX2_seekOrder 88 = .ok (.aload_n 0, 1) := by decide +kernel
theorem dX2_seekOrder_89 : decode cX2_seekOrder 89 = .ok (.invokevirtual 46, 3) := by decide +kernel
theorem dX2_seekOrder_92 : decode cX2_seekOrder 92 = .ok (.istore_n 2, 1) := by decide +kernel
theorem dX2_seekOrder_93 : decode cX2_seekOrder 93 = .ok (.iload_n 2, 1) := by decide +kernel
theorem dX2_seekOrder_94 : decode cX2_seekOrder 94 = .ok (.iconst (-1), 1) := by decide +kernel
theorem dX2_seekOrder_95 : decode cX2_seekOrder 95 = .ok (.if_icmp .ne 5, 3) := by decide +kernel
theorem dX2_seekOrder_98 : decode cX2_seekOrder 98 = .ok (.iconst 0, 1) := by decide +kernel
theorem dX2_seekOrder_99 : decode cX2_seekOrder 99 = .ok (.ireturn, 1) := by decide +kernel
theorem dX2_seekOrder_100 : decode cX2_seekOrder 100 = .ok (.aload_n 0, 1) := by decide +kernel
theorem dX2_seekOrder_101 : decode cX2_seekOrder 101 = .ok (.aload_n 0, 1) := by decide +kernel
theorem dX2_seekOrder_102 : decode cX2_seekOrder 102 = .ok (.getfield 29, 3) := by decide +kernel
theorem dX2_seekOrder_105 : decode cX2_seekOrder 105 = .ok (.iconst 1, 1) := by decide +kernel
theorem dX2_seekOrder_106 : decode cX2_seekOrder 106 = .ok (.iload_n 2, 1) := by decide +kernel
theorem dX2_seekOrder_107 : decode cX2_seekOrder 107 = .ok (.ishl, 1) := by decide +kernel
theorem dX2_seekOrder_108 : decode cX2_seekOrder 108 = .ok (.aload_n 0, 1) := by decide +kernel
theorem dX2_seekOrder_109 : decode cX2_seekOrder 109 = .ok (.getfield 17, 3) := by decide +kernel
theorem dX2_seekOrder_112 : decode cX2_seekOrder 112 = .ok (.imul, 1) := by decide +kernel
theorem dX2_seekOrder_113 : decode cX2_seekOrder 113 = .ok (.iload_n 2, 1) := by decide +kernel
theorem dX2_seekOrder_114 : decode cX2_seekOrder 114 = .ok (.iadd, 1) := by decide +kernel
theorem dX2_seekOrder_115 : decode cX2_seekOrder 115 = .ok (.iaload, 1) := by decide +kernel
theorem dX2_seekOrder_116 : decode cX2_seekOrder 116 = .ok (.putfield 33, 3) := by decide +kernel
theorem dX2_seekOrder_119 : decode cX2_seekOrder 119 = .ok (.aload_n 0, 1) := by decide +kernel
theorem dX2_seekOrder_120 : decode cX2_seekOrder 120 = .ok (.iload_n 2, 1) := by decide +kernel
theorem dX2_seekOrder_121 : decode cX2_seekOrder 121 = .ok (.invokevirtual 50, 3) := by decide +kernel
theorem dX2_seekOrder_124 : decode cX2_seekOrder 124 = .ok (.iconst 1, 1) := by decide +kernel
theorem dX2_seekOrder_125 : decode cX2_seekOrder 125 = .ok (.ireturn, 1) := by decide +kernel
set_option maxRecDepth 20000 in
theorem ggX2_weighSet_X2_leastNext : GoodIn wsX2_weighSet wsX2_leastNext := goodIn_r _ [8, 3, 1, 9, 10, 11, 12, 7, 13, 2, 14, 15, 16, 17, 18, 19, 20, 21] (by decide +kernel) (by decide +kernel)
set_option maxRecDepth 20000 in
theorem gX2_weighSet_X2_leastNext : GoodIn wsX2_weighSet (wsV RX2 53 RX2 yX2_leastNext wsX2_leastNext) := goodIn_app (goodIn_of _ (by decide +kernel)) ggX2_weighSet_X2_leastNext
set_option maxRecDepth 20000 in
theorem ggX2_weighSet_X2_costOver : GoodIn wsX2_weighSet wsX2_costOver := goodIn_r _ [13, 2, 1, 3, 9, 14, 15, 16, 17, 18, 19, 20, 21] (by decide +kernel) (by decide +kernel)
set_option maxRecDepth 20000 in
theorem gX2_weighSet_X2_costOver : GoodIn wsX2_weighSet (wsV RX2 57 RX2 yX2_costOver wsX2_costOver) := goodIn_app (goodIn_of _ (by decide +kernel)) ggX2_weighSet_X2_costOver
theorem dX2_weighSet_0 : decode cX2_weighSet 0 = .ok (.iconst 0, 1) := by decide +kernel
theorem dX2_weighSet_1 : decode cX2_weighSet 1 = .ok (.istore_n 2, 1) := by decide +kernel
theorem dX2_weighSet_2 : decode cX2_weighSet 2 = .ok (.iload_n 2, 1) := by decide +kernel
theorem dX2_weighSet_3 : decode cX2_weighSet 3 = .ok (.aload_n 0, 1) := by decide +kernel
theorem dX2_weighSet_4 : decode cX2_weighSet 4 = .ok (.getfield 17, 3) := by decide +kernel
theorem dX2_weighSet_7 : decode cX2_weighSet 7 = .ok (.if_icmp .ge 55, 3) := by decide +kernel
theorem dX2_weighSet_10 : decode cX2_weighSet 10 = .ok (.iload_n 1, 1) := by decide +kernel
theorem dX2_weighSet_11 : decode cX2_weighSet 11 = .ok (.iload_n 2, 1) := by decide +kernel
theorem dX2_weighSet_12 : decode cX2_weighSet 12 = .ok (.ishr, 1) := by decide +kernel
theorem dX2_weighSet_13 : decode cX2_weighSet 13 = .ok (.iconst 1, 1) := by decide +kernel
theorem dX2_weighSet_14 : decode cX2_weighSet 14 = .ok (.iand, 1) := by decide +kernel
theorem dX2_weighSet_15 : decode cX2_weighSet 15 = .ok (.iconst 1, 1) := by decide +kernel
theorem dX2_weighSet_16 : decode cX2_weighSet 16 = .ok (.if_icmp .ne 40, 3) := by decide +kernel
theorem dX2_weighSet_19 : decode cX2_weighSet 19 = .ok (.aload_n 0, 1) := by decide +kernel
theorem dX2_weighSet_20 : decode cX2_weighSet 20 = .ok (.iload_n 1, 1) := by decide +kernel
theorem dX2_weighSet_21 : decode cX2_weighSet 21 = .ok (.iload_n 2, 1) := by decide +kernel
theorem dX2_weighSet_22 : decode cX2_weighSet 22 = .ok (.invokevirtual 53, 3) := by decide +kernel
theorem dX2_weighSet_25 : decode cX2_weighSet 25 = .ok (.istore_n 3, 1) := by decide +kernel
theorem dX2_weighSet_26 : decode cX2_weighSet 26 = .ok (.aload_n 0, 1) := by decide +kernel
theorem dX2_weighSet_27 : decode cX2_weighSet 27 = .ok (.getfield 29, 3) := by decide +kernel
theorem dX2_weighSet_30 : decode cX2_weighSet 30 = .ok (.iload_n 1, 1) := by decide +kernel
theorem dX2_weighSet_31 : decode cX2_weighSet 31 = .ok (.aload_n 0, 1) := by decide +kernel
theorem dX2_weighSet_32 : decode cX2_weighSet 32 = .ok (.getfield 17, 3) := by decide +kernel
theorem dX2_weighSet_35 : decode cX2_weighSet 35 = .ok (.imul, 1) := by decide +kernel
theorem dX2_weighSet_36 : decode cX2_weighSet 36 = .ok (.iload_n 2, 1) := by decide +kernel
theorem dX2_weighSet_37 : decode cX2_weighSet 37 = .ok (.iadd, 1) := by decide +kernel
theorem dX2_weighSet_38 : decode cX2_weighSet 38 = .ok (.iload_n 3, 1) := by decide +kernel
theorem dX2_weighSet_39 : decode cX2_weighSet 39 = .ok (.iconst (-1), 1) := by decide +kernel
theorem dX2_weighSet_40 : decode cX2_weighSet 40 = .ok (.if_icmp .ne 8, 3) := by decide +kernel
theorem dX2_weighSet_43 : decode cX2_weighSet 43 = .ok (.ldc 32, 2) := by decide +kernel
theorem dX2_weighSet_45 : decode cX2_weighSet 45 = .ok (.goto 10, 3) := by decide +kernel
theorem dX2_weighSet_48 : decode cX2_weighSet 48 = .ok (.aload_n 0, 1) := by decide +kernel
theorem dX2_weighSet_49 : decode cX2_weighSet 49 = .ok (.iload_n 1, 1) := by decide +kernel
theorem dX2_weighSet_50 : decode cX2_weighSet 50 = .ok (.iload_n 2, 1) := by decide +kernel
theorem dX2_weighSet_51 : decode cX2_weighSet 51 = .ok (.iload_n 3, 1) := by decide +kernel
theorem dX2_weighSet_52 : decode cX2_weighSet 52 = .ok (.invokevirtual 57, 3) := by decide +kernel
theorem dX2_weighSet_55 : decode cX2_weighSet 55 = .ok (.iastore, 1) := by decide +kernel
theorem dX2_weighSet_56 : decode cX2_weighSet 56 = .ok (.iinc 2 1, 3) := by decide +kernel
theorem dX2_weighSet_59 : decode cX2_weighSet 59 = .ok (.goto (-57), 3) := by decide +kernel
theorem dX2_weighSet_62 : decode cX2_weighSet 62 = .ok (.return_, 1) := by decide +kernel
theorem dX2_leastFirst_0 : decode cX2_leastFirst 0 = .ok (.iconst (-1), 1) := by decide +kernel
theorem dX2_leastFirst_1 : decode cX2_leastFirst 1 = .ok (.istore_n 1, 1) := by decide +kernel
theorem dX2_leastFirst_2 : decode cX2_leastFirst 2 = .ok (.ldc 32, 2) := by decide +kernel
theorem dX2_leastFirst_4 : decode cX2_leastFirst 4 = .ok (.istore_n 2, 1) := by decide +kernel
theorem dX2_leastFirst_5 : decode cX2_leastFirst 5 = .ok (.iconst 0, 1) := by decide +kernel
theorem dX2_leastFirst_6 : decode cX2_leastFirst 6 = .ok (.istore_n 3, 1) := by decide +kernel
theorem dX2_leastFirst_7 : decode cX2_leastFirst 7 = .ok (.iload_n 3, 1) := by decide +kernel
theorem dX2_leastFirst_8 : decode cX2_leastFirst 8 = .ok (.aload_n 0, 1) := by decide +kernel
theorem dX2_leastFirst_9 : decode cX2_leastFirst 9 = .ok (.getfield 17, 3) := by decide +kernel
theorem dX2_leastFirst_12 : decode cX2_leastFirst 12 = .ok (.if_icmp .ge 46, 3) := by decide +kernel
theorem dX2_leastFirst_15 : decode cX2_leastFirst 15 = .ok (.aload_n 0, 1) := by decide +kernel
theorem dX2_leastFirst_16 : decode cX2_leastFirst 16 = .ok (.getfield 29, 3) := by decide +kernel
theorem dX2_leastFirst_19 : decode cX2_leastFirst 19 = .ok (.iconst 1, 1) := by decide +kernel
theorem dX2_leastFirst_20 : decode cX2_leastFirst 20 = .ok (.iload_n 3, 1) := by decide +kernel
theorem dX2_leastFirst_21 : decode cX2_leastFirst 21 = .ok (.ishl, 1) := by decide +kernel
theorem dX2_leastFirst_22 : decode cX2_leastFirst 22 = .ok (.aload_n 0, 1) := by decide +kernel
theorem dX2_leastFirst_23 : decode cX2_leastFirst 23 = .ok (.getfield 17, 3) := by decide +kernel
theorem dX2_leastFirst_26 : decode cX2_leastFirst 26 = .ok (.imul, 1) := by decide +kernel
theorem dX2_leastFirst_27 : decode cX2_leastFirst 27 = .ok (.iload_n 3, 1) := by decide +kernel
theorem dX2_leastFirst_28 : decode cX2_leastFirst 28 = .ok (.iadd, 1) := by decide +kernel
theorem dX2_leastFirst_29 : decode cX2_leastFirst 29 = .ok (.iaload, 1) := by decide +kernel
theorem dX2_leastFirst_30 : decode cX2_leastFirst 30 = .ok (.istore 4, 2) := by decide +kernel
theorem dX2_leastFirst_32 : decode cX2_leastFirst 32 = .ok (.aload_n 0, 1) := by decide +kernel
theorem dX2_leastFirst_33 : decode cX2_leastFirst 33 = .ok (.getfield 25, 3) := by decide +kernel
theorem dX2_leastFirst_36 : decode cX2_leastFirst 36 = .ok (.iload_n 3, 1) := by decide +kernel
theorem dX2_leastFirst_37 : decode cX2_leastFirst 37 = .ok (.baload, 1) := by decide +kernel
theorem dX2_leastFirst_38 : decode cX2_leastFirst 38 = .ok (.ifCond .eq 14, 3) := by decide +kernel
theorem dX2_leastFirst_41 : decode cX2_leastFirst 41 = .ok (.iload 4, 2) := by decide +kernel
theorem dX2_leastFirst_43 : decode cX2_leastFirst 43 = .ok (.iload_n 2, 1) := by decide +kernel
theorem dX2_leastFirst_44 : decode cX2_leastFirst 44 = .ok (.if_icmp .ge 8, 3) := by decide +kernel
theorem dX2_leastFirst_47 : decode cX2_leastFirst 47 = .ok (.iload 4, 2) := by decide +kernel
theorem dX2_leastFirst_49 : decode cX2_leastFirst 49 = .ok (.istore_n 2, 1) := by decide +kernel
theorem dX2_leastFirst_50 : decode cX2_leastFirst 50 = .ok (.iload_n 3, 1) := by decide +kernel
theorem dX2_leastFirst_51 : decode cX2_leastFirst 51 = .ok (.istore_n 1, 1) := by decide +kernel
theorem dX2_leastFirst_52 : decode cX2_leastFirst 52 = .ok (.iinc 3 1, 3) := by decide +kernel
theorem dX2_leastFirst_55 : decode cX2_leastFirst 55 = .ok (.goto (-48), 3) := by decide +kernel
theorem dX2_leastFirst_58 : decode cX2_leastFirst 58 = .ok (.iload_n 1, 1) := by decide +kernel
theorem dX2_leastFirst_59 : decode cX2_leastFirst 59 = .ok (.ireturn, 1) := by decide +kernel
set_option maxRecDepth 20000 in
theorem ggX2_leastNext_X2_costOver : GoodIn wsX2_leastNext wsX2_costOver := goodIn_r _ [8, 9, 2, 1, 3, 10, 11, 12, 13, 14, 15, 16, 17] (by decide +kernel) (by decide +kernel)
set_option maxRecDepth 20000 in
theorem gX2_leastNext_X2_costOver : GoodIn wsX2_leastNext (wsV RX2 57 RX2 yX2_costOver wsX2_costOver) := goodIn_app (goodIn_of _ (by decide +kernel)) ggX2_leastNext_X2_costOver
theorem dX2_leastNext_0 : decode cX2_leastNext 0 = .ok (.iconst (-1), 1) := by decide +kernel
theorem dX2_leastNext_1 : decode cX2_leastNext 1 = .ok (.istore_n 3, 1) := by decide +kernel
theorem dX2_leastNext_2 : decode cX2_leastNext 2 = .ok (.ldc 32, 2) := by decide +kernel
theorem dX2_leastNext_4 : decode cX2_leastNext 4 = .ok (.istore 4, 2) := by decide +kernel
theorem dX2_leastNext_6 : decode cX2_leastNext 6 = .ok (.iconst 0, 1) := by decide +kernel
theorem dX2_leastNext_7 : decode cX2_leastNext 7 = .ok (.istore 5, 2) := by decide +kernel
theorem dX2_leastNext_9 : decode cX2_leastNext 9 = .ok (.iload 5, 2) := by decide +kernel
theorem dX2_leastNext_11 : decode cX2_leastNext 11 = .ok (.aload_n 0, 1) := by decide +kernel
theorem dX2_leastNext_12 : decode cX2_leastNext 12 = .ok (.getfield 17, 3) := by decide +kernel
theorem dX2_leastNext_15 : decode cX2_leastNext 15 = .ok (.if_icmp .ge 59, 3) := by decide +kernel
theorem dX2_leastNext_18 : decode cX2_leastNext 18 = .ok (.iload_n 1, 1) := by decide +kernel
theorem dX2_leastNext_19 : decode cX2_leastNext 19 = .ok (.iload 5, 2) := by decide +kernel
theorem dX2_leastNext_21 : decode cX2_leastNext 21 = .ok (.ishr, 1) := by decide +kernel
theorem dX2_leastNext_22 : decode cX2_leastNext 22 = .ok (.iconst 1, 1) := by decide +kernel
theorem dX2_leastNext_23 : decode cX2_leastNext 23 = .ok (.iand, 1) := by decide +kernel
theorem dX2_leastNext_24 : decode cX2_leastNext 24 = .ok (.ifCond .ne 44, 3) := by decide +kernel
theorem dX2_leastNext_27 : decode cX2_leastNext 27 = .ok (.aload_n 0, 1) := by decide +kernel
theorem dX2_leastNext_28 : decode cX2_leastNext 28 = .ok (.getfield 21, 3) := by decide +kernel
theorem dX2_leastNext_31 : decode cX2_leastNext 31 = .ok (.iload_n 2, 1) := by decide +kernel
theorem dX2_leastNext_32 : decode cX2_leastNext 32 = .ok (.bipush 12, 2) := by decide +kernel
theorem dX2_leastNext_34 : decode cX2_leastNext 34 = .ok (.imul, 1) := by decide +kernel
theorem dX2_leastNext_35 : decode cX2_leastNext 35 = .ok (.iload 5, 2) := by decide +kernel
theorem dX2_leastNext_37 : decode cX2_leastNext 37 = .ok (.iadd, 1) := by decide +kernel
theorem dX2_leastNext_38 : decode cX2_leastNext 38 = .ok (.iaload, 1) := by decide +kernel
theorem dX2_leastNext_39 : decode cX2_leastNext 39 = .ok (.ldc 32, 2) := by decide +kernel
theorem dX2_leastNext_41 : decode cX2_leastNext 41 = .ok (.if_icmp .ge 27, 3) := by decide +kernel
theorem dX2_leastNext_44 : decode cX2_leastNext 44 = .ok (.aload_n 0, 1) := by decide +kernel
theorem dX2_leastNext_45 : decode cX2_leastNext 45 = .ok (.iload_n 1, 1) := by decide +kernel
theorem dX2_leastNext_46 : decode cX2_leastNext 46 = .ok (.iload_n 2, 1) := by decide +kernel
theorem dX2_leastNext_47 : decode cX2_leastNext 47 = .ok (.iload 5, 2) := by decide +kernel
theorem dX2_leastNext_49 : decode cX2_leastNext 49 = .ok (.invokevirtual 57, 3) := by decide +kernel
theorem dX2_leastNext_52 : decode cX2_leastNext 52 = .ok (.istore 6, 2) := by decide +kernel
theorem dX2_leastNext_54 : decode cX2_leastNext 54 = .ok (.iload 6, 2) := by decide +kernel
theorem dX2_leastNext_56 : decode cX2_leastNext 56 = .ok (.iload 4, 2) := by decide +kernel
theorem dX2_leastNext_58 : decode cX2_leastNext 58 = .ok (.if_icmp .ge 10, 3) := by decide +kernel
theorem dX2_leastNext_61 : decode cX2_leastNext 61 = .ok (.iload 6, 2) := by decide +kernel
theorem dX2_leastNext_63 : decode cX2_leastNext 63 = .ok (.istore 4, 2) := by decide +kernel
theorem dX2_leastNext_65 : decode cX2_leastNext 65 = .ok (.iload 5, 2) := by decide +kernel
theorem dX2_leastNext_67 : decode cX2_leastNext 67 = .ok (.istore_n 3, 1) := by decide +kernel
theorem dX2_leastNext_68 : decode cX2_leastNext 68 = .ok (.iinc 5 1, 3) := by decide +kernel
theorem dX2_leastNext_71 : decode cX2_leastNext 71 = .ok (.goto (-62), 3) := by decide +kernel
theorem dX2_leastNext_74 : decode cX2_leastNext 74 = .ok (.iload_n 3, 1) := by decide +kernel
theorem dX2_leastNext_75 : decode cX2_leastNext 75 = .ok (.ireturn, 1) := by decide +kernel
theorem dX2_costOver_0 : decode cX2_costOver 0 = .ok (.aload_n 0, 1) := by decide +kernel
theorem dX2_costOver_1 : decode cX2_costOver 1 = .ok (.getfield 29, 3) := by decide +kernel
theorem dX2_costOver_4 : decode cX2_costOver 4 = .ok (.iload_n 1, 1) := by decide +kernel
theorem dX2_costOver_5 : decode cX2_costOver 5 = .ok (.iconst 1, 1) := by decide +kernel
theorem dX2_costOver_6 : decode cX2_costOver 6 = .ok (.iload_n 3, 1) := by decide +kernel
theorem dX2_costOver_7 : decode cX2_costOver 7 = .ok (.ishl, 1) := by decide +kernel
theorem dX2_costOver_8 : decode cX2_costOver 8 = .ok (.ior, 1) := by decide +kernel
theorem dX2_costOver_9 : decode cX2_costOver 9 = .ok (.aload_n 0, 1) := by decide +kernel
theorem dX2_costOver_10 : decode cX2_costOver 10 = .ok (.getfield 17, 3) := by decide +kernel
theorem dX2_costOver_13 : decode cX2_costOver 13 = .ok (.imul, 1) := by decide +kernel
theorem dX2_costOver_14 : decode cX2_costOver 14 = .ok (.iload_n 3, 1) := by decide +kernel
theorem dX2_costOver_15 : decode cX2_costOver 15 = .ok (.iadd, 1) := by decide +kernel
theorem dX2_costOver_16 : decode cX2_costOver 16 = .ok (.iaload, 1) := by decide +kernel
theorem dX2_costOver_17 : decode cX2_costOver 17 = .ok (.istore 4, 2) := by decide +kernel
theorem dX2_costOver_19 : decode cX2_costOver 19 = .ok (.iload 4, 2) := by decide +kernel
theorem dX2_costOver_21 : decode cX2_costOver 21 = .ok (.ldc 32, 2) := by decide +kernel
theorem dX2_costOver_23 : decode cX2_costOver 23 = .ok (.if_icmp .ne 8, 3) := by decide +kernel
theorem dX2_costOver_26 : decode cX2_costOver 26 = .ok (.ldc 32, 2) := by decide +kernel
theorem dX2_costOver_28 : decode cX2_costOver 28 = .ok (.goto 17, 3) := by decide +kernel
theorem dX2_costOver_31 : decode cX2_costOver 31 = .ok (.aload_n 0, 1) := by decide +kernel
theorem dX2_costOver_32 : decode cX2_costOver 32 = .ok (.getfield 21, 3) := by decide +kernel
theorem dX2_costOver_35 : decode cX2_costOver 35 = .ok (.iload_n 2, 1) := by decide +kernel
theorem dX2_costOver_36 : decode cX2_costOver 36 = .ok (.bipush 12, 2) := by decide +kernel
theorem dX2_costOver_38 : decode cX2_costOver 38 = .ok (.imul, 1) := by decide +kernel
theorem dX2_costOver_39 : decode cX2_costOver 39 = .ok (.iload_n 3, 1) := by decide +kernel
theorem dX2_costOver_40 : decode cX2_costOver 40 = .ok (.iadd, 1) := by decide +kernel
theorem dX2_costOver_41 : decode cX2_costOver 41 = .ok (.iaload, 1) := by decide +kernel
theorem dX2_costOver_42 : decode cX2_costOver 42 = .ok (.iload 4, 2) := by decide +kernel
theorem dX2_costOver_44 : decode cX2_costOver 44 = .ok (.iadd, 1) := by decide +kernel
theorem dX2_costOver_45 : decode cX2_costOver 45 = .ok (.ireturn, 1) := by decide +kernel
set_option maxRecDepth 20000 in
theorem ggX2_keepOrder_X2_leastNext : GoodIn wsX2_keepOrder wsX2_leastNext := goodIn_r _ [10, 11, 4, 12, 13, 14, 15, 9, 16, 17, 18, 19, 20, 21, 22, 23, 24, 25] (by decide +kernel) (by decide +kernel)
set_option maxRecDepth 20000 in
theorem gX2_keepOrder_X2_leastNext : GoodIn wsX2_keepOrder (wsV RX2 53 RX2 yX2_leastNext wsX2_leastNext) := goodIn_app (goodIn_of _ (by decide +kernel)) ggX2_keepOrder_X2_leastNext
theorem dX2_keepOrder_0 : decode cX2_keepOrder 0 = .ok (.iconst 1, 1) := by decide +kernel
theorem dX2_keepOrder_1 : decode cX2_keepOrder 1 = .ok (.iload_n 1, 1) := by decide +kernel
theorem dX2_keepOrder_2 : decode cX2_keepOrder 2 = .ok (.ishl, 1) := by decide +kernel
theorem dX2_keepOrder_3 : decode cX2_keepOrder 3 = .ok (.istore_n 2, 1) := by decide +kernel
theorem dX2_keepOrder_4 : decode cX2_keepOrder 4 = .ok (.iload_n 1, 1) := by decide +kernel
theorem dX2_keepOrder_5 : decode cX2_keepOrder 5 = .ok (.istore_n 3, 1) := by decide +kernel
theorem dX2_keepOrder_6 : decode cX2_keepOrder 6 = .ok (.aload_n 0, 1) := by decide +kernel
theorem dX2_keepOrder_7 : decode cX2_keepOrder 7 = .ok (.getfield 36, 3) := by decide +kernel
theorem dX2_keepOrder_10 : decode cX2_keepOrder 10 = .ok (.iconst 0, 1) := by decide +kernel
theorem dX2_keepOrder_11 : decode cX2_keepOrder 11 = .ok (.aload_n 0, 1) := by decide +kernel
theorem dX2_keepOrder_12 : decode cX2_keepOrder 12 = .ok (.getfield 11, 3) := by decide +kernel
theorem dX2_keepOrder_15 : decode cX2_keepOrder 15 = .ok (.iload_n 1, 1) := by decide +kernel
theorem dX2_keepOrder_16 : decode cX2_keepOrder 16 = .ok (.aaload, 1) := by decide +kernel
theorem dX2_keepOrder_17 : decode cX2_keepOrder 17 = .ok (.getfield 61, 3) := by decide +kernel
theorem dX2_keepOrder_20 : decode cX2_keepOrder 20 = .ok (.iastore, 1) := by decide +kernel
theorem dX2_keepOrder_21 : decode cX2_keepOrder 21 = .ok (.iconst 1, 1) := by decide +kernel
theorem dX2_keepOrder_22 : decode cX2_keepOrder 22 = .ok (.istore 4, 2) := by decide +kernel
theorem dX2_keepOrder_24 : decode cX2_keepOrder 24 = .ok (.iload 4, 2) := by decide +kernel
theorem dX2_keepOrder_26 : decode cX2_keepOrder 26 = .ok (.aload_n 0, 1) := by decide +kernel
theorem dX2_keepOrder_27 : decode cX2_keepOrder 27 = .ok (.getfield 17, 3) := by decide +kernel
theorem dX2_keepOrder_30 : decode cX2_keepOrder 30 = .ok (.if_icmp .ge 51, 3) := by decide +kernel
theorem dX2_keepOrder_33 : decode cX2_keepOrder 33 = .ok (.aload_n 0, 1) := by decide +kernel
theorem dX2_keepOrder_34 : decode cX2_keepOrder 34 = .ok (.iload_n 2, 1) := by decide +kernel
theorem dX2_keepOrder_35 : decode cX2_keepOrder 35 = .ok (.iload_n 3, 1) := by decide +kernel
theorem dX2_keepOrder_36 : decode cX2_keepOrder 36 = .ok (.invokevirtual 53, 3) := by decide +kernel
theorem dX2_keepOrder_39 : decode cX2_keepOrder 39 = .ok (.istore 5, 2) := by decide +kernel
theorem dX2_keepOrder_41 : decode cX2_keepOrder 41 = .ok (.iload 5, 2) := by decide +kernel
theorem dX2_keepOrder_43 : decode cX2_keepOrder 43 = .ok (.iconst (-1), 1) := by decide +kernel
theorem dX2_keepOrder_44 : decode cX2_keepOrder 44 = .ok (.if_icmp .ne 4, 3) := by decide +kernel
theorem dX2_keepOrder_47 : decode cX2_keepOrder 47 = .ok (.return_, 1) := by decide +kernel
theorem dX2_keepOrder_48 : decode cX2_keepOrder 48 = .ok (.iload_n 2, 1) := by decide +kernel
theorem dX2_keepOrder_49 : decode cX2_keepOrder 49 = .ok (.iconst 1, 1) := by decide +kernel
theorem dX2_keepOrder_50 : decode cX2_keepOrder 50 = .ok (.iload 5, 2) := by decide +kernel
theorem dX2_keepOrder_52 : decode cX2_keepOrder 52 = .ok (.ishl, 1) := by decide +kernel
theorem dX2_keepOrder_53 : decode cX2_keepOrder 53 = .ok (.ior, 1) := by decide +kernel
theorem dX2_keepOrder_54 : decode cX2_keepOrder 54 = .ok (.istore_n 2, 1) := by decide +kernel
theorem dX2_keepOrder_55 : decode cX2_keepOrder 55 = .ok (.iload 5, 2) := by decide +kernel
theorem dX2_keepOrder_57 : decode cX2_keepOrder 57 = .ok (.istore_n 3, 1) := by decide +kernel
theorem dX2_keepOrder_58 : decode cX2_keepOrder 58 = .ok (.aload_n 0, 1) := by decide +kernel
theorem dX2_keepOrder_59 : decode cX2_keepOrder 59 = .ok (.getfield 36, 3) := by decide +kernel
theorem dX2_keepOrder_62 : decode cX2_keepOrder 62 = .ok (.iload 4, 2) := by decide +kernel
theorem dX2_keepOrder_64 : decode cX2_keepOrder 64 = .ok (.aload_n 0, 1) := by decide +kernel
theorem dX2_keepOrder_65 : decode cX2_keepOrder 65 = .ok (.getfield 11, 3) := by decide +kernel
theorem dX2_keepOrder_68 : decode cX2_keepOrder 68 = .ok (.iload 5, 2) := by decide +kernel
theorem dX2_keepOrder_70 : decode cX2_keepOrder 70 = .ok (.aaload, 1) := by decide +kernel
theorem dX2_keepOrder_71 : decode cX2_keepOrder 71 = .ok (.getfield 61, 3) := by decide +kernel
theorem dX2_keepOrder_74 : decode cX2_keepOrder 74 = .ok (.iastore, 1) := by decide +kernel
theorem dX2_keepOrder_75 : decode cX2_keepOrder 75 = .ok (.iinc 4 1, 3) := by decide +kernel
theorem dX2_keepOrder_78 : decode cX2_keepOrder 78 = .ok (.goto (-54), 3) := by decide +kernel
theorem dX2_keepOrder_81 : decode cX2_keepOrder 81 = .ok (.aload_n 0, 1) := by decide +kernel
theorem dX2_keepOrder_82 : decode cX2_keepOrder 82 = .ok (.aload_n 0, 1) := by decide +kernel
theorem dX2_keepOrder_83 : decode cX2_keepOrder 83 = .ok (.getfield 17, 3) := by decide +kernel
theorem dX2_keepOrder_86 : decode cX2_keepOrder 86 = .ok (.putfield 39, 3) := by decide +kernel
theorem dX2_keepOrder_89 : decode cX2_keepOrder 89 = .ok (.return_, 1) := by decide +kernel
set_option maxRecDepth 20000 in
theorem ggX3_init_J7_fill_53178 : GoodIn wsX3_init wsJ7_fill_53178 := goodIn_r _ [26] (by decide +kernel) (by decide +kernel)
set_option maxRecDepth 20000 in
theorem gX3_init_J7_fill_53178 : GoodIn wsX3_init (va_wsS RX3 67 yJ7_fill_53178 wsJ7_fill_53178) := goodIn_app (goodIn_of _ (by decide +kernel)) ggX3_init_J7_fill_53178
set_option maxRecDepth 20000 in
theorem ggX3_init_X3_layOutBeats : GoodIn wsX3_init wsX3_layOutBeats := goodIn_r _ [31, 20, 12, 11, 13, 32, 33, 34, 30, 35, 19, 21, 22, 36, 37, 38, 39, 40, 41, 42, 43, 44, 45, 46, 56, 57, 58, 59, 60, 61, 62, 63, 64, 65, 66, 67, 68, 69, 70, 71, 72, 73, 74] (by decide +kernel) (by decide +kernel)
set_option maxRecDepth 20000 in
theorem gX3_init_X3_layOutBeats : GoodIn wsX3_init (wsV RX3 73 RX3 yX3_layOutBeats wsX3_layOutBeats) := goodIn_app (goodIn_of _ (by decide +kernel)) ggX3_init_X3_layOutBeats
set_option maxRecDepth 20000 in
theorem ggX3_init_X3_layOutPlayedBars : GoodIn wsX3_init wsX3_layOutPlayedBars := goodIn_r _ [50, 20, 9, 8, 7, 51, 14, 15, 11, 12, 17, 13, 16, 52, 53, 54, 30, 55, 56, 57, 58, 59, 60, 61, 62, 63, 64, 65, 66, 67, 68, 69, 70, 71, 72, 73, 74] (by decide +kernel) (by decide +kernel)
set_option maxRecDepth 20000 in
theorem gX3_init_X3_layOutPlayedBars : GoodIn wsX3_init (wsV RX3 76 RX3 yX3_layOutPlayedBars wsX3_layOutPlayedBars) := goodIn_app (goodIn_of _ (by decide +kernel)) ggX3_init_X3_layOutPlayedBars
theorem dX3_init_0 : decode cX3_init 0 = .ok (.aload_n 0, 1) := by decide +kernel
theorem dX3_init_1 : decode cX3_init 1 = .ok (.invokespecial 3, 3) := by decide +kernel
theorem dX3_init_4 : decode cX3_init 4 = .ok (.aload_n 0, 1) := by decide +kernel
theorem dX3_init_5 : decode cX3_init 5 = .ok (.iconst 0, 1) := by decide +kernel
theorem dX3_init_6 : decode cX3_init 6 = .ok (.putfield 9, 3) := by decide +kernel
theorem dX3_init_9 : decode cX3_init 9 = .ok (.aload_n 0, 1) := by decide +kernel
theorem dX3_init_10 : decode cX3_init 10 = .ok (.iconst 0, 1) := by decide +kernel
theorem dX3_init_11 : decode cX3_init 11 = .ok (.putfield 15, 3) := by decide +kernel
theorem dX3_init_14 : decode cX3_init 14 = .ok (.aload_n 0, 1) := by decide +kernel
theorem dX3_init_15 : decode cX3_init 15 = .ok (.iconst 4, 1) := by decide +kernel
theorem dX3_init_16 : decode cX3_init 16 = .ok (.putfield 18, 3) := by decide +kernel
theorem dX3_init_19 : decode cX3_init 19 = .ok (.aload_n 0, 1) := by decide +kernel
theorem dX3_init_20 : decode cX3_init 20 = .ok (.iconst 0, 1) := by decide +kernel
theorem dX3_init_21 : decode cX3_init 21 = .ok (.putfield 21, 3) := by decide +kernel
theorem dX3_init_24 : decode cX3_init 24 = .ok (.aload_n 0, 1) := by decide +kernel
theorem dX3_init_25 : decode cX3_init 25 = .ok (.iconst 0, 1) := by decide +kernel
theorem dX3_init_26 : decode cX3_init 26 = .ok (.putfield 24, 3) := by decide +kernel
theorem dX3_init_29 : decode cX3_init 29 = .ok (.aload_n 0, 1) := by decide +kernel
theorem dX3_init_30 : decode cX3_init 30 = .ok (.iconst 1, 1) := by decide +kernel
theorem dX3_init_31 : decode cX3_init 31 = .ok (.putfield 27, 3) := by decide +kernel
theorem dX3_init_34 : decode cX3_init 34 = .ok (.aload_n 0, 1) := by decide +kernel
theorem dX3_init_35 : decode cX3_init 35 = .ok (.bipush 64, 2) := by decide +kernel
theorem dX3_init_37 : decode cX3_init 37 = .ok (.newarray .int, 2) := by decide +kernel
theorem dX3_init_39 : decode cX3_init 39 = .ok (.putfield 30, 3) := by decide +kernel
theorem dX3_init_42 : decode cX3_init 42 = .ok (.aload_n 0, 1) := by decide +kernel
theorem dX3_init_43 : decode cX3_init 43 = .ok (.bipush 65, 2) := by decide +kernel
theorem dX3_init_45 : decode cX3_init 45 = .ok (.newarray .int, 2) := by decide +kernel
theorem dX3_init_47 : decode cX3_init 47 = .ok (.putfield 34, 3) := by decide +kernel
theorem dX3_init_50 : decode cX3_init 50 = .ok (.aload_n 0, 1) := by decide +kernel
theorem dX3_init_51 : decode cX3_init 51 = .ok (.sipush 257, 3) := by decide +kernel
theorem dX3_init_54 : decode cX3_init 54 = .ok (.newarray .int, 2) := by decide +kernel
theorem dX3_init_56 : decode cX3_init 56 = .ok (.putfield 37, 3) := by decide +kernel
theorem dX3_init_59 : decode cX3_init 59 = .ok (.aload_n 0, 1) := by decide +kernel
theorem dX3_init_60 : decode cX3_init 60 = .ok (.bipush 64, 2) := by decide +kernel
theorem dX3_init_62 : decode cX3_init 62 = .ok (.newarray .int, 2) := by decide +kernel
theorem dX3_init_64 : decode cX3_init 64 = .ok (.putfield 40, 3) := by decide +kernel
theorem dX3_init_67 : decode cX3_init 67 = .ok (.aload_n 0, 1) := by decide +kernel
theorem dX3_init_68 : decode cX3_init 68 = .ok (.bipush 65, 2) := by decide +kernel
theorem dX3_init_70 : decode cX3_init 70 = .ok (.newarray .int, 2) := by decide +kernel
theorem dX3_init_72 : decode cX3_init 72 = .ok (.putfield 43, 3) := by decide +kernel
theorem dX3_init_75 : decode cX3_init 75 = .ok (.aload_n 0, 1) := by decide +kernel
theorem dX3_init_76 : decode cX3_init 76 = .ok (.bipush 65, 2) := by decide +kernel
theorem dX3_init_78 : decode cX3_init 78 = .ok (.newarray .int, 2) := by decide +kernel
theorem dX3_init_80 : decode cX3_init 80 = .ok (.putfield 46, 3) := by decide +kernel
theorem dX3_init_83 : decode cX3_init 83 = .ok (.aload_n 0, 1) := by decide +kernel
theorem dX3_init_84 : decode cX3_init 84 = .ok (.sipush 256, 3) := by decide +kernel
theorem dX3_init_87 : decode cX3_init 87 = .ok (.newarray .int, 2) := by decide +kernel
theorem dX3_init_89 : decode cX3_init 89 = .ok (.putfield 49, 3) := by decide +kernel
theorem dX3_init_92 : decode cX3_init 92 = .ok (.aload_n 0, 1) := by decide +kernel
theorem dX3_init_93 : decode cX3_init 93 = .ok (.iload_n 1, 1) := by decide +kernel
theorem dX3_init_94 : decode cX3_init 94 = .ok (.putfield 52, 3) := by decide +kernel
theorem dX3_init_97 : decode cX3_init 97 = .ok (.aload_n 0, 1) := by decide +kernel
theorem dX3_init_98 : decode cX3_init 98 = .ok (.iload_n 2, 1) := by decide +kernel
theorem dX3_init_99 : decode cX3_init 99 = .ok (.putfield 55, 3) := by decide +kernel
theorem dX3_init_102 : decode cX3_init 102 = .ok (.aload_n 0, 1) := by decide +kernel
theorem dX3_init_103 : decode cX3_init 103 = .ok (.iload_n 3, 1) := by decide +kernel
theorem dX3_init_104 : decode cX3_init 104 = .ok (.putfield 58, 3) := by decide +kernel
theorem dX3_init_107 : decode cX3_init 107 = .ok (.aload_n 0, 1) := by decide +kernel
theorem dX3_init_108 : decode cX3_init 108 = .ok (.iload 4, 2) := by decide +kernel
theorem dX3_init_110 : decode cX3_init 110 = .ok (.putfield 61, 3) := by decide +kernel
theorem dX3_init_113 : decode cX3_init 113 = .ok (.aload_n 0, 1) := by decide +kernel
theorem dX3_init_114 : decode cX3_init 114 = .ok (.iload_n 2, 1) := by decide +kernel
theorem dX3_init_115 : decode cX3_init 115 = .ok (.ifCond .ne 7, 3) := by decide +kernel
theorem dX3_init_118 : decode cX3_init 118 = .ok (.iconst 0, 1) := by decide +kernel
theorem dX3_init_119 : decode cX3_init 119 = .ok (.goto 5, 3) := by decide +kernel
theorem dX3_init_122 : decode cX3_init 122 = .ok (.iload 5, 2) := by decide +kernel
theorem dX3_init_124 : decode cX3_init 124 = .ok (.putfield 64, 3) := by decide +kernel
theorem dX3_init_127 : decode cX3_init 127 = .ok (.aload_n 0, 1) := by decide +kernel
theorem dX3_init_128 : decode cX3_init 128 = .ok (.getfield 30, 3) := by decide +kernel
theorem dX3_init_131 : decode cX3_init 131 = .ok (.iconst 4, 1) := by decide +kernel
theorem dX3_init_132 : decode cX3_init 132 = .ok (.invokestatic 67, 3) := by decide +kernel
theorem dX3_init_135 : decode cX3_init 135 = .ok (.aload_n 0, 1) := by decide +kernel
theorem dX3_init_136 : decode cX3_init 136 = .ok (.invokevirtual 73, 3) := by decide +kernel
theorem dX3_init_139 : decode cX3_init 139 = .ok (.aload_n 0, 1) := by decide +kernel
theorem dX3_init_140 : decode cX3_init 140 = .ok (.invokevirtual 76, 3) := by decide +kernel
theorem dX3_init_143 : decode cX3_init 143 = .ok (.return_, 1) := by decide +kernel
set_option maxRecDepth 20000 in
theorem ggX3_setBeats_X3_layOutBeats : GoodIn wsX3_setBeats wsX3_layOutBeats := goodIn_r _ [6, 7, 8, 1, 9, 10, 11, 12, 5, 13, 14, 15, 16, 17, 18, 19, 20, 21, 22, 23, 24, 25, 26, 27, 44, 45, 46, 47, 48, 49, 50, 51, 52, 53, 54, 55, 56, 57, 58, 59, 60, 61, 62] (by decide +kernel) (by decide +kernel)
set_option maxRecDepth 20000 in
theorem gX3_setBeats_X3_layOutBeats : GoodIn wsX3_setBeats (wsV RX3 73 RX3 yX3_layOutBeats wsX3_layOutBeats) := goodIn_app (goodIn_of _ (by decide +kernel)) ggX3_setBeats_X3_layOutBeats
set_option maxRecDepth 20000 in
theorem ggX3_setBeats_X3_layOutPlayedBars : GoodIn wsX3_setBeats wsX3_layOutPlayedBars := goodIn_r _ [31, 7, 32, 33, 34, 35, 36, 37, 1, 8, 38, 9, 39, 40, 41, 42, 5, 43, 44, 45, 46, 47, 48, 49, 50, 51, 52, 53, 54, 55, 56, 57, 58, 59, 60, 61, 62] (by decide +kernel) (by decide +kernel)
set_option maxRecDepth 20000 in
theorem gX3_setBeats_X3_layOutPlayedBars : GoodIn wsX3_setBeats (wsV RX3 76 RX3 yX3_layOutPlayedBars wsX3_layOutPlayedBars) := goodIn_app (goodIn_of _ (by decide +kernel)) ggX3_setBeats_X3_layOutPlayedBars
theorem dX3_setBeats_0 : decode cX3_setBeats 0 = .ok (.aload_n 0, 1) := by decide +kernel
theorem dX3_setBeats_1 : decode cX3_setBeats 1 = .ok (.getfield 30, 3) := by decide +kernel
theorem dX3_setBeats_4 : decode cX3_setBeats 4 = .ok (.iload_n 1, 1) := by decide +kernel
theorem dX3_setBeats_5 : decode cX3_setBeats 5 = .ok (.iload_n 2, 1) := by decide +kernel
theorem dX3_setBeats_6 : decode cX3_setBeats 6 = .ok (.iastore, 1) := by decide +kernel
theorem dX3_setBeats_7 : decode cX3_setBeats 7 = .ok (.aload_n 0, 1) := by decide +kernel
theorem dX3_setBeats_8 : decode cX3_setBeats 8 = .ok (.invokevirtual 73, 3) := by decide +kernel
theorem dX3_setBeats_11 : decode cX3_setBeats 11 = .ok (.aload_n 0, 1) := by decide +kernel
theorem dX3_setBeats_12 : decode cX3_setBeats 12 = .ok (.invokevirtual 76, 3) := by decide +kernel
theorem dX3_setBeats_15 : decode cX3_setBeats 15 = .ok (.return_, 1) := by decide +kernel
set_option maxRecDepth 20000 in
theorem ggX3_canLoop_X5_within : GoodIn wsX3_canLoop wsX5_within := goodIn_r _ [4] (by decide +kernel) (by decide +kernel)
set_option maxRecDepth 20000 in
theorem gX3_canLoop_X5_within_n79 : GoodIn wsX3_canLoop (wsX5_within) := ggX3_canLoop_X5_within
theorem dX3_canLoop_0 : decode cX3_canLoop 0 = .ok (.iload_n 1, 1) := by decide +kernel
theorem dX3_canLoop_1 : decode cX3_canLoop 1 = .ok (.ifCond .lt 48, 3) := by decide +kernel
theorem dX3_canLoop_4 : decode cX3_canLoop 4 = .ok (.iload_n 1, 1) := by decide +kernel
theorem dX3_canLoop_5 : decode cX3_canLoop 5 = .ok (.iload_n 2, 1) := by decide +kernel
theorem dX3_canLoop_6 : decode cX3_canLoop 6 = .ok (.if_icmp .gt 43, 3) := by decide +kernel
theorem dX3_canLoop_9 : decode cX3_canLoop 9 = .ok (.iload_n 2, 1) := by decide +kernel
theorem dX3_canLoop_10 : decode cX3_canLoop 10 = .ok (.aload_n 0, 1) := by decide +kernel
theorem dX3_canLoop_11 : decode cX3_canLoop 11 = .ok (.getfield 58, 3) := by decide +kernel
theorem dX3_canLoop_14 : decode cX3_canLoop 14 = .ok (.if_icmp .ge 35, 3) := by decide +kernel
theorem dX3_canLoop_17 : decode cX3_canLoop 17 = .ok (.iload_n 3, 1) := by decide +kernel
theorem dX3_canLoop_18 : decode cX3_canLoop 18 = .ok (.iconst 1, 1) := by decide +kernel
theorem dX3_canLoop_19 : decode cX3_canLoop 19 = .ok (.iconst 4, 1) := by decide +kernel
theorem dX3_canLoop_20 : decode cX3_canLoop 20 = .ok (.invokestatic 79, 3) := by decide +kernel
theorem dX3_canLoop_23 : decode cX3_canLoop 23 = .ok (.ifCond .eq 26, 3) := by decide +kernel
theorem dX3_canLoop_26 : decode cX3_canLoop 26 = .ok (.aload_n 0, 1) := by decide +kernel
theorem dX3_canLoop_27 : decode cX3_canLoop 27 = .ok (.getfield 58, 3) := by decide +kernel
theorem dX3_canLoop_30 : decode cX3_canLoop 30 = .ok (.iload_n 3, 1) := by decide +kernel
theorem dX3_canLoop_31 : decode cX3_canLoop 31 = .ok (.iconst 1, 1) := by decide +kernel
theorem dX3_canLoop_32 : decode cX3_canLoop 32 = .ok (.isub, 1) := by decide +kernel
theorem dX3_canLoop_33 : decode cX3_canLoop 33 = .ok (.iload_n 2, 1) := by decide +kernel
theorem dX3_canLoop_34 : decode cX3_canLoop 34 = .ok (.iload_n 1, 1) := by decide +kernel
theorem dX3_canLoop_35 : decode cX3_canLoop 35 = .ok (.isub, 1) := by decide +kernel
theorem dX3_canLoop_36 : decode cX3_canLoop 36 = .ok (.iconst 1, 1) := by decide +kernel
theorem dX3_canLoop_37 : decode cX3_canLoop 37 = .ok (.iadd, 1) := by decide +kernel
theorem dX3_canLoop_38 : decode cX3_canLoop 38 = .ok (.imul, 1) := by decide +kernel
theorem dX3_canLoop_39 : decode cX3_canLoop 39 = .ok (.iadd, 1) := by decide +kernel
theorem dX3_canLoop_40 : decode cX3_canLoop 40 = .ok (.bipush 64, 2) := by decide +kernel
theorem dX3_canLoop_42 : decode cX3_canLoop 42 = .ok (.if_icmp .gt 7, 3) := by decide +kernel
theorem dX3_canLoop_45 : decode cX3_canLoop 45 = .ok (.iconst 1, 1) := by decide +kernel
theorem dX3_canLoop_46 : decode cX3_canLoop 46 = .ok (.goto 4, 3) := by decide +kernel
theorem dX3_canLoop_49 : decode cX3_canLoop 49 = .ok (.iconst 0, 1) := by decide +kernel
theorem dX3_canLoop_50 : decode cX3_canLoop 50 = .ok (.ireturn, 1) := by decide +kernel
set_option maxRecDepth 20000 in
theorem ggX3_setLoop_X3_layOutPlayedBars : GoodIn wsX3_setLoop wsX3_layOutPlayedBars := goodIn_r _ [8, 9, 3, 2, 1, 10, 11, 12, 13, 14, 15, 16, 17, 18, 19, 20, 7, 21, 22, 23, 24, 25, 26, 27, 28, 29, 30, 31, 32, 33, 34, 35, 36, 37, 38, 39, 40] (by decide +kernel) (by decide +kernel)
set_option maxRecDepth 20000 in
theorem gX3_setLoop_X3_layOutPlayedBars : GoodIn wsX3_setLoop (wsV RX3 76 RX3 yX3_layOutPlayedBars wsX3_layOutPlayedBars) := goodIn_app (goodIn_of _ (by decide +kernel)) ggX3_setLoop_X3_layOutPlayedBars
theorem dX3_setLoop_0 : decode cX3_setLoop 0 = .ok (.aload_n 0, 1) := by decide +kernel
theorem dX3_setLoop_1 : decode cX3_setLoop 1 = .ok (.iload_n 1, 1) := by decide +kernel
theorem dX3_setLoop_2 : decode cX3_setLoop 2 = .ok (.putfield 21, 3) := by decide +kernel
theorem dX3_setLoop_5 : decode cX3_setLoop 5 = .ok (.aload_n 0, 1) := by decide +kernel
theorem dX3_setLoop_6 : decode cX3_setLoop 6 = .ok (.iload_n 2, 1) := by decide +kernel
theorem dX3_setLoop_7 : decode cX3_setLoop 7 = .ok (.putfield 24, 3) := by decide +kernel
theorem dX3_setLoop_10 : decode cX3_setLoop 10 = .ok (.aload_n 0, 1) := by decide +kernel
theorem dX3_setLoop_11 : decode cX3_setLoop 11 = .ok (.iload_n 3, 1) := by decide +kernel
theorem dX3_setLoop_12 : decode cX3_setLoop 12 = .ok (.putfield 27, 3) := by decide +kernel
theorem dX3_setLoop_15 : decode cX3_setLoop 15 = .ok (.aload_n 0, 1) := by decide +kernel
theorem dX3_setLoop_16 : decode cX3_setLoop 16 = .ok (.invokevirtual 76, 3) := by decide +kernel
theorem dX3_setLoop_19 : decode cX3_setLoop 19 = .ok (.return_, 1) := by decide +kernel
theorem dX3_beats_0 : decode cX3_beats 0 = .ok (.aload_n 0, 1) := by decide +kernel
theorem dX3_beats_1 : decode cX3_beats 1 = .ok (.getfield 34, 3) := by decide +kernel
theorem dX3_beats_4 : decode cX3_beats 4 = .ok (.aload_n 0, 1) := by decide +kernel
theorem dX3_beats_5 : decode cX3_beats 5 = .ok (.getfield 58, 3) := by decide +kernel
theorem dX3_beats_8 : decode cX3_beats 8 = .ok (.iaload, 1) := by decide +kernel
theorem dX3_beats_9 : decode cX3_beats 9 = .ok (.ireturn, 1) := by decide +kernel
theorem dX3_brokenBars_0 : decode cX3_brokenBars 0 = .ok (.iconst 0, 1) := by decide +kernel
theorem dX3_brokenBars_1 : decode cX3_brokenBars 1 = .ok (.istore_n 1, 1) := by decide +kernel
theorem dX3_brokenBars_2 : decode cX3_brokenBars 2 = .ok (.iconst 0, 1) := by decide +kernel
theorem dX3_brokenBars_3 : decode cX3_brokenBars 3 = .ok (.istore_n 2, 1) := by decide +kernel
theorem dX3_brokenBars_4 : decode cX3_brokenBars 4 = .ok (.iload_n 2, 1) := by decide +kernel
theorem dX3_brokenBars_5 : decode cX3_brokenBars 5 = .ok (.aload_n 0, 1) := by decide +kernel
theorem dX3_brokenBars_6 : decode cX3_brokenBars 6 = .ok (.getfield 58, 3) := by decide +kernel
theorem dX3_brokenBars_9 : decode cX3_brokenBars 9 = .ok (.if_icmp .ge 27, 3) := by decide +kernel
theorem dX3_brokenBars_12 : decode cX3_brokenBars 12 = .ok (.iload_n 1, 1) := by decide +kernel
theorem dX3_brokenBars_13 : decode cX3_brokenBars 13 = .ok (.aload_n 0, 1) := by decide +kernel
theorem dX3_brokenBars_14 : decode cX3_brokenBars 14 = .ok (.getfield 30, 3) := by decide +kernel
theorem dX3_brokenBars_17 : decode cX3_brokenBars 17 = .ok (.iload_n 2, 1) := by decide +kernel
theorem dX3_brokenBars_18 : decode cX3_brokenBars 18 = .ok (.iaload, 1) := by decide +kernel
theorem dX3_brokenBars_19 : decode cX3_brokenBars 19 = .ok (.iconst 4, 1) := by decide +kernel
theorem dX3_brokenBars_20 : decode cX3_brokenBars 20 = .ok (.if_icmp .ge 7, 3) := by decide +kernel
theorem dX3_brokenBars_23 : decode cX3_brokenBars 23 = .ok (.iconst 1, 1) := by decide +kernel
theorem dX3_brokenBars_24 : decode cX3_brokenBars 24 = .ok (.goto 4, 3) := by decide +kernel
theorem dX3_brokenBars_27 : decode cX3_brokenBars 27 = .ok (.iconst 0, 1) := by decide +kernel
theorem dX3_brokenBars_28 : decode cX3_brokenBars 28 = .ok (.iadd, 1) := by decide +kernel
theorem dX3_brokenBars_29 : decode cX3_brokenBars 29 = .ok (.istore_n 1, 1) := by decide +kernel
theorem dX3_brokenBars_30 : decode cX3_brokenBars 30 = .ok (.iinc 2 1, 3) := by decide +kernel
theorem dX3_brokenBars_33 : decode cX3_brokenBars 33 = .ok (.goto (-29), 3) := by decide +kernel
theorem dX3_brokenBars_36 : decode cX3_brokenBars 36 = .ok (.iload_n 1, 1) := by decide +kernel
theorem dX3_brokenBars_37 : decode cX3_brokenBars 37 = .ok (.ireturn, 1) := by decide +kernel
theorem dX3_beginsPhrase_0 : decode cX3_beginsPhrase 0 = .ok (.aload_n 0, 1) := by decide +kernel
theorem dX3_beginsPhrase_1 : decode cX3_beginsPhrase 1 = .ok (.getfield 40, 3) := by decide +kernel
theorem dX3_beginsPhrase_4 : decode cX3_beginsPhrase 4 = .ok (.iload_n 1, 1) := by decide +kernel
theorem dX3_beginsPhrase_5 : decode cX3_beginsPhrase 5 = .ok (.iaload, 1) := by decide +kernel
theorem dX3_beginsPhrase_6 : decode cX3_beginsPhrase 6 = .ok (.aload_n 0, 1) := by decide +kernel
theorem dX3_beginsPhrase_7 : decode cX3_beginsPhrase 7 = .ok (.getfield 18, 3) := by decide +kernel
theorem dX3_beginsPhrase_10 : decode cX3_beginsPhrase 10 = .ok (.irem, 1) := by decide +kernel
theorem dX3_beginsPhrase_11 : decode cX3_beginsPhrase 11 = .ok (.ifCond .ne 7, 3) := by decide +kernel
theorem dX3_beginsPhrase_14 : decode cX3_beginsPhrase 14 = .ok (.iconst 1, 1) := by decide +kernel
theorem dX3_beginsPhrase_15 : decode cX3_beginsPhrase 15 = .ok (.goto 4, 3) := by decide +kernel
theorem dX3_beginsPhrase_18 : decode cX3_beginsPhrase 18 = .ok (.iconst 0, 1) := by decide +kernel
theorem dX3_beginsPhrase_19 : decode cX3_beginsPhrase 19 = .ok (.ireturn, 1) := by decide +kernel
theorem dX3_soundsAlike_0 : decode cX3_soundsAlike 0 = .ok (.iconst 0, 1) := by decide +kernel
theorem dX3_soundsAlike_1 : decode cX3_soundsAlike 1 = .ok (.istore 4, 2) := by decide +kernel
theorem dX3_soundsAlike_3 : decode cX3_soundsAlike 3 = .ok (.iload 4, 2) := by decide +kernel
theorem dX3_soundsAlike_5 : decode cX3_soundsAlike 5 = .ok (.iconst 4, 1) := by decide +kernel
theorem dX3_soundsAlike_6 : decode cX3_soundsAlike 6 = .ok (.iload_n 3, 1) := by decide +kernel
theorem dX3_soundsAlike_7 : decode cX3_soundsAlike 7 = .ok (.imul, 1) := by decide +kernel
theorem dX3_soundsAlike_8 : decode cX3_soundsAlike 8 = .ok (.if_icmp .ge 36, 3) := by decide +kernel
theorem dX3_soundsAlike_11 : decode cX3_soundsAlike 11 = .ok (.aload_n 0, 1) := by decide +kernel
theorem dX3_soundsAlike_12 : decode cX3_soundsAlike 12 = .ok (.getfield 49, 3) := by decide +kernel
theorem dX3_soundsAlike_15 : decode cX3_soundsAlike 15 = .ok (.iconst 4, 1) := by decide +kernel
theorem dX3_soundsAlike_16 : decode cX3_soundsAlike 16 = .ok (.iload_n 1, 1) := by decide +kernel
theorem dX3_soundsAlike_17 : decode cX3_soundsAlike 17 = .ok (.imul, 1) := by decide +kernel
theorem dX3_soundsAlike_18 : decode cX3_soundsAlike 18 = .ok (.iload 4, 2) := by decide +kernel
theorem dX3_soundsAlike_20 : decode cX3_soundsAlike 20 = .ok (.iadd, 1) := by decide +kernel
theorem dX3_soundsAlike_21 : decode cX3_soundsAlike 21 = .ok (.iaload, 1) := by decide +kernel
theorem dX3_soundsAlike_22 : decode cX3_soundsAlike 22 = .ok (.aload_n 0, 1) := by decide +kernel
theorem dX3_soundsAlike_23 : decode cX3_soundsAlike 23 = .ok (.getfield 49, 3) := by decide +kernel
theorem dX3_soundsAlike_26 : decode cX3_soundsAlike 26 = .ok (.iconst 4, 1) := by decide +kernel
theorem dX3_soundsAlike_27 : decode cX3_soundsAlike 27 = .ok (.iload_n 2, 1) := by decide +kernel
theorem dX3_soundsAlike_28 : decode cX3_soundsAlike 28 = .ok (.imul, 1) := by decide +kernel
theorem dX3_soundsAlike_29 : decode cX3_soundsAlike 29 = .ok (.iload 4, 2) := by decide +kernel
theorem dX3_soundsAlike_31 : decode cX3_soundsAlike 31 = .ok (.iadd, 1) := by decide +kernel
theorem dX3_soundsAlike_32 : decode cX3_soundsAlike 32 = .ok (.iaload, 1) := by decide +kernel
theorem dX3_soundsAlike_33 : decode cX3_soundsAlike 33 = .ok (.if_icmp .eq 5, 3) := by decide +kernel
theorem dX3_soundsAlike_36 : decode cX3_soundsAlike 36 = .ok (.iconst 0, 1) := by decide +kernel
theorem dX3_soundsAlike_37 : decode cX3_soundsAlike 37 = .ok (.ireturn, 1) := by decide +kernel
theorem dX3_soundsAlike_38 : decode cX3_soundsAlike 38 = .ok (.iinc 4 1, 3) := by decide +kernel
theorem dX3_soundsAlike_41 : decode cX3_soundsAlike 41 = .ok (.goto (-38), 3) := by decide +kernel
theorem dX3_soundsAlike_44 : decode cX3_soundsAlike 44 = .ok (.iconst 1, 1) := by decide +kernel
theorem dX3_soundsAlike_45 : decode cX3_soundsAlike 45 = .ok (.ireturn, 1) := by decide +kernel
set_option maxRecDepth 20000 in
theorem ggX3_layOutBeats_X3_lasting : GoodIn wsX3_layOutBeats wsX3_lasting := goodIn_r _ [9, 10, 11, 12, 13, 14, 15, 16, 17, 18, 19, 20, 21, 22, 23, 24, 25, 26, 27, 28, 29, 30, 31, 32, 33, 34, 35, 36, 37, 38, 39, 40, 41, 42] (by decide +kernel) (by decide +kernel)
set_option maxRecDepth 20000 in
theorem gX3_layOutBeats_X3_lasting : GoodIn wsX3_layOutBeats (wsV RX3 83 RX3 yX3_lasting wsX3_lasting) := goodIn_app (goodIn_of _ (by decide +kernel)) ggX3_layOutBeats_X3_lasting
theorem dX3_layOutBeats_0 : decode cX3_layOutBeats 0 = .ok (.iconst 0, 1) := by decide +kernel
theorem dX3_layOutBeats_1 : decode cX3_layOutBeats 1 = .ok (.istore_n 1, 1) := by decide +kernel
theorem dX3_layOutBeats_2 : decode cX3_layOutBeats 2 = .ok (.iconst 0, 1) := by decide +kernel
theorem dX3_layOutBeats_3 : decode cX3_layOutBeats 3 = .ok (.istore_n 2, 1) := by decide +kernel
theorem dX3_layOutBeats_4 : decode cX3_layOutBeats 4 = .ok (.iconst 0, 1) := by decide +kernel
theorem dX3_layOutBeats_5 : decode cX3_layOutBeats 5 = .ok (.istore_n 3, 1) := by decide +kernel
theorem dX3_layOutBeats_6 : decode cX3_layOutBeats 6 = .ok (.iload_n 3, 1) := by decide +kernel
theorem dX3_layOutBeats_7 : decode cX3_layOutBeats 7 = .ok (.aload_n 0, 1) := by decide +kernel
theorem dX3_layOutBeats_8 : decode cX3_layOutBeats 8 = .ok (.getfield 58, 3) := by decide +kernel
theorem dX3_layOutBeats_11 : decode cX3_layOutBeats 11 = .ok (.if_icmp .ge 54, 3) := by decide +kernel
theorem dX3_layOutBeats_14 : decode cX3_layOutBeats 14 = .ok (.aload_n 0, 1) := by decide +kernel
theorem dX3_layOutBeats_15 : decode cX3_layOutBeats 15 = .ok (.getfield 34, 3) := by decide +kernel
theorem dX3_layOutBeats_18 : decode cX3_layOutBeats 18 = .ok (.iload_n 3, 1) := by decide +kernel
theorem dX3_layOutBeats_19 : decode cX3_layOutBeats 19 = .ok (.iload_n 1, 1) := by decide +kernel
theorem dX3_layOutBeats_20 : decode cX3_layOutBeats 20 = .ok (.iastore, 1) := by decide +kernel
theorem dX3_layOutBeats_21 : decode cX3_layOutBeats 21 = .ok (.iconst 0, 1) := by decide +kernel
theorem dX3_layOutBeats_22 : decode cX3_layOutBeats 22 = .ok (.istore 4, 2) := by decide +kernel
theorem dX3_layOutBeats_24 : decode cX3_layOutBeats 24 = .ok (.iload 4, 2) := by decide +kernel
theorem dX3_layOutBeats_26 : decode cX3_layOutBeats 26 = .ok (.aload_n 0, 1) := by decide +kernel
theorem dX3_layOutBeats_27 : decode cX3_layOutBeats 27 = .ok (.getfield 30, 3) := by decide +kernel
theorem dX3_layOutBeats_30 : decode cX3_layOutBeats 30 = .ok (.iload_n 3, 1) := by decide +kernel
theorem dX3_layOutBeats_31 : decode cX3_layOutBeats 31 = .ok (.iaload, 1) := by decide +kernel
theorem dX3_layOutBeats_32 : decode cX3_layOutBeats 32 = .ok (.if_icmp .ge 27, 3) := by decide +kernel
theorem dX3_layOutBeats_35 : decode cX3_layOutBeats 35 = .ok (.aload_n 0, 1) := by decide +kernel
theorem dX3_layOutBeats_36 : decode cX3_layOutBeats 36 = .ok (.getfield 37, 3) := by decide +kernel
theorem dX3_layOutBeats_39 : decode cX3_layOutBeats 39 = .ok (.iload_n 1, 1) := by decide +kernel
theorem dX3_layOutBeats_40 : decode cX3_layOutBeats 40 = .ok (.iload_n 2, 1) := by decide +kernel
theorem dX3_layOutBeats_41 : decode cX3_layOutBeats 41 = .ok (.iastore, 1) := by decide +kernel
theorem dX3_layOutBeats_42 : decode cX3_layOutBeats 42 = .ok (.iload_n 2, 1) := by decide +kernel
theorem dX3_layOutBeats_43 : decode cX3_layOutBeats 43 = .ok (.aload_n 0, 1) := by decide +kernel
theorem dX3_layOutBeats_44 : decode cX3_layOutBeats 44 = .ok (.iload_n 1, 1) := by decide +kernel
theorem dX3_layOutBeats_45 : decode cX3_layOutBeats 45 = .ok (.invokevirtual 83, 3) := by decide +kernel
theorem dX3_layOutBeats_48 : decode cX3_layOutBeats 48 = .ok (.iadd, 1) := by decide +kernel
theorem dX3_layOutBeats_49 : decode cX3_layOutBeats 49 = .ok (.istore_n 2, 1) := by decide +kernel
theorem dX3_layOutBeats_50 : decode cX3_layOutBeats 50 = .ok (.iinc 1 1, 3) := by decide +kernel
theorem dX3_layOutBeats_53 : decode cX3_layOutBeats 53 = .ok (.iinc 4 1, 3) := by decide +kernel
theorem dX3_layOutBeats_56 : decode cX3_layOutBeats 56 = .ok (.goto (-32), 3) := by decide +kernel
theorem dX3_layOutBeats_59 : decode cX3_layOutBeats 59 = .ok (.iinc 3 1, 3) := by decide +kernel
theorem dX3_layOutBeats_62 : decode cX3_layOutBeats 62 = .ok (.goto (-56), 3) := by decide +kernel
theorem dX3_layOutBeats_65 : decode cX3_layOutBeats 65 = .ok (.aload_n 0, 1) := by decide +kernel
theorem dX3_layOutBeats_66 : decode cX3_layOutBeats 66 = .ok (.getfield 34, 3) := by decide +kernel
theorem dX3_layOutBeats_69 : decode cX3_layOutBeats 69 = .ok (.aload_n 0, 1) := by decide +kernel
theorem dX3_layOutBeats_70 : decode cX3_layOutBeats 70 = .ok (.getfield 58, 3) := by decide +kernel
theorem dX3_layOutBeats_73 : decode cX3_layOutBeats 73 = .ok (.iload_n 1, 1) := by decide +kernel
theorem dX3_layOutBeats_74 : decode cX3_layOutBeats 74 = .ok (.iastore, 1) := by decide +kernel
theorem dX3_layOutBeats_75 : decode cX3_layOutBeats 75 = .ok (.aload_n 0, 1) := by decide +kernel
theorem dX3_layOutBeats_76 : decode cX3_layOutBeats 76 = .ok (.getfield 37, 3) := by decide +kernel
theorem dX3_layOutBeats_79 : decode cX3_layOutBeats 79 = .ok (.iload_n 1, 1) := by decide +kernel
theorem dX3_layOutBeats_80 : decode cX3_layOutBeats 80 = .ok (.iload_n 2, 1) := by decide +kernel
theorem dX3_layOutBeats_81 : decode cX3_layOutBeats 81 = .ok (.iastore, 1) := by decide +kernel
theorem dX3_layOutBeats_82 : decode cX3_layOutBeats 82 = .ok (.return_, 1) := by decide +kernel
set_option maxRecDepth 20000 in
theorem ggX3_layOutPlayedBars_X3_barPlayed : GoodIn wsX3_layOutPlayedBars wsX3_barPlayed := goodIn_r _ [17, 3, 4, 2, 18, 19, 20, 21, 22, 23, 24, 25, 26, 27, 28, 29, 30, 31, 32, 33, 34, 35, 36] (by decide +kernel) (by decide +kernel)
set_option maxRecDepth 20000 in
theorem gX3_layOutPlayedBars_X3_barPlayed : GoodIn wsX3_layOutPlayedBars (wsV RX3 90 RX3 yX3_barPlayed wsX3_barPlayed) := goodIn_app (goodIn_of _ (by decide +kernel)) ggX3_layOutPlayedBars_X3_barPlayed
theorem dX3_layOutPlayedBars_0 : decode cX3_layOutPlayedBars 0 = .ok (.aload_n 0, 1) := by decide +kernel
theorem dX3_layOutPlayedBars_1 : decode cX3_layOutPlayedBars 1 = .ok (.aload_n 0, 1) := by decide +kernel
theorem dX3_layOutPlayedBars_2 : decode cX3_layOutPlayedBars 2 = .ok (.getfield 58, 3) := by decide +kernel
theorem dX3_layOutPlayedBars_5 : decode cX3_layOutPlayedBars 5 = .ok (.aload_n 0, 1) := by decide +kernel
theorem dX3_layOutPlayedBars_6 : decode cX3_layOutPlayedBars 6 = .ok (.getfield 27, 3) := by decide +kernel
theorem dX3_layOutPlayedBars_9 : decode cX3_layOutPlayedBars 9 = .ok (.iconst 1, 1) := by decide +kernel
theorem dX3_layOutPlayedBars_10 : decode cX3_layOutPlayedBars 10 = .ok (.isub, 1) := by decide +kernel
theorem dX3_layOutPlayedBars_11 : decode cX3_layOutPlayedBars 11 = .ok (.aload_n 0, 1) := by decide +kernel
theorem dX3_layOutPlayedBars_12 : decode cX3_layOutPlayedBars 12 = .ok (.getfield 24, 3) := by decide +kernel
theorem dX3_layOutPlayedBars_15 : decode cX3_layOutPlayedBars 15 = .ok (.aload_n 0, 1) := by decide +kernel
theorem dX3_layOutPlayedBars_16 : decode cX3_layOutPlayedBars 16 = .ok (.getfield 21, 3) := by decide +kernel
theorem dX3_layOutPlayedBars_19 : decode cX3_layOutPlayedBars 19 = .ok (.isub, 1) := by decide +kernel
theorem dX3_layOutPlayedBars_20 : decode cX3_layOutPlayedBars 20 = .ok (.iconst 1, 1) := by decide +kernel
theorem dX3_layOutPlayedBars_21 : decode cX3_layOutPlayedBars 21 = .ok (.iadd, 1) := by decide +kernel
theorem dX3_layOutPlayedBars_22 : decode cX3_layOutPlayedBars 22 = .ok (.imul, 1) := by decide +kernel
theorem dX3_layOutPlayedBars_23 : decode cX3_layOutPlayedBars 23 = .ok (.iadd, 1) := by decide +kernel
theorem dX3_layOutPlayedBars_24 : decode cX3_layOutPlayedBars 24 = .ok (.putfield 87, 3) := by decide +kernel
theorem dX3_layOutPlayedBars_27 : decode cX3_layOutPlayedBars 27 = .ok (.iconst 0, 1) := by decide +kernel
theorem dX3_layOutPlayedBars_28 : decode cX3_layOutPlayedBars 28 = .ok (.istore_n 1, 1) := by decide +kernel
theorem dX3_layOutPlayedBars_29 : decode cX3_layOutPlayedBars 29 = .ok (.iconst 0, 1) := by decide +kernel
theorem dX3_layOutPlayedBars_30 : decode cX3_layOutPlayedBars 30 = .ok (.istore_n 2, 1) := by decide +kernel
theorem dX3_layOutPlayedBars_31 : decode cX3_layOutPlayedBars 31 = .ok (.iload_n 2, 1) := by decide +kernel
theorem dX3_layOutPlayedBars_32 : decode cX3_layOutPlayedBars 32 = .ok (.aload_n 0, 1) := by decide +kernel
theorem dX3_layOutPlayedBars_33 : decode cX3_layOutPlayedBars 33 = .ok (.getfield 87, 3) := by decide +kernel
theorem dX3_layOutPlayedBars_36 : decode cX3_layOutPlayedBars 36 = .ok (.if_icmp .ge 102, 3) := by decide +kernel
theorem dX3_layOutPlayedBars_39 : decode cX3_layOutPlayedBars 39 = .ok (.aload_n 0, 1) := by decide +kernel
theorem dX3_layOutPlayedBars_40 : decode cX3_layOutPlayedBars 40 = .ok (.iload_n 2, 1) := by decide +kernel
theorem dX3_layOutPlayedBars_41 : decode cX3_layOutPlayedBars 41 = .ok (.invokevirtual 90, 3) := by decide +kernel
theorem dX3_layOutPlayedBars_44 : decode cX3_layOutPlayedBars 44 = .ok (.istore_n 3, 1) := by decide +kernel
theorem dX3_layOutPlayedBars_45 : decode cX3_layOutPlayedBars 45 = .ok (.aload_n 0, 1) := by decide +kernel
theorem dX3_layOutPlayedBars_46 : decode cX3_layOutPlayedBars 46 = .ok (.getfield 40, 3) := by decide +kernel
theorem dX3_layOutPlayedBars_49 : decode cX3_layOutPlayedBars 49 = .ok (.iload_n 2, 1) := by decide +kernel
theorem dX3_layOutPlayedBars_50 : decode cX3_layOutPlayedBars 50 = .ok (.iload_n 3, 1) := by decide +kernel
theorem dX3_layOutPlayedBars_51 : decode cX3_layOutPlayedBars 51 = .ok (.iastore, 1) := by decide +kernel
theorem dX3_layOutPlayedBars_52 : decode cX3_layOutPlayedBars 52 = .ok (.aload_n 0, 1) := by decide +kernel
theorem dX3_layOutPlayedBars_53 : decode cX3_layOutPlayedBars 53 = .ok (.getfield 43, 3) := by decide +kernel
theorem dX3_layOutPlayedBars_56 : decode cX3_layOutPlayedBars 56 = .ok (.iload_n 2, 1) := by decide +kernel
theorem dX3_layOutPlayedBars_57 : decode cX3_layOutPlayedBars 57 = .ok (.iload_n 1, 1) := by decide +kernel
theorem dX3_layOutPlayedBars_58 : decode cX3_layOutPlayedBars 58 = .ok (.iastore, 1) := by decide +kernel
theorem dX3_layOutPlayedBars_59 : decode cX3_layOutPlayedBars 59 = .ok (.iconst 0, 1) := by decide +kernel
theorem dX3_layOutPlayedBars_60 : decode cX3_layOutPlayedBars 60 = .ok (.istore 4, 2) := by decide +kernel
theorem dX3_layOutPlayedBars_62 : decode cX3_layOutPlayedBars 62 = .ok (.iload 4, 2) := by decide +kernel
theorem dX3_layOutPlayedBars_64 : decode cX3_layOutPlayedBars 64 = .ok (.aload_n 0, 1) := by decide +kernel
theorem dX3_layOutPlayedBars_65 : decode cX3_layOutPlayedBars 65 = .ok (.getfield 30, 3) := by decide +kernel
theorem dX3_layOutPlayedBars_68 : decode cX3_layOutPlayedBars 68 = .ok (.iload_n 3, 1) := by decide +kernel
theorem dX3_layOutPlayedBars_69 : decode cX3_layOutPlayedBars 69 = .ok (.iaload, 1) := by decide +kernel
theorem dX3_layOutPlayedBars_70 : decode cX3_layOutPlayedBars 70 = .ok (.if_icmp .ge 62, 3) := by decide +kernel
theorem dX3_layOutPlayedBars_73 : decode cX3_layOutPlayedBars 73 = .ok (.aload_n 0, 1) := by decide +kernel
theorem dX3_layOutPlayedBars_74 : decode cX3_layOutPlayedBars 74 = .ok (.getfield 34, 3) := by decide +kernel
theorem dX3_layOutPlayedBars_77 : decode cX3_layOutPlayedBars 77 = .ok (.iload_n 3, 1) := by decide +kernel
theorem dX3_layOutPlayedBars_78 : decode cX3_layOutPlayedBars 78 = .ok (.iaload, 1) := by decide +kernel
theorem dX3_layOutPlayedBars_79 : decode cX3_layOutPlayedBars 79 = .ok (.iload 4, 2) := by decide +kernel
theorem dX3_layOutPlayedBars_81 : decode cX3_layOutPlayedBars 81 = .ok (.iadd, 1) := by decide +kernel
theorem dX3_layOutPlayedBars_82 : decode cX3_layOutPlayedBars 82 = .ok (.istore 5, 2) := by decide +kernel
theorem dX3_layOutPlayedBars_84 : decode cX3_layOutPlayedBars 84 = .ok (.aload_n 0, 1) := by decide +kernel
theorem dX3_layOutPlayedBars_85 : decode cX3_layOutPlayedBars 85 = .ok (.getfield 49, 3) := by decide +kernel
theorem dX3_layOutPlayedBars_88 : decode cX3_layOutPlayedBars 88 = .ok (.iconst 4, 1) := by decide +kernel
theorem dX3_layOutPlayedBars_89 : decode cX3_layOutPlayedBars 89 = .ok (.iload_n 2, 1) := by decide +kernel
theorem dX3_layOutPlayedBars_90 : decode cX3_layOutPlayedBars 90 = .ok (.imul, 1) := by decide +kernel
theorem dX3_layOutPlayedBars_91 : decode cX3_layOutPlayedBars 91 = .ok (.iload 4, 2) := by decide +kernel
theorem dX3_layOutPlayedBars_93 : decode cX3_layOutPlayedBars 93 = .ok (.iadd, 1) := by decide +kernel
theorem dX3_layOutPlayedBars_94 : decode cX3_layOutPlayedBars 94 = .ok (.aload_n 0, 1) := by decide +kernel
theorem dX3_layOutPlayedBars_95 : decode cX3_layOutPlayedBars 95 = .ok (.getfield 37, 3) := by decide +kernel
theorem dX3_layOutPlayedBars_98 : decode cX3_layOutPlayedBars 98 = .ok (.iload 5, 2) := by decide +kernel
theorem dX3_layOutPlayedBars_100 : decode cX3_layOutPlayedBars 100 = .ok (.iconst 1, 1) := by decide +kernel
theorem dX3_layOutPlayedBars_101 : decode cX3_layOutPlayedBars 101 = .ok (.iadd, 1) := by decide +kernel
theorem dX3_layOutPlayedBars_102 : decode cX3_layOutPlayedBars 102 = .ok (.iaload, 1) := by decide +kernel
theorem dX3_layOutPlayedBars_103 : decode cX3_layOutPlayedBars 103 = .ok (.aload_n 0, 1) := by decide +kernel
theorem dX3_layOutPlayedBars_104 : decode cX3_layOutPlayedBars 104 = .ok (.getfield 37, 3) := by decide +kernel
theorem dX3_layOutPlayedBars_107 : decode cX3_layOutPlayedBars 107 = .ok (.iload 5, 2) := by decide +kernel
theorem dX3_layOutPlayedBars_109 : decode cX3_layOutPlayedBars 109 = .ok (.iaload, 1) := by decide +kernel
theorem dX3_layOutPlayedBars_110 : decode cX3_layOutPlayedBars 110 = .ok (.isub, 1) := by decide +kernel
theorem dX3_layOutPlayedBars_111 : decode cX3_layOutPlayedBars 111 = .ok (.iastore, 1) := by decide +kernel
theorem dX3_layOutPlayedBars_112 : decode cX3_layOutPlayedBars 112 = .ok (.iload_n 1, 1) := by decide +kernel
theorem dX3_layOutPlayedBars_113 : decode cX3_layOutPlayedBars 113 = .ok (.aload_n 0, 1) := by decide +kernel
theorem dX3_layOutPlayedBars_114 : decode cX3_layOutPlayedBars 114 = .ok (.getfield 49, 3) := by decide +kernel
theorem dX3_layOutPlayedBars_117 : decode cX3_layOutPlayedBars 117 = .ok (.iconst 4, 1) := by decide +kernel
theorem dX3_layOutPlayedBars_118 : decode cX3_layOutPlayedBars 118 = .ok (.iload_n 2, 1) := by decide +kernel
theorem dX3_layOutPlayedBars_119 : decode cX3_layOutPlayedBars 119 = .ok (.imul, 1) := by decide +kernel
theorem dX3_layOutPlayedBars_120 : decode cX3_layOutPlayedBars 120 = .ok (.iload 4, 2) := by decide +kernel
theorem dX3_layOutPlayedBars_122 : decode cX3_layOutPlayedBars 122 = .ok (.iadd, 1) := by decide +kernel
theorem dX3_layOutPlayedBars_123 : decode cX3_layOutPlayedBars 123 = .ok (.iaload, 1) := by decide +kernel
theorem dX3_layOutPlayedBars_124 : decode cX3_layOutPlayedBars 124 = .ok (.iadd, 1) := by decide +kernel
theorem dX3_layOutPlayedBars_125 : decode cX3_layOutPlayedBars 125 = .ok (.istore_n 1, 1) := by decide +kernel
theorem dX3_layOutPlayedBars_126 : decode cX3_layOutPlayedBars 126 = .ok (.iinc 4 1, 3) := by decide +kernel
theorem dX3_layOutPlayedBars_129 : decode cX3_layOutPlayedBars 129 = .ok (.goto (-67), 3) := by decide +kernel
theorem dX3_layOutPlayedBars_132 : decode cX3_layOutPlayedBars 132 = .ok (.iinc 2 1, 3) := by decide +kernel
theorem dX3_layOutPlayedBars_135 : decode cX3_layOutPlayedBars 135 = .ok (.goto (-104), 3) := by decide +kernel
theorem dX3_layOutPlayedBars_138 : decode cX3_layOutPlayedBars 138 = .ok (.aload_n 0, 1) := by decide +kernel
theorem dX3_layOutPlayedBars_139 : decode cX3_layOutPlayedBars 139 = .ok (.getfield 43, 3) := by decide +kernel
theorem dX3_layOutPlayedBars_142 : decode cX3_layOutPlayedBars 142 = .ok (.aload_n 0, 1) := by decide +kernel
theorem dX3_layOutPlayedBars_143 : decode cX3_layOutPlayedBars 143 = .ok (.getfield 87, 3) := by decide +kernel
theorem dX3_layOutPlayedBars_146 : decode cX3_layOutPlayedBars 146 = .ok (.iload_n 1, 1) := by decide +kernel
theorem dX3_layOutPlayedBars_147 : decode cX3_layOutPlayedBars 147 = .ok (.iastore, 1) := by decide +kernel
theorem dX3_layOutPlayedBars_148 : decode cX3_layOutPlayedBars 148 = .ok (.aload_n 0, 1) := by decide +kernel
theorem dX3_layOutPlayedBars_149 : decode cX3_layOutPlayedBars 149 = .ok (.getfield 46, 3) := by decide +kernel
theorem dX3_layOutPlayedBars_152 : decode cX3_layOutPlayedBars 152 = .ok (.aload_n 0, 1) := by decide +kernel
theorem dX3_layOutPlayedBars_153 : decode cX3_layOutPlayedBars 153 = .ok (.getfield 87, 3) := by decide +kernel
theorem dX3_layOutPlayedBars_156 : decode cX3_layOutPlayedBars 156 = .ok (.iconst 0, 1) := by decide +kernel
theorem dX3_layOutPlayedBars_157 : decode cX3_layOutPlayedBars 157 = .ok (.iastore, 1) := by decide +kernel
theorem dX3_layOutPlayedBars_158 : decode cX3_layOutPlayedBars 158 = .ok (.aload_n 0, 1) := by decide +kernel
theorem dX3_layOutPlayedBars_159 : decode cX3_layOutPlayedBars 159 = .ok (.getfield 87, 3) := by decide +kernel
theorem dX3_layOutPlayedBars_162 : decode cX3_layOutPlayedBars 162 = .ok (.iconst 1, 1) := by decide +kernel
theorem dX3_layOutPlayedBars_163 : decode cX3_layOutPlayedBars 163 = .ok (.isub, 1) := by decide +kernel
theorem dX3_layOutPlayedBars_164 : decode cX3_layOutPlayedBars 164 = .ok (.istore_n 2, 1) := by decide +kernel
theorem dX3_layOutPlayedBars_165 : decode cX3_layOutPlayedBars 165 = .ok (.iload_n 2, 1) := by decide +kernel
theorem dX3_layOutPlayedBars_166 : decode cX3_layOutPlayedBars 166 = .ok (.ifCond .lt 44, 3) := by decide +kernel
theorem dX3_layOutPlayedBars_169 : decode cX3_layOutPlayedBars 169 = .ok (.aload_n 0, 1) := by decide +kernel
theorem dX3_layOutPlayedBars_170 : decode cX3_layOutPlayedBars 170 = .ok (.getfield 46, 3) := by decide +kernel
theorem dX3_layOutPlayedBars_173 : decode cX3_layOutPlayedBars 173 = .ok (.iload_n 2, 1) := by decide +kernel
theorem dX3_layOutPlayedBars_174 : decode cX3_layOutPlayedBars 174 = .ok (.aload_n 0, 1) := by decide +kernel
theorem dX3_layOutPlayedBars_175 : decode cX3_layOutPlayedBars 175 = .ok (.getfield 30, 3) := by decide +kernel
theorem dX3_layOutPlayedBars_178 : decode cX3_layOutPlayedBars 178 = .ok (.aload_n 0, 1) := by decide +kernel
theorem dX3_layOutPlayedBars_179 : decode cX3_layOutPlayedBars 179 = .ok (.getfield 40, 3) := by decide +kernel
theorem dX3_layOutPlayedBars_182 : decode cX3_layOutPlayedBars 182 = .ok (.iload_n 2, 1) := by decide +kernel
theorem dX3_layOutPlayedBars_183 : decode cX3_layOutPlayedBars 183 = .ok (.iaload, 1) := by decide +kernel
theorem dX3_layOutPlayedBars_184 : decode cX3_layOutPlayedBars 184 = .ok (.iaload, 1) := by decide +kernel
theorem dX3_layOutPlayedBars_185 : decode cX3_layOutPlayedBars 185 = .ok (.iconst 4, 1) := by decide +kernel
theorem dX3_layOutPlayedBars_186 : decode cX3_layOutPlayedBars 186 = .ok (.if_icmp .ne 16, 3) := by decide +kernel
theorem dX3_layOutPlayedBars_189 : decode cX3_layOutPlayedBars 189 = .ok (.aload_n 0, 1) := by decide +kernel
theorem dX3_layOutPlayedBars_190 : decode cX3_layOutPlayedBars 190 = .ok (.getfield 46, 3) := by decide +kernel
theorem dX3_layOutPlayedBars_193 : decode cX3_layOutPlayedBars 193 = .ok (.iload_n 2, 1) := by decide +kernel
theorem dX3_layOutPlayedBars_194 : decode cX3_layOutPlayedBars 194 = .ok (.iconst 1, 1) := by decide +kernel
theorem dX3_layOutPlayedBars_195 : decode cX3_layOutPlayedBars 195 = .ok (.iadd, 1) := by decide +kernel
theorem dX3_layOutPlayedBars_196 : decode cX3_layOutPlayedBars 196 = .ok (.iaload, 1) := by decide +kernel
theorem dX3_layOutPlayedBars_197 : decode cX3_layOutPlayedBars 197 = .ok (.iconst 1, 1) := by decide +kernel
theorem dX3_layOutPlayedBars_198 : decode cX3_layOutPlayedBars 198 = .ok (.iadd, 1) := by decide +kernel
theorem dX3_layOutPlayedBars_199 : decode cX3_layOutPlayedBars 199 = .ok (.goto 4, 3) := by decide +kernel
theorem dX3_layOutPlayedBars_202 : decode cX3_layOutPlayedBars 202 = .ok (.iconst 0, 1) := by decide +kernel
theorem dX3_layOutPlayedBars_203 : decode cX3_layOutPlayedBars 203 = .ok (.iastore, 1) := by decide +kernel
theorem dX3_layOutPlayedBars_204 : decode cX3_layOutPlayedBars 204 = .ok (.iinc 2 (-1), 3) := by decide +kernel
theorem dX3_layOutPlayedBars_207 : decode cX3_layOutPlayedBars 207 = .ok (.goto (-42), 3) := by decide +kernel
theorem dX3_layOutPlayedBars_210 : decode cX3_layOutPlayedBars 210 = .ok (.return_, 1) := by decide +kernel
set_option maxRecDepth 20000 in
theorem ggX3_lasting_J9_floorDiv_7cf53 : GoodIn wsX3_lasting wsJ9_floorDiv_7cf53 := goodIn_r _ [14] (by decide +kernel) (by decide +kernel)
set_option maxRecDepth 20000 in
theorem gX3_lasting_J9_floorDiv_7cf53 : GoodIn wsX3_lasting (va_wsS RX3 93 yJ9_floorDiv_7cf53 wsJ9_floorDiv_7cf53) := goodIn_app (goodIn_of _ (by decide +kernel)) ggX3_lasting_J9_floorDiv_7cf53
theorem dX3_lasting_0 : decode cX3_lasting 0 = .ok (.aload_n 0, 1) := by decide +kernel
theorem dX3_lasting_1 : decode cX3_lasting 1 = .ok (.getfield 55, 3) := by decide +kernel
theorem dX3_lasting_4 : decode cX3_lasting 4 = .ok (.lookupswitch 84 #[(1, 28), (2, 56)], 28) := by decide +kernel
theorem dX3_lasting_32 : decode cX3_lasting 32 = .ok (.iload_n 1, 1) := by decide +kernel
theorem dX3_lasting_33 : decode cX3_lasting 33 = .ok (.iconst 2, 1) := by decide +kernel
theorem dX3_lasting_34 : decode cX3_lasting 34 = .ok (.irem, 1) := by decide +kernel
theorem dX3_lasting_35 : decode cX3_lasting 35 = .ok (.ifCond .ne 15, 3) := by decide +kernel
theorem dX3_lasting_38 : decode cX3_lasting 38 = .ok (.aload_n 0, 1) := by decide +kernel
theorem dX3_lasting_39 : decode cX3_lasting 39 = .ok (.getfield 61, 3) := by decide +kernel
theorem dX3_lasting_42 : decode cX3_lasting 42 = .ok (.aload_n 0, 1) := by decide +kernel
theorem dX3_lasting_43 : decode cX3_lasting 43 = .ok (.getfield 64, 3) := by decide +kernel
theorem dX3_lasting_46 : decode cX3_lasting 46 = .ok (.iadd, 1) := by decide +kernel
theorem dX3_lasting_47 : decode cX3_lasting 47 = .ok (.goto 12, 3) := by decide +kernel
theorem dX3_lasting_50 : decode cX3_lasting 50 = .ok (.aload_n 0, 1) := by decide +kernel
theorem dX3_lasting_51 : decode cX3_lasting 51 = .ok (.getfield 61, 3) := by decide +kernel
theorem dX3_lasting_54 : decode cX3_lasting 54 = .ok (.aload_n 0, 1) := by decide +kernel
theorem dX3_lasting_55 : decode cX3_lasting 55 = .ok (.getfield 64, 3) := by decide +kernel
theorem dX3_lasting_58 : decode cX3_lasting 58 = .ok (.isub, 1) := by decide +kernel
theorem dX3_lasting_59 : decode cX3_lasting 59 = .ok (.ireturn, 1) := by decide +kernel
theorem dX3_lasting_60 : decode cX3_lasting 60 = .ok (.bipush 20, 2) := by decide +kernel
theorem dX3_lasting_62 : decode cX3_lasting 62 = .ok (.sipush 400, 3) := by decide +kernel
theorem dX3_lasting_65 : decode cX3_lasting 65 = .ok (.aload_n 0, 1) := by decide +kernel
theorem dX3_lasting_66 : decode cX3_lasting 66 = .ok (.getfield 61, 3) := by decide +kernel
theorem dX3_lasting_69 : decode cX3_lasting 69 = .ok (.iload_n 1, 1) := by decide +kernel
theorem dX3_lasting_70 : decode cX3_lasting 70 = .ok (.aload_n 0, 1) := by decide +kernel
theorem dX3_lasting_71 : decode cX3_lasting 71 = .ok (.getfield 64, 3) := by decide +kernel
theorem dX3_lasting_74 : decode cX3_lasting 74 = .ok (.imul, 1) := by decide +kernel
theorem dX3_lasting_75 : decode cX3_lasting 75 = .ok (.bipush 16, 2) := by decide +kernel
theorem dX3_lasting_77 : decode cX3_lasting 77 = .ok (.invokestatic 93, 3) := by decide +kernel
theorem dX3_lasting_80 : decode cX3_lasting 80 = .ok (.iadd, 1) := by decide +kernel
theorem dX3_lasting_81 : decode cX3_lasting 81 = .ok (.invokestatic 99, 3) := by decide +kernel
theorem dX3_lasting_84 : decode cX3_lasting 84 = .ok (.invokestatic 102, 3) := by decide +kernel
theorem dX3_lasting_87 : decode cX3_lasting 87 = .ok (.ireturn, 1) := by decide +kernel
theorem dX3_lasting_88 : decode cX3_lasting 88 = .ok (.aload_n 0, 1) := by decide +kernel
theorem dX3_lasting_89 : decode cX3_lasting 89 = .ok (.getfield 61, 3) := by decide +kernel
theorem dX3_lasting_92 : decode cX3_lasting 92 = .ok (.ireturn, 1) := by decide +kernel
theorem dX3_barPlayed_0 : decode cX3_barPlayed 0 = .ok (.aload_n 0, 1) := by decide +kernel
theorem dX3_barPlayed_1 : decode cX3_barPlayed 1 = .ok (.getfield 24, 3) := by decide +kernel
theorem dX3_barPlayed_4 : decode cX3_barPlayed 4 = .ok (.aload_n 0, 1) := by decide +kernel
theorem dX3_barPlayed_5 : decode cX3_barPlayed 5 = .ok (.getfield 21, 3) := by decide +kernel
theorem dX3_barPlayed_8 : decode cX3_barPlayed 8 = .ok (.isub, 1) := by decide +kernel
theorem dX3_barPlayed_9 : decode cX3_barPlayed 9 = .ok (.iconst 1, 1) := by decide +kernel
theorem dX3_barPlayed_10 : decode cX3_barPlayed 10 = .ok (.iadd, 1) := by decide +kernel
theorem dX3_barPlayed_11 : decode cX3_barPlayed 11 = .ok (.istore_n 2, 1) := by decide +kernel
theorem dX3_barPlayed_12 : decode cX3_barPlayed 12 = .ok (.iload_n 1, 1) := by decide +kernel
theorem dX3_barPlayed_13 : decode cX3_barPlayed 13 = .ok (.aload_n 0, 1) := by decide +kernel
theorem dX3_barPlayed_14 : decode cX3_barPlayed 14 = .ok (.getfield 21, 3) := by decide +kernel
theorem dX3_barPlayed_17 : decode cX3_barPlayed 17 = .ok (.if_icmp .ge 5, 3) := by decide +kernel
theorem dX3_barPlayed_20 : decode cX3_barPlayed 20 = .ok (.iload_n 1, 1) := by decide +kernel
theorem dX3_barPlayed_21 : decode cX3_barPlayed 21 = .ok (.ireturn, 1) := by decide +kernel
theorem dX3_barPlayed_22 : decode cX3_barPlayed 22 = .ok (.iload_n 1, 1) := by decide +kernel
theorem dX3_barPlayed_23 : decode cX3_barPlayed 23 = .ok (.aload_n 0, 1) := by decide +kernel
theorem dX3_barPlayed_24 : decode cX3_barPlayed 24 = .ok (.getfield 21, 3) := by decide +kernel
theorem dX3_barPlayed_27 : decode cX3_barPlayed 27 = .ok (.aload_n 0, 1) := by decide +kernel
theorem dX3_barPlayed_28 : decode cX3_barPlayed 28 = .ok (.getfield 27, 3) := by decide +kernel
theorem dX3_barPlayed_31 : decode cX3_barPlayed 31 = .ok (.iload_n 2, 1) := by decide +kernel
theorem dX3_barPlayed_32 : decode cX3_barPlayed 32 = .ok (.imul, 1) := by decide +kernel
theorem dX3_barPlayed_33 : decode cX3_barPlayed 33 = .ok (.iadd, 1) := by decide +kernel
theorem dX3_barPlayed_34 : decode cX3_barPlayed 34 = .ok (.if_icmp .ge 17, 3) := by decide +kernel
theorem dX3_barPlayed_37 : decode cX3_barPlayed 37 = .ok (.aload_n 0, 1) := by decide +kernel
theorem dX3_barPlayed_38 : decode cX3_barPlayed 38 = .ok (.getfield 21, 3) := by decide +kernel
theorem dX3_barPlayed_41 : decode cX3_barPlayed 41 = .ok (.iload_n 1, 1) := by decide +kernel
theorem dX3_barPlayed_42 : decode cX3_barPlayed 42 = .ok (.aload_n 0, 1) := by decide +kernel
theorem dX3_barPlayed_43 : decode cX3_barPlayed 43 = .ok (.getfield 21, 3) := by decide +kernel
theorem dX3_barPlayed_46 : decode cX3_barPlayed 46 = .ok (.isub, 1) := by decide +kernel
theorem dX3_barPlayed_47 : decode cX3_barPlayed 47 = .ok (.iload_n 2, 1) := by decide +kernel
theorem dX3_barPlayed_48 : decode cX3_barPlayed 48 = .ok (.irem, 1) := by decide +kernel
theorem dX3_barPlayed_49 : decode cX3_barPlayed 49 = .ok (.iadd, 1) := by decide +kernel
theorem dX3_barPlayed_50 : decode cX3_barPlayed 50 = .ok (.ireturn, 1) := by decide +kernel
theorem dX3_barPlayed_51 : decode cX3_barPlayed 51 = .ok (.iload_n 1, 1) := by decide +kernel
theorem dX3_barPlayed_52 : decode cX3_barPlayed 52 = .ok (.aload_n 0, 1) := by decide +kernel
theorem dX3_barPlayed_53 : decode cX3_barPlayed 53 = .ok (.getfield 27, 3) := by decide +kernel
theorem dX3_barPlayed_56 : decode cX3_barPlayed 56 = .ok (.iconst 1, 1) := by decide +kernel
theorem dX3_barPlayed_57 : decode cX3_barPlayed 57 = .ok (.isub, 1) := by decide +kernel
theorem dX3_barPlayed_58 : decode cX3_barPlayed 58 = .ok (.iload_n 2, 1) := by decide +kernel
theorem dX3_barPlayed_59 : decode cX3_barPlayed 59 = .ok (.imul, 1) := by decide +kernel
theorem dX3_barPlayed_60 : decode cX3_barPlayed 60 = .ok (.isub, 1) := by decide +kernel
theorem dX3_barPlayed_61 : decode cX3_barPlayed 61 = .ok (.ireturn, 1) := by decide +kernel
theorem dX4_init_0 : decode cX4_init 0 = .ok (.aload_n 0, 1) := by decide +kernel
theorem dX4_init_1 : decode cX4_init 1 = .ok (.invokespecial 3, 3) := by decide +kernel
theorem dX4_init_4 : decode cX4_init 4 = .ok (.aload_n 0, 1) := by decide +kernel
theorem dX4_init_5 : decode cX4_init 5 = .ok (.bipush 60, 2) := by decide +kernel
theorem dX4_init_7 : decode cX4_init 7 = .ok (.newarray .int, 2) := by decide +kernel
theorem dX4_init_9 : decode cX4_init 9 = .ok (.putfield 11, 3) := by decide +kernel
theorem dX4_init_12 : decode cX4_init 12 = .ok (.aload_n 0, 1) := by decide +kernel
theorem dX4_init_13 : decode cX4_init 13 = .ok (.iconst 0, 1) := by decide +kernel
theorem dX4_init_14 : decode cX4_init 14 = .ok (.putfield 15, 3) := by decide +kernel
theorem dX4_init_17 : decode cX4_init 17 = .ok (.aload_n 0, 1) := by decide +kernel
theorem dX4_init_18 : decode cX4_init 18 = .ok (.bipush 60, 2) := by decide +kernel
theorem dX4_init_20 : decode cX4_init 20 = .ok (.newarray .int, 2) := by decide +kernel
theorem dX4_init_22 : decode cX4_init 22 = .ok (.putfield 19, 3) := by decide +kernel
theorem dX4_init_25 : decode cX4_init 25 = .ok (.aload_n 0, 1) := by decide +kernel
theorem dX4_init_26 : decode cX4_init 26 = .ok (.bipush 60, 2) := by decide +kernel
theorem dX4_init_28 : decode cX4_init 28 = .ok (.newarray .int, 2) := by decide +kernel
theorem dX4_init_30 : decode cX4_init 30 = .ok (.putfield 22, 3) := by decide +kernel
theorem dX4_init_33 : decode cX4_init 33 = .ok (.aload_n 0, 1) := by decide +kernel
theorem dX4_init_34 : decode cX4_init 34 = .ok (.bipush 60, 2) := by decide +kernel
theorem dX4_init_36 : decode cX4_init 36 = .ok (.newarray .int, 2) := by decide +kernel
theorem dX4_init_38 : decode cX4_init 38 = .ok (.putfield 25, 3) := by decide +kernel
theorem dX4_init_41 : decode cX4_init 41 = .ok (.aload_n 0, 1) := by decide +kernel
theorem dX4_init_42 : decode cX4_init 42 = .ok (.iconst 0, 1) := by decide +kernel
theorem dX4_init_43 : decode cX4_init 43 = .ok (.putfield 28, 3) := by decide +kernel
theorem dX4_init_46 : decode cX4_init 46 = .ok (.return_, 1) := by decide +kernel
set_option maxRecDepth 20000 in
theorem ggX4_add_X5_within : GoodIn wsX4_add wsX5_within := goodIn_r _ [6] (by decide +kernel) (by decide +kernel)
set_option maxRecDepth 20000 in
theorem gX4_add_X5_within_n32 : GoodIn wsX4_add (wsX5_within) := ggX4_add_X5_within
theorem dX4_add_0 : decode cX4_add 0 = .ok (.aload_n 0, 1) := by decide +kernel
theorem dX4_add_1 : decode cX4_add 1 = .ok (.getfield 15, 3) := by decide +kernel
theorem dX4_add_4 : decode cX4_add 4 = .ok (.bipush 60, 2) := by decide +kernel
theorem dX4_add_6 : decode cX4_add 6 = .ok (.if_icmp .ge 35, 3) := by decide +kernel
theorem dX4_add_9 : decode cX4_add 9 = .ok (.iload_n 1, 1) := by decide +kernel
theorem dX4_add_10 : decode cX4_add 10 = .ok (.iconst 0, 1) := by decide +kernel
theorem dX4_add_11 : decode cX4_add 11 = .ok (.ldc 31, 2) := by decide +kernel
theorem dX4_add_13 : decode cX4_add 13 = .ok (.invokestatic 32, 3) := by decide +kernel
theorem dX4_add_16 : decode cX4_add 16 = .ok (.ifCond .eq 25, 3) := by decide +kernel
theorem dX4_add_19 : decode cX4_add 19 = .ok (.aload_n 0, 1) := by decide +kernel
theorem dX4_add_20 : decode cX4_add 20 = .ok (.getfield 15, 3) := by decide +kernel
theorem dX4_add_23 : decode cX4_add 23 = .ok (.ifCond .le 20, 3) := by decide +kernel
theorem dX4_add_26 : decode cX4_add 26 = .ok (.iload_n 1, 1) := by decide +kernel
theorem dX4_add_27 : decode cX4_add 27 = .ok (.aload_n 0, 1) := by decide +kernel
theorem dX4_add_28 : decode cX4_add 28 = .ok (.getfield 11, 3) := by decide +kernel
theorem dX4_add_31 : decode cX4_add 31 = .ok (.aload_n 0, 1) := by decide +kernel
theorem dX4_add_32 : decode cX4_add 32 = .ok (.getfield 15, 3) := by decide +kernel
theorem dX4_add_35 : decode cX4_add 35 = .ok (.iconst 1, 1) := by decide +kernel
theorem dX4_add_36 : decode cX4_add 36 = .ok (.isub, 1) := by decide +kernel
theorem dX4_add_37 : decode cX4_add 37 = .ok (.iaload, 1) := by decide +kernel
theorem dX4_add_38 : decode cX4_add 38 = .ok (.if_icmp .gt 5, 3) := by decide +kernel
theorem dX4_add_41 : decode cX4_add 41 = .ok (.iconst (-1), 1) := by decide +kernel
theorem dX4_add_42 : decode cX4_add 42 = .ok (.ireturn, 1) := by decide +kernel
theorem dX4_add_43 : decode cX4_add 43 = .ok (.aload_n 0, 1) := by decide +kernel
theorem dX4_add_44 : decode cX4_add 44 = .ok (.getfield 11, 3) := by decide +kernel
theorem dX4_add_47 : decode cX4_add 47 = .ok (.aload_n 0, 1) := by decide +kernel
theorem dX4_add_48 : decode cX4_add 48 = .ok (.getfield 15, 3) := by decide +kernel
theorem dX4_add_51 : decode cX4_add 51 = .ok (.iload_n 1, 1) := by decide +kernel
theorem dX4_add_52 : decode cX4_add 52 = .ok (.iastore, 1) := by decide +kernel
theorem dX4_add_53 : decode cX4_add 53 = .ok (.aload_n 0, 1) := by decide +kernel
theorem dX4_add_54 : decode cX4_add 54 = .ok (.dup, 1) := by decide +kernel
theorem dX4_add_55 : decode cX4_add 55 = .ok (.getfield 15, 3) := by decide +kernel
theorem dX4_add_58 : decode cX4_add 58 = .ok (.iconst 1, 1) := by decide +kernel
theorem dX4_add_59 : decode cX4_add 59 = .ok (.iadd, 1) := by decide +kernel
theorem dX4_add_60 : decode cX4_add 60 = .ok (.putfield 15, 3) := by decide +kernel
theorem dX4_add_63 : decode cX4_add 63 = .ok (.aload_n 0, 1) := by decide +kernel
theorem dX4_add_64 : decode cX4_add 64 = .ok (.getfield 15, 3) := by decide +kernel
theorem dX4_add_67 : decode cX4_add 67 = .ok (.ireturn, 1) := by decide +kernel
theorem dX4_empty_0 : decode cX4_empty 0 = .ok (.aload_n 0, 1) := by decide +kernel
theorem dX4_empty_1 : decode cX4_empty 1 = .ok (.getfield 15, 3) := by decide +kernel
theorem dX4_empty_4 : decode cX4_empty 4 = .ok (.istore_n 1, 1) := by decide +kernel
theorem dX4_empty_5 : decode cX4_empty 5 = .ok (.aload_n 0, 1) := by decide +kernel
theorem dX4_empty_6 : decode cX4_empty 6 = .ok (.iconst 0, 1) := by decide +kernel
theorem dX4_empty_7 : decode cX4_empty 7 = .ok (.putfield 15, 3) := by decide +kernel
theorem dX4_empty_10 : decode cX4_empty 10 = .ok (.iload_n 1, 1) := by decide +kernel
theorem dX4_empty_11 : decode cX4_empty 11 = .ok (.ireturn, 1) := by decide +kernel
set_option maxRecDepth 20000 in
theorem ggX4_foundStroke_X5_within : GoodIn wsX4_foundStroke wsX5_within := goodIn_r _ [5] (by decide +kernel) (by decide +kernel)
set_option maxRecDepth 20000 in
theorem gX4_foundStroke_X5_within_n32 : GoodIn wsX4_foundStroke (wsX5_within) := ggX4_foundStroke_X5_within
theorem dX4_foundStroke_0 : decode cX4_foundStroke 0 = .ok (.iload_n 1, 1) := by decide +kernel
theorem dX4_foundStroke_1 : decode cX4_foundStroke 1 = .ok (.iconst 0, 1) := by decide +kernel
theorem dX4_foundStroke_2 : decode cX4_foundStroke 2 = .ok (.aload_n 0, 1) := by decide +kernel
theorem dX4_foundStroke_3 : decode cX4_foundStroke 3 = .ok (.getfield 28, 3) := by decide +kernel
theorem dX4_foundStroke_6 : decode cX4_foundStroke 6 = .ok (.iconst 1, 1) := by decide +kernel
theorem dX4_foundStroke_7 : decode cX4_foundStroke 7 = .ok (.isub, 1) := by decide +kernel
theorem dX4_foundStroke_8 : decode cX4_foundStroke 8 = .ok (.invokestatic 32, 3) := by decide +kernel
theorem dX4_foundStroke_11 : decode cX4_foundStroke 11 = .ok (.ifCond .eq 12, 3) := by decide +kernel
theorem dX4_foundStroke_14 : decode cX4_foundStroke 14 = .ok (.aload_n 0, 1) := by decide +kernel
theorem dX4_foundStroke_15 : decode cX4_foundStroke 15 = .ok (.getfield 25, 3) := by decide +kernel
theorem dX4_foundStroke_18 : decode cX4_foundStroke 18 = .ok (.iload_n 1, 1) := by decide +kernel
theorem dX4_foundStroke_19 : decode cX4_foundStroke 19 = .ok (.iaload, 1) := by decide +kernel
theorem dX4_foundStroke_20 : decode cX4_foundStroke 20 = .ok (.goto 4, 3) := by decide +kernel
theorem dX4_foundStroke_23 : decode cX4_foundStroke 23 = .ok (.iconst (-1), 1) := by decide +kernel
theorem dX4_foundStroke_24 : decode cX4_foundStroke 24 = .ok (.ireturn, 1) := by decide +kernel
set_option maxRecDepth 20000 in
theorem ggX4_seekBeats_X4_chooseNext : GoodIn wsX4_seekBeats wsX4_chooseNext := goodIn_r _ [7, 2, 8, 9, 1, 10, 11, 12, 6, 13, 14, 15, 16, 17, 18, 19, 20, 27, 28, 29, 30, 31, 32] (by decide +kernel) (by decide +kernel)
set_option maxRecDepth 20000 in
theorem gX4_seekBeats_X4_chooseNext : GoodIn wsX4_seekBeats (wsV RX4 36 RX4 yX4_chooseNext wsX4_chooseNext) := goodIn_app (goodIn_of _ (by decide +kernel)) ggX4_seekBeats_X4_chooseNext
set_option maxRecDepth 20000 in
theorem ggX4_seekBeats_X4_keepBeats : GoodIn wsX4_seekBeats wsX4_keepBeats := goodIn_r _ [24, 25, 1, 26, 9, 27, 28, 29, 30, 31, 32] (by decide +kernel) (by decide +kernel)
set_option maxRecDepth 20000 in
theorem gX4_seekBeats_X4_keepBeats : GoodIn wsX4_seekBeats (wsV RX4 40 RX4 yX4_keepBeats wsX4_keepBeats) := goodIn_app (goodIn_of _ (by decide +kernel)) ggX4_seekBeats_X4_keepBeats
theorem dX4_seekBeats_0 : decode cX4_seekBeats 0 = .ok (.aload_n 0, 1) := by decide +kernel
theorem dX4_seekBeats_1 : decode cX4_seekBeats 1 = .ok (.getfield 15, 3) := by decide +kernel
theorem dX4_seekBeats_4 : decode cX4_seekBeats 4 = .ok (.ifCond .ne 5, 3) := by decide +kernel
theorem dX4_seekBeats_7 : decode cX4_seekBeats 7 = .ok (.iconst (-1), 1) := by decide +kernel
theorem dX4_seekBeats_8 : decode cX4_seekBeats 8 = .ok (.ireturn, 1) := by decide +kernel
theorem dX4_seekBeats_9 : decode cX4_seekBeats 9 = .ok (.aload_n 0, 1) := by decide +kernel
theorem dX4_seekBeats_10 : decode cX4_seekBeats 10 = .ok (.getfield 15, 3) := by decide +kernel
theorem dX4_seekBeats_13 : decode cX4_seekBeats 13 = .ok (.iconst 1, 1) := by decide +kernel
theorem dX4_seekBeats_14 : decode cX4_seekBeats 14 = .ok (.isub, 1) := by decide +kernel
theorem dX4_seekBeats_15 : decode cX4_seekBeats 15 = .ok (.istore 4, 2) := by decide +kernel
theorem dX4_seekBeats_17 : decode cX4_seekBeats 17 = .ok (.iload 4, 2) := by decide +kernel
theorem dX4_seekBeats_19 : decode cX4_seekBeats 19 = .ok (.ifCond .lt 18, 3) := by decide +kernel
theorem dX4_seekBeats_22 : decode cX4_seekBeats 22 = .ok (.aload_n 0, 1) := by decide +kernel
theorem dX4_seekBeats_23 : decode cX4_seekBeats 23 = .ok (.iload 4, 2) := by decide +kernel
theorem dX4_seekBeats_25 : decode cX4_seekBeats 25 = .ok (.iload_n 1, 1) := by decide +kernel
theorem dX4_seekBeats_26 : decode cX4_seekBeats 26 = .ok (.iload_n 2, 1) := by decide +kernel
theorem dX4_seekBeats_27 : decode cX4_seekBeats 27 = .ok (.iload_n 3, 1) := by decide +kernel
theorem dX4_seekBeats_28 : decode cX4_seekBeats 28 = .ok (.invokevirtual 36, 3) := by decide +kernel
theorem dX4_seekBeats_31 : decode cX4_seekBeats 31 = .ok (.iinc 4 (-1), 3) := by decide +kernel
theorem dX4_seekBeats_34 : decode cX4_seekBeats 34 = .ok (.goto (-17), 3) := by decide +kernel
theorem dX4_seekBeats_37 : decode cX4_seekBeats 37 = .ok (.iconst 0, 1) := by decide +kernel
theorem dX4_seekBeats_38 : decode cX4_seekBeats 38 = .ok (.istore 4, 2) := by decide +kernel
theorem dX4_seekBeats_40 : decode cX4_seekBeats 40 = .ok (.iconst 1, 1) := by decide +kernel
theorem dX4_seekBeats_41 : decode cX4_seekBeats 41 = .ok (.istore 5, 2) := by decide +kernel
theorem dX4_seekBeats_43 : decode cX4_seekBeats 43 = .ok (.iload 5, 2) := by decide +kernel
theorem dX4_seekBeats_45 : decode cX4_seekBeats 45 = .ok (.aload_n 0, 1) := by decide +kernel
theorem dX4_seekBeats_46 : decode cX4_seekBeats 46 = .ok (.getfield 15, 3) := by decide +kernel
theorem dX4_seekBeats_49 : decode cX4_seekBeats 49 = .ok (.if_icmp .ge 40, 3) := by decide +kernel
theorem dX4_seekBeats_52 : decode cX4_seekBeats 52 = .ok (.iload 5, 2) := by decide +kernel
theorem dX4_seekBeats_54 : decode cX4_seekBeats 54 = .ok (.iload_n 3, 1) := by decide +kernel
theorem dX4_seekBeats_55 : decode cX4_seekBeats 55 = .ok (.imul, 1) := by decide +kernel
theorem dX4_seekBeats_56 : decode cX4_seekBeats 56 = .ok (.aload_n 0, 1) := by decide +kernel
theorem dX4_seekBeats_57 : decode cX4_seekBeats 57 = .ok (.getfield 19, 3) := by decide +kernel
theorem dX4_seekBeats_60 : decode cX4_seekBeats 60 = .ok (.iload 5, 2) := by decide +kernel
theorem dX4_seekBeats_62 : decode cX4_seekBeats 62 = .ok (.iaload, 1) := by decide +kernel
theorem dX4_seekBeats_63 : decode cX4_seekBeats 63 = .ok (.iadd, 1) := by decide +kernel
theorem dX4_seekBeats_64 : decode cX4_seekBeats 64 = .ok (.iload 4, 2) := by decide +kernel
theorem dX4_seekBeats_66 : decode cX4_seekBeats 66 = .ok (.iload_n 3, 1) := by decide +kernel
theorem dX4_seekBeats_67 : decode cX4_seekBeats 67 = .ok (.imul, 1) := by decide +kernel
theorem dX4_seekBeats_68 : decode cX4_seekBeats 68 = .ok (.aload_n 0, 1) := by decide +kernel
theorem dX4_seekBeats_69 : decode cX4_seekBeats 69 = .ok (.getfield 19, 3) := by decide +kernel
theorem dX4_seekBeats_72 : decode cX4_seekBeats 72 = .ok (.iload 4, 2) := by decide +kernel
theorem dX4_seekBeats_74 : decode cX4_seekBeats 74 = .ok (.iaload, 1) := by decide +kernel
theorem dX4_seekBeats_75 : decode cX4_seekBeats 75 = .ok (.iadd, 1) := by decide +kernel
theorem dX4_seekBeats_76 : decode cX4_seekBeats 76 = .ok (.if_icmp .ge 7, 3) := by decide +kernel
theorem dX4_seekBeats_79 : decode cX4_seekBeats 79 = .ok (.iload 5, 2) := by decide +kernel
theorem dX4_seekBeats_81 : decode cX4_seekBeats 81 = .ok (.istore 4, 2) := by decide +kernel
theorem dX4_seekBeats_83 : decode cX4_seekBeats 83 = .ok (.iinc 5 1, 3) := by decide +kernel
theorem dX4_seekBeats_86 : decode cX4_seekBeats 86 = .ok (.goto (-43), 3) := by decide +kernel
theorem dX4_seekBeats_89 : decode cX4_seekBeats 89 = .ok (.aload_n 0, 1) := by decide +kernel
theorem dX4_seekBeats_90 : decode cX4_seekBeats 90 = .ok (.iload 4, 2) := by decide +kernel
theorem dX4_seekBeats_92 : decode cX4_seekBeats 92 = .ok (.invokevirtual 40, 3) := by decide +kernel
theorem dX4_seekBeats_95 : decode cX4_seekBeats 95 = .ok (.iload 4, 2) := by decide +kernel
theorem dX4_seekBeats_97 : decode cX4_seekBeats 97 = .ok (.iload_n 3, 1) := by decide +kernel
theorem dX4_seekBeats_98 : decode cX4_seekBeats 98 = .ok (.imul, 1) := by decide +kernel
theorem dX4_seekBeats_99 : decode cX4_seekBeats 99 = .ok (.aload_n 0, 1) := by decide +kernel
theorem dX4_seekBeats_100 : decode cX4_seekBeats 100 = .ok (.getfield 19, 3) := by decide +kernel
theorem dX4_seekBeats_103 : decode cX4_seekBeats 103 = .ok (.iload 4, 2) := by decide +kernel
theorem dX4_seekBeats_105 : decode cX4_seekBeats 105 = .ok (.iaload, 1) := by decide +kernel
theorem dX4_seekBeats_106 : decode cX4_seekBeats 106 = .ok (.iadd, 1) := by decide +kernel
theorem dX4_seekBeats_107 : decode cX4_seekBeats 107 = .ok (.ireturn, 1) := by decide +kernel
set_option maxRecDepth 20000 in
theorem ggX4_chooseNext_X4_gapCost : GoodIn wsX4_chooseNext wsX4_gapCost := goodIn_r _ [9, 10, 11, 12, 13, 14, 15, 16] (by decide +kernel) (by decide +kernel)
set_option maxRecDepth 20000 in
theorem gX4_chooseNext_X4_gapCost : GoodIn wsX4_chooseNext (va_wsS RX4 45 yX4_gapCost wsX4_gapCost) := goodIn_app (goodIn_of _ (by decide +kernel)) ggX4_chooseNext_X4_gapCost
theorem dX4_chooseNext_0 : decode cX4_chooseNext 0 = .ok (.aload_n 0, 1) := by decide +kernel
theorem dX4_chooseNext_1 : decode cX4_chooseNext 1 = .ok (.getfield 19, 3) := by decide +kernel
theorem dX4_chooseNext_4 : decode cX4_chooseNext 4 = .ok (.iload_n 1, 1) := by decide +kernel
theorem dX4_chooseNext_5 : decode cX4_chooseNext 5 = .ok (.ldc 44, 2) := by decide +kernel
theorem dX4_chooseNext_7 : decode cX4_chooseNext 7 = .ok (.iastore, 1) := by decide +kernel
theorem dX4_chooseNext_8 : decode cX4_chooseNext 8 = .ok (.aload_n 0, 1) := by decide +kernel
theorem dX4_chooseNext_9 : decode cX4_chooseNext 9 = .ok (.getfield 22, 3) := by decide +kernel
theorem dX4_chooseNext_12 : decode cX4_chooseNext 12 = .ok (.iload_n 1, 1) := by decide +kernel
theorem dX4_chooseNext_13 : decode cX4_chooseNext 13 = .ok (.aload_n 0, 1) := by decide +kernel
theorem dX4_chooseNext_14 : decode cX4_chooseNext 14 = .ok (.getfield 15, 3) := by decide +kernel
theorem dX4_chooseNext_17 : decode cX4_chooseNext 17 = .ok (.iastore, 1) := by decide +kernel
theorem dX4_chooseNext_18 : decode cX4_chooseNext 18 = .ok (.iload_n 1, 1) := by decide +kernel
theorem dX4_chooseNext_19 : decode cX4_chooseNext 19 = .ok (.iconst 1, 1) := by decide +kernel
theorem dX4_chooseNext_20 : decode cX4_chooseNext 20 = .ok (.iadd, 1) := by decide +kernel
theorem dX4_chooseNext_21 : decode cX4_chooseNext 21 = .ok (.istore 5, 2) := by decide +kernel
theorem dX4_chooseNext_23 : decode cX4_chooseNext 23 = .ok (.iload 5, 2) := by decide +kernel
theorem dX4_chooseNext_25 : decode cX4_chooseNext 25 = .ok (.aload_n 0, 1) := by decide +kernel
theorem dX4_chooseNext_26 : decode cX4_chooseNext 26 = .ok (.getfield 15, 3) := by decide +kernel
theorem dX4_chooseNext_29 : decode cX4_chooseNext 29 = .ok (.if_icmp .ge 75, 3) := by decide +kernel
theorem dX4_chooseNext_32 : decode cX4_chooseNext 32 = .ok (.iload 5, 2) := by decide +kernel
theorem dX4_chooseNext_34 : decode cX4_chooseNext 34 = .ok (.iload_n 1, 1) := by decide +kernel
theorem dX4_chooseNext_35 : decode cX4_chooseNext 35 = .ok (.isub, 1) := by decide +kernel
theorem dX4_chooseNext_36 : decode cX4_chooseNext 36 = .ok (.iconst 1, 1) := by decide +kernel
theorem dX4_chooseNext_37 : decode cX4_chooseNext 37 = .ok (.isub, 1) := by decide +kernel
theorem dX4_chooseNext_38 : decode cX4_chooseNext 38 = .ok (.iload 4, 2) := by decide +kernel
theorem dX4_chooseNext_40 : decode cX4_chooseNext 40 = .ok (.imul, 1) := by decide +kernel
theorem dX4_chooseNext_41 : decode cX4_chooseNext 41 = .ok (.aload_n 0, 1) := by decide +kernel
theorem dX4_chooseNext_42 : decode cX4_chooseNext 42 = .ok (.getfield 11, 3) := by decide +kernel
theorem dX4_chooseNext_45 : decode cX4_chooseNext 45 = .ok (.iload 5, 2) := by decide +kernel
theorem dX4_chooseNext_47 : decode cX4_chooseNext 47 = .ok (.iaload, 1) := by decide +kernel
theorem dX4_chooseNext_48 : decode cX4_chooseNext 48 = .ok (.aload_n 0, 1) := by decide +kernel
theorem dX4_chooseNext_49 : decode cX4_chooseNext 49 = .ok (.getfield 11, 3) := by decide +kernel
theorem dX4_chooseNext_52 : decode cX4_chooseNext 52 = .ok (.iload_n 1, 1) := by decide +kernel
theorem dX4_chooseNext_53 : decode cX4_chooseNext 53 = .ok (.iaload, 1) := by decide +kernel
theorem dX4_chooseNext_54 : decode cX4_chooseNext 54 = .ok (.isub, 1) := by decide +kernel
theorem dX4_chooseNext_55 : decode cX4_chooseNext 55 = .ok (.iload_n 2, 1) := by decide +kernel
theorem dX4_chooseNext_56 : decode cX4_chooseNext 56 = .ok (.iload_n 3, 1) := by decide +kernel
theorem dX4_chooseNext_57 : decode cX4_chooseNext 57 = .ok (.invokestatic 45, 3) := by decide +kernel
theorem dX4_chooseNext_60 : decode cX4_chooseNext 60 = .ok (.iadd, 1) := by decide +kernel
theorem dX4_chooseNext_61 : decode cX4_chooseNext 61 = .ok (.aload_n 0, 1) := by decide +kernel
theorem dX4_chooseNext_62 : decode cX4_chooseNext 62 = .ok (.getfield 19, 3) := by decide +kernel
theorem dX4_chooseNext_65 : decode cX4_chooseNext 65 = .ok (.iload 5, 2) := by decide +kernel
theorem dX4_chooseNext_67 : decode cX4_chooseNext 67 = .ok (.iaload, 1) := by decide +kernel
theorem dX4_chooseNext_68 : decode cX4_chooseNext 68 = .ok (.iadd, 1) := by decide +kernel
theorem dX4_chooseNext_69 : decode cX4_chooseNext 69 = .ok (.istore 6, 2) := by decide +kernel
theorem dX4_chooseNext_71 : decode cX4_chooseNext 71 = .ok (.iload 6, 2) := by decide +kernel
theorem dX4_chooseNext_73 : decode cX4_chooseNext 73 = .ok (.aload_n 0, 1) := by decide +kernel
theorem dX4_chooseNext_74 : decode cX4_chooseNext 74 = .ok (.getfield 19, 3) := by decide +kernel
theorem dX4_chooseNext_77 : decode cX4_chooseNext 77 = .ok (.iload_n 1, 1) := by decide +kernel
theorem dX4_chooseNext_78 : decode cX4_chooseNext 78 = .ok (.iaload, 1) := by decide +kernel
theorem dX4_chooseNext_79 : decode cX4_chooseNext 79 = .ok (.if_icmp .ge 19, 3) := by decide +kernel
theorem dX4_chooseNext_82 : decode cX4_chooseNext 82 = .ok (.aload_n 0, 1) := by decide +kernel
theorem dX4_chooseNext_83 : decode cX4_chooseNext 83 = .ok (.getfield 19, 3) := by decide +kernel
theorem dX4_chooseNext_86 : decode cX4_chooseNext 86 = .ok (.iload_n 1, 1) := by decide +kernel
theorem dX4_chooseNext_87 : decode cX4_chooseNext 87 = .ok (.iload 6, 2) := by decide +kernel
theorem dX4_chooseNext_89 : decode cX4_chooseNext 89 = .ok (.iastore, 1) := by decide +kernel
theorem dX4_chooseNext_90 : decode cX4_chooseNext 90 = .ok (.aload_n 0, 1) := by decide +kernel
theorem dX4_chooseNext_91 : decode cX4_chooseNext 91 = .ok (.getfield 22, 3) := by decide +kernel
theorem dX4_chooseNext_94 : decode cX4_chooseNext 94 = .ok (.iload_n 1, 1) := by decide +kernel
theorem dX4_chooseNext_95 : decode cX4_chooseNext 95 = .ok (.iload 5, 2) := by decide +kernel
theorem dX4_chooseNext_97 : decode cX4_chooseNext 97 = .ok (.iastore, 1) := by decide +kernel
theorem dX4_chooseNext_98 : decode cX4_chooseNext 98 = .ok (.iinc 5 1, 3) := by decide +kernel
theorem dX4_chooseNext_101 : decode cX4_chooseNext 101 = .ok (.goto (-78), 3) := by decide +kernel
theorem dX4_chooseNext_104 : decode cX4_chooseNext 104 = .ok (.aload_n 0, 1) := by decide +kernel
theorem dX4_chooseNext_105 : decode cX4_chooseNext 105 = .ok (.getfield 15, 3) := by decide +kernel
theorem dX4_chooseNext_108 : decode cX4_chooseNext 108 = .ok (.iconst 1, 1) := by decide +kernel
theorem dX4_chooseNext_109 : decode cX4_chooseNext 109 = .ok (.isub, 1) := by decide +kernel
theorem dX4_chooseNext_110 : decode cX4_chooseNext 110 = .ok (.iload_n 1, 1) := by decide +kernel
theorem dX4_chooseNext_111 : decode cX4_chooseNext 111 = .ok (.isub, 1) := by decide +kernel
theorem dX4_chooseNext_112 : decode cX4_chooseNext 112 = .ok (.iload 4, 2) := by decide +kernel
theorem dX4_chooseNext_114 : decode cX4_chooseNext 114 = .ok (.imul, 1) := by decide +kernel
theorem dX4_chooseNext_115 : decode cX4_chooseNext 115 = .ok (.istore 5, 2) := by decide +kernel
theorem dX4_chooseNext_117 : decode cX4_chooseNext 117 = .ok (.iload 5, 2) := by decide +kernel
theorem dX4_chooseNext_119 : decode cX4_chooseNext 119 = .ok (.aload_n 0, 1) := by decide +kernel
theorem dX4_chooseNext_120 : decode cX4_chooseNext 120 = .ok (.getfield 19, 3) := by decide +kernel
theorem dX4_chooseNext_123 : decode cX4_chooseNext 123 = .ok (.iload_n 1, 1) := by decide +kernel
theorem dX4_chooseNext_124 : decode cX4_chooseNext 124 = .ok (.iaload, 1) := by decide +kernel
theorem dX4_chooseNext_125 : decode cX4_chooseNext 125 = .ok (.if_icmp .ge 21, 3) := by decide +kernel
theorem dX4_chooseNext_128 : decode cX4_chooseNext 128 = .ok (.aload_n 0, 1) := by decide +kernel
theorem dX4_chooseNext_129 : decode cX4_chooseNext 129 = .ok (.getfield 19, 3) := by decide +kernel
theorem dX4_chooseNext_132 : decode cX4_chooseNext 132 = .ok (.iload_n 1, 1) := by decide +kernel
theorem dX4_chooseNext_133 : decode cX4_chooseNext 133 = .ok (.iload 5, 2) := by decide +kernel
theorem dX4_chooseNext_135 : decode cX4_chooseNext 135 = .ok (.iastore, 1) := by decide +kernel
theorem dX4_chooseNext_136 : decode cX4_chooseNext 136 = .ok (.aload_n 0, 1) := by decide +kernel
theorem dX4_chooseNext_137 : decode cX4_chooseNext 137 = .ok (.getfield 22, 3) := by decide +kernel
theorem dX4_chooseNext_140 : decode cX4_chooseNext 140 = .ok (.iload_n 1, 1) := by decide +kernel
theorem dX4_chooseNext_141 : decode cX4_chooseNext 141 = .ok (.aload_n 0, 1) := by decide +kernel
theorem dX4_chooseNext_142 : decode cX4_chooseNext 142 = .ok (.getfield 15, 3) := by decide +kernel
theorem dX4_chooseNext_145 : decode cX4_chooseNext 145 = .ok (.iastore, 1) := by decide +kernel
theorem dX4_chooseNext_146 : decode cX4_chooseNext 146 = .ok (.return_, 1) := by decide +kernel
theorem dX4_gapCost_0 : decode cX4_gapCost 0 = .ok (.iconst 1, 1) := by decide +kernel
theorem dX4_gapCost_1 : decode cX4_gapCost 1 = .ok (.iconst 2, 1) := by decide +kernel
theorem dX4_gapCost_2 : decode cX4_gapCost 2 = .ok (.iload_n 0, 1) := by decide +kernel
theorem dX4_gapCost_3 : decode cX4_gapCost 3 = .ok (.imul, 1) := by decide +kernel
theorem dX4_gapCost_4 : decode cX4_gapCost 4 = .ok (.iload_n 1, 1) := by decide +kernel
theorem dX4_gapCost_5 : decode cX4_gapCost 5 = .ok (.iadd, 1) := by decide +kernel
theorem dX4_gapCost_6 : decode cX4_gapCost 6 = .ok (.iconst 1, 1) := by decide +kernel
theorem dX4_gapCost_7 : decode cX4_gapCost 7 = .ok (.isub, 1) := by decide +kernel
theorem dX4_gapCost_8 : decode cX4_gapCost 8 = .ok (.iconst 2, 1) := by decide +kernel
theorem dX4_gapCost_9 : decode cX4_gapCost 9 = .ok (.iload_n 1, 1) := by decide +kernel
theorem dX4_gapCost_10 : decode cX4_gapCost 10 = .ok (.imul, 1) := by decide +kernel
theorem dX4_gapCost_11 : decode cX4_gapCost 11 = .ok (.idiv, 1) := by decide +kernel
theorem dX4_gapCost_12 : decode cX4_gapCost 12 = .ok (.invokestatic 49, 3) := by decide +kernel
theorem dX4_gapCost_15 : decode cX4_gapCost 15 = .ok (.istore_n 3, 1) := by decide +kernel
theorem dX4_gapCost_16 : decode cX4_gapCost 16 = .ok (.iload_n 0, 1) := by decide +kernel
theorem dX4_gapCost_17 : decode cX4_gapCost 17 = .ok (.iload_n 3, 1) := by decide +kernel
theorem dX4_gapCost_18 : decode cX4_gapCost 18 = .ok (.iload_n 1, 1) := by decide +kernel
theorem dX4_gapCost_19 : decode cX4_gapCost 19 = .ok (.imul, 1) := by decide +kernel
theorem dX4_gapCost_20 : decode cX4_gapCost 20 = .ok (.isub, 1) := by decide +kernel
theorem dX4_gapCost_21 : decode cX4_gapCost 21 = .ok (.invokestatic 55, 3) := by decide +kernel
theorem dX4_gapCost_24 : decode cX4_gapCost 24 = .ok (.iload_n 3, 1) := by decide +kernel
theorem dX4_gapCost_25 : decode cX4_gapCost 25 = .ok (.iconst 1, 1) := by decide +kernel
theorem dX4_gapCost_26 : decode cX4_gapCost 26 = .ok (.isub, 1) := by decide +kernel
theorem dX4_gapCost_27 : decode cX4_gapCost 27 = .ok (.iload_n 2, 1) := by decide +kernel
theorem dX4_gapCost_28 : decode cX4_gapCost 28 = .ok (.imul, 1) := by decide +kernel
theorem dX4_gapCost_29 : decode cX4_gapCost 29 = .ok (.iadd, 1) := by decide +kernel
theorem dX4_gapCost_30 : decode cX4_gapCost 30 = .ok (.ireturn, 1) := by decide +kernel
theorem dX4_keepBeats_0 : decode cX4_keepBeats 0 = .ok (.aload_n 0, 1) := by decide +kernel
theorem dX4_keepBeats_1 : decode cX4_keepBeats 1 = .ok (.iconst 0, 1) := by decide +kernel
theorem dX4_keepBeats_2 : decode cX4_keepBeats 2 = .ok (.putfield 28, 3) := by decide +kernel
theorem dX4_keepBeats_5 : decode cX4_keepBeats 5 = .ok (.iload_n 1, 1) := by decide +kernel
theorem dX4_keepBeats_6 : decode cX4_keepBeats 6 = .ok (.istore_n 2, 1) := by decide +kernel
theorem dX4_keepBeats_7 : decode cX4_keepBeats 7 = .ok (.iload_n 1, 1) := by decide +kernel
theorem dX4_keepBeats_8 : decode cX4_keepBeats 8 = .ok (.istore_n 3, 1) := by decide +kernel
theorem dX4_keepBeats_9 : decode cX4_keepBeats 9 = .ok (.iload_n 3, 1) := by decide +kernel
theorem dX4_keepBeats_10 : decode cX4_keepBeats 10 = .ok (.aload_n 0, 1) := by decide +kernel
theorem dX4_keepBeats_11 : decode cX4_keepBeats 11 = .ok (.getfield 15, 3) := by decide +kernel
theorem dX4_keepBeats_14 : decode cX4_keepBeats 14 = .ok (.if_icmp .ge 41, 3) := by decide +kernel
theorem dX4_keepBeats_17 : decode cX4_keepBeats 17 = .ok (.iload_n 3, 1) := by decide +kernel
theorem dX4_keepBeats_18 : decode cX4_keepBeats 18 = .ok (.iload_n 2, 1) := by decide +kernel
theorem dX4_keepBeats_19 : decode cX4_keepBeats 19 = .ok (.if_icmp .ne 30, 3) := by decide +kernel
theorem dX4_keepBeats_22 : decode cX4_keepBeats 22 = .ok (.aload_n 0, 1) := by decide +kernel
theorem dX4_keepBeats_23 : decode cX4_keepBeats 23 = .ok (.getfield 25, 3) := by decide +kernel
theorem dX4_keepBeats_26 : decode cX4_keepBeats 26 = .ok (.aload_n 0, 1) := by decide +kernel
theorem dX4_keepBeats_27 : decode cX4_keepBeats 27 = .ok (.getfield 28, 3) := by decide +kernel
theorem dX4_keepBeats_30 : decode cX4_keepBeats 30 = .ok (.iload_n 3, 1) := by decide +kernel
theorem dX4_keepBeats_31 : decode cX4_keepBeats 31 = .ok (.iastore, 1) := by decide +kernel
theorem dX4_keepBeats_32 : decode cX4_keepBeats 32 = .ok (.aload_n 0, 1) := by decide +kernel
theorem dX4_keepBeats_33 : decode cX4_keepBeats 33 = .ok (.dup, 1) := by decide +kernel
theorem dX4_keepBeats_34 : decode cX4_keepBeats 34 = .ok (.getfield 28, 3) := by decide +kernel
theorem dX4_keepBeats_37 : decode cX4_keepBeats 37 = .ok (.iconst 1, 1) := by decide +kernel
theorem dX4_keepBeats_38 : decode cX4_keepBeats 38 = .ok (.iadd, 1) := by decide +kernel
theorem dX4_keepBeats_39 : decode cX4_keepBeats 39 = .ok (.putfield 28, 3) := by decide +kernel
theorem dX4_keepBeats_42 : decode cX4_keepBeats 42 = .ok (.aload_n 0, 1) := by decide +kernel
theorem dX4_keepBeats_43 : decode cX4_keepBeats 43 = .ok (.getfield 22, 3) := by decide +kernel
theorem dX4_keepBeats_46 : decode cX4_keepBeats 46 = .ok (.iload_n 3, 1) := by decide +kernel
theorem dX4_keepBeats_47 : decode cX4_keepBeats 47 = .ok (.iaload, 1) := by decide +kernel
theorem dX4_keepBeats_48 : decode cX4_keepBeats 48 = .ok (.istore_n 2, 1) := by decide +kernel
theorem dX4_keepBeats_49 : decode cX4_keepBeats 49 = .ok (.iinc 3 1, 3) := by decide +kernel
theorem dX4_keepBeats_52 : decode cX4_keepBeats 52 = .ok (.goto (-43), 3) := by decide +kernel
theorem dX4_keepBeats_55 : decode cX4_keepBeats 55 = .ok (.return_, 1) := by decide +kernel
set_option maxRecDepth 20000 in
theorem ggX5_init_X4_init : GoodIn wsX5_init wsX4_init := goodIn_r _ [25, 26, 2, 3, 6, 27, 28, 29, 30, 31, 32, 76, 77, 78, 79, 80, 81] (by decide +kernel) (by decide +kernel)
set_option maxRecDepth 20000 in
theorem gX5_init_X4_init_n21 : GoodIn wsX5_init (wsX4_init) := ggX5_init_X4_init
set_option maxRecDepth 20000 in
theorem ggX5_init_X0_init : GoodIn wsX5_init wsX0_init := goodIn_r _ [35, 36, 2, 3, 37, 38, 39, 6, 40, 41, 42, 43, 44, 45, 46, 47, 48, 82, 83, 84, 85, 86, 87, 88, 89] (by decide +kernel) (by decide +kernel)
set_option maxRecDepth 20000 in
theorem gX5_init_X0_init : GoodIn wsX5_init (wsX0_init) := ggX5_init_X0_init
set_option maxRecDepth 20000 in
theorem ggX5_init_X1_init : GoodIn wsX5_init wsX1_init := goodIn_r _ [50, 51, 2, 3, 52, 6, 53, 54, 55, 90, 91, 92, 93] (by decide +kernel) (by decide +kernel)
set_option maxRecDepth 20000 in
theorem gX5_init_X1_init_n35 : GoodIn wsX5_init (wsX1_init) := ggX5_init_X1_init
set_option maxRecDepth 20000 in
theorem ggX5_init_X2_init : GoodIn wsX5_init wsX2_init := goodIn_r _ [57, 58, 2, 3, 59, 60, 61, 6, 62, 63, 64, 65, 66, 67, 68, 69, 94, 95, 96, 97, 98, 99, 100, 101] (by decide +kernel) (by decide +kernel)
set_option maxRecDepth 20000 in
theorem gX5_init_X2_init_n42 : GoodIn wsX5_init (wsX2_init) := ggX5_init_X2_init
theorem dX5_init_0 : decode cX5_init 0 = .ok (.aload_n 0, 1) := by decide +kernel
theorem dX5_init_1 : decode cX5_init 1 = .ok (.invokespecial 1, 3) := by decide +kernel
theorem dX5_init_4 : decode cX5_init 4 = .ok (.aload_n 0, 1) := by decide +kernel
theorem dX5_init_5 : decode cX5_init 5 = .ok (.bipush 12, 2) := by decide +kernel
theorem dX5_init_7 : decode cX5_init 7 = .ok (.anewarray 9, 3) := by decide +kernel
theorem dX5_init_10 : decode cX5_init 10 = .ok (.putfield 11, 3) := by decide +kernel
theorem dX5_init_13 : decode cX5_init 13 = .ok (.aload_n 0, 1) := by decide +kernel
theorem dX5_init_14 : decode cX5_init 14 = .ok (.sipush 144, 3) := by decide +kernel
theorem dX5_init_17 : decode cX5_init 17 = .ok (.newarray .int, 2) := by decide +kernel
theorem dX5_init_19 : decode cX5_init 19 = .ok (.putfield 15, 3) := by decide +kernel
theorem dX5_init_22 : decode cX5_init 22 = .ok (.aload_n 0, 1) := by decide +kernel
theorem dX5_init_23 : decode cX5_init 23 = .ok (.new 19, 3) := by decide +kernel
theorem dX5_init_26 : decode cX5_init 26 = .ok (.dup, 1) := by decide +kernel
theorem dX5_init_27 : decode cX5_init 27 = .ok (.invokespecial 21, 3) := by decide +kernel
theorem dX5_init_30 : decode cX5_init 30 = .ok (.putfield 22, 3) := by decide +kernel
theorem dX5_init_33 : decode cX5_init 33 = .ok (.aload_n 0, 1) := by decide +kernel
theorem dX5_init_34 : decode cX5_init 34 = .ok (.new 26, 3) := by decide +kernel
theorem dX5_init_37 : decode cX5_init 37 = .ok (.dup, 1) := by decide +kernel
theorem dX5_init_38 : decode cX5_init 38 = .ok (.invokespecial 28, 3) := by decide +kernel
theorem dX5_init_41 : decode cX5_init 41 = .ok (.putfield 29, 3) := by decide +kernel
theorem dX5_init_44 : decode cX5_init 44 = .ok (.aload_n 0, 1) := by decide +kernel
theorem dX5_init_45 : decode cX5_init 45 = .ok (.new 33, 3) := by decide +kernel
theorem dX5_init_48 : decode cX5_init 48 = .ok (.dup, 1) := by decide +kernel
theorem dX5_init_49 : decode cX5_init 49 = .ok (.invokespecial 35, 3) := by decide +kernel
theorem dX5_init_52 : decode cX5_init 52 = .ok (.putfield 36, 3) := by decide +kernel
theorem dX5_init_55 : decode cX5_init 55 = .ok (.aload_n 0, 1) := by decide +kernel
theorem dX5_init_56 : decode cX5_init 56 = .ok (.new 40, 3) := by decide +kernel
theorem dX5_init_59 : decode cX5_init 59 = .ok (.dup, 1) := by decide +kernel
theorem dX5_init_60 : decode cX5_init 60 = .ok (.invokespecial 42, 3) := by decide +kernel
theorem dX5_init_63 : decode cX5_init 63 = .ok (.putfield 43, 3) := by decide +kernel
theorem dX5_init_66 : decode cX5_init 66 = .ok (.return_, 1) := by decide +kernel
set_option maxRecDepth 20000 in
theorem ggX5_song_X5_within : GoodIn wsX5_song wsX5_within := goodIn_r _ [8] (by decide +kernel) (by decide +kernel)
set_option maxRecDepth 20000 in
theorem gX5_song_X5_within : GoodIn wsX5_song (va_wsS RX5 47 yX5_within wsX5_within) := goodIn_app (goodIn_of _ (by decide +kernel)) ggX5_song_X5_within
end
section
set_option maxRecDepth 20000 in
theorem ggX5_song_X5_canBeSong : GoodIn wsX5_song wsX5_canBeSong := goodIn_r _ [11, 5, 6, 7, 8] (by decide +kernel) (by decide +kernel)
set_option maxRecDepth 20000 in
theorem gX5_song_X5_canBeSong : GoodIn wsX5_song (va_wsS RX5 51 yX5_canBeSong wsX5_canBeSong) := goodIn_app (goodIn_of _ (by decide +kernel)) ggX5_song_X5_canBeSong
set_option maxRecDepth 20000 in
theorem ggX5_song_X5_forgetSong : GoodIn wsX5_song wsX5_forgetSong := goodIn_r _ [15, 16, 17, 18, 19, 20, 21, 22, 23, 24, 25, 26, 84, 85, 86, 87, 88, 89, 109, 110, 111, 112, 113, 114, 115, 116] (by decide +kernel) (by decide +kernel)
set_option maxRecDepth 20000 in
theorem gX5_song_X5_forgetSong : GoodIn wsX5_song (wsV RX5 55 RX5 yX5_forgetSong wsX5_forgetSong) := goodIn_app (goodIn_of _ (by decide +kernel)) ggX5_song_X5_forgetSong
set_option maxRecDepth 20000 in
theorem ggX5_song_X3_init : GoodIn wsX5_song wsX3_init := goodIn_r _ [29, 30, 31, 32, 33, 34, 35, 36, 37, 38, 39, 40, 41, 42, 43, 44, 45, 46, 47, 48, 49, 50, 51, 52, 53, 54, 55, 56, 57, 58, 4, 59, 60, 61, 62, 63, 64, 65, 66, 67, 68, 69, 70, 71, 72, 73, 74, 75, 76, 77, 78, 79, 80, 81, 82, 83, 90, 91, 92, 93, 94, 95, 96, 97, 98, 99, 100, 101, 102, 103, 104, 105, 106, 107, 108] (by decide +kernel) (by decide +kernel)
set_option maxRecDepth 20000 in
theorem gX5_song_X3_init : GoodIn wsX5_song (wsX3_init) := ggX5_song_X3_init
theorem dX5_song_0 : decode cX5_song 0 = .ok (.iload_n 1, 1) := by decide +kernel
theorem dX5_song_1 : decode cX5_song 1 = .ok (.iconst 0, 1) := by decide +kernel
theorem dX5_song_2 : decode cX5_song 2 = .ok (.bipush 11, 2) := by decide +kernel
theorem dX5_song_4 : decode cX5_song 4 = .ok (.invokestatic 47, 3) := by decide +kernel
theorem dX5_song_7 : decode cX5_song 7 = .ok (.ifCond .eq 15, 3) := by decide +kernel
theorem dX5_song_10 : decode cX5_song 10 = .ok (.iload_n 2, 1) := by decide +kernel
theorem dX5_song_11 : decode cX5_song 11 = .ok (.iload_n 3, 1) := by decide +kernel
theorem dX5_song_12 : decode cX5_song 12 = .ok (.iload 4, 2) := by decide +kernel
theorem dX5_song_14 : decode cX5_song 14 = .ok (.iload 5, 2) := by decide +kernel
theorem dX5_song_16 : decode cX5_song 16 = .ok (.invokestatic 51, 3) := by decide +kernel
theorem dX5_song_19 : decode cX5_song 19 = .ok (.ifCond .ne 5, 3) := by decide +kernel
theorem dX5_song_22 : decode cX5_song 22 = .ok (.iconst 0, 1) := by decide +kernel
theorem dX5_song_23 : decode cX5_song 23 = .ok (.ireturn, 1) := by decide +kernel
theorem dX5_song_24 : decode cX5_song 24 = .ok (.aload_n 0, 1) := by decide +kernel
theorem dX5_song_25 : decode cX5_song 25 = .ok (.iload_n 1, 1) := by decide +kernel
theorem dX5_song_26 : decode cX5_song 26 = .ok (.invokevirtual 55, 3) := by decide +kernel
theorem dX5_song_29 : decode cX5_song 29 = .ok (.aload_n 0, 1) := by decide +kernel
theorem dX5_song_30 : decode cX5_song 30 = .ok (.getfield 11, 3) := by decide +kernel
theorem dX5_song_33 : decode cX5_song 33 = .ok (.iload_n 1, 1) := by decide +kernel
theorem dX5_song_34 : decode cX5_song 34 = .ok (.new 9, 3) := by decide +kernel
theorem dX5_song_37 : decode cX5_song 37 = .ok (.dup, 1) := by decide +kernel
theorem dX5_song_38 : decode cX5_song 38 = .ok (.iload_n 1, 1) := by decide +kernel
theorem dX5_song_39 : decode cX5_song 39 = .ok (.iload_n 2, 1) := by decide +kernel
theorem dX5_song_40 : decode cX5_song 40 = .ok (.iload_n 3, 1) := by decide +kernel
theorem dX5_song_41 : decode cX5_song 41 = .ok (.iload 4, 2) := by decide +kernel
theorem dX5_song_43 : decode cX5_song 43 = .ok (.iload 5, 2) := by decide +kernel
theorem dX5_song_45 : decode cX5_song 45 = .ok (.invokespecial 59, 3) := by decide +kernel
theorem dX5_song_48 : decode cX5_song 48 = .ok (.aastore, 1) := by decide +kernel
theorem dX5_song_49 : decode cX5_song 49 = .ok (.iconst 1, 1) := by decide +kernel
theorem dX5_song_50 : decode cX5_song 50 = .ok (.ireturn, 1) := by decide +kernel
set_option maxRecDepth 20000 in
theorem ggX5_about_X5_songAt : GoodIn wsX5_about wsX5_songAt := goodIn_r _ [9, 10, 11, 12, 8, 13, 42, 43, 44, 45, 46, 47] (by decide +kernel) (by decide +kernel)
set_option maxRecDepth 20000 in
theorem gX5_about_X5_songAt : GoodIn wsX5_about (wsV RX5 62 RX5 yX5_songAt wsX5_songAt) := goodIn_app (goodIn_of _ (by decide +kernel)) ggX5_about_X5_songAt
set_option maxRecDepth 20000 in
theorem ggX5_about_X5_within : GoodIn wsX5_about wsX5_within := goodIn_r _ [13] (by decide +kernel) (by decide +kernel)
set_option maxRecDepth 20000 in
theorem gX5_about_X5_within : GoodIn wsX5_about (va_wsS RX5 47 yX5_within wsX5_within) := goodIn_app (goodIn_of _ (by decide +kernel)) ggX5_about_X5_within
set_option maxRecDepth 20000 in
theorem ggX5_about_X0_forgetJoinsOf : GoodIn wsX5_about wsX0_forgetJoinsOf := goodIn_r _ [18, 19, 20, 21, 17, 22, 48, 49, 50, 51, 52, 53, 54, 55] (by decide +kernel) (by decide +kernel)
set_option maxRecDepth 20000 in
theorem gX5_about_X0_forgetJoinsOf : GoodIn wsX5_about (wsV RX5 76 RX0 yX0_forgetJoinsOf wsX0_forgetJoinsOf) := goodIn_app (goodIn_of _ (by decide +kernel)) ggX5_about_X0_forgetJoinsOf
theorem dX5_about_0 : decode cX5_about 0 = .ok (.aload_n 0, 1) := by decide +kernel
theorem dX5_about_1 : decode cX5_about 1 = .ok (.iload_n 1, 1) := by decide +kernel
theorem dX5_about_2 : decode cX5_about 2 = .ok (.invokevirtual 62, 3) := by decide +kernel
theorem dX5_about_5 : decode cX5_about 5 = .ok (.astore 5, 2) := by decide +kernel
theorem dX5_about_7 : decode cX5_about 7 = .ok (.aload 5, 2) := by decide +kernel
theorem dX5_about_9 : decode cX5_about 9 = .ok (.ifnull 34, 3) := by decide +kernel
theorem dX5_about_12 : decode cX5_about 12 = .ok (.iload_n 2, 1) := by decide +kernel
theorem dX5_about_13 : decode cX5_about 13 = .ok (.iconst 0, 1) := by decide +kernel
theorem dX5_about_14 : decode cX5_about 14 = .ok (.bipush 23, 2) := by decide +kernel
theorem dX5_about_16 : decode cX5_about 16 = .ok (.invokestatic 47, 3) := by decide +kernel
theorem dX5_about_19 : decode cX5_about 19 = .ok (.ifCond .eq 24, 3) := by decide +kernel
theorem dX5_about_22 : decode cX5_about 22 = .ok (.iload_n 3, 1) := by decide +kernel
theorem dX5_about_23 : decode cX5_about 23 = .ok (.iconst 0, 1) := by decide +kernel
theorem dX5_about_24 : decode cX5_about 24 = .ok (.bipush 9, 2) := by decide +kernel
theorem dX5_about_26 : decode cX5_about 26 = .ok (.invokestatic 47, 3) := by decide +kernel
theorem dX5_about_29 : decode cX5_about 29 = .ok (.ifCond .eq 14, 3) := by decide +kernel
theorem dX5_about_32 : decode cX5_about 32 = .ok (.iload 4, 2) := by decide +kernel
theorem dX5_about_34 : decode cX5_about 34 = .ok (.iconst 1, 1) := by decide +kernel
theorem dX5_about_35 : decode cX5_about 35 = .ok (.bipush 16, 2) := by decide +kernel
theorem dX5_about_37 : decode cX5_about 37 = .ok (.invokestatic 47, 3) := by decide +kernel
theorem dX5_about_40 : decode cX5_about 40 = .ok (.ifCond .ne 5, 3) := by decide +kernel
theorem dX5_about_43 : decode cX5_about 43 = .ok (.iconst 0, 1) := by decide +kernel
theorem dX5_about_44 : decode cX5_about 44 = .ok (.ireturn, 1) := by decide +kernel
theorem dX5_about_45 : decode cX5_about 45 = .ok (.aload 5, 2) := by decide +kernel
theorem dX5_about_47 : decode cX5_about 47 = .ok (.iload_n 2, 1) := by decide +kernel
theorem dX5_about_48 : decode cX5_about 48 = .ok (.putfield 66, 3) := by decide +kernel
theorem dX5_about_51 : decode cX5_about 51 = .ok (.aload 5, 2) := by decide +kernel
theorem dX5_about_53 : decode cX5_about 53 = .ok (.iload_n 3, 1) := by decide +kernel
theorem dX5_about_54 : decode cX5_about 54 = .ok (.putfield 70, 3) := by decide +kernel
theorem dX5_about_57 : decode cX5_about 57 = .ok (.aload 5, 2) := by decide +kernel
theorem dX5_about_59 : decode cX5_about 59 = .ok (.iload 4, 2) := by decide +kernel
theorem dX5_about_61 : decode cX5_about 61 = .ok (.putfield 73, 3) := by decide +kernel
theorem dX5_about_64 : decode cX5_about 64 = .ok (.aload_n 0, 1) := by decide +kernel
theorem dX5_about_65 : decode cX5_about 65 = .ok (.getfield 29, 3) := by decide +kernel
theorem dX5_about_68 : decode cX5_about 68 = .ok (.iload_n 1, 1) := by decide +kernel
theorem dX5_about_69 : decode cX5_about 69 = .ok (.invokevirtual 76, 3) := by decide +kernel
theorem dX5_about_72 : decode cX5_about 72 = .ok (.iconst 1, 1) := by decide +kernel
theorem dX5_about_73 : decode cX5_about 73 = .ok (.ireturn, 1) := by decide +kernel
set_option maxRecDepth 20000 in
theorem ggX5_bar_X5_songAt : GoodIn wsX5_bar wsX5_songAt := goodIn_r _ [7, 8, 9, 10, 6, 11, 87, 88, 89, 90, 91, 92] (by decide +kernel) (by decide +kernel)
set_option maxRecDepth 20000 in
theorem gX5_bar_X5_songAt : GoodIn wsX5_bar (wsV RX5 62 RX5 yX5_songAt wsX5_songAt) := goodIn_app (goodIn_of _ (by decide +kernel)) ggX5_bar_X5_songAt
set_option maxRecDepth 20000 in
theorem ggX5_bar_X5_within : GoodIn wsX5_bar wsX5_within := goodIn_r _ [11] (by decide +kernel) (by decide +kernel)
set_option maxRecDepth 20000 in
theorem gX5_bar_X5_within : GoodIn wsX5_bar (va_wsS RX5 47 yX5_within wsX5_within) := goodIn_app (goodIn_of _ (by decide +kernel)) ggX5_bar_X5_within
set_option maxRecDepth 20000 in
theorem ggX5_bar_X3_setBeats : GoodIn wsX5_bar wsX3_setBeats := goodIn_r _ [16, 17, 18, 19, 20, 15, 21, 22, 23, 24, 25, 26, 27, 28, 29, 30, 31, 32, 33, 34, 35, 36, 37, 38, 39, 40, 41, 42, 43, 44, 45, 46, 47, 48, 49, 50, 51, 52, 53, 54, 55, 56, 57, 58, 68, 69, 70, 71, 72, 73, 74, 75, 76, 77, 78, 79, 80, 81, 82, 83, 84, 85, 86] (by decide +kernel) (by decide +kernel)
set_option maxRecDepth 20000 in
theorem gX5_bar_X3_setBeats : GoodIn wsX5_bar (wsV RX5 82 RX3 yX3_setBeats wsX3_setBeats) := goodIn_app (goodIn_of _ (by decide +kernel)) ggX5_bar_X3_setBeats
set_option maxRecDepth 20000 in
theorem ggX5_bar_X0_forgetJoinsOf : GoodIn wsX5_bar wsX0_forgetJoinsOf := goodIn_r _ [63, 64, 65, 66, 62, 67, 93, 94, 95, 96, 97, 98, 99, 100] (by decide +kernel) (by decide +kernel)
set_option maxRecDepth 20000 in
theorem gX5_bar_X0_forgetJoinsOf : GoodIn wsX5_bar (wsV RX5 76 RX0 yX0_forgetJoinsOf wsX0_forgetJoinsOf) := goodIn_app (goodIn_of _ (by decide +kernel)) ggX5_bar_X0_forgetJoinsOf
theorem dX5_bar_0 : decode cX5_bar 0 = .ok (.aload_n 0, 1) := by decide +kernel
theorem dX5_bar_1 : decode cX5_bar 1 = .ok (.iload_n 1, 1) := by decide +kernel
theorem dX5_bar_2 : decode cX5_bar 2 = .ok (.invokevirtual 62, 3) := by decide +kernel
theorem dX5_bar_5 : decode cX5_bar 5 = .ok (.astore 4, 2) := by decide +kernel
theorem dX5_bar_7 : decode cX5_bar 7 = .ok (.aload 4, 2) := by decide +kernel
theorem dX5_bar_9 : decode cX5_bar 9 = .ok (.ifnull 27, 3) := by decide +kernel
theorem dX5_bar_12 : decode cX5_bar 12 = .ok (.iload_n 2, 1) := by decide +kernel
theorem dX5_bar_13 : decode cX5_bar 13 = .ok (.iconst 0, 1) := by decide +kernel
theorem dX5_bar_14 : decode cX5_bar 14 = .ok (.aload 4, 2) := by decide +kernel
theorem dX5_bar_16 : decode cX5_bar 16 = .ok (.getfield 79, 3) := by decide +kernel
theorem dX5_bar_19 : decode cX5_bar 19 = .ok (.iconst 1, 1) := by decide +kernel
theorem dX5_bar_20 : decode cX5_bar 20 = .ok (.isub, 1) := by decide +kernel
theorem dX5_bar_21 : decode cX5_bar 21 = .ok (.invokestatic 47, 3) := by decide +kernel
theorem dX5_bar_24 : decode cX5_bar 24 = .ok (.ifCond .eq 12, 3) := by decide +kernel
theorem dX5_bar_27 : decode cX5_bar 27 = .ok (.iload_n 3, 1) := by decide +kernel
theorem dX5_bar_28 : decode cX5_bar 28 = .ok (.iconst 1, 1) := by decide +kernel
theorem dX5_bar_29 : decode cX5_bar 29 = .ok (.iconst 4, 1) := by decide +kernel
theorem dX5_bar_30 : decode cX5_bar 30 = .ok (.invokestatic 47, 3) := by decide +kernel
theorem dX5_bar_33 : decode cX5_bar 33 = .ok (.ifCond .ne 5, 3) := by decide +kernel
theorem dX5_bar_36 : decode cX5_bar 36 = .ok (.iconst 0, 1) := by decide +kernel
theorem dX5_bar_37 : decode cX5_bar 37 = .ok (.ireturn, 1) := by decide +kernel
theorem dX5_bar_38 : decode cX5_bar 38 = .ok (.aload 4, 2) := by decide +kernel
theorem dX5_bar_40 : decode cX5_bar 40 = .ok (.iload_n 2, 1) := by decide +kernel
theorem dX5_bar_41 : decode cX5_bar 41 = .ok (.iload_n 3, 1) := by decide +kernel
theorem dX5_bar_42 : decode cX5_bar 42 = .ok (.invokevirtual 82, 3) := by decide +kernel
theorem dX5_bar_45 : decode cX5_bar 45 = .ok (.aload_n 0, 1) := by decide +kernel
theorem dX5_bar_46 : decode cX5_bar 46 = .ok (.getfield 29, 3) := by decide +kernel
theorem dX5_bar_49 : decode cX5_bar 49 = .ok (.iload_n 1, 1) := by decide +kernel
theorem dX5_bar_50 : decode cX5_bar 50 = .ok (.invokevirtual 76, 3) := by decide +kernel
theorem dX5_bar_53 : decode cX5_bar 53 = .ok (.iconst 1, 1) := by decide +kernel
theorem dX5_bar_54 : decode cX5_bar 54 = .ok (.ireturn, 1) := by decide +kernel
set_option maxRecDepth 20000 in
theorem ggX5_loop_X5_songAt : GoodIn wsX5_loop wsX5_songAt := goodIn_r _ [6, 7, 8, 9, 5, 10, 49, 50, 51, 52, 53, 54] (by decide +kernel) (by decide +kernel)
set_option maxRecDepth 20000 in
theorem gX5_loop_X5_songAt : GoodIn wsX5_loop (wsV RX5 62 RX5 yX5_songAt wsX5_songAt) := goodIn_app (goodIn_of _ (by decide +kernel)) ggX5_loop_X5_songAt
set_option maxRecDepth 20000 in
theorem ggX5_loop_X3_canLoop : GoodIn wsX5_loop wsX3_canLoop := goodIn_r _ [15, 16, 9, 5, 10, 55, 56, 57, 58, 59, 60, 61, 62, 63, 64, 65, 66, 67, 68, 69, 70, 71, 72, 73] (by decide +kernel) (by decide +kernel)
set_option maxRecDepth 20000 in
theorem gX5_loop_X3_canLoop : GoodIn wsX5_loop (wsV RX5 86 RX3 yX3_canLoop wsX3_canLoop) := goodIn_app (goodIn_of _ (by decide +kernel)) ggX5_loop_X3_canLoop
set_option maxRecDepth 20000 in
theorem ggX5_loop_X3_setLoop : GoodIn wsX5_loop wsX3_setLoop := goodIn_r _ [20, 21, 22, 23, 24, 25, 26, 14, 27, 16, 28, 29, 30, 31, 32, 33, 34, 35, 36, 37, 38, 39, 55, 56, 57, 58, 59, 60, 61, 62, 63, 64, 65, 66, 67, 68, 69, 70, 71, 72, 73] (by decide +kernel) (by decide +kernel)
set_option maxRecDepth 20000 in
theorem gX5_loop_X3_setLoop : GoodIn wsX5_loop (wsV RX5 89 RX3 yX3_setLoop wsX3_setLoop) := goodIn_app (goodIn_of _ (by decide +kernel)) ggX5_loop_X3_setLoop
set_option maxRecDepth 20000 in
theorem ggX5_loop_X0_forgetJoinsOf : GoodIn wsX5_loop wsX0_forgetJoinsOf := goodIn_r _ [44, 45, 46, 47, 43, 48, 74, 75, 76, 77, 78, 79, 80, 81] (by decide +kernel) (by decide +kernel)
set_option maxRecDepth 20000 in
theorem gX5_loop_X0_forgetJoinsOf : GoodIn wsX5_loop (wsV RX5 76 RX0 yX0_forgetJoinsOf wsX0_forgetJoinsOf) := goodIn_app (goodIn_of _ (by decide +kernel)) ggX5_loop_X0_forgetJoinsOf
theorem dX5_loop_0 : decode cX5_loop 0 = .ok (.aload_n 0, 1) := by decide +kernel
theorem dX5_loop_1 : decode cX5_loop 1 = .ok (.iload_n 1, 1) := by decide +kernel
theorem dX5_loop_2 : decode cX5_loop 2 = .ok (.invokevirtual 62, 3) := by decide +kernel
theorem dX5_loop_5 : decode cX5_loop 5 = .ok (.astore 5, 2) := by decide +kernel
theorem dX5_loop_7 : decode cX5_loop 7 = .ok (.aload 5, 2) := by decide +kernel
theorem dX5_loop_9 : decode cX5_loop 9 = .ok (.ifnull 15, 3) := by decide +kernel
theorem dX5_loop_12 : decode cX5_loop 12 = .ok (.aload 5, 2) := by decide +kernel
theorem dX5_loop_14 : decode cX5_loop 14 = .ok (.iload_n 2, 1) := by decide +kernel
theorem dX5_loop_15 : decode cX5_loop 15 = .ok (.iload_n 3, 1) := by decide +kernel
theorem dX5_loop_16 : decode cX5_loop 16 = .ok (.iload 4, 2) := by decide +kernel
theorem dX5_loop_18 : decode cX5_loop 18 = .ok (.invokevirtual 86, 3) := by decide +kernel
theorem dX5_loop_21 : decode cX5_loop 21 = .ok (.ifCond .ne 5, 3) := by decide +kernel
theorem dX5_loop_24 : decode cX5_loop 24 = .ok (.iconst 0, 1) := by decide +kernel
theorem dX5_loop_25 : decode cX5_loop 25 = .ok (.ireturn, 1) := by decide +kernel
theorem dX5_loop_26 : decode cX5_loop 26 = .ok (.aload 5, 2) := by decide +kernel
theorem dX5_loop_28 : decode cX5_loop 28 = .ok (.iload_n 2, 1) := by decide +kernel
theorem dX5_loop_29 : decode cX5_loop 29 = .ok (.iload_n 3, 1) := by decide +kernel
theorem dX5_loop_30 : decode cX5_loop 30 = .ok (.iload 4, 2) := by decide +kernel
theorem dX5_loop_32 : decode cX5_loop 32 = .ok (.invokevirtual 89, 3) := by decide +kernel
theorem dX5_loop_35 : decode cX5_loop 35 = .ok (.aload_n 0, 1) := by decide +kernel
theorem dX5_loop_36 : decode cX5_loop 36 = .ok (.getfield 29, 3) := by decide +kernel
theorem dX5_loop_39 : decode cX5_loop 39 = .ok (.iload_n 1, 1) := by decide +kernel
theorem dX5_loop_40 : decode cX5_loop 40 = .ok (.invokevirtual 76, 3) := by decide +kernel
theorem dX5_loop_43 : decode cX5_loop 43 = .ok (.iconst 1, 1) := by decide +kernel
theorem dX5_loop_44 : decode cX5_loop 44 = .ok (.ireturn, 1) := by decide +kernel
set_option maxRecDepth 20000 in
theorem ggX5_drop_X5_songAt : GoodIn wsX5_drop wsX5_songAt := goodIn_r _ [6, 1, 7, 8, 5, 9, 25, 26, 27, 28, 29, 30] (by decide +kernel) (by decide +kernel)
set_option maxRecDepth 20000 in
theorem gX5_drop_X5_songAt : GoodIn wsX5_drop (wsV RX5 62 RX5 yX5_songAt wsX5_songAt) := goodIn_app (goodIn_of _ (by decide +kernel)) ggX5_drop_X5_songAt
set_option maxRecDepth 20000 in
theorem ggX5_drop_X5_forgetSong : GoodIn wsX5_drop wsX5_forgetSong := goodIn_r _ [13, 14, 15, 16, 17, 18, 19, 20, 21, 22, 23, 24, 25, 26, 27, 28, 29, 30, 31, 32, 33, 34, 35, 36, 37, 38] (by decide +kernel) (by decide +kernel)
set_option maxRecDepth 20000 in
theorem gX5_drop_X5_forgetSong : GoodIn wsX5_drop (wsV RX5 55 RX5 yX5_forgetSong wsX5_forgetSong) := goodIn_app (goodIn_of _ (by decide +kernel)) ggX5_drop_X5_forgetSong
theorem dX5_drop_0 : decode cX5_drop 0 = .ok (.aload_n 0, 1) := by decide +kernel
theorem dX5_drop_1 : decode cX5_drop 1 = .ok (.iload_n 1, 1) := by decide +kernel
theorem dX5_drop_2 : decode cX5_drop 2 = .ok (.invokevirtual 62, 3) := by decide +kernel
theorem dX5_drop_5 : decode cX5_drop 5 = .ok (.ifnonnull 5, 3) := by decide +kernel
theorem dX5_drop_8 : decode cX5_drop 8 = .ok (.iconst 0, 1) := by decide +kernel
theorem dX5_drop_9 : decode cX5_drop 9 = .ok (.ireturn, 1) := by decide +kernel
theorem dX5_drop_10 : decode cX5_drop 10 = .ok (.aload_n 0, 1) := by decide +kernel
theorem dX5_drop_11 : decode cX5_drop 11 = .ok (.iload_n 1, 1) := by decide +kernel
theorem dX5_drop_12 : decode cX5_drop 12 = .ok (.invokevirtual 55, 3) := by decide +kernel
theorem dX5_drop_15 : decode cX5_drop 15 = .ok (.aload_n 0, 1) := by decide +kernel
theorem dX5_drop_16 : decode cX5_drop 16 = .ok (.getfield 11, 3) := by decide +kernel
theorem dX5_drop_19 : decode cX5_drop 19 = .ok (.iload_n 1, 1) := by decide +kernel
theorem dX5_drop_20 : decode cX5_drop 20 = .ok (.aconst_null, 1) := by decide +kernel
theorem dX5_drop_21 : decode cX5_drop 21 = .ok (.aastore, 1) := by decide +kernel
theorem dX5_drop_22 : decode cX5_drop 22 = .ok (.iconst 1, 1) := by decide +kernel
theorem dX5_drop_23 : decode cX5_drop 23 = .ok (.ireturn, 1) := by decide +kernel
set_option maxRecDepth 20000 in
theorem ggX5_of_X5_songAt : GoodIn wsX5_of wsX5_songAt := goodIn_r _ [13, 14, 15, 16, 12, 17, 49, 50, 51, 52, 53, 54] (by decide +kernel) (by decide +kernel)
set_option maxRecDepth 20000 in
theorem gX5_of_X5_songAt : GoodIn wsX5_of (wsV RX5 62 RX5 yX5_songAt wsX5_songAt) := goodIn_app (goodIn_of _ (by decide +kernel)) ggX5_of_X5_songAt
set_option maxRecDepth 20000 in
theorem ggX5_of_X3_beats : GoodIn wsX5_of wsX3_beats := goodIn_r _ [22, 23, 24, 30, 31, 32, 33, 34, 35, 36, 37, 38, 39, 40, 41, 42, 43, 44, 45, 46, 47, 48] (by decide +kernel) (by decide +kernel)
set_option maxRecDepth 20000 in
theorem gX5_of_X3_beats : GoodIn wsX5_of (wsV RX5 105 RX3 yX3_beats wsX3_beats) := goodIn_app (goodIn_of _ (by decide +kernel)) ggX5_of_X3_beats
set_option maxRecDepth 20000 in
theorem ggX5_of_X3_brokenBars : GoodIn wsX5_of wsX3_brokenBars := goodIn_r _ [28, 24, 29, 30, 31, 32, 33, 34, 35, 36, 37, 38, 39, 40, 41, 42, 43, 44, 45, 46, 47, 48] (by decide +kernel) (by decide +kernel)
set_option maxRecDepth 20000 in
theorem gX5_of_X3_brokenBars : GoodIn wsX5_of (wsV RX5 109 RX3 yX3_brokenBars wsX3_brokenBars) := goodIn_app (goodIn_of _ (by decide +kernel)) ggX5_of_X3_brokenBars
theorem dX5_of_0 : decode cX5_of 0 = .ok (.aload_n 0, 1) := by decide +kernel
theorem dX5_of_1 : decode cX5_of 1 = .ok (.iload_n 1, 1) := by decide +kernel
theorem dX5_of_2 : decode cX5_of 2 = .ok (.invokevirtual 62, 3) := by decide +kernel
theorem dX5_of_5 : decode cX5_of 5 = .ok (.astore_n 3, 1) := by decide +kernel
theorem dX5_of_6 : decode cX5_of 6 = .ok (.aload_n 3, 1) := by decide +kernel
theorem dX5_of_7 : decode cX5_of 7 = .ok (.ifnonnull 7, 3) := by decide +kernel
theorem dX5_of_10 : decode cX5_of 10 = .ok (.sipush (-1000), 3) := by decide +kernel
theorem dX5_of_13 : decode cX5_of 13 = .ok (.ireturn, 1) := by decide +kernel
theorem dX5_of_14 : decode cX5_of 14 = .ok (.iload_n 2, 1) := by decide +kernel
theorem dX5_of_15 : decode cX5_of 15 = .ok (.tableswitch 103 0 9 #[53, 58, 63, 68, 73, 78, 83, 88, 93, 98], 53) := by decide +kernel
theorem dX5_of_68 : decode cX5_of 68 = .ok (.aload_n 3, 1) := by decide +kernel
theorem dX5_of_69 : decode cX5_of 69 = .ok (.getfield 93, 3) := by decide +kernel
theorem dX5_of_72 : decode cX5_of 72 = .ok (.ireturn, 1) := by decide +kernel
theorem dX5_of_73 : decode cX5_of 73 = .ok (.aload_n 3, 1) := by decide +kernel
theorem dX5_of_74 : decode cX5_of 74 = .ok (.getfield 79, 3) := by decide +kernel
theorem dX5_of_77 : decode cX5_of 77 = .ok (.ireturn, 1) := by decide +kernel
theorem dX5_of_78 : decode cX5_of 78 = .ok (.aload_n 3, 1) := by decide +kernel
theorem dX5_of_79 : decode cX5_of 79 = .ok (.getfield 96, 3) := by decide +kernel
theorem dX5_of_82 : decode cX5_of 82 = .ok (.ireturn, 1) := by decide +kernel
theorem dX5_of_83 : decode cX5_of 83 = .ok (.aload_n 3, 1) := by decide +kernel
theorem dX5_of_84 : decode cX5_of 84 = .ok (.getfield 99, 3) := by decide +kernel
theorem dX5_of_87 : decode cX5_of 87 = .ok (.ireturn, 1) := by decide +kernel
theorem dX5_of_88 : decode cX5_of 88 = .ok (.aload_n 3, 1) := by decide +kernel
theorem dX5_of_89 : decode cX5_of 89 = .ok (.getfield 66, 3) := by decide +kernel
theorem dX5_of_92 : decode cX5_of 92 = .ok (.ireturn, 1) := by decide +kernel
theorem dX5_of_93 : decode cX5_of 93 = .ok (.aload_n 3, 1) := by decide +kernel
theorem dX5_of_94 : decode cX5_of 94 = .ok (.getfield 70, 3) := by decide +kernel
theorem dX5_of_97 : decode cX5_of 97 = .ok (.ireturn, 1) := by decide +kernel
theorem dX5_of_98 : decode cX5_of 98 = .ok (.aload_n 3, 1) := by decide +kernel
theorem dX5_of_99 : decode cX5_of 99 = .ok (.getfield 73, 3) := by decide +kernel
theorem dX5_of_102 : decode cX5_of 102 = .ok (.ireturn, 1) := by decide +kernel
theorem dX5_of_103 : decode cX5_of 103 = .ok (.aload_n 3, 1) := by decide +kernel
theorem dX5_of_104 : decode cX5_of 104 = .ok (.getfield 102, 3) := by decide +kernel
theorem dX5_of_107 : decode cX5_of 107 = .ok (.ireturn, 1) := by decide +kernel
theorem dX5_of_108 : decode cX5_of 108 = .ok (.aload_n 3, 1) := by decide +kernel
theorem dX5_of_109 : decode cX5_of 109 = .ok (.invokevirtual 105, 3) := by decide +kernel
theorem dX5_of_112 : decode cX5_of 112 = .ok (.ireturn, 1) := by decide +kernel
theorem dX5_of_113 : decode cX5_of 113 = .ok (.aload_n 3, 1) := by decide +kernel
theorem dX5_of_114 : decode cX5_of 114 = .ok (.invokevirtual 109, 3) := by decide +kernel
theorem dX5_of_117 : decode cX5_of 117 = .ok (.ireturn, 1) := by decide +kernel
theorem dX5_of_118 : decode cX5_of 118 = .ok (.sipush (-1000), 3) := by decide +kernel
theorem dX5_of_121 : decode cX5_of 121 = .ok (.ireturn, 1) := by decide +kernel
set_option maxRecDepth 20000 in
theorem ggX5_beat_X5_songAt : GoodIn wsX5_beat wsX5_songAt := goodIn_r _ [6, 7, 8, 9, 5, 10, 37, 38, 39, 40, 41, 42] (by decide +kernel) (by decide +kernel)
set_option maxRecDepth 20000 in
theorem gX5_beat_X5_songAt : GoodIn wsX5_beat (wsV RX5 62 RX5 yX5_songAt wsX5_songAt) := goodIn_app (goodIn_of _ (by decide +kernel)) ggX5_beat_X5_songAt
set_option maxRecDepth 20000 in
theorem ggX5_beat_X3_beats : GoodIn wsX5_beat wsX3_beats := goodIn_r _ [15, 16, 17, 18, 19, 20, 21, 22, 23, 24, 25, 26, 27, 28, 29, 30, 31, 32, 33, 34, 35, 36] (by decide +kernel) (by decide +kernel)
set_option maxRecDepth 20000 in
theorem gX5_beat_X3_beats : GoodIn wsX5_beat (wsV RX5 105 RX3 yX3_beats wsX3_beats) := goodIn_app (goodIn_of _ (by decide +kernel)) ggX5_beat_X3_beats
set_option maxRecDepth 20000 in
theorem ggX5_beat_X5_within : GoodIn wsX5_beat wsX5_within := goodIn_r _ [10] (by decide +kernel) (by decide +kernel)
set_option maxRecDepth 20000 in
theorem gX5_beat_X5_within : GoodIn wsX5_beat (va_wsS RX5 47 yX5_within wsX5_within) := goodIn_app (goodIn_of _ (by decide +kernel)) ggX5_beat_X5_within
theorem dX5_beat_0 : decode cX5_beat 0 = .ok (.aload_n 0, 1) := by decide +kernel
theorem dX5_beat_1 : decode cX5_beat 1 = .ok (.iload_n 1, 1) := by decide +kernel
theorem dX5_beat_2 : decode cX5_beat 2 = .ok (.invokevirtual 62, 3) := by decide +kernel
theorem dX5_beat_5 : decode cX5_beat 5 = .ok (.astore_n 3, 1) := by decide +kernel
theorem dX5_beat_6 : decode cX5_beat 6 = .ok (.aload_n 3, 1) := by decide +kernel
theorem dX5_beat_7 : decode cX5_beat 7 = .ok (.ifnull 15, 3) := by decide +kernel
theorem dX5_beat_10 : decode cX5_beat 10 = .ok (.iload_n 2, 1) := by decide +kernel
theorem dX5_beat_11 : decode cX5_beat 11 = .ok (.iconst 0, 1) := by decide +kernel
theorem dX5_beat_12 : decode cX5_beat 12 = .ok (.aload_n 3, 1) := by decide +kernel
theorem dX5_beat_13 : decode cX5_beat 13 = .ok (.invokevirtual 105, 3) := by decide +kernel
theorem dX5_beat_16 : decode cX5_beat 16 = .ok (.invokestatic 47, 3) := by decide +kernel
theorem dX5_beat_19 : decode cX5_beat 19 = .ok (.ifCond .ne 5, 3) := by decide +kernel
theorem dX5_beat_22 : decode cX5_beat 22 = .ok (.iconst (-1), 1) := by decide +kernel
theorem dX5_beat_23 : decode cX5_beat 23 = .ok (.ireturn, 1) := by decide +kernel
theorem dX5_beat_24 : decode cX5_beat 24 = .ok (.aload_n 3, 1) := by decide +kernel
theorem dX5_beat_25 : decode cX5_beat 25 = .ok (.getfield 112, 3) := by decide +kernel
theorem dX5_beat_28 : decode cX5_beat 28 = .ok (.iload_n 2, 1) := by decide +kernel
theorem dX5_beat_29 : decode cX5_beat 29 = .ok (.iaload, 1) := by decide +kernel
theorem dX5_beat_30 : decode cX5_beat 30 = .ok (.ireturn, 1) := by decide +kernel
set_option maxRecDepth 20000 in
theorem ggX5_played_X5_songAt : GoodIn wsX5_played wsX5_songAt := goodIn_r _ [9, 10, 11, 12, 8, 13, 33, 34, 35, 36, 37, 38] (by decide +kernel) (by decide +kernel)
set_option maxRecDepth 20000 in
theorem gX5_played_X5_songAt : GoodIn wsX5_played (wsV RX5 62 RX5 yX5_songAt wsX5_songAt) := goodIn_app (goodIn_of _ (by decide +kernel)) ggX5_played_X5_songAt
set_option maxRecDepth 20000 in
theorem ggX5_played_X5_within : GoodIn wsX5_played wsX5_within := goodIn_r _ [13] (by decide +kernel) (by decide +kernel)
set_option maxRecDepth 20000 in
theorem gX5_played_X5_within : GoodIn wsX5_played (va_wsS RX5 47 yX5_within wsX5_within) := goodIn_app (goodIn_of _ (by decide +kernel)) ggX5_played_X5_within
theorem dX5_played_0 : decode cX5_played 0 = .ok (.aload_n 0, 1) := by decide +kernel
theorem dX5_played_1 : decode cX5_played 1 = .ok (.iload_n 1, 1) := by decide +kernel
theorem dX5_played_2 : decode cX5_played 2 = .ok (.invokevirtual 62, 3) := by decide +kernel
theorem dX5_played_5 : decode cX5_played 5 = .ok (.astore 4, 2) := by decide +kernel
theorem dX5_played_7 : decode cX5_played 7 = .ok (.aload 4, 2) := by decide +kernel
theorem dX5_played_9 : decode cX5_played 9 = .ok (.ifnull 18, 3) := by decide +kernel
theorem dX5_played_12 : decode cX5_played 12 = .ok (.iload_n 2, 1) := by decide +kernel
theorem dX5_played_13 : decode cX5_played 13 = .ok (.iconst 0, 1) := by decide +kernel
theorem dX5_played_14 : decode cX5_played 14 = .ok (.aload 4, 2) := by decide +kernel
theorem dX5_played_16 : decode cX5_played 16 = .ok (.getfield 102, 3) := by decide +kernel
theorem dX5_played_19 : decode cX5_played 19 = .ok (.iconst 1, 1) := by decide +kernel
theorem dX5_played_20 : decode cX5_played 20 = .ok (.isub, 1) := by decide +kernel
theorem dX5_played_21 : decode cX5_played 21 = .ok (.invokestatic 47, 3) := by decide +kernel
theorem dX5_played_24 : decode cX5_played 24 = .ok (.ifCond .ne 5, 3) := by decide +kernel
theorem dX5_played_27 : decode cX5_played 27 = .ok (.iconst (-1), 1) := by decide +kernel
theorem dX5_played_28 : decode cX5_played 28 = .ok (.ireturn, 1) := by decide +kernel
theorem dX5_played_29 : decode cX5_played 29 = .ok (.iload_n 3, 1) := by decide +kernel
theorem dX5_played_30 : decode cX5_played 30 = .ok (.tableswitch 56 0 2 #[26, 34, 42], 26) := by decide +kernel
theorem dX5_played_56 : decode cX5_played 56 = .ok (.aload 4, 2) := by decide +kernel
theorem dX5_played_58 : decode cX5_played 58 = .ok (.getfield 115, 3) := by decide +kernel
theorem dX5_played_61 : decode cX5_played 61 = .ok (.iload_n 2, 1) := by decide +kernel
theorem dX5_played_62 : decode cX5_played 62 = .ok (.iaload, 1) := by decide +kernel
theorem dX5_played_63 : decode cX5_played 63 = .ok (.ireturn, 1) := by decide +kernel
theorem dX5_played_64 : decode cX5_played 64 = .ok (.aload 4, 2) := by decide +kernel
theorem dX5_played_66 : decode cX5_played 66 = .ok (.getfield 118, 3) := by decide +kernel
theorem dX5_played_69 : decode cX5_played 69 = .ok (.iload_n 2, 1) := by decide +kernel
theorem dX5_played_70 : decode cX5_played 70 = .ok (.iaload, 1) := by decide +kernel
theorem dX5_played_71 : decode cX5_played 71 = .ok (.ireturn, 1) := by decide +kernel
theorem dX5_played_72 : decode cX5_played 72 = .ok (.aload 4, 2) := by decide +kernel
theorem dX5_played_74 : decode cX5_played 74 = .ok (.getfield 121, 3) := by decide +kernel
theorem dX5_played_77 : decode cX5_played 77 = .ok (.aload 4, 2) := by decide +kernel
theorem dX5_played_79 : decode cX5_played 79 = .ok (.getfield 115, 3) := by decide +kernel
theorem dX5_played_82 : decode cX5_played 82 = .ok (.iload_n 2, 1) := by decide +kernel
theorem dX5_played_83 : decode cX5_played 83 = .ok (.iaload, 1) := by decide +kernel
theorem dX5_played_84 : decode cX5_played 84 = .ok (.iaload, 1) := by decide +kernel
theorem dX5_played_85 : decode cX5_played 85 = .ok (.ireturn, 1) := by decide +kernel
theorem dX5_played_86 : decode cX5_played 86 = .ok (.iconst (-1), 1) := by decide +kernel
theorem dX5_played_87 : decode cX5_played 87 = .ok (.ireturn, 1) := by decide +kernel
set_option maxRecDepth 20000 in
theorem ggX5_length_X5_songAt : GoodIn wsX5_length wsX5_songAt := goodIn_r _ [7, 8, 9, 10, 6, 11, 31, 32, 33, 34, 35, 36] (by decide +kernel) (by decide +kernel)
set_option maxRecDepth 20000 in
theorem gX5_length_X5_songAt : GoodIn wsX5_length (wsV RX5 62 RX5 yX5_songAt wsX5_songAt) := goodIn_app (goodIn_of _ (by decide +kernel)) ggX5_length_X5_songAt
theorem dX5_length_0 : decode cX5_length 0 = .ok (.aload_n 0, 1) := by decide +kernel
theorem dX5_length_1 : decode cX5_length 1 = .ok (.iload_n 1, 1) := by decide +kernel
theorem dX5_length_2 : decode cX5_length 2 = .ok (.invokevirtual 62, 3) := by decide +kernel
theorem dX5_length_5 : decode cX5_length 5 = .ok (.astore_n 2, 1) := by decide +kernel
theorem dX5_length_6 : decode cX5_length 6 = .ok (.aload_n 2, 1) := by decide +kernel
theorem dX5_length_7 : decode cX5_length 7 = .ok (.ifnonnull 7, 3) := by decide +kernel
theorem dX5_length_10 : decode cX5_length 10 = .ok (.iconst (-1), 1) := by decide +kernel
theorem dX5_length_11 : decode cX5_length 11 = .ok (.goto 12, 3) := by decide +kernel
theorem dX5_length_14 : decode cX5_length 14 = .ok (.aload_n 2, 1) := by decide +kernel
theorem dX5_length_15 : decode cX5_length 15 = .ok (.getfield 118, 3) := by decide +kernel
theorem dX5_length_18 : decode cX5_length 18 = .ok (.aload_n 2, 1) := by decide +kernel
theorem dX5_length_19 : decode cX5_length 19 = .ok (.getfield 102, 3) := by decide +kernel
theorem dX5_length_22 : decode cX5_length 22 = .ok (.iaload, 1) := by decide +kernel
theorem dX5_length_23 : decode cX5_length 23 = .ok (.ireturn, 1) := by decide +kernel
set_option maxRecDepth 20000 in
theorem ggX5_stroke_X4_add : GoodIn wsX5_stroke wsX4_add := goodIn_r _ [6, 7, 8, 9, 10, 11, 12, 19, 20, 21, 22, 23, 24] (by decide +kernel) (by decide +kernel)
set_option maxRecDepth 20000 in
theorem gX5_stroke_X4_add : GoodIn wsX5_stroke (wsV RX5 124 RX4 yX4_add wsX4_add) := goodIn_app (goodIn_of _ (by decide +kernel)) ggX5_stroke_X4_add
theorem dX5_stroke_0 : decode cX5_stroke 0 = .ok (.aload_n 0, 1) := by decide +kernel
theorem dX5_stroke_1 : decode cX5_stroke 1 = .ok (.getfield 22, 3) := by decide +kernel
theorem dX5_stroke_4 : decode cX5_stroke 4 = .ok (.iload_n 1, 1) := by decide +kernel
theorem dX5_stroke_5 : decode cX5_stroke 5 = .ok (.invokevirtual 124, 3) := by decide +kernel
theorem dX5_stroke_8 : decode cX5_stroke 8 = .ok (.ireturn, 1) := by decide +kernel
set_option maxRecDepth 20000 in
theorem ggX5_clear_X4_empty : GoodIn wsX5_clear wsX4_empty := goodIn_r _ [6, 7, 14, 15, 16, 17, 18, 19] (by decide +kernel) (by decide +kernel)
set_option maxRecDepth 20000 in
theorem gX5_clear_X4_empty : GoodIn wsX5_clear (wsV RX5 128 RX4 yX4_empty wsX4_empty) := goodIn_app (goodIn_of _ (by decide +kernel)) ggX5_clear_X4_empty
theorem dX5_clear_0 : decode cX5_clear 0 = .ok (.aload_n 0, 1) := by decide +kernel
theorem dX5_clear_1 : decode cX5_clear 1 = .ok (.getfield 22, 3) := by decide +kernel
theorem dX5_clear_4 : decode cX5_clear 4 = .ok (.invokevirtual 128, 3) := by decide +kernel
theorem dX5_clear_7 : decode cX5_clear 7 = .ok (.ireturn, 1) := by decide +kernel
set_option maxRecDepth 20000 in
theorem ggX5_find_X5_within : GoodIn wsX5_find wsX5_within := goodIn_r _ [5] (by decide +kernel) (by decide +kernel)
set_option maxRecDepth 20000 in
theorem gX5_find_X5_within : GoodIn wsX5_find (va_wsS RX5 47 yX5_within wsX5_within) := goodIn_app (goodIn_of _ (by decide +kernel)) ggX5_find_X5_within
set_option maxRecDepth 20000 in
theorem ggX5_find_X4_seekBeats : GoodIn wsX5_find wsX4_seekBeats := goodIn_r _ [10, 11, 12, 13, 14, 15, 9, 16, 17, 18, 19, 20, 21, 22, 23, 24, 25, 26, 27, 28, 29, 30, 31, 32, 33, 34, 35, 42, 43, 44, 45, 46, 47] (by decide +kernel) (by decide +kernel)
set_option maxRecDepth 20000 in
theorem gX5_find_X4_seekBeats : GoodIn wsX5_find (wsV RX5 131 RX4 yX4_seekBeats wsX4_seekBeats) := goodIn_app (goodIn_of _ (by decide +kernel)) ggX5_find_X4_seekBeats
theorem dX5_find_0 : decode cX5_find 0 = .ok (.iload_n 1, 1) := by decide +kernel
theorem dX5_find_1 : decode cX5_find 1 = .ok (.bipush 10, 2) := by decide +kernel
theorem dX5_find_3 : decode cX5_find 3 = .ok (.sipush 1000, 3) := by decide +kernel
theorem dX5_find_6 : decode cX5_find 6 = .ok (.invokestatic 47, 3) := by decide +kernel
theorem dX5_find_9 : decode cX5_find 9 = .ok (.ifCond .eq 25, 3) := by decide +kernel
theorem dX5_find_12 : decode cX5_find 12 = .ok (.iload_n 2, 1) := by decide +kernel
theorem dX5_find_13 : decode cX5_find 13 = .ok (.iconst 0, 1) := by decide +kernel
theorem dX5_find_14 : decode cX5_find 14 = .ok (.sipush 10000, 3) := by decide +kernel
theorem dX5_find_17 : decode cX5_find 17 = .ok (.invokestatic 47, 3) := by decide +kernel
theorem dX5_find_20 : decode cX5_find 20 = .ok (.ifCond .eq 14, 3) := by decide +kernel
theorem dX5_find_23 : decode cX5_find 23 = .ok (.iload_n 3, 1) := by decide +kernel
theorem dX5_find_24 : decode cX5_find 24 = .ok (.iconst 0, 1) := by decide +kernel
theorem dX5_find_25 : decode cX5_find 25 = .ok (.sipush 10000, 3) := by decide +kernel
theorem dX5_find_28 : decode cX5_find 28 = .ok (.invokestatic 47, 3) := by decide +kernel
theorem dX5_find_31 : decode cX5_find 31 = .ok (.ifCond .ne 5, 3) := by decide +kernel
theorem dX5_find_34 : decode cX5_find 34 = .ok (.iconst (-1), 1) := by decide +kernel
theorem dX5_find_35 : decode cX5_find 35 = .ok (.ireturn, 1) := by decide +kernel
theorem dX5_find_36 : decode cX5_find 36 = .ok (.aload_n 0, 1) := by decide +kernel
theorem dX5_find_37 : decode cX5_find 37 = .ok (.getfield 22, 3) := by decide +kernel
theorem dX5_find_40 : decode cX5_find 40 = .ok (.iload_n 1, 1) := by decide +kernel
theorem dX5_find_41 : decode cX5_find 41 = .ok (.iload_n 2, 1) := by decide +kernel
theorem dX5_find_42 : decode cX5_find 42 = .ok (.iload_n 3, 1) := by decide +kernel
theorem dX5_find_43 : decode cX5_find 43 = .ok (.invokevirtual 131, 3) := by decide +kernel
theorem dX5_find_46 : decode cX5_find 46 = .ok (.ireturn, 1) := by decide +kernel
set_option maxRecDepth 20000 in
theorem ggX5_found_X4_foundStroke : GoodIn wsX5_found wsX4_foundStroke := goodIn_r _ [6, 7, 8, 9, 10, 11, 18, 19, 20, 21, 22, 23] (by decide +kernel) (by decide +kernel)
set_option maxRecDepth 20000 in
theorem gX5_found_X4_foundStroke : GoodIn wsX5_found (wsV RX5 135 RX4 yX4_foundStroke wsX4_foundStroke) := goodIn_app (goodIn_of _ (by decide +kernel)) ggX5_found_X4_foundStroke
theorem dX5_found_0 : decode cX5_found 0 = .ok (.aload_n 0, 1) := by decide +kernel
theorem dX5_found_1 : decode cX5_found 1 = .ok (.getfield 22, 3) := by decide +kernel
theorem dX5_found_4 : decode cX5_found 4 = .ok (.iload_n 1, 1) := by decide +kernel
theorem dX5_found_5 : decode cX5_found 5 = .ok (.invokevirtual 135, 3) := by decide +kernel
theorem dX5_found_8 : decode cX5_found 8 = .ok (.ireturn, 1) := by decide +kernel
set_option maxRecDepth 20000 in
theorem ggX5_costs_X5_within : GoodIn wsX5_costs wsX5_within := goodIn_r _ [5] (by decide +kernel) (by decide +kernel)
set_option maxRecDepth 20000 in
theorem gX5_costs_X5_within : GoodIn wsX5_costs (va_wsS RX5 47 yX5_within wsX5_within) := goodIn_app (goodIn_of _ (by decide +kernel)) ggX5_costs_X5_within
set_option maxRecDepth 20000 in
theorem ggX5_costs_X0_setCosts : GoodIn wsX5_costs wsX0_setCosts := goodIn_r _ [10, 11, 12, 13, 14, 15, 16, 17, 18, 25, 26, 27, 28, 29, 30, 31, 32] (by decide +kernel) (by decide +kernel)
set_option maxRecDepth 20000 in
theorem gX5_costs_X0_setCosts : GoodIn wsX5_costs (wsV RX5 138 RX0 yX0_setCosts wsX0_setCosts) := goodIn_app (goodIn_of _ (by decide +kernel)) ggX5_costs_X0_setCosts
theorem dX5_costs_0 : decode cX5_costs 0 = .ok (.iload_n 1, 1) := by decide +kernel
theorem dX5_costs_1 : decode cX5_costs 1 = .ok (.iconst 0, 1) := by decide +kernel
theorem dX5_costs_2 : decode cX5_costs 2 = .ok (.sipush 1000, 3) := by decide +kernel
theorem dX5_costs_5 : decode cX5_costs 5 = .ok (.invokestatic 47, 3) := by decide +kernel
theorem dX5_costs_8 : decode cX5_costs 8 = .ok (.ifCond .eq 25, 3) := by decide +kernel
theorem dX5_costs_11 : decode cX5_costs 11 = .ok (.iload_n 2, 1) := by decide +kernel
theorem dX5_costs_12 : decode cX5_costs 12 = .ok (.iconst 0, 1) := by decide +kernel
theorem dX5_costs_13 : decode cX5_costs 13 = .ok (.sipush 1000, 3) := by decide +kernel
theorem dX5_costs_16 : decode cX5_costs 16 = .ok (.invokestatic 47, 3) := by decide +kernel
theorem dX5_costs_19 : decode cX5_costs 19 = .ok (.ifCond .eq 14, 3) := by decide +kernel
theorem dX5_costs_22 : decode cX5_costs 22 = .ok (.iload_n 3, 1) := by decide +kernel
theorem dX5_costs_23 : decode cX5_costs 23 = .ok (.iconst 0, 1) := by decide +kernel
theorem dX5_costs_24 : decode cX5_costs 24 = .ok (.sipush 1000, 3) := by decide +kernel
theorem dX5_costs_27 : decode cX5_costs 27 = .ok (.invokestatic 47, 3) := by decide +kernel
theorem dX5_costs_30 : decode cX5_costs 30 = .ok (.ifCond .ne 5, 3) := by decide +kernel
theorem dX5_costs_33 : decode cX5_costs 33 = .ok (.iconst 0, 1) := by decide +kernel
theorem dX5_costs_34 : decode cX5_costs 34 = .ok (.ireturn, 1) := by decide +kernel
theorem dX5_costs_35 : decode cX5_costs 35 = .ok (.aload_n 0, 1) := by decide +kernel
theorem dX5_costs_36 : decode cX5_costs 36 = .ok (.getfield 29, 3) := by decide +kernel
theorem dX5_costs_39 : decode cX5_costs 39 = .ok (.iload_n 1, 1) := by decide +kernel
theorem dX5_costs_40 : decode cX5_costs 40 = .ok (.iload_n 2, 1) := by decide +kernel
theorem dX5_costs_41 : decode cX5_costs 41 = .ok (.iload_n 3, 1) := by decide +kernel
theorem dX5_costs_42 : decode cX5_costs 42 = .ok (.invokevirtual 138, 3) := by decide +kernel
theorem dX5_costs_45 : decode cX5_costs 45 = .ok (.iconst 1, 1) := by decide +kernel
theorem dX5_costs_46 : decode cX5_costs 46 = .ok (.ireturn, 1) := by decide +kernel
set_option maxRecDepth 20000 in
theorem ggX5_join_X5_songAt : GoodIn wsX5_join wsX5_songAt := goodIn_r _ [10, 11, 12, 13, 9, 14, 86, 87, 88, 89, 90, 91] (by decide +kernel) (by decide +kernel)
set_option maxRecDepth 20000 in
theorem gX5_join_X5_songAt : GoodIn wsX5_join (wsV RX5 62 RX5 yX5_songAt wsX5_songAt) := goodIn_app (goodIn_of _ (by decide +kernel)) ggX5_join_X5_songAt
set_option maxRecDepth 20000 in
theorem ggX5_join_X5_within : GoodIn wsX5_join wsX5_within := goodIn_r _ [14] (by decide +kernel) (by decide +kernel)
set_option maxRecDepth 20000 in
theorem gX5_join_X5_within : GoodIn wsX5_join (va_wsS RX5 47 yX5_within wsX5_within) := goodIn_app (goodIn_of _ (by decide +kernel)) ggX5_join_X5_within
set_option maxRecDepth 20000 in
theorem ggX5_join_X3_beginsPhrase : GoodIn wsX5_join wsX3_beginsPhrase := goodIn_r _ [19, 20, 21, 67, 68, 69, 70, 71, 72, 73, 74, 75, 76, 77, 78, 79, 80, 81, 82, 83, 84, 85] (by decide +kernel) (by decide +kernel)
set_option maxRecDepth 20000 in
theorem gX5_join_X3_beginsPhrase : GoodIn wsX5_join (wsV RX5 144 RX3 yX3_beginsPhrase wsX3_beginsPhrase) := goodIn_app (goodIn_of _ (by decide +kernel)) ggX5_join_X3_beginsPhrase
set_option maxRecDepth 20000 in
theorem ggX5_join_X0_bentBy : GoodIn wsX5_join wsX0_bentBy := goodIn_r _ [26, 27, 28, 29, 30, 31, 32, 33, 34, 9, 35, 36, 37, 38, 39, 40, 41, 42, 43, 44, 45, 67, 68, 69, 70, 71, 72, 73, 74, 75, 76, 77, 78, 79, 80, 81, 82, 83, 84, 85, 92, 93, 94, 95, 96, 97, 98, 99] (by decide +kernel) (by decide +kernel)
set_option maxRecDepth 20000 in
theorem gX5_join_X0_bentBy : GoodIn wsX5_join (wsV RX5 149 RX0 yX0_bentBy wsX0_bentBy) := goodIn_app (goodIn_of _ (by decide +kernel)) ggX5_join_X0_bentBy
set_option maxRecDepth 20000 in
theorem ggX5_join_X1_keep : GoodIn wsX5_join wsX1_keep := goodIn_r _ [50, 51, 52, 53, 54, 55, 34, 9, 35, 36, 37, 38, 39, 40, 41, 42, 29, 30, 31, 43, 44, 45, 100, 101, 102, 103, 67, 68, 69, 70, 71, 72, 73, 74, 75, 76, 77, 78, 79, 80, 81, 82, 83, 84, 85] (by decide +kernel) (by decide +kernel)
set_option maxRecDepth 20000 in
theorem gX5_join_X1_keep : GoodIn wsX5_join (wsV RX5 153 RX1 yX1_keep wsX1_keep) := goodIn_app (goodIn_of _ (by decide +kernel)) ggX5_join_X1_keep
set_option maxRecDepth 20000 in
theorem ggX5_join_X0_apart : GoodIn wsX5_join wsX0_apart := goodIn_r _ [59, 60, 28, 29, 30, 31, 61, 62, 63, 64, 65, 66, 67, 68, 69, 70, 71, 72, 73, 74, 75, 76, 77, 78, 79, 80, 81, 82, 83, 84, 85, 92, 93, 94, 95, 96, 97, 98, 99] (by decide +kernel) (by decide +kernel)
set_option maxRecDepth 20000 in
theorem gX5_join_X0_apart : GoodIn wsX5_join (wsV RX5 157 RX0 yX0_apart wsX0_apart) := goodIn_app (goodIn_of _ (by decide +kernel)) ggX5_join_X0_apart
theorem dX5_join_0 : decode cX5_join 0 = .ok (.aload_n 0, 1) := by decide +kernel
theorem dX5_join_1 : decode cX5_join 1 = .ok (.iload_n 1, 1) := by decide +kernel
theorem dX5_join_2 : decode cX5_join 2 = .ok (.invokevirtual 62, 3) := by decide +kernel
theorem dX5_join_5 : decode cX5_join 5 = .ok (.astore 7, 2) := by decide +kernel
theorem dX5_join_7 : decode cX5_join 7 = .ok (.aload_n 0, 1) := by decide +kernel
theorem dX5_join_8 : decode cX5_join 8 = .ok (.iload_n 2, 1) := by decide +kernel
theorem dX5_join_9 : decode cX5_join 9 = .ok (.invokevirtual 62, 3) := by decide +kernel
theorem dX5_join_12 : decode cX5_join 12 = .ok (.astore 8, 2) := by decide +kernel
theorem dX5_join_14 : decode cX5_join 14 = .ok (.aload 7, 2) := by decide +kernel
theorem dX5_join_16 : decode cX5_join 16 = .ok (.ifnull 55, 3) := by decide +kernel
theorem dX5_join_19 : decode cX5_join 19 = .ok (.aload 8, 2) := by decide +kernel
theorem dX5_join_21 : decode cX5_join 21 = .ok (.ifnull 50, 3) := by decide +kernel
theorem dX5_join_24 : decode cX5_join 24 = .ok (.iload_n 1, 1) := by decide +kernel
theorem dX5_join_25 : decode cX5_join 25 = .ok (.iload_n 2, 1) := by decide +kernel
theorem dX5_join_26 : decode cX5_join 26 = .ok (.if_icmp .eq 45, 3) := by decide +kernel
theorem dX5_join_29 : decode cX5_join 29 = .ok (.iload_n 3, 1) := by decide +kernel
theorem dX5_join_30 : decode cX5_join 30 = .ok (.iconst 1, 1) := by decide +kernel
theorem dX5_join_31 : decode cX5_join 31 = .ok (.bipush 8, 2) := by decide +kernel
theorem dX5_join_33 : decode cX5_join 33 = .ok (.invokestatic 47, 3) := by decide +kernel
theorem dX5_join_36 : decode cX5_join 36 = .ok (.ifCond .eq 35, 3) := by decide +kernel
theorem dX5_join_39 : decode cX5_join 39 = .ok (.iload 4, 2) := by decide +kernel
theorem dX5_join_41 : decode cX5_join 41 = .ok (.iconst 0, 1) := by decide +kernel
theorem dX5_join_42 : decode cX5_join 42 = .ok (.aload 7, 2) := by decide +kernel
theorem dX5_join_44 : decode cX5_join 44 = .ok (.getfield 102, 3) := by decide +kernel
theorem dX5_join_47 : decode cX5_join 47 = .ok (.iconst 1, 1) := by decide +kernel
theorem dX5_join_48 : decode cX5_join 48 = .ok (.isub, 1) := by decide +kernel
theorem dX5_join_49 : decode cX5_join 49 = .ok (.invokestatic 47, 3) := by decide +kernel
theorem dX5_join_52 : decode cX5_join 52 = .ok (.ifCond .eq 19, 3) := by decide +kernel
theorem dX5_join_55 : decode cX5_join 55 = .ok (.iload 5, 2) := by decide +kernel
theorem dX5_join_57 : decode cX5_join 57 = .ok (.iconst 0, 1) := by decide +kernel
theorem dX5_join_58 : decode cX5_join 58 = .ok (.aload 8, 2) := by decide +kernel
theorem dX5_join_60 : decode cX5_join 60 = .ok (.getfield 102, 3) := by decide +kernel
theorem dX5_join_63 : decode cX5_join 63 = .ok (.iconst 1, 1) := by decide +kernel
theorem dX5_join_64 : decode cX5_join 64 = .ok (.isub, 1) := by decide +kernel
theorem dX5_join_65 : decode cX5_join 65 = .ok (.invokestatic 47, 3) := by decide +kernel
theorem dX5_join_68 : decode cX5_join 68 = .ok (.ifCond .ne 5, 3) := by decide +kernel
theorem dX5_join_71 : decode cX5_join 71 = .ok (.iconst (-1), 1) := by decide +kernel
theorem dX5_join_72 : decode cX5_join 72 = .ok (.ireturn, 1) := by decide +kernel
theorem dX5_join_73 : decode cX5_join 73 = .ok (.aload 7, 2) := by decide +kernel
theorem dX5_join_75 : decode cX5_join 75 = .ok (.getfield 141, 3) := by decide +kernel
theorem dX5_join_78 : decode cX5_join 78 = .ok (.iload 4, 2) := by decide +kernel
theorem dX5_join_80 : decode cX5_join 80 = .ok (.iaload, 1) := by decide +kernel
theorem dX5_join_81 : decode cX5_join 81 = .ok (.iload_n 3, 1) := by decide +kernel
theorem dX5_join_82 : decode cX5_join 82 = .ok (.if_icmp .lt 15, 3) := by decide +kernel
theorem dX5_join_85 : decode cX5_join 85 = .ok (.aload 8, 2) := by decide +kernel
theorem dX5_join_87 : decode cX5_join 87 = .ok (.getfield 141, 3) := by decide +kernel
theorem dX5_join_90 : decode cX5_join 90 = .ok (.iload 5, 2) := by decide +kernel
theorem dX5_join_92 : decode cX5_join 92 = .ok (.iaload, 1) := by decide +kernel
theorem dX5_join_93 : decode cX5_join 93 = .ok (.iload_n 3, 1) := by decide +kernel
theorem dX5_join_94 : decode cX5_join 94 = .ok (.if_icmp .ge 6, 3) := by decide +kernel
theorem dX5_join_97 : decode cX5_join 97 = .ok (.bipush (-2), 2) := by decide +kernel
theorem dX5_join_99 : decode cX5_join 99 = .ok (.ireturn, 1) := by decide +kernel
theorem dX5_join_100 : decode cX5_join 100 = .ok (.iload 6, 2) := by decide +kernel
theorem dX5_join_102 : decode cX5_join 102 = .ok (.ifCond .eq 26, 3) := by decide +kernel
theorem dX5_join_105 : decode cX5_join 105 = .ok (.aload 7, 2) := by decide +kernel
theorem dX5_join_107 : decode cX5_join 107 = .ok (.iload 4, 2) := by decide +kernel
theorem dX5_join_109 : decode cX5_join 109 = .ok (.invokevirtual 144, 3) := by decide +kernel
theorem dX5_join_112 : decode cX5_join 112 = .ok (.ifCond .eq 13, 3) := by decide +kernel
theorem dX5_join_115 : decode cX5_join 115 = .ok (.aload 8, 2) := by decide +kernel
theorem dX5_join_117 : decode cX5_join 117 = .ok (.iload 5, 2) := by decide +kernel
theorem dX5_join_119 : decode cX5_join 119 = .ok (.invokevirtual 144, 3) := by decide +kernel
theorem dX5_join_122 : decode cX5_join 122 = .ok (.ifCond .ne 6, 3) := by decide +kernel
theorem dX5_join_125 : decode cX5_join 125 = .ok (.bipush (-3), 2) := by decide +kernel
theorem dX5_join_127 : decode cX5_join 127 = .ok (.ireturn, 1) := by decide +kernel
theorem dX5_join_128 : decode cX5_join 128 = .ok (.aload_n 0, 1) := by decide +kernel
theorem dX5_join_129 : decode cX5_join 129 = .ok (.getfield 29, 3) := by decide +kernel
theorem dX5_join_132 : decode cX5_join 132 = .ok (.aload 7, 2) := by decide +kernel
theorem dX5_join_134 : decode cX5_join 134 = .ok (.aload 8, 2) := by decide +kernel
theorem dX5_join_136 : decode cX5_join 136 = .ok (.iload_n 3, 1) := by decide +kernel
theorem dX5_join_137 : decode cX5_join 137 = .ok (.iload 4, 2) := by decide +kernel
theorem dX5_join_139 : decode cX5_join 139 = .ok (.iload 5, 2) := by decide +kernel
theorem dX5_join_141 : decode cX5_join 141 = .ok (.ldc 148, 2) := by decide +kernel
theorem dX5_join_143 : decode cX5_join 143 = .ok (.invokevirtual 149, 3) := by decide +kernel
theorem dX5_join_146 : decode cX5_join 146 = .ok (.istore 9, 2) := by decide +kernel
theorem dX5_join_148 : decode cX5_join 148 = .ok (.iload 9, 2) := by decide +kernel
theorem dX5_join_150 : decode cX5_join 150 = .ok (.ldc 148, 2) := by decide +kernel
theorem dX5_join_152 : decode cX5_join 152 = .ok (.if_icmp .ne 6, 3) := by decide +kernel
theorem dX5_join_155 : decode cX5_join 155 = .ok (.bipush (-4), 2) := by decide +kernel
theorem dX5_join_157 : decode cX5_join 157 = .ok (.ireturn, 1) := by decide +kernel
theorem dX5_join_158 : decode cX5_join 158 = .ok (.aload_n 0, 1) := by decide +kernel
theorem dX5_join_159 : decode cX5_join 159 = .ok (.getfield 36, 3) := by decide +kernel
theorem dX5_join_162 : decode cX5_join 162 = .ok (.aload 7, 2) := by decide +kernel
theorem dX5_join_164 : decode cX5_join 164 = .ok (.aload 8, 2) := by decide +kernel
theorem dX5_join_166 : decode cX5_join 166 = .ok (.iload_n 3, 1) := by decide +kernel
theorem dX5_join_167 : decode cX5_join 167 = .ok (.iload 4, 2) := by decide +kernel
theorem dX5_join_169 : decode cX5_join 169 = .ok (.iload 5, 2) := by decide +kernel
theorem dX5_join_171 : decode cX5_join 171 = .ok (.invokevirtual 153, 3) := by decide +kernel
theorem dX5_join_174 : decode cX5_join 174 = .ok (.iload 9, 2) := by decide +kernel
theorem dX5_join_176 : decode cX5_join 176 = .ok (.aload_n 0, 1) := by decide +kernel
theorem dX5_join_177 : decode cX5_join 177 = .ok (.getfield 29, 3) := by decide +kernel
theorem dX5_join_180 : decode cX5_join 180 = .ok (.aload 7, 2) := by decide +kernel
theorem dX5_join_182 : decode cX5_join 182 = .ok (.aload 8, 2) := by decide +kernel
theorem dX5_join_184 : decode cX5_join 184 = .ok (.invokevirtual 157, 3) := by decide +kernel
theorem dX5_join_187 : decode cX5_join 187 = .ok (.iadd, 1) := by decide +kernel
theorem dX5_join_188 : decode cX5_join 188 = .ok (.ireturn, 1) := by decide +kernel
set_option maxRecDepth 20000 in
theorem ggX5_meets_X1_tell : GoodIn wsX5_meets wsX1_tell := goodIn_r _ [6, 7, 8, 9, 10, 11, 12, 13, 20, 21, 22, 23] (by decide +kernel) (by decide +kernel)
set_option maxRecDepth 20000 in
theorem gX5_meets_X1_tell : GoodIn wsX5_meets (wsV RX5 161 RX1 yX1_tell wsX1_tell) := goodIn_app (goodIn_of _ (by decide +kernel)) ggX5_meets_X1_tell
theorem dX5_meets_0 : decode cX5_meets 0 = .ok (.aload_n 0, 1) := by decide +kernel
theorem dX5_meets_1 : decode cX5_meets 1 = .ok (.getfield 36, 3) := by decide +kernel
theorem dX5_meets_4 : decode cX5_meets 4 = .ok (.iload_n 1, 1) := by decide +kernel
theorem dX5_meets_5 : decode cX5_meets 5 = .ok (.iload_n 2, 1) := by decide +kernel
theorem dX5_meets_6 : decode cX5_meets 6 = .ok (.invokevirtual 161, 3) := by decide +kernel
theorem dX5_meets_9 : decode cX5_meets 9 = .ok (.ireturn, 1) := by decide +kernel
set_option maxRecDepth 20000 in
theorem ggX5_best_X5_songAt : GoodIn wsX5_best wsX5_songAt := goodIn_r _ [10, 11, 12, 13, 9, 14, 92, 93, 94, 95, 96, 97] (by decide +kernel) (by decide +kernel)
set_option maxRecDepth 20000 in
theorem gX5_best_X5_songAt : GoodIn wsX5_best (wsV RX5 62 RX5 yX5_songAt wsX5_songAt) := goodIn_app (goodIn_of _ (by decide +kernel)) ggX5_best_X5_songAt
set_option maxRecDepth 20000 in
theorem ggX5_best_X5_within : GoodIn wsX5_best wsX5_within := goodIn_r _ [14] (by decide +kernel) (by decide +kernel)
set_option maxRecDepth 20000 in
theorem gX5_best_X5_within : GoodIn wsX5_best (va_wsS RX5 47 yX5_within wsX5_within) := goodIn_app (goodIn_of _ (by decide +kernel)) ggX5_best_X5_within
set_option maxRecDepth 20000 in
theorem ggX5_best_X0_slotOf : GoodIn wsX5_best wsX0_slotOf := goodIn_r _ [19, 20, 21, 22, 23, 18, 24, 25, 26, 27, 28, 29, 30, 31, 32, 33, 34, 35, 36, 37, 38, 39, 40, 41, 42, 43, 44, 45, 46, 47, 48, 49, 50, 51, 52, 53, 54, 55, 56, 57, 58, 59, 60, 61, 62, 63, 64, 65, 66, 67, 68, 69, 9, 70, 71, 72, 73, 74, 75, 76, 77, 78, 79, 80, 81, 82, 83, 84, 85, 86, 87, 88, 89, 90, 91, 106, 107, 108, 109, 110, 111, 112, 113, 114, 115, 116, 117, 118, 119, 120, 121, 122, 123, 124, 98, 99, 100, 101, 102, 103, 104, 105] (by decide +kernel) (by decide +kernel)
set_option maxRecDepth 20000 in
theorem gX5_best_X0_slotOf : GoodIn wsX5_best (wsV RX5 165 RX0 yX0_slotOf wsX0_slotOf) := goodIn_app (goodIn_of _ (by decide +kernel)) ggX5_best_X0_slotOf
theorem dX5_best_0 : decode cX5_best 0 = .ok (.aload_n 0, 1) := by decide +kernel
theorem dX5_best_1 : decode cX5_best 1 = .ok (.iload_n 1, 1) := by decide +kernel
theorem dX5_best_2 : decode cX5_best 2 = .ok (.invokevirtual 62, 3) := by decide +kernel
theorem dX5_best_5 : decode cX5_best 5 = .ok (.astore 5, 2) := by decide +kernel
theorem dX5_best_7 : decode cX5_best 7 = .ok (.aload_n 0, 1) := by decide +kernel
theorem dX5_best_8 : decode cX5_best 8 = .ok (.iload_n 2, 1) := by decide +kernel
theorem dX5_best_9 : decode cX5_best 9 = .ok (.invokevirtual 62, 3) := by decide +kernel
theorem dX5_best_12 : decode cX5_best 12 = .ok (.astore 6, 2) := by decide +kernel
theorem dX5_best_14 : decode cX5_best 14 = .ok (.aload 5, 2) := by decide +kernel
theorem dX5_best_16 : decode cX5_best 16 = .ok (.ifnull 23, 3) := by decide +kernel
theorem dX5_best_19 : decode cX5_best 19 = .ok (.aload 6, 2) := by decide +kernel
theorem dX5_best_21 : decode cX5_best 21 = .ok (.ifnull 18, 3) := by decide +kernel
theorem dX5_best_24 : decode cX5_best 24 = .ok (.iload_n 1, 1) := by decide +kernel
theorem dX5_best_25 : decode cX5_best 25 = .ok (.iload_n 2, 1) := by decide +kernel
theorem dX5_best_26 : decode cX5_best 26 = .ok (.if_icmp .eq 13, 3) := by decide +kernel
theorem dX5_best_29 : decode cX5_best 29 = .ok (.iload_n 3, 1) := by decide +kernel
theorem dX5_best_30 : decode cX5_best 30 = .ok (.iconst 1, 1) := by decide +kernel
theorem dX5_best_31 : decode cX5_best 31 = .ok (.bipush 8, 2) := by decide +kernel
theorem dX5_best_33 : decode cX5_best 33 = .ok (.invokestatic 47, 3) := by decide +kernel
theorem dX5_best_36 : decode cX5_best 36 = .ok (.ifCond .ne 5, 3) := by decide +kernel
theorem dX5_best_39 : decode cX5_best 39 = .ok (.iconst (-1), 1) := by decide +kernel
theorem dX5_best_40 : decode cX5_best 40 = .ok (.ireturn, 1) := by decide +kernel
theorem dX5_best_41 : decode cX5_best 41 = .ok (.aload_n 0, 1) := by decide +kernel
theorem dX5_best_42 : decode cX5_best 42 = .ok (.getfield 29, 3) := by decide +kernel
theorem dX5_best_45 : decode cX5_best 45 = .ok (.aload 5, 2) := by decide +kernel
theorem dX5_best_47 : decode cX5_best 47 = .ok (.aload 6, 2) := by decide +kernel
theorem dX5_best_49 : decode cX5_best 49 = .ok (.iload_n 3, 1) := by decide +kernel
theorem dX5_best_50 : decode cX5_best 50 = .ok (.invokevirtual 165, 3) := by decide +kernel
theorem dX5_best_53 : decode cX5_best 53 = .ok (.istore 7, 2) := by decide +kernel
theorem dX5_best_55 : decode cX5_best 55 = .ok (.aload_n 0, 1) := by decide +kernel
theorem dX5_best_56 : decode cX5_best 56 = .ok (.getfield 29, 3) := by decide +kernel
theorem dX5_best_59 : decode cX5_best 59 = .ok (.getfield 169, 3) := by decide +kernel
theorem dX5_best_62 : decode cX5_best 62 = .ok (.iload 7, 2) := by decide +kernel
theorem dX5_best_64 : decode cX5_best 64 = .ok (.iaload, 1) := by decide +kernel
theorem dX5_best_65 : decode cX5_best 65 = .ok (.ldc 148, 2) := by decide +kernel
theorem dX5_best_67 : decode cX5_best 67 = .ok (.if_icmp .ne 5, 3) := by decide +kernel
theorem dX5_best_70 : decode cX5_best 70 = .ok (.iconst (-1), 1) := by decide +kernel
theorem dX5_best_71 : decode cX5_best 71 = .ok (.ireturn, 1) := by decide +kernel
theorem dX5_best_72 : decode cX5_best 72 = .ok (.iload 4, 2) := by decide +kernel
theorem dX5_best_74 : decode cX5_best 74 = .ok (.tableswitch 59 0 2 #[26, 37, 48], 26) := by decide +kernel
theorem dX5_best_100 : decode cX5_best 100 = .ok (.aload_n 0, 1) := by decide +kernel
theorem dX5_best_101 : decode cX5_best 101 = .ok (.getfield 29, 3) := by decide +kernel
theorem dX5_best_104 : decode cX5_best 104 = .ok (.getfield 169, 3) := by decide +kernel
theorem dX5_best_107 : decode cX5_best 107 = .ok (.iload 7, 2) := by decide +kernel
theorem dX5_best_109 : decode cX5_best 109 = .ok (.iaload, 1) := by decide +kernel
theorem dX5_best_110 : decode cX5_best 110 = .ok (.ireturn, 1) := by decide +kernel
theorem dX5_best_111 : decode cX5_best 111 = .ok (.aload_n 0, 1) := by decide +kernel
theorem dX5_best_112 : decode cX5_best 112 = .ok (.getfield 29, 3) := by decide +kernel
theorem dX5_best_115 : decode cX5_best 115 = .ok (.getfield 172, 3) := by decide +kernel
theorem dX5_best_118 : decode cX5_best 118 = .ok (.iload 7, 2) := by decide +kernel
theorem dX5_best_120 : decode cX5_best 120 = .ok (.iaload, 1) := by decide +kernel
theorem dX5_best_121 : decode cX5_best 121 = .ok (.ireturn, 1) := by decide +kernel
theorem dX5_best_122 : decode cX5_best 122 = .ok (.aload_n 0, 1) := by decide +kernel
theorem dX5_best_123 : decode cX5_best 123 = .ok (.getfield 29, 3) := by decide +kernel
theorem dX5_best_126 : decode cX5_best 126 = .ok (.getfield 175, 3) := by decide +kernel
theorem dX5_best_129 : decode cX5_best 129 = .ok (.iload 7, 2) := by decide +kernel
theorem dX5_best_131 : decode cX5_best 131 = .ok (.iaload, 1) := by decide +kernel
theorem dX5_best_132 : decode cX5_best 132 = .ok (.ireturn, 1) := by decide +kernel
theorem dX5_best_133 : decode cX5_best 133 = .ok (.iconst (-1), 1) := by decide +kernel
theorem dX5_best_134 : decode cX5_best 134 = .ok (.ireturn, 1) := by decide +kernel
set_option maxRecDepth 20000 in
theorem ggX5_must_X5_songAt : GoodIn wsX5_must wsX5_songAt := goodIn_r _ [6, 7, 8, 9, 5, 10, 11, 12, 13, 14, 15, 16] (by decide +kernel) (by decide +kernel)
set_option maxRecDepth 20000 in
theorem gX5_must_X5_songAt : GoodIn wsX5_must (wsV RX5 62 RX5 yX5_songAt wsX5_songAt) := goodIn_app (goodIn_of _ (by decide +kernel)) ggX5_must_X5_songAt
set_option maxRecDepth 20000 in
theorem ggX5_must_X5_within : GoodIn wsX5_must wsX5_within := goodIn_r _ [10] (by decide +kernel) (by decide +kernel)
set_option maxRecDepth 20000 in
theorem gX5_must_X5_within : GoodIn wsX5_must (va_wsS RX5 47 yX5_within wsX5_within) := goodIn_app (goodIn_of _ (by decide +kernel)) ggX5_must_X5_within
theorem dX5_must_0 : decode cX5_must 0 = .ok (.aload_n 0, 1) := by decide +kernel
theorem dX5_must_1 : decode cX5_must 1 = .ok (.iload_n 1, 1) := by decide +kernel
theorem dX5_must_2 : decode cX5_must 2 = .ok (.invokevirtual 62, 3) := by decide +kernel
theorem dX5_must_5 : decode cX5_must 5 = .ok (.ifnull 25, 3) := by decide +kernel
theorem dX5_must_8 : decode cX5_must 8 = .ok (.aload_n 0, 1) := by decide +kernel
theorem dX5_must_9 : decode cX5_must 9 = .ok (.iload_n 2, 1) := by decide +kernel
theorem dX5_must_10 : decode cX5_must 10 = .ok (.invokevirtual 62, 3) := by decide +kernel
theorem dX5_must_13 : decode cX5_must 13 = .ok (.ifnull 17, 3) := by decide +kernel
theorem dX5_must_16 : decode cX5_must 16 = .ok (.iload_n 1, 1) := by decide +kernel
theorem dX5_must_17 : decode cX5_must 17 = .ok (.iload_n 2, 1) := by decide +kernel
theorem dX5_must_18 : decode cX5_must 18 = .ok (.if_icmp .eq 12, 3) := by decide +kernel
theorem dX5_must_21 : decode cX5_must 21 = .ok (.iload_n 3, 1) := by decide +kernel
theorem dX5_must_22 : decode cX5_must 22 = .ok (.iconst 0, 1) := by decide +kernel
theorem dX5_must_23 : decode cX5_must 23 = .ok (.iconst 2, 1) := by decide +kernel
theorem dX5_must_24 : decode cX5_must 24 = .ok (.invokestatic 47, 3) := by decide +kernel
theorem dX5_must_27 : decode cX5_must 27 = .ok (.ifCond .ne 5, 3) := by decide +kernel
theorem dX5_must_30 : decode cX5_must 30 = .ok (.iconst 0, 1) := by decide +kernel
theorem dX5_must_31 : decode cX5_must 31 = .ok (.ireturn, 1) := by decide +kernel
theorem dX5_must_32 : decode cX5_must 32 = .ok (.aload_n 0, 1) := by decide +kernel
theorem dX5_must_33 : decode cX5_must 33 = .ok (.getfield 15, 3) := by decide +kernel
theorem dX5_must_36 : decode cX5_must 36 = .ok (.iload_n 1, 1) := by decide +kernel
theorem dX5_must_37 : decode cX5_must 37 = .ok (.bipush 12, 2) := by decide +kernel
theorem dX5_must_39 : decode cX5_must 39 = .ok (.imul, 1) := by decide +kernel
theorem dX5_must_40 : decode cX5_must 40 = .ok (.iload_n 2, 1) := by decide +kernel
theorem dX5_must_41 : decode cX5_must 41 = .ok (.iadd, 1) := by decide +kernel
theorem dX5_must_42 : decode cX5_must 42 = .ok (.iload_n 3, 1) := by decide +kernel
theorem dX5_must_43 : decode cX5_must 43 = .ok (.iastore, 1) := by decide +kernel
theorem dX5_must_44 : decode cX5_must 44 = .ok (.iconst 1, 1) := by decide +kernel
theorem dX5_must_45 : decode cX5_must 45 = .ok (.ireturn, 1) := by decide +kernel
set_option maxRecDepth 20000 in
theorem ggX5_night_X5_within : GoodIn wsX5_night wsX5_within := goodIn_r _ [8] (by decide +kernel) (by decide +kernel)
set_option maxRecDepth 20000 in
theorem gX5_night_X5_within : GoodIn wsX5_night (va_wsS RX5 47 yX5_within wsX5_within) := goodIn_app (goodIn_of _ (by decide +kernel)) ggX5_night_X5_within
set_option maxRecDepth 20000 in
theorem ggX5_night_X2_gather : GoodIn wsX5_night wsX2_gather := goodIn_r _ [13, 14, 15, 152, 153, 154, 155, 156, 157, 158, 159] (by decide +kernel) (by decide +kernel)
set_option maxRecDepth 20000 in
theorem gX5_night_X2_gather : GoodIn wsX5_night (wsV RX5 178 RX2 yX2_gather wsX2_gather) := goodIn_app (goodIn_of _ (by decide +kernel)) ggX5_night_X2_gather
set_option maxRecDepth 20000 in
theorem ggX5_night_X5_weighSteps : GoodIn wsX5_night wsX5_weighSteps := goodIn_r _ [19, 1, 20, 21, 22, 3, 23, 24, 25, 26, 27, 28, 29, 7, 30, 31, 32, 33, 34, 35, 36, 37, 38, 39, 40, 41, 42, 43, 44, 45, 46, 47, 48, 49, 50, 51, 52, 53, 54, 55, 56, 57, 58, 59, 60, 61, 62, 63, 64, 65, 66, 67, 68, 69, 70, 71, 72, 73, 74, 75, 76, 77, 78, 79, 80, 81, 82, 83, 84, 85, 86, 87, 88, 89, 90, 91, 92, 93, 94, 95, 96, 97, 98, 99, 100, 101, 102, 103, 104, 105, 106, 107, 108, 109, 110, 111, 112, 146, 147, 148, 149, 150, 151, 152, 153, 154, 155, 156, 157, 158, 159, 160, 161, 162, 163, 164, 165, 166, 167, 168, 169, 170, 171, 172, 173, 174, 175, 176, 177, 178, 179, 180, 181, 182, 183, 184, 185, 186] (by decide +kernel) (by decide +kernel)
set_option maxRecDepth 20000 in
theorem gX5_night_X5_weighSteps : GoodIn wsX5_night (wsV RX5 185 RX5 yX5_weighSteps wsX5_weighSteps) := goodIn_app (goodIn_of _ (by decide +kernel)) ggX5_night_X5_weighSteps
set_option maxRecDepth 20000 in
theorem ggX5_night_X2_seekOrder : GoodIn wsX5_night wsX2_seekOrder := goodIn_r _ [116, 14, 117, 118, 119, 120, 121, 122, 12, 123, 124, 125, 126, 127, 128, 129, 130, 131, 132, 133, 134, 135, 136, 137, 138, 139, 140, 141, 142, 143, 15, 144, 145, 152, 153, 154, 155, 156, 157, 158, 159, 160, 161, 162, 163, 164, 165, 166, 167, 168, 169, 170, 171, 172, 173, 174, 175, 176, 177, 178] (by decide +kernel) (by decide +kernel)
set_option maxRecDepth 20000 in
theorem gX5_night_X2_seekOrder : GoodIn wsX5_night (wsV RX5 188 RX2 yX2_seekOrder wsX2_seekOrder) := goodIn_app (goodIn_of _ (by decide +kernel)) ggX5_night_X2_seekOrder
theorem dX5_night_0 : decode cX5_night 0 = .ok (.iload_n 1, 1) := by decide +kernel
theorem dX5_night_1 : decode cX5_night 1 = .ok (.iconst 1, 1) := by decide +kernel
theorem dX5_night_2 : decode cX5_night 2 = .ok (.bipush 8, 2) := by decide +kernel
theorem dX5_night_4 : decode cX5_night 4 = .ok (.invokestatic 47, 3) := by decide +kernel
theorem dX5_night_7 : decode cX5_night 7 = .ok (.ifCond .ne 5, 3) := by decide +kernel
theorem dX5_night_10 : decode cX5_night 10 = .ok (.iconst (-1), 1) := by decide +kernel
theorem dX5_night_11 : decode cX5_night 11 = .ok (.ireturn, 1) := by decide +kernel
theorem dX5_night_12 : decode cX5_night 12 = .ok (.aload_n 0, 1) := by decide +kernel
theorem dX5_night_13 : decode cX5_night 13 = .ok (.getfield 43, 3) := by decide +kernel
theorem dX5_night_16 : decode cX5_night 16 = .ok (.aload_n 0, 1) := by decide +kernel
theorem dX5_night_17 : decode cX5_night 17 = .ok (.getfield 11, 3) := by decide +kernel
theorem dX5_night_20 : decode cX5_night 20 = .ok (.invokevirtual 178, 3) := by decide +kernel
theorem dX5_night_23 : decode cX5_night 23 = .ok (.aload_n 0, 1) := by decide +kernel
theorem dX5_night_24 : decode cX5_night 24 = .ok (.getfield 43, 3) := by decide +kernel
theorem dX5_night_27 : decode cX5_night 27 = .ok (.getfield 182, 3) := by decide +kernel
theorem dX5_night_30 : decode cX5_night 30 = .ok (.ifCond .ne 5, 3) := by decide +kernel
theorem dX5_night_33 : decode cX5_night 33 = .ok (.iconst (-1), 1) := by decide +kernel
theorem dX5_night_34 : decode cX5_night 34 = .ok (.ireturn, 1) := by decide +kernel
theorem dX5_night_35 : decode cX5_night 35 = .ok (.iconst 0, 1) := by decide +kernel
theorem dX5_night_36 : decode cX5_night 36 = .ok (.istore_n 2, 1) := by decide +kernel
theorem dX5_night_37 : decode cX5_night 37 = .ok (.iload_n 2, 1) := by decide +kernel
theorem dX5_night_38 : decode cX5_night 38 = .ok (.aload_n 0, 1) := by decide +kernel
theorem dX5_night_39 : decode cX5_night 39 = .ok (.getfield 43, 3) := by decide +kernel
theorem dX5_night_42 : decode cX5_night 42 = .ok (.getfield 182, 3) := by decide +kernel
theorem dX5_night_45 : decode cX5_night 45 = .ok (.if_icmp .ge 15, 3) := by decide +kernel
theorem dX5_night_48 : decode cX5_night 48 = .ok (.aload_n 0, 1) := by decide +kernel
theorem dX5_night_49 : decode cX5_night 49 = .ok (.iload_n 2, 1) := by decide +kernel
theorem dX5_night_50 : decode cX5_night 50 = .ok (.iload_n 1, 1) := by decide +kernel
theorem dX5_night_51 : decode cX5_night 51 = .ok (.invokevirtual 185, 3) := by decide +kernel
theorem dX5_night_54 : decode cX5_night 54 = .ok (.iinc 2 1, 3) := by decide +kernel
theorem dX5_night_57 : decode cX5_night 57 = .ok (.goto (-20), 3) := by decide +kernel
theorem dX5_night_60 : decode cX5_night 60 = .ok (.aload_n 0, 1) := by decide +kernel
theorem dX5_night_61 : decode cX5_night 61 = .ok (.getfield 43, 3) := by decide +kernel
theorem dX5_night_64 : decode cX5_night 64 = .ok (.invokevirtual 188, 3) := by decide +kernel
theorem dX5_night_67 : decode cX5_night 67 = .ok (.ifCond .eq 13, 3) := by decide +kernel
theorem dX5_night_70 : decode cX5_night 70 = .ok (.aload_n 0, 1) := by decide +kernel
theorem dX5_night_71 : decode cX5_night 71 = .ok (.getfield 43, 3) := by decide +kernel
theorem dX5_night_74 : decode cX5_night 74 = .ok (.getfield 192, 3) := by decide +kernel
theorem dX5_night_77 : decode cX5_night 77 = .ok (.goto 5, 3) := by decide +kernel
theorem dX5_night_80 : decode cX5_night 80 = .ok (.bipush (-2), 2) := by decide +kernel
theorem dX5_night_82 : decode cX5_night 82 = .ok (.ireturn, 1) := by decide +kernel
set_option maxRecDepth 20000 in
theorem ggX5_order_X5_within : GoodIn wsX5_order wsX5_within := goodIn_r _ [7] (by decide +kernel) (by decide +kernel)
set_option maxRecDepth 20000 in
theorem gX5_order_X5_within : GoodIn wsX5_order (va_wsS RX5 47 yX5_within wsX5_within) := goodIn_app (goodIn_of _ (by decide +kernel)) ggX5_order_X5_within
theorem dX5_order_0 : decode cX5_order 0 = .ok (.iload_n 1, 1) := by decide +kernel
theorem dX5_order_1 : decode cX5_order 1 = .ok (.iconst 0, 1) := by decide +kernel
theorem dX5_order_2 : decode cX5_order 2 = .ok (.aload_n 0, 1) := by decide +kernel
theorem dX5_order_3 : decode cX5_order 3 = .ok (.getfield 43, 3) := by decide +kernel
theorem dX5_order_6 : decode cX5_order 6 = .ok (.getfield 195, 3) := by decide +kernel
theorem dX5_order_9 : decode cX5_order 9 = .ok (.iconst 1, 1) := by decide +kernel
theorem dX5_order_10 : decode cX5_order 10 = .ok (.isub, 1) := by decide +kernel
theorem dX5_order_11 : decode cX5_order 11 = .ok (.invokestatic 47, 3) := by decide +kernel
theorem dX5_order_14 : decode cX5_order 14 = .ok (.ifCond .eq 15, 3) := by decide +kernel
theorem dX5_order_17 : decode cX5_order 17 = .ok (.aload_n 0, 1) := by decide +kernel
theorem dX5_order_18 : decode cX5_order 18 = .ok (.getfield 43, 3) := by decide +kernel
theorem dX5_order_21 : decode cX5_order 21 = .ok (.getfield 198, 3) := by decide +kernel
theorem dX5_order_24 : decode cX5_order 24 = .ok (.iload_n 1, 1) := by decide +kernel
theorem dX5_order_25 : decode cX5_order 25 = .ok (.iaload, 1) := by decide +kernel
theorem dX5_order_26 : decode cX5_order 26 = .ok (.goto 4, 3) := by decide +kernel
theorem dX5_order_29 : decode cX5_order 29 = .ok (.iconst (-1), 1) := by decide +kernel
theorem dX5_order_30 : decode cX5_order 30 = .ok (.ireturn, 1) := by decide +kernel
set_option maxRecDepth 20000 in
theorem ggX5_mend_X5_within : GoodIn wsX5_mend wsX5_within := goodIn_r _ [12] (by decide +kernel) (by decide +kernel)
set_option maxRecDepth 20000 in
theorem gX5_mend_X5_within : GoodIn wsX5_mend (va_wsS RX5 47 yX5_within wsX5_within) := goodIn_app (goodIn_of _ (by decide +kernel)) ggX5_mend_X5_within
theorem dX5_mend_0 : decode cX5_mend 0 = .ok (.iload_n 1, 1) := by decide +kernel
theorem dX5_mend_1 : decode cX5_mend 1 = .ok (.ldc 201, 2) := by decide +kernel
theorem dX5_mend_3 : decode cX5_mend 3 = .ok (.ldc 202, 2) := by decide +kernel
theorem dX5_mend_5 : decode cX5_mend 5 = .ok (.invokestatic 47, 3) := by decide +kernel
theorem dX5_mend_8 : decode cX5_mend 8 = .ok (.ifCond .eq 15, 3) := by decide +kernel
theorem dX5_mend_11 : decode cX5_mend 11 = .ok (.iload_n 2, 1) := by decide +kernel
theorem dX5_mend_12 : decode cX5_mend 12 = .ok (.bipush 20, 2) := by decide +kernel
theorem dX5_mend_14 : decode cX5_mend 14 = .ok (.sipush 400, 3) := by decide +kernel
theorem dX5_mend_17 : decode cX5_mend 17 = .ok (.invokestatic 47, 3) := by decide +kernel
theorem dX5_mend_20 : decode cX5_mend 20 = .ok (.ifCond .ne 5, 3) := by decide +kernel
theorem dX5_mend_23 : decode cX5_mend 23 = .ok (.iconst (-1), 1) := by decide +kernel
theorem dX5_mend_24 : decode cX5_mend 24 = .ok (.ireturn, 1) := by decide +kernel
theorem dX5_mend_25 : decode cX5_mend 25 = .ok (.iload_n 1, 1) := by decide +kernel
theorem dX5_mend_26 : decode cX5_mend 26 = .ok (.ifCond .ne 5, 3) := by decide +kernel
theorem dX5_mend_29 : decode cX5_mend 29 = .ok (.iconst 0, 1) := by decide +kernel
theorem dX5_mend_30 : decode cX5_mend 30 = .ok (.ireturn, 1) := by decide +kernel
theorem dX5_mend_31 : decode cX5_mend 31 = .ok (.iconst 4, 1) := by decide +kernel
theorem dX5_mend_32 : decode cX5_mend 32 = .ok (.iload_n 2, 1) := by decide +kernel
theorem dX5_mend_33 : decode cX5_mend 33 = .ok (.aload_n 0, 1) := by decide +kernel
theorem dX5_mend_34 : decode cX5_mend 34 = .ok (.getfield 29, 3) := by decide +kernel
theorem dX5_mend_37 : decode cX5_mend 37 = .ok (.getfield 203, 3) := by decide +kernel
theorem dX5_mend_40 : decode cX5_mend 40 = .ok (.imul, 1) := by decide +kernel
theorem dX5_mend_41 : decode cX5_mend 41 = .ok (.sipush 1000, 3) := by decide +kernel
theorem dX5_mend_44 : decode cX5_mend 44 = .ok (.idiv, 1) := by decide +kernel
theorem dX5_mend_45 : decode cX5_mend 45 = .ok (.imul, 1) := by decide +kernel
theorem dX5_mend_46 : decode cX5_mend 46 = .ok (.istore_n 3, 1) := by decide +kernel
theorem dX5_mend_47 : decode cX5_mend 47 = .ok (.iload_n 3, 1) := by decide +kernel
theorem dX5_mend_48 : decode cX5_mend 48 = .ok (.ifCond .ne 7, 3) := by decide +kernel
theorem dX5_mend_51 : decode cX5_mend 51 = .ok (.iconst (-1), 1) := by decide +kernel
theorem dX5_mend_52 : decode cX5_mend 52 = .ok (.goto 13, 3) := by decide +kernel
theorem dX5_mend_55 : decode cX5_mend 55 = .ok (.iload_n 1, 1) := by decide +kernel
theorem dX5_mend_56 : decode cX5_mend 56 = .ok (.invokestatic 206, 3) := by decide +kernel
theorem dX5_mend_59 : decode cX5_mend 59 = .ok (.iload_n 3, 1) := by decide +kernel
theorem dX5_mend_60 : decode cX5_mend 60 = .ok (.iadd, 1) := by decide +kernel
theorem dX5_mend_61 : decode cX5_mend 61 = .ok (.iconst 1, 1) := by decide +kernel
theorem dX5_mend_62 : decode cX5_mend 62 = .ok (.isub, 1) := by decide +kernel
theorem dX5_mend_63 : decode cX5_mend 63 = .ok (.iload_n 3, 1) := by decide +kernel
theorem dX5_mend_64 : decode cX5_mend 64 = .ok (.idiv, 1) := by decide +kernel
theorem dX5_mend_65 : decode cX5_mend 65 = .ok (.ireturn, 1) := by decide +kernel
theorem dX5_within_0 : decode cX5_within 0 = .ok (.iload_n 0, 1) := by decide +kernel
theorem dX5_within_1 : decode cX5_within 1 = .ok (.iload_n 1, 1) := by decide +kernel
theorem dX5_within_2 : decode cX5_within 2 = .ok (.if_icmp .lt 12, 3) := by decide +kernel
theorem dX5_within_5 : decode cX5_within 5 = .ok (.iload_n 0, 1) := by decide +kernel
theorem dX5_within_6 : decode cX5_within 6 = .ok (.iload_n 2, 1) := by decide +kernel
theorem dX5_within_7 : decode cX5_within 7 = .ok (.if_icmp .gt 7, 3) := by decide +kernel
theorem dX5_within_10 : decode cX5_within 10 = .ok (.iconst 1, 1) := by decide +kernel
theorem dX5_within_11 : decode cX5_within 11 = .ok (.goto 4, 3) := by decide +kernel
theorem dX5_within_14 : decode cX5_within 14 = .ok (.iconst 0, 1) := by decide +kernel
theorem dX5_within_15 : decode cX5_within 15 = .ok (.ireturn, 1) := by decide +kernel
set_option maxRecDepth 20000 in
theorem ggX5_canBeSong_X5_within : GoodIn wsX5_canBeSong wsX5_within := goodIn_r _ [4] (by decide +kernel) (by decide +kernel)
set_option maxRecDepth 20000 in
theorem gX5_canBeSong_X5_within : GoodIn wsX5_canBeSong (va_wsS RX5 47 yX5_within wsX5_within) := goodIn_app (goodIn_of _ (by decide +kernel)) ggX5_canBeSong_X5_within
theorem dX5_canBeSong_0 : decode cX5_canBeSong 0 = .ok (.iload_n 1, 1) := by decide +kernel
theorem dX5_canBeSong_1 : decode cX5_canBeSong 1 = .ok (.iconst 2, 1) := by decide +kernel
theorem dX5_canBeSong_2 : decode cX5_canBeSong 2 = .ok (.bipush 64, 2) := by decide +kernel
theorem dX5_canBeSong_4 : decode cX5_canBeSong 4 = .ok (.invokestatic 47, 3) := by decide +kernel
theorem dX5_canBeSong_7 : decode cX5_canBeSong 7 = .ok (.ifCond .eq 15, 3) := by decide +kernel
theorem dX5_canBeSong_10 : decode cX5_canBeSong 10 = .ok (.iload_n 2, 1) := by decide +kernel
theorem dX5_canBeSong_11 : decode cX5_canBeSong 11 = .ok (.bipush 20, 2) := by decide +kernel
theorem dX5_canBeSong_13 : decode cX5_canBeSong 13 = .ok (.sipush 400, 3) := by decide +kernel
theorem dX5_canBeSong_16 : decode cX5_canBeSong 16 = .ok (.invokestatic 47, 3) := by decide +kernel
theorem dX5_canBeSong_19 : decode cX5_canBeSong 19 = .ok (.ifCond .ne 5, 3) := by decide +kernel
theorem dX5_canBeSong_22 : decode cX5_canBeSong 22 = .ok (.iconst 0, 1) := by decide +kernel
theorem dX5_canBeSong_23 : decode cX5_canBeSong 23 = .ok (.ireturn, 1) := by decide +kernel
theorem dX5_canBeSong_24 : decode cX5_canBeSong 24 = .ok (.iload_n 0, 1) := by decide +kernel
theorem dX5_canBeSong_25 : decode cX5_canBeSong 25 = .ok (.tableswitch 48 0 2 #[27, 29, 39], 27) := by decide +kernel
theorem dX5_canBeSong_52 : decode cX5_canBeSong 52 = .ok (.iconst 1, 1) := by decide +kernel
theorem dX5_canBeSong_53 : decode cX5_canBeSong 53 = .ok (.ireturn, 1) := by decide +kernel
theorem dX5_canBeSong_54 : decode cX5_canBeSong 54 = .ok (.iload_n 3, 1) := by decide +kernel
theorem dX5_canBeSong_55 : decode cX5_canBeSong 55 = .ok (.iconst 0, 1) := by decide +kernel
theorem dX5_canBeSong_56 : decode cX5_canBeSong 56 = .ok (.iload_n 2, 1) := by decide +kernel
theorem dX5_canBeSong_57 : decode cX5_canBeSong 57 = .ok (.bipush 10, 2) := by decide +kernel
theorem dX5_canBeSong_59 : decode cX5_canBeSong 59 = .ok (.isub, 1) := by decide +kernel
theorem dX5_canBeSong_60 : decode cX5_canBeSong 60 = .ok (.invokestatic 47, 3) := by decide +kernel
theorem dX5_canBeSong_63 : decode cX5_canBeSong 63 = .ok (.ireturn, 1) := by decide +kernel
theorem dX5_canBeSong_64 : decode cX5_canBeSong 64 = .ok (.iload_n 3, 1) := by decide +kernel
theorem dX5_canBeSong_65 : decode cX5_canBeSong 65 = .ok (.bipush (-20), 2) := by decide +kernel
theorem dX5_canBeSong_67 : decode cX5_canBeSong 67 = .ok (.bipush 20, 2) := by decide +kernel
theorem dX5_canBeSong_69 : decode cX5_canBeSong 69 = .ok (.invokestatic 47, 3) := by decide +kernel
theorem dX5_canBeSong_72 : decode cX5_canBeSong 72 = .ok (.ireturn, 1) := by decide +kernel
theorem dX5_canBeSong_73 : decode cX5_canBeSong 73 = .ok (.iconst 0, 1) := by decide +kernel
theorem dX5_canBeSong_74 : decode cX5_canBeSong 74 = .ok (.ireturn, 1) := by decide +kernel
set_option maxRecDepth 20000 in
theorem ggX5_songAt_X5_within : GoodIn wsX5_songAt wsX5_within := goodIn_r _ [5] (by decide +kernel) (by decide +kernel)
set_option maxRecDepth 20000 in
theorem gX5_songAt_X5_within : GoodIn wsX5_songAt (va_wsS RX5 47 yX5_within wsX5_within) := goodIn_app (goodIn_of _ (by decide +kernel)) ggX5_songAt_X5_within
theorem dX5_songAt_0 : decode cX5_songAt 0 = .ok (.iload_n 1, 1) := by decide +kernel
theorem dX5_songAt_1 : decode cX5_songAt 1 = .ok (.iconst 0, 1) := by decide +kernel
theorem dX5_songAt_2 : decode cX5_songAt 2 = .ok (.bipush 11, 2) := by decide +kernel
theorem dX5_songAt_4 : decode cX5_songAt 4 = .ok (.invokestatic 47, 3) := by decide +kernel
theorem dX5_songAt_7 : decode cX5_songAt 7 = .ok (.ifCond .eq 12, 3) := by decide +kernel
theorem dX5_songAt_10 : decode cX5_songAt 10 = .ok (.aload_n 0, 1) := by decide +kernel
theorem dX5_songAt_11 : decode cX5_songAt 11 = .ok (.getfield 11, 3) := by decide +kernel
theorem dX5_songAt_14 : decode cX5_songAt 14 = .ok (.iload_n 1, 1) := by decide +kernel
theorem dX5_songAt_15 : decode cX5_songAt 15 = .ok (.aaload, 1) := by decide +kernel
theorem dX5_songAt_16 : decode cX5_songAt 16 = .ok (.goto 4, 3) := by decide +kernel
theorem dX5_songAt_19 : decode cX5_songAt 19 = .ok (.aconst_null, 1) := by decide +kernel
theorem dX5_songAt_20 : decode cX5_songAt 20 = .ok (.areturn, 1) := by decide +kernel
set_option maxRecDepth 20000 in
theorem ggX5_forgetSong_X0_forgetJoinsOf : GoodIn wsX5_forgetSong wsX0_forgetJoinsOf := goodIn_r _ [7, 8, 9, 10, 6, 11, 18, 19, 20, 21, 22, 23, 24, 25] (by decide +kernel) (by decide +kernel)
set_option maxRecDepth 20000 in
theorem gX5_forgetSong_X0_forgetJoinsOf : GoodIn wsX5_forgetSong (wsV RX5 76 RX0 yX0_forgetJoinsOf wsX0_forgetJoinsOf) := goodIn_app (goodIn_of _ (by decide +kernel)) ggX5_forgetSong_X0_forgetJoinsOf
theorem dX5_forgetSong_0 : decode cX5_forgetSong 0 = .ok (.iconst 0, 1) := by decide +kernel
theorem dX5_forgetSong_1 : decode cX5_forgetSong 1 = .ok (.istore_n 2, 1) := by decide +kernel
theorem dX5_forgetSong_2 : decode cX5_forgetSong 2 = .ok (.iload_n 2, 1) := by decide +kernel
theorem dX5_forgetSong_3 : decode cX5_forgetSong 3 = .ok (.bipush 12, 2) := by decide +kernel
theorem dX5_forgetSong_5 : decode cX5_forgetSong 5 = .ok (.if_icmp .ge 33, 3) := by decide +kernel
theorem dX5_forgetSong_8 : decode cX5_forgetSong 8 = .ok (.aload_n 0, 1) := by decide +kernel
theorem dX5_forgetSong_9 : decode cX5_forgetSong 9 = .ok (.getfield 15, 3) := by decide +kernel
theorem dX5_forgetSong_12 : decode cX5_forgetSong 12 = .ok (.iload_n 1, 1) := by decide +kernel
theorem dX5_forgetSong_13 : decode cX5_forgetSong 13 = .ok (.bipush 12, 2) := by decide +kernel
theorem dX5_forgetSong_15 : decode cX5_forgetSong 15 = .ok (.imul, 1) := by decide +kernel
theorem dX5_forgetSong_16 : decode cX5_forgetSong 16 = .ok (.iload_n 2, 1) := by decide +kernel
theorem dX5_forgetSong_17 : decode cX5_forgetSong 17 = .ok (.iadd, 1) := by decide +kernel
theorem dX5_forgetSong_18 : decode cX5_forgetSong 18 = .ok (.iconst 0, 1) := by decide +kernel
theorem dX5_forgetSong_19 : decode cX5_forgetSong 19 = .ok (.iastore, 1) := by decide +kernel
theorem dX5_forgetSong_20 : decode cX5_forgetSong 20 = .ok (.aload_n 0, 1) := by decide +kernel
theorem dX5_forgetSong_21 : decode cX5_forgetSong 21 = .ok (.getfield 15, 3) := by decide +kernel
theorem dX5_forgetSong_24 : decode cX5_forgetSong 24 = .ok (.iload_n 2, 1) := by decide +kernel
theorem dX5_forgetSong_25 : decode cX5_forgetSong 25 = .ok (.bipush 12, 2) := by decide +kernel
theorem dX5_forgetSong_27 : decode cX5_forgetSong 27 = .ok (.imul, 1) := by decide +kernel
theorem dX5_forgetSong_28 : decode cX5_forgetSong 28 = .ok (.iload_n 1, 1) := by decide +kernel
theorem dX5_forgetSong_29 : decode cX5_forgetSong 29 = .ok (.iadd, 1) := by decide +kernel
theorem dX5_forgetSong_30 : decode cX5_forgetSong 30 = .ok (.iconst 0, 1) := by decide +kernel
theorem dX5_forgetSong_31 : decode cX5_forgetSong 31 = .ok (.iastore, 1) := by decide +kernel
theorem dX5_forgetSong_32 : decode cX5_forgetSong 32 = .ok (.iinc 2 1, 3) := by decide +kernel
theorem dX5_forgetSong_35 : decode cX5_forgetSong 35 = .ok (.goto (-33), 3) := by decide +kernel
theorem dX5_forgetSong_38 : decode cX5_forgetSong 38 = .ok (.aload_n 0, 1) := by decide +kernel
theorem dX5_forgetSong_39 : decode cX5_forgetSong 39 = .ok (.getfield 29, 3) := by decide +kernel
theorem dX5_forgetSong_42 : decode cX5_forgetSong 42 = .ok (.iload_n 1, 1) := by decide +kernel
theorem dX5_forgetSong_43 : decode cX5_forgetSong 43 = .ok (.invokevirtual 76, 3) := by decide +kernel
theorem dX5_forgetSong_46 : decode cX5_forgetSong 46 = .ok (.return_, 1) := by decide +kernel
set_option maxRecDepth 20000 in
theorem ggX5_weighSteps_X5_mustsInto : GoodIn wsX5_weighSteps wsX5_mustsInto := goodIn_r _ [14, 15, 97, 98, 99, 100, 101, 102] (by decide +kernel) (by decide +kernel)
set_option maxRecDepth 20000 in
theorem gX5_weighSteps_X5_mustsInto : GoodIn wsX5_weighSteps (wsV RX5 219 RX5 yX5_mustsInto wsX5_mustsInto) := goodIn_app (goodIn_of _ (by decide +kernel)) ggX5_weighSteps_X5_mustsInto
set_option maxRecDepth 20000 in
theorem ggX5_weighSteps_X5_wishAllows : GoodIn wsX5_weighSteps wsX5_wishAllows := goodIn_r _ [19, 15, 10, 11, 12, 13, 14, 97, 98, 99, 100, 101, 102] (by decide +kernel) (by decide +kernel)
set_option maxRecDepth 20000 in
theorem gX5_weighSteps_X5_wishAllows : GoodIn wsX5_weighSteps (wsV RX5 222 RX5 yX5_wishAllows wsX5_wishAllows) := goodIn_app (goodIn_of _ (by decide +kernel)) ggX5_weighSteps_X5_wishAllows
set_option maxRecDepth 20000 in
theorem ggX5_weighSteps_X0_slotOf : GoodIn wsX5_weighSteps wsX0_slotOf := goodIn_r _ [24, 25, 26, 27, 28, 23, 29, 30, 31, 32, 33, 34, 35, 36, 37, 38, 39, 40, 41, 42, 43, 44, 45, 46, 47, 48, 49, 50, 51, 52, 53, 54, 55, 56, 57, 58, 59, 60, 61, 62, 63, 64, 65, 66, 67, 68, 69, 70, 71, 72, 73, 74, 13, 75, 76, 77, 78, 79, 80, 81, 82, 83, 84, 85, 86, 87, 88, 89, 90, 91, 92, 93, 94, 95, 96, 111, 112, 113, 114, 115, 116, 117, 118, 119, 120, 121, 122, 123, 124, 125, 126, 127, 128, 129, 130, 131, 132, 133, 134, 135, 136, 137] (by decide +kernel) (by decide +kernel)
set_option maxRecDepth 20000 in
theorem gX5_weighSteps_X0_slotOf : GoodIn wsX5_weighSteps (wsV RX5 165 RX0 yX0_slotOf wsX0_slotOf) := goodIn_app (goodIn_of _ (by decide +kernel)) ggX5_weighSteps_X0_slotOf
theorem dX5_weighSteps_0 : decode cX5_weighSteps 0 = .ok (.aload_n 0, 1) := by decide +kernel
theorem dX5_weighSteps_1 : decode cX5_weighSteps 1 = .ok (.getfield 43, 3) := by decide +kernel
theorem dX5_weighSteps_4 : decode cX5_weighSteps 4 = .ok (.getfield 211, 3) := by decide +kernel
theorem dX5_weighSteps_7 : decode cX5_weighSteps 7 = .ok (.iload_n 1, 1) := by decide +kernel
theorem dX5_weighSteps_8 : decode cX5_weighSteps 8 = .ok (.aaload, 1) := by decide +kernel
theorem dX5_weighSteps_9 : decode cX5_weighSteps 9 = .ok (.astore_n 3, 1) := by decide +kernel
theorem dX5_weighSteps_10 : decode cX5_weighSteps 10 = .ok (.aload_n 0, 1) := by decide +kernel
theorem dX5_weighSteps_11 : decode cX5_weighSteps 11 = .ok (.getfield 43, 3) := by decide +kernel
theorem dX5_weighSteps_14 : decode cX5_weighSteps 14 = .ok (.getfield 212, 3) := by decide +kernel
theorem dX5_weighSteps_17 : decode cX5_weighSteps 17 = .ok (.iload_n 1, 1) := by decide +kernel
theorem dX5_weighSteps_18 : decode cX5_weighSteps 18 = .ok (.aload_n 0, 1) := by decide +kernel
theorem dX5_weighSteps_19 : decode cX5_weighSteps 19 = .ok (.aload_n 3, 1) := by decide +kernel
theorem dX5_weighSteps_20 : decode cX5_weighSteps 20 = .ok (.getfield 216, 3) := by decide +kernel
theorem dX5_weighSteps_23 : decode cX5_weighSteps 23 = .ok (.invokevirtual 219, 3) := by decide +kernel
theorem dX5_weighSteps_26 : decode cX5_weighSteps 26 = .ok (.ifCond .ne 7, 3) := by decide +kernel
theorem dX5_weighSteps_29 : decode cX5_weighSteps 29 = .ok (.iconst 1, 1) := by decide +kernel
theorem dX5_weighSteps_30 : decode cX5_weighSteps 30 = .ok (.goto 4, 3) := by decide +kernel
theorem dX5_weighSteps_33 : decode cX5_weighSteps 33 = .ok (.iconst 0, 1) := by decide +kernel
theorem dX5_weighSteps_34 : decode cX5_weighSteps 34 = .ok (.bastore, 1) := by decide +kernel
theorem dX5_weighSteps_35 : decode cX5_weighSteps 35 = .ok (.iconst 0, 1) := by decide +kernel
theorem dX5_weighSteps_36 : decode cX5_weighSteps 36 = .ok (.istore 4, 2) := by decide +kernel
theorem dX5_weighSteps_38 : decode cX5_weighSteps 38 = .ok (.iload 4, 2) := by decide +kernel
theorem dX5_weighSteps_40 : decode cX5_weighSteps 40 = .ok (.aload_n 0, 1) := by decide +kernel
theorem dX5_weighSteps_41 : decode cX5_weighSteps 41 = .ok (.getfield 43, 3) := by decide +kernel
theorem dX5_weighSteps_44 : decode cX5_weighSteps 44 = .ok (.getfield 182, 3) := by decide +kernel
theorem dX5_weighSteps_47 : decode cX5_weighSteps 47 = .ok (.if_icmp .ge 94, 3) := by decide +kernel
theorem dX5_weighSteps_50 : decode cX5_weighSteps 50 = .ok (.aload_n 0, 1) := by decide +kernel
theorem dX5_weighSteps_51 : decode cX5_weighSteps 51 = .ok (.getfield 43, 3) := by decide +kernel
theorem dX5_weighSteps_54 : decode cX5_weighSteps 54 = .ok (.getfield 211, 3) := by decide +kernel
theorem dX5_weighSteps_57 : decode cX5_weighSteps 57 = .ok (.iload 4, 2) := by decide +kernel
theorem dX5_weighSteps_59 : decode cX5_weighSteps 59 = .ok (.aaload, 1) := by decide +kernel
theorem dX5_weighSteps_60 : decode cX5_weighSteps 60 = .ok (.astore 5, 2) := by decide +kernel
theorem dX5_weighSteps_62 : decode cX5_weighSteps 62 = .ok (.iload_n 1, 1) := by decide +kernel
theorem dX5_weighSteps_63 : decode cX5_weighSteps 63 = .ok (.iload 4, 2) := by decide +kernel
theorem dX5_weighSteps_65 : decode cX5_weighSteps 65 = .ok (.if_icmp .eq 23, 3) := by decide +kernel
theorem dX5_weighSteps_68 : decode cX5_weighSteps 68 = .ok (.aload_n 0, 1) := by decide +kernel
theorem dX5_weighSteps_69 : decode cX5_weighSteps 69 = .ok (.aload_n 3, 1) := by decide +kernel
theorem dX5_weighSteps_70 : decode cX5_weighSteps 70 = .ok (.getfield 216, 3) := by decide +kernel
theorem dX5_weighSteps_73 : decode cX5_weighSteps 73 = .ok (.aload 5, 2) := by decide +kernel
theorem dX5_weighSteps_75 : decode cX5_weighSteps 75 = .ok (.getfield 216, 3) := by decide +kernel
theorem dX5_weighSteps_78 : decode cX5_weighSteps 78 = .ok (.invokevirtual 222, 3) := by decide +kernel
theorem dX5_weighSteps_81 : decode cX5_weighSteps 81 = .ok (.ifCond .eq 7, 3) := by decide +kernel
theorem dX5_weighSteps_84 : decode cX5_weighSteps 84 = .ok (.iconst 1, 1) := by decide +kernel
theorem dX5_weighSteps_85 : decode cX5_weighSteps 85 = .ok (.goto 4, 3) := by decide +kernel
theorem dX5_weighSteps_88 : decode cX5_weighSteps 88 = .ok (.iconst 0, 1) := by decide +kernel
theorem dX5_weighSteps_89 : decode cX5_weighSteps 89 = .ok (.istore 6, 2) := by decide +kernel
theorem dX5_weighSteps_91 : decode cX5_weighSteps 91 = .ok (.aload_n 0, 1) := by decide +kernel
theorem dX5_weighSteps_92 : decode cX5_weighSteps 92 = .ok (.getfield 43, 3) := by decide +kernel
theorem dX5_weighSteps_95 : decode cX5_weighSteps 95 = .ok (.getfield 226, 3) := by decide +kernel
theorem dX5_weighSteps_98 : decode cX5_weighSteps 98 = .ok (.iload_n 1, 1) := by decide +kernel
theorem dX5_weighSteps_99 : decode cX5_weighSteps 99 = .ok (.bipush 12, 2) := by decide +kernel
theorem dX5_weighSteps_101 : decode cX5_weighSteps 101 = .ok (.imul, 1) := by decide +kernel
theorem dX5_weighSteps_102 : decode cX5_weighSteps 102 = .ok (.iload 4, 2) := by decide +kernel
theorem dX5_weighSteps_104 : decode cX5_weighSteps 104 = .ok (.iadd, 1) := by decide +kernel
theorem dX5_weighSteps_105 : decode cX5_weighSteps 105 = .ok (.iload 6, 2) := by decide +kernel
theorem dX5_weighSteps_107 : decode cX5_weighSteps 107 = .ok (.ifCond .eq 25, 3) := by decide +kernel
theorem dX5_weighSteps_110 : decode cX5_weighSteps 110 = .ok (.aload_n 0, 1) := by decide +kernel
theorem dX5_weighSteps_111 : decode cX5_weighSteps 111 = .ok (.getfield 29, 3) := by decide +kernel
theorem dX5_weighSteps_114 : decode cX5_weighSteps 114 = .ok (.getfield 169, 3) := by decide +kernel
theorem dX5_weighSteps_117 : decode cX5_weighSteps 117 = .ok (.aload_n 0, 1) := by decide +kernel
theorem dX5_weighSteps_118 : decode cX5_weighSteps 118 = .ok (.getfield 29, 3) := by decide +kernel
theorem dX5_weighSteps_121 : decode cX5_weighSteps 121 = .ok (.aload_n 3, 1) := by decide +kernel
theorem dX5_weighSteps_122 : decode cX5_weighSteps 122 = .ok (.aload 5, 2) := by decide +kernel
theorem dX5_weighSteps_124 : decode cX5_weighSteps 124 = .ok (.iload_n 2, 1) := by decide +kernel
theorem dX5_weighSteps_125 : decode cX5_weighSteps 125 = .ok (.invokevirtual 165, 3) := by decide +kernel
theorem dX5_weighSteps_128 : decode cX5_weighSteps 128 = .ok (.iaload, 1) := by decide +kernel
theorem dX5_weighSteps_129 : decode cX5_weighSteps 129 = .ok (.goto 5, 3) := by decide +kernel
theorem dX5_weighSteps_132 : decode cX5_weighSteps 132 = .ok (.ldc 148, 2) := by decide +kernel
theorem dX5_weighSteps_134 : decode cX5_weighSteps 134 = .ok (.iastore, 1) := by decide +kernel
theorem dX5_weighSteps_135 : decode cX5_weighSteps 135 = .ok (.iinc 4 1, 3) := by decide +kernel
theorem dX5_weighSteps_138 : decode cX5_weighSteps 138 = .ok (.goto (-100), 3) := by decide +kernel
theorem dX5_weighSteps_141 : decode cX5_weighSteps 141 = .ok (.return_, 1) := by decide +kernel
set_option maxRecDepth 20000 in
theorem ggX5_wishAllows_X5_mustsInto : GoodIn wsX5_wishAllows wsX5_mustsInto := goodIn_r _ [6, 1, 7, 8, 9, 10, 11, 12] (by decide +kernel) (by decide +kernel)
set_option maxRecDepth 20000 in
theorem gX5_wishAllows_X5_mustsInto : GoodIn wsX5_wishAllows (wsV RX5 219 RX5 yX5_mustsInto wsX5_mustsInto) := goodIn_app (goodIn_of _ (by decide +kernel)) ggX5_wishAllows_X5_mustsInto
theorem dX5_wishAllows_0 : decode cX5_wishAllows 0 = .ok (.aload_n 0, 1) := by decide +kernel
theorem dX5_wishAllows_1 : decode cX5_wishAllows 1 = .ok (.getfield 15, 3) := by decide +kernel
theorem dX5_wishAllows_4 : decode cX5_wishAllows 4 = .ok (.iload_n 1, 1) := by decide +kernel
theorem dX5_wishAllows_5 : decode cX5_wishAllows 5 = .ok (.bipush 12, 2) := by decide +kernel
theorem dX5_wishAllows_7 : decode cX5_wishAllows 7 = .ok (.imul, 1) := by decide +kernel
theorem dX5_wishAllows_8 : decode cX5_wishAllows 8 = .ok (.iload_n 2, 1) := by decide +kernel
theorem dX5_wishAllows_9 : decode cX5_wishAllows 9 = .ok (.iadd, 1) := by decide +kernel
theorem dX5_wishAllows_10 : decode cX5_wishAllows 10 = .ok (.iaload, 1) := by decide +kernel
theorem dX5_wishAllows_11 : decode cX5_wishAllows 11 = .ok (.istore_n 3, 1) := by decide +kernel
theorem dX5_wishAllows_12 : decode cX5_wishAllows 12 = .ok (.iload_n 3, 1) := by decide +kernel
theorem dX5_wishAllows_13 : decode cX5_wishAllows 13 = .ok (.iconst 2, 1) := by decide +kernel
theorem dX5_wishAllows_14 : decode cX5_wishAllows 14 = .ok (.if_icmp .eq 25, 3) := by decide +kernel
theorem dX5_wishAllows_17 : decode cX5_wishAllows 17 = .ok (.aload_n 0, 1) := by decide +kernel
theorem dX5_wishAllows_18 : decode cX5_wishAllows 18 = .ok (.iload_n 2, 1) := by decide +kernel
theorem dX5_wishAllows_19 : decode cX5_wishAllows 19 = .ok (.invokevirtual 219, 3) := by decide +kernel
theorem dX5_wishAllows_22 : decode cX5_wishAllows 22 = .ok (.iload_n 3, 1) := by decide +kernel
theorem dX5_wishAllows_23 : decode cX5_wishAllows 23 = .ok (.iconst 1, 1) := by decide +kernel
theorem dX5_wishAllows_24 : decode cX5_wishAllows 24 = .ok (.if_icmp .ne 7, 3) := by decide +kernel
theorem dX5_wishAllows_27 : decode cX5_wishAllows 27 = .ok (.iconst 1, 1) := by decide +kernel
theorem dX5_wishAllows_28 : decode cX5_wishAllows 28 = .ok (.goto 4, 3) := by decide +kernel
theorem dX5_wishAllows_31 : decode cX5_wishAllows 31 = .ok (.iconst 0, 1) := by decide +kernel
theorem dX5_wishAllows_32 : decode cX5_wishAllows 32 = .ok (.if_icmp .ne 7, 3) := by decide +kernel
theorem dX5_wishAllows_35 : decode cX5_wishAllows 35 = .ok (.iconst 1, 1) := by decide +kernel
theorem dX5_wishAllows_36 : decode cX5_wishAllows 36 = .ok (.goto 4, 3) := by decide +kernel
theorem dX5_wishAllows_39 : decode cX5_wishAllows 39 = .ok (.iconst 0, 1) := by decide +kernel
theorem dX5_wishAllows_40 : decode cX5_wishAllows 40 = .ok (.ireturn, 1) := by decide +kernel
theorem dX5_mustsInto_0 : decode cX5_mustsInto 0 = .ok (.iconst 0, 1) := by decide +kernel
theorem dX5_mustsInto_1 : decode cX5_mustsInto 1 = .ok (.istore_n 2, 1) := by decide +kernel
theorem dX5_mustsInto_2 : decode cX5_mustsInto 2 = .ok (.iconst 0, 1) := by decide +kernel
theorem dX5_mustsInto_3 : decode cX5_mustsInto 3 = .ok (.istore_n 3, 1) := by decide +kernel
theorem dX5_mustsInto_4 : decode cX5_mustsInto 4 = .ok (.iload_n 3, 1) := by decide +kernel
theorem dX5_mustsInto_5 : decode cX5_mustsInto 5 = .ok (.bipush 12, 2) := by decide +kernel
theorem dX5_mustsInto_7 : decode cX5_mustsInto 7 = .ok (.if_icmp .ge 32, 3) := by decide +kernel
theorem dX5_mustsInto_10 : decode cX5_mustsInto 10 = .ok (.iload_n 2, 1) := by decide +kernel
theorem dX5_mustsInto_11 : decode cX5_mustsInto 11 = .ok (.aload_n 0, 1) := by decide +kernel
theorem dX5_mustsInto_12 : decode cX5_mustsInto 12 = .ok (.getfield 15, 3) := by decide +kernel
theorem dX5_mustsInto_15 : decode cX5_mustsInto 15 = .ok (.iload_n 3, 1) := by decide +kernel
theorem dX5_mustsInto_16 : decode cX5_mustsInto 16 = .ok (.bipush 12, 2) := by decide +kernel
theorem dX5_mustsInto_18 : decode cX5_mustsInto 18 = .ok (.imul, 1) := by decide +kernel
theorem dX5_mustsInto_19 : decode cX5_mustsInto 19 = .ok (.iload_n 1, 1) := by decide +kernel
theorem dX5_mustsInto_20 : decode cX5_mustsInto 20 = .ok (.iadd, 1) := by decide +kernel
theorem dX5_mustsInto_21 : decode cX5_mustsInto 21 = .ok (.iaload, 1) := by decide +kernel
theorem dX5_mustsInto_22 : decode cX5_mustsInto 22 = .ok (.iconst 1, 1) := by decide +kernel
theorem dX5_mustsInto_23 : decode cX5_mustsInto 23 = .ok (.if_icmp .ne 7, 3) := by decide +kernel
theorem dX5_mustsInto_26 : decode cX5_mustsInto 26 = .ok (.iconst 1, 1) := by decide +kernel
theorem dX5_mustsInto_27 : decode cX5_mustsInto 27 = .ok (.goto 4, 3) := by decide +kernel
theorem dX5_mustsInto_30 : decode cX5_mustsInto 30 = .ok (.iconst 0, 1) := by decide +kernel
theorem dX5_mustsInto_31 : decode cX5_mustsInto 31 = .ok (.iadd, 1) := by decide +kernel
theorem dX5_mustsInto_32 : decode cX5_mustsInto 32 = .ok (.istore_n 2, 1) := by decide +kernel
theorem dX5_mustsInto_33 : decode cX5_mustsInto 33 = .ok (.iinc 3 1, 3) := by decide +kernel
theorem dX5_mustsInto_36 : decode cX5_mustsInto 36 = .ok (.goto (-32), 3) := by decide +kernel
theorem dX5_mustsInto_39 : decode cX5_mustsInto 39 = .ok (.iload_n 2, 1) := by decide +kernel
theorem dX5_mustsInto_40 : decode cX5_mustsInto 40 = .ok (.ireturn, 1) := by decide +kernel
set_option maxRecDepth 20000 in
theorem ggX5_blend_J9_floorDiv_7cf53 : GoodIn wsX5_blend wsJ9_floorDiv_7cf53 := goodIn_r _ [4] (by decide +kernel) (by decide +kernel)
set_option maxRecDepth 20000 in
theorem gX5_blend_J9_floorDiv_7cf53 : GoodIn wsX5_blend (va_wsS RX5 228 yJ9_floorDiv_7cf53 wsJ9_floorDiv_7cf53) := goodIn_app (goodIn_of _ (by decide +kernel)) ggX5_blend_J9_floorDiv_7cf53
theorem dX5_blend_0 : decode cX5_blend 0 = .ok (.iload_n 0, 1) := by decide +kernel
theorem dX5_blend_1 : decode cX5_blend 1 = .ok (.iload_n 1, 1) := by decide +kernel
theorem dX5_blend_2 : decode cX5_blend 2 = .ok (.iload_n 0, 1) := by decide +kernel
theorem dX5_blend_3 : decode cX5_blend 3 = .ok (.isub, 1) := by decide +kernel
theorem dX5_blend_4 : decode cX5_blend 4 = .ok (.iload_n 2, 1) := by decide +kernel
theorem dX5_blend_5 : decode cX5_blend 5 = .ok (.imul, 1) := by decide +kernel
theorem dX5_blend_6 : decode cX5_blend 6 = .ok (.iconst 2, 1) := by decide +kernel
theorem dX5_blend_7 : decode cX5_blend 7 = .ok (.iload_n 3, 1) := by decide +kernel
theorem dX5_blend_8 : decode cX5_blend 8 = .ok (.imul, 1) := by decide +kernel
theorem dX5_blend_9 : decode cX5_blend 9 = .ok (.iadd, 1) := by decide +kernel
theorem dX5_blend_10 : decode cX5_blend 10 = .ok (.iconst 4, 1) := by decide +kernel
theorem dX5_blend_11 : decode cX5_blend 11 = .ok (.iload_n 3, 1) := by decide +kernel
theorem dX5_blend_12 : decode cX5_blend 12 = .ok (.imul, 1) := by decide +kernel
theorem dX5_blend_13 : decode cX5_blend 13 = .ok (.invokestatic 228, 3) := by decide +kernel
theorem dX5_blend_16 : decode cX5_blend 16 = .ok (.iadd, 1) := by decide +kernel
theorem dX5_blend_17 : decode cX5_blend 17 = .ok (.ireturn, 1) := by decide +kernel
theorem dX5_bendOf_0 : decode cX5_bendOf 0 = .ok (.iload_n 2, 1) := by decide +kernel
theorem dX5_bendOf_1 : decode cX5_bendOf 1 = .ok (.iload_n 0, 1) := by decide +kernel
theorem dX5_bendOf_2 : decode cX5_bendOf 2 = .ok (.isub, 1) := by decide +kernel
theorem dX5_bendOf_3 : decode cX5_bendOf 3 = .ok (.invokestatic 206, 3) := by decide +kernel
theorem dX5_bendOf_6 : decode cX5_bendOf 6 = .ok (.sipush 1000, 3) := by decide +kernel
theorem dX5_bendOf_9 : decode cX5_bendOf 9 = .ok (.imul, 1) := by decide +kernel
theorem dX5_bendOf_10 : decode cX5_bendOf 10 = .ok (.iload_n 0, 1) := by decide +kernel
theorem dX5_bendOf_11 : decode cX5_bendOf 11 = .ok (.idiv, 1) := by decide +kernel
theorem dX5_bendOf_12 : decode cX5_bendOf 12 = .ok (.iload_n 2, 1) := by decide +kernel
theorem dX5_bendOf_13 : decode cX5_bendOf 13 = .ok (.iload_n 1, 1) := by decide +kernel
theorem dX5_bendOf_14 : decode cX5_bendOf 14 = .ok (.isub, 1) := by decide +kernel
theorem dX5_bendOf_15 : decode cX5_bendOf 15 = .ok (.invokestatic 206, 3) := by decide +kernel
theorem dX5_bendOf_18 : decode cX5_bendOf 18 = .ok (.sipush 1000, 3) := by decide +kernel
theorem dX5_bendOf_21 : decode cX5_bendOf 21 = .ok (.imul, 1) := by decide +kernel
theorem dX5_bendOf_22 : decode cX5_bendOf 22 = .ok (.iload_n 1, 1) := by decide +kernel
theorem dX5_bendOf_23 : decode cX5_bendOf 23 = .ok (.idiv, 1) := by decide +kernel
theorem dX5_bendOf_24 : decode cX5_bendOf 24 = .ok (.invokestatic 231, 3) := by decide +kernel
theorem dX5_bendOf_27 : decode cX5_bendOf 27 = .ok (.ireturn, 1) := by decide +kernel
theorem dX6_init_0 : decode cX6_init 0 = .ok (.aload_n 0, 1) := by decide +kernel
theorem dX6_init_1 : decode cX6_init 1 = .ok (.invokespecial 1, 3) := by decide +kernel
theorem dX6_init_4 : decode cX6_init 4 = .ok (.aload_n 0, 1) := by decide +kernel
theorem dX6_init_5 : decode cX6_init 5 = .ok (.bipush 12, 2) := by decide +kernel
theorem dX6_init_7 : decode cX6_init 7 = .ok (.newarray .boolean, 2) := by decide +kernel
theorem dX6_init_9 : decode cX6_init 9 = .ok (.putfield 7, 3) := by decide +kernel
theorem dX6_init_12 : decode cX6_init 12 = .ok (.aload_n 0, 1) := by decide +kernel
theorem dX6_init_13 : decode cX6_init 13 = .ok (.bipush 12, 2) := by decide +kernel
theorem dX6_init_15 : decode cX6_init 15 = .ok (.newarray .int, 2) := by decide +kernel
theorem dX6_init_17 : decode cX6_init 17 = .ok (.putfield 13, 3) := by decide +kernel
theorem dX6_init_20 : decode cX6_init 20 = .ok (.aload_n 0, 1) := by decide +kernel
theorem dX6_init_21 : decode cX6_init 21 = .ok (.bipush 12, 2) := by decide +kernel
theorem dX6_init_23 : decode cX6_init 23 = .ok (.newarray .int, 2) := by decide +kernel
theorem dX6_init_25 : decode cX6_init 25 = .ok (.putfield 17, 3) := by decide +kernel
theorem dX6_init_28 : decode cX6_init 28 = .ok (.aload_n 0, 1) := by decide +kernel
theorem dX6_init_29 : decode cX6_init 29 = .ok (.bipush 12, 2) := by decide +kernel
theorem dX6_init_31 : decode cX6_init 31 = .ok (.newarray .int, 2) := by decide +kernel
theorem dX6_init_33 : decode cX6_init 33 = .ok (.putfield 20, 3) := by decide +kernel
theorem dX6_init_36 : decode cX6_init 36 = .ok (.aload_n 0, 1) := by decide +kernel
theorem dX6_init_37 : decode cX6_init 37 = .ok (.bipush 12, 2) := by decide +kernel
theorem dX6_init_39 : decode cX6_init 39 = .ok (.newarray .int, 2) := by decide +kernel
theorem dX6_init_41 : decode cX6_init 41 = .ok (.putfield 23, 3) := by decide +kernel
theorem dX6_init_44 : decode cX6_init 44 = .ok (.aload_n 0, 1) := by decide +kernel
theorem dX6_init_45 : decode cX6_init 45 = .ok (.bipush 12, 2) := by decide +kernel
theorem dX6_init_47 : decode cX6_init 47 = .ok (.newarray .int, 2) := by decide +kernel
theorem dX6_init_49 : decode cX6_init 49 = .ok (.putfield 26, 3) := by decide +kernel
theorem dX6_init_52 : decode cX6_init 52 = .ok (.aload_n 0, 1) := by decide +kernel
theorem dX6_init_53 : decode cX6_init 53 = .ok (.bipush 12, 2) := by decide +kernel
theorem dX6_init_55 : decode cX6_init 55 = .ok (.newarray .int, 2) := by decide +kernel
theorem dX6_init_57 : decode cX6_init 57 = .ok (.putfield 29, 3) := by decide +kernel
theorem dX6_init_60 : decode cX6_init 60 = .ok (.aload_n 0, 1) := by decide +kernel
theorem dX6_init_61 : decode cX6_init 61 = .ok (.bipush 12, 2) := by decide +kernel
theorem dX6_init_63 : decode cX6_init 63 = .ok (.newarray .int, 2) := by decide +kernel
theorem dX6_init_65 : decode cX6_init 65 = .ok (.putfield 32, 3) := by decide +kernel
theorem dX6_init_68 : decode cX6_init 68 = .ok (.aload_n 0, 1) := by decide +kernel
theorem dX6_init_69 : decode cX6_init 69 = .ok (.sipush 768, 3) := by decide +kernel
theorem dX6_init_72 : decode cX6_init 72 = .ok (.newarray .int, 2) := by decide +kernel
theorem dX6_init_74 : decode cX6_init 74 = .ok (.putfield 35, 3) := by decide +kernel
theorem dX6_init_77 : decode cX6_init 77 = .ok (.aload_n 0, 1) := by decide +kernel
theorem dX6_init_78 : decode cX6_init 78 = .ok (.bipush 12, 2) := by decide +kernel
theorem dX6_init_80 : decode cX6_init 80 = .ok (.newarray .int, 2) := by decide +kernel
theorem dX6_init_82 : decode cX6_init 82 = .ok (.putfield 38, 3) := by decide +kernel
theorem dX6_init_85 : decode cX6_init 85 = .ok (.aload_n 0, 1) := by decide +kernel
theorem dX6_init_86 : decode cX6_init 86 = .ok (.bipush 12, 2) := by decide +kernel
theorem dX6_init_88 : decode cX6_init 88 = .ok (.newarray .int, 2) := by decide +kernel
theorem dX6_init_90 : decode cX6_init 90 = .ok (.putfield 41, 3) := by decide +kernel
theorem dX6_init_93 : decode cX6_init 93 = .ok (.aload_n 0, 1) := by decide +kernel
theorem dX6_init_94 : decode cX6_init 94 = .ok (.bipush 12, 2) := by decide +kernel
theorem dX6_init_96 : decode cX6_init 96 = .ok (.newarray .int, 2) := by decide +kernel
theorem dX6_init_98 : decode cX6_init 98 = .ok (.putfield 44, 3) := by decide +kernel
theorem dX6_init_101 : decode cX6_init 101 = .ok (.aload_n 0, 1) := by decide +kernel
theorem dX6_init_102 : decode cX6_init 102 = .ok (.sipush 144, 3) := by decide +kernel
theorem dX6_init_105 : decode cX6_init 105 = .ok (.newarray .int, 2) := by decide +kernel
theorem dX6_init_107 : decode cX6_init 107 = .ok (.putfield 47, 3) := by decide +kernel
theorem dX6_init_110 : decode cX6_init 110 = .ok (.aload_n 0, 1) := by decide +kernel
theorem dX6_init_111 : decode cX6_init 111 = .ok (.bipush 60, 2) := by decide +kernel
theorem dX6_init_113 : decode cX6_init 113 = .ok (.newarray .int, 2) := by decide +kernel
theorem dX6_init_115 : decode cX6_init 115 = .ok (.putfield 50, 3) := by decide +kernel
theorem dX6_init_118 : decode cX6_init 118 = .ok (.aload_n 0, 1) := by decide +kernel
theorem dX6_init_119 : decode cX6_init 119 = .ok (.bipush 61, 2) := by decide +kernel
theorem dX6_init_121 : decode cX6_init 121 = .ok (.newarray .int, 2) := by decide +kernel
theorem dX6_init_123 : decode cX6_init 123 = .ok (.putfield 53, 3) := by decide +kernel
theorem dX6_init_126 : decode cX6_init 126 = .ok (.aload_n 0, 1) := by decide +kernel
theorem dX6_init_127 : decode cX6_init 127 = .ok (.bipush 60, 2) := by decide +kernel
theorem dX6_init_129 : decode cX6_init 129 = .ok (.newarray .int, 2) := by decide +kernel
theorem dX6_init_131 : decode cX6_init 131 = .ok (.putfield 56, 3) := by decide +kernel
theorem dX6_init_134 : decode cX6_init 134 = .ok (.aload_n 0, 1) := by decide +kernel
theorem dX6_init_135 : decode cX6_init 135 = .ok (.bipush 80, 2) := by decide +kernel
theorem dX6_init_137 : decode cX6_init 137 = .ok (.putfield 59, 3) := by decide +kernel
theorem dX6_init_140 : decode cX6_init 140 = .ok (.aload_n 0, 1) := by decide +kernel
theorem dX6_init_141 : decode cX6_init 141 = .ok (.bipush 10, 2) := by decide +kernel
theorem dX6_init_143 : decode cX6_init 143 = .ok (.putfield 63, 3) := by decide +kernel
theorem dX6_init_146 : decode cX6_init 146 = .ok (.aload_n 0, 1) := by decide +kernel
theorem dX6_init_147 : decode cX6_init 147 = .ok (.iconst 5, 1) := by decide +kernel
theorem dX6_init_148 : decode cX6_init 148 = .ok (.putfield 66, 3) := by decide +kernel
theorem dX6_init_151 : decode cX6_init 151 = .ok (.aload_n 0, 1) := by decide +kernel
theorem dX6_init_152 : decode cX6_init 152 = .ok (.sipush 256, 3) := by decide +kernel
theorem dX6_init_155 : decode cX6_init 155 = .ok (.newarray .int, 2) := by decide +kernel
theorem dX6_init_157 : decode cX6_init 157 = .ok (.putfield 69, 3) := by decide +kernel
theorem dX6_init_160 : decode cX6_init 160 = .ok (.aload_n 0, 1) := by decide +kernel
theorem dX6_init_161 : decode cX6_init 161 = .ok (.sipush 256, 3) := by decide +kernel
theorem dX6_init_164 : decode cX6_init 164 = .ok (.newarray .int, 2) := by decide +kernel
theorem dX6_init_166 : decode cX6_init 166 = .ok (.putfield 72, 3) := by decide +kernel
theorem dX6_init_169 : decode cX6_init 169 = .ok (.aload_n 0, 1) := by decide +kernel
theorem dX6_init_170 : decode cX6_init 170 = .ok (.bipush 64, 2) := by decide +kernel
theorem dX6_init_172 : decode cX6_init 172 = .ok (.newarray .boolean, 2) := by decide +kernel
theorem dX6_init_174 : decode cX6_init 174 = .ok (.putfield 75, 3) := by decide +kernel
theorem dX6_init_177 : decode cX6_init 177 = .ok (.aload_n 0, 1) := by decide +kernel
theorem dX6_init_178 : decode cX6_init 178 = .ok (.bipush 64, 2) := by decide +kernel
theorem dX6_init_180 : decode cX6_init 180 = .ok (.newarray .boolean, 2) := by decide +kernel
theorem dX6_init_182 : decode cX6_init 182 = .ok (.putfield 78, 3) := by decide +kernel
theorem dX6_init_185 : decode cX6_init 185 = .ok (.aload_n 0, 1) := by decide +kernel
theorem dX6_init_186 : decode cX6_init 186 = .ok (.bipush 64, 2) := by decide +kernel
theorem dX6_init_188 : decode cX6_init 188 = .ok (.newarray .boolean, 2) := by decide +kernel
theorem dX6_init_190 : decode cX6_init 190 = .ok (.putfield 81, 3) := by decide +kernel
theorem dX6_init_193 : decode cX6_init 193 = .ok (.aload_n 0, 1) := by decide +kernel
theorem dX6_init_194 : decode cX6_init 194 = .ok (.bipush 64, 2) := by decide +kernel
theorem dX6_init_196 : decode cX6_init 196 = .ok (.newarray .boolean, 2) := by decide +kernel
theorem dX6_init_198 : decode cX6_init 198 = .ok (.putfield 84, 3) := by decide +kernel
theorem dX6_init_201 : decode cX6_init 201 = .ok (.aload_n 0, 1) := by decide +kernel
theorem dX6_init_202 : decode cX6_init 202 = .ok (.bipush 32, 2) := by decide +kernel
theorem dX6_init_204 : decode cX6_init 204 = .ok (.newarray .int, 2) := by decide +kernel
theorem dX6_init_206 : decode cX6_init 206 = .ok (.putfield 87, 3) := by decide +kernel
theorem dX6_init_209 : decode cX6_init 209 = .ok (.aload_n 0, 1) := by decide +kernel
theorem dX6_init_210 : decode cX6_init 210 = .ok (.bipush 32, 2) := by decide +kernel
theorem dX6_init_212 : decode cX6_init 212 = .ok (.newarray .int, 2) := by decide +kernel
theorem dX6_init_214 : decode cX6_init 214 = .ok (.putfield 90, 3) := by decide +kernel
theorem dX6_init_217 : decode cX6_init 217 = .ok (.aload_n 0, 1) := by decide +kernel
theorem dX6_init_218 : decode cX6_init 218 = .ok (.sipush 144, 3) := by decide +kernel
theorem dX6_init_221 : decode cX6_init 221 = .ok (.newarray .int, 2) := by decide +kernel
theorem dX6_init_223 : decode cX6_init 223 = .ok (.putfield 93, 3) := by decide +kernel
theorem dX6_init_226 : decode cX6_init 226 = .ok (.aload_n 0, 1) := by decide +kernel
theorem dX6_init_227 : decode cX6_init 227 = .ok (.ldc 96, 2) := by decide +kernel
theorem dX6_init_229 : decode cX6_init 229 = .ok (.newarray .int, 2) := by decide +kernel
theorem dX6_init_231 : decode cX6_init 231 = .ok (.putfield 97, 3) := by decide +kernel
theorem dX6_init_234 : decode cX6_init 234 = .ok (.aload_n 0, 1) := by decide +kernel
theorem dX6_init_235 : decode cX6_init 235 = .ok (.bipush 12, 2) := by decide +kernel
theorem dX6_init_237 : decode cX6_init 237 = .ok (.newarray .int, 2) := by decide +kernel
theorem dX6_init_239 : decode cX6_init 239 = .ok (.putfield 100, 3) := by decide +kernel
theorem dX6_init_242 : decode cX6_init 242 = .ok (.return_, 1) := by decide +kernel
theorem dX6_isSong_0 : decode cX6_isSong 0 = .ok (.iload_n 1, 1) := by decide +kernel
theorem dX6_isSong_1 : decode cX6_isSong 1 = .ok (.ifCond .lt 22, 3) := by decide +kernel
theorem dX6_isSong_4 : decode cX6_isSong 4 = .ok (.iload_n 1, 1) := by decide +kernel
theorem dX6_isSong_5 : decode cX6_isSong 5 = .ok (.bipush 12, 2) := by decide +kernel
theorem dX6_isSong_7 : decode cX6_isSong 7 = .ok (.if_icmp .ge 16, 3) := by decide +kernel
theorem dX6_isSong_10 : decode cX6_isSong 10 = .ok (.aload_n 0, 1) := by decide +kernel
theorem dX6_isSong_11 : decode cX6_isSong 11 = .ok (.getfield 7, 3) := by decide +kernel
theorem dX6_isSong_14 : decode cX6_isSong 14 = .ok (.iload_n 1, 1) := by decide +kernel
theorem dX6_isSong_15 : decode cX6_isSong 15 = .ok (.baload, 1) := by decide +kernel
theorem dX6_isSong_16 : decode cX6_isSong 16 = .ok (.ifCond .eq 7, 3) := by decide +kernel
theorem dX6_isSong_19 : decode cX6_isSong 19 = .ok (.iconst 1, 1) := by decide +kernel
theorem dX6_isSong_20 : decode cX6_isSong 20 = .ok (.goto 4, 3) := by decide +kernel
theorem dX6_isSong_23 : decode cX6_isSong 23 = .ok (.iconst 0, 1) := by decide +kernel
theorem dX6_isSong_24 : decode cX6_isSong 24 = .ok (.ireturn, 1) := by decide +kernel
theorem dX6_forgets_0 : decode cX6_forgets 0 = .ok (.iconst 0, 1) := by decide +kernel
theorem dX6_forgets_1 : decode cX6_forgets 1 = .ok (.istore_n 2, 1) := by decide +kernel
theorem dX6_forgets_2 : decode cX6_forgets 2 = .ok (.iload_n 2, 1) := by decide +kernel
theorem dX6_forgets_3 : decode cX6_forgets 3 = .ok (.bipush 12, 2) := by decide +kernel
theorem dX6_forgets_5 : decode cX6_forgets 5 = .ok (.if_icmp .ge 33, 3) := by decide +kernel
theorem dX6_forgets_8 : decode cX6_forgets 8 = .ok (.aload_n 0, 1) := by decide +kernel
theorem dX6_forgets_9 : decode cX6_forgets 9 = .ok (.getfield 47, 3) := by decide +kernel
theorem dX6_forgets_12 : decode cX6_forgets 12 = .ok (.bipush 12, 2) := by decide +kernel
theorem dX6_forgets_14 : decode cX6_forgets 14 = .ok (.iload_n 1, 1) := by decide +kernel
theorem dX6_forgets_15 : decode cX6_forgets 15 = .ok (.imul, 1) := by decide +kernel
theorem dX6_forgets_16 : decode cX6_forgets 16 = .ok (.iload_n 2, 1) := by decide +kernel
theorem dX6_forgets_17 : decode cX6_forgets 17 = .ok (.iadd, 1) := by decide +kernel
theorem dX6_forgets_18 : decode cX6_forgets 18 = .ok (.iconst 0, 1) := by decide +kernel
theorem dX6_forgets_19 : decode cX6_forgets 19 = .ok (.iastore, 1) := by decide +kernel
theorem dX6_forgets_20 : decode cX6_forgets 20 = .ok (.aload_n 0, 1) := by decide +kernel
theorem dX6_forgets_21 : decode cX6_forgets 21 = .ok (.getfield 47, 3) := by decide +kernel
theorem dX6_forgets_24 : decode cX6_forgets 24 = .ok (.bipush 12, 2) := by decide +kernel
theorem dX6_forgets_26 : decode cX6_forgets 26 = .ok (.iload_n 2, 1) := by decide +kernel
theorem dX6_forgets_27 : decode cX6_forgets 27 = .ok (.imul, 1) := by decide +kernel
theorem dX6_forgets_28 : decode cX6_forgets 28 = .ok (.iload_n 1, 1) := by decide +kernel
theorem dX6_forgets_29 : decode cX6_forgets 29 = .ok (.iadd, 1) := by decide +kernel
theorem dX6_forgets_30 : decode cX6_forgets 30 = .ok (.iconst 0, 1) := by decide +kernel
theorem dX6_forgets_31 : decode cX6_forgets 31 = .ok (.iastore, 1) := by decide +kernel
theorem dX6_forgets_32 : decode cX6_forgets 32 = .ok (.iinc 2 1, 3) := by decide +kernel
theorem dX6_forgets_35 : decode cX6_forgets 35 = .ok (.goto (-33), 3) := by decide +kernel
theorem dX6_forgets_38 : decode cX6_forgets 38 = .ok (.return_, 1) := by decide +kernel
set_option maxRecDepth 20000 in
theorem ggX6_song_X6_forgets : GoodIn wsX6_song wsX6_forgets := goodIn_r _ [17, 18, 19, 20, 21, 22, 23, 24, 25, 26, 27, 28, 29, 30, 31, 32, 33, 34, 35, 36, 37, 38, 39, 40, 41, 42, 43, 44, 45, 46, 47, 48, 49, 50, 51, 52, 53, 54] (by decide +kernel) (by decide +kernel)
set_option maxRecDepth 20000 in
theorem gX6_song_X6_forgets : GoodIn wsX6_song (wsV RX6 103 RX6 yX6_forgets wsX6_forgets) := goodIn_app (goodIn_of _ (by decide +kernel)) ggX6_song_X6_forgets
theorem dX6_song_0 : decode cX6_song 0 = .ok (.iload_n 1, 1) := by decide +kernel
theorem dX6_song_1 : decode cX6_song 1 = .ok (.ifCond .lt 44, 3) := by decide +kernel
theorem dX6_song_4 : decode cX6_song 4 = .ok (.iload_n 1, 1) := by decide +kernel
theorem dX6_song_5 : decode cX6_song 5 = .ok (.bipush 12, 2) := by decide +kernel
theorem dX6_song_7 : decode cX6_song 7 = .ok (.if_icmp .ge 38, 3) := by decide +kernel
theorem dX6_song_10 : decode cX6_song 10 = .ok (.iload_n 2, 1) := by decide +kernel
theorem dX6_song_11 : decode cX6_song 11 = .ok (.ifCond .lt 34, 3) := by decide +kernel
theorem dX6_song_14 : decode cX6_song 14 = .ok (.iload_n 2, 1) := by decide +kernel
theorem dX6_song_15 : decode cX6_song 15 = .ok (.iconst 2, 1) := by decide +kernel
theorem dX6_song_16 : decode cX6_song 16 = .ok (.if_icmp .gt 29, 3) := by decide +kernel
theorem dX6_song_19 : decode cX6_song 19 = .ok (.iload_n 3, 1) := by decide +kernel
theorem dX6_song_20 : decode cX6_song 20 = .ok (.iconst 2, 1) := by decide +kernel
theorem dX6_song_21 : decode cX6_song 21 = .ok (.if_icmp .lt 24, 3) := by decide +kernel
theorem dX6_song_24 : decode cX6_song 24 = .ok (.iload_n 3, 1) := by decide +kernel
theorem dX6_song_25 : decode cX6_song 25 = .ok (.bipush 64, 2) := by decide +kernel
theorem dX6_song_27 : decode cX6_song 27 = .ok (.if_icmp .gt 18, 3) := by decide +kernel
theorem dX6_song_30 : decode cX6_song 30 = .ok (.iload 4, 2) := by decide +kernel
theorem dX6_song_32 : decode cX6_song 32 = .ok (.bipush 20, 2) := by decide +kernel
theorem dX6_song_34 : decode cX6_song 34 = .ok (.if_icmp .lt 11, 3) := by decide +kernel
theorem dX6_song_37 : decode cX6_song 37 = .ok (.iload 4, 2) := by decide +kernel
theorem dX6_song_39 : decode cX6_song 39 = .ok (.sipush 400, 3) := by decide +kernel
theorem dX6_song_42 : decode cX6_song 42 = .ok (.if_icmp .le 5, 3) := by decide +kernel
theorem dX6_song_45 : decode cX6_song 45 = .ok (.iconst 0, 1) := by decide +kernel
theorem dX6_song_46 : decode cX6_song 46 = .ok (.ireturn, 1) := by decide +kernel
theorem dX6_song_47 : decode cX6_song 47 = .ok (.iload_n 2, 1) := by decide +kernel
theorem dX6_song_48 : decode cX6_song 48 = .ok (.iconst 1, 1) := by decide +kernel
theorem dX6_song_49 : decode cX6_song 49 = .ok (.if_icmp .ne 18, 3) := by decide +kernel
theorem dX6_song_52 : decode cX6_song 52 = .ok (.iload 5, 2) := by decide +kernel
theorem dX6_song_54 : decode cX6_song 54 = .ok (.ifCond .lt 32, 3) := by decide +kernel
theorem dX6_song_57 : decode cX6_song 57 = .ok (.iload 5, 2) := by decide +kernel
theorem dX6_song_59 : decode cX6_song 59 = .ok (.iload 4, 2) := by decide +kernel
theorem dX6_song_61 : decode cX6_song 61 = .ok (.bipush 10, 2) := by decide +kernel
theorem dX6_song_63 : decode cX6_song 63 = .ok (.isub, 1) := by decide +kernel
theorem dX6_song_64 : decode cX6_song 64 = .ok (.if_icmp .gt 22, 3) := by decide +kernel
theorem dX6_song_67 : decode cX6_song 67 = .ok (.iload_n 2, 1) := by decide +kernel
theorem dX6_song_68 : decode cX6_song 68 = .ok (.iconst 2, 1) := by decide +kernel
theorem dX6_song_69 : decode cX6_song 69 = .ok (.if_icmp .ne 19, 3) := by decide +kernel
theorem dX6_song_72 : decode cX6_song 72 = .ok (.iload 5, 2) := by decide +kernel
theorem dX6_song_74 : decode cX6_song 74 = .ok (.bipush (-20), 2) := by decide +kernel
theorem dX6_song_76 : decode cX6_song 76 = .ok (.if_icmp .lt 10, 3) := by decide +kernel
theorem dX6_song_79 : decode cX6_song 79 = .ok (.iload 5, 2) := by decide +kernel
theorem dX6_song_81 : decode cX6_song 81 = .ok (.bipush 20, 2) := by decide +kernel
theorem dX6_song_83 : decode cX6_song 83 = .ok (.if_icmp .le 5, 3) := by decide +kernel
theorem dX6_song_86 : decode cX6_song 86 = .ok (.iconst 0, 1) := by decide +kernel
theorem dX6_song_87 : decode cX6_song 87 = .ok (.ireturn, 1) := by decide +kernel
theorem dX6_song_88 : decode cX6_song 88 = .ok (.aload_n 0, 1) := by decide +kernel
theorem dX6_song_89 : decode cX6_song 89 = .ok (.getfield 7, 3) := by decide +kernel
theorem dX6_song_92 : decode cX6_song 92 = .ok (.iload_n 1, 1) := by decide +kernel
theorem dX6_song_93 : decode cX6_song 93 = .ok (.iconst 1, 1) := by decide +kernel
theorem dX6_song_94 : decode cX6_song 94 = .ok (.bastore, 1) := by decide +kernel
theorem dX6_song_95 : decode cX6_song 95 = .ok (.aload_n 0, 1) := by decide +kernel
theorem dX6_song_96 : decode cX6_song 96 = .ok (.getfield 13, 3) := by decide +kernel
theorem dX6_song_99 : decode cX6_song 99 = .ok (.iload_n 1, 1) := by decide +kernel
theorem dX6_song_100 : decode cX6_song 100 = .ok (.iload_n 2, 1) := by decide +kernel
theorem dX6_song_101 : decode cX6_song 101 = .ok (.iastore, 1) := by decide +kernel
theorem dX6_song_102 : decode cX6_song 102 = .ok (.aload_n 0, 1) := by decide +kernel
theorem dX6_song_103 : decode cX6_song 103 = .ok (.getfield 17, 3) := by decide +kernel
theorem dX6_song_106 : decode cX6_song 106 = .ok (.iload_n 1, 1) := by decide +kernel
theorem dX6_song_107 : decode cX6_song 107 = .ok (.iload_n 3, 1) := by decide +kernel
theorem dX6_song_108 : decode cX6_song 108 = .ok (.iastore, 1) := by decide +kernel
theorem dX6_song_109 : decode cX6_song 109 = .ok (.aload_n 0, 1) := by decide +kernel
theorem dX6_song_110 : decode cX6_song 110 = .ok (.getfield 20, 3) := by decide +kernel
theorem dX6_song_113 : decode cX6_song 113 = .ok (.iload_n 1, 1) := by decide +kernel
theorem dX6_song_114 : decode cX6_song 114 = .ok (.iload 4, 2) := by decide +kernel
theorem dX6_song_116 : decode cX6_song 116 = .ok (.iastore, 1) := by decide +kernel
theorem dX6_song_117 : decode cX6_song 117 = .ok (.aload_n 0, 1) := by decide +kernel
theorem dX6_song_118 : decode cX6_song 118 = .ok (.getfield 23, 3) := by decide +kernel
theorem dX6_song_121 : decode cX6_song 121 = .ok (.iload_n 1, 1) := by decide +kernel
theorem dX6_song_122 : decode cX6_song 122 = .ok (.iload_n 2, 1) := by decide +kernel
theorem dX6_song_123 : decode cX6_song 123 = .ok (.ifCond .ne 7, 3) := by decide +kernel
theorem dX6_song_126 : decode cX6_song 126 = .ok (.iconst 0, 1) := by decide +kernel
theorem dX6_song_127 : decode cX6_song 127 = .ok (.goto 5, 3) := by decide +kernel
theorem dX6_song_130 : decode cX6_song 130 = .ok (.iload 5, 2) := by decide +kernel
theorem dX6_song_132 : decode cX6_song 132 = .ok (.iastore, 1) := by decide +kernel
theorem dX6_song_133 : decode cX6_song 133 = .ok (.aload_n 0, 1) := by decide +kernel
theorem dX6_song_134 : decode cX6_song 134 = .ok (.getfield 26, 3) := by decide +kernel
theorem dX6_song_137 : decode cX6_song 137 = .ok (.iload_n 1, 1) := by decide +kernel
theorem dX6_song_138 : decode cX6_song 138 = .ok (.iconst 0, 1) := by decide +kernel
theorem dX6_song_139 : decode cX6_song 139 = .ok (.iastore, 1) := by decide +kernel
theorem dX6_song_140 : decode cX6_song 140 = .ok (.aload_n 0, 1) := by decide +kernel
theorem dX6_song_141 : decode cX6_song 141 = .ok (.getfield 29, 3) := by decide +kernel
theorem dX6_song_144 : decode cX6_song 144 = .ok (.iload_n 1, 1) := by decide +kernel
theorem dX6_song_145 : decode cX6_song 145 = .ok (.iconst 0, 1) := by decide +kernel
theorem dX6_song_146 : decode cX6_song 146 = .ok (.iastore, 1) := by decide +kernel
theorem dX6_song_147 : decode cX6_song 147 = .ok (.aload_n 0, 1) := by decide +kernel
theorem dX6_song_148 : decode cX6_song 148 = .ok (.getfield 32, 3) := by decide +kernel
theorem dX6_song_151 : decode cX6_song 151 = .ok (.iload_n 1, 1) := by decide +kernel
theorem dX6_song_152 : decode cX6_song 152 = .ok (.iconst 4, 1) := by decide +kernel
theorem dX6_song_153 : decode cX6_song 153 = .ok (.iastore, 1) := by decide +kernel
theorem dX6_song_154 : decode cX6_song 154 = .ok (.iconst 0, 1) := by decide +kernel
theorem dX6_song_155 : decode cX6_song 155 = .ok (.istore 6, 2) := by decide +kernel
theorem dX6_song_157 : decode cX6_song 157 = .ok (.iload 6, 2) := by decide +kernel
theorem dX6_song_159 : decode cX6_song 159 = .ok (.bipush 64, 2) := by decide +kernel
theorem dX6_song_161 : decode cX6_song 161 = .ok (.if_icmp .ge 22, 3) := by decide +kernel
theorem dX6_song_164 : decode cX6_song 164 = .ok (.aload_n 0, 1) := by decide +kernel
theorem dX6_song_165 : decode cX6_song 165 = .ok (.getfield 35, 3) := by decide +kernel
theorem dX6_song_168 : decode cX6_song 168 = .ok (.bipush 64, 2) := by decide +kernel
theorem dX6_song_170 : decode cX6_song 170 = .ok (.iload_n 1, 1) := by decide +kernel
theorem dX6_song_171 : decode cX6_song 171 = .ok (.imul, 1) := by decide +kernel
theorem dX6_song_172 : decode cX6_song 172 = .ok (.iload 6, 2) := by decide +kernel
theorem dX6_song_174 : decode cX6_song 174 = .ok (.iadd, 1) := by decide +kernel
theorem dX6_song_175 : decode cX6_song 175 = .ok (.iconst 4, 1) := by decide +kernel
theorem dX6_song_176 : decode cX6_song 176 = .ok (.iastore, 1) := by decide +kernel
theorem dX6_song_177 : decode cX6_song 177 = .ok (.iinc 6 1, 3) := by decide +kernel
theorem dX6_song_180 : decode cX6_song 180 = .ok (.goto (-23), 3) := by decide +kernel
theorem dX6_song_183 : decode cX6_song 183 = .ok (.aload_n 0, 1) := by decide +kernel
theorem dX6_song_184 : decode cX6_song 184 = .ok (.getfield 38, 3) := by decide +kernel
theorem dX6_song_187 : decode cX6_song 187 = .ok (.iload_n 1, 1) := by decide +kernel
theorem dX6_song_188 : decode cX6_song 188 = .ok (.iconst 0, 1) := by decide +kernel
theorem dX6_song_189 : decode cX6_song 189 = .ok (.iastore, 1) := by decide +kernel
theorem dX6_song_190 : decode cX6_song 190 = .ok (.aload_n 0, 1) := by decide +kernel
theorem dX6_song_191 : decode cX6_song 191 = .ok (.getfield 41, 3) := by decide +kernel
theorem dX6_song_194 : decode cX6_song 194 = .ok (.iload_n 1, 1) := by decide +kernel
theorem dX6_song_195 : decode cX6_song 195 = .ok (.iconst 0, 1) := by decide +kernel
theorem dX6_song_196 : decode cX6_song 196 = .ok (.iastore, 1) := by decide +kernel
theorem dX6_song_197 : decode cX6_song 197 = .ok (.aload_n 0, 1) := by decide +kernel
theorem dX6_song_198 : decode cX6_song 198 = .ok (.getfield 44, 3) := by decide +kernel
theorem dX6_song_201 : decode cX6_song 201 = .ok (.iload_n 1, 1) := by decide +kernel
theorem dX6_song_202 : decode cX6_song 202 = .ok (.iconst 1, 1) := by decide +kernel
theorem dX6_song_203 : decode cX6_song 203 = .ok (.iastore, 1) := by decide +kernel
theorem dX6_song_204 : decode cX6_song 204 = .ok (.aload_n 0, 1) := by decide +kernel
theorem dX6_song_205 : decode cX6_song 205 = .ok (.iload_n 1, 1) := by decide +kernel
theorem dX6_song_206 : decode cX6_song 206 = .ok (.invokevirtual 103, 3) := by decide +kernel
theorem dX6_song_209 : decode cX6_song 209 = .ok (.iconst 1, 1) := by decide +kernel
theorem dX6_song_210 : decode cX6_song 210 = .ok (.ireturn, 1) := by decide +kernel
set_option maxRecDepth 20000 in
theorem ggX6_about_X6_isSong : GoodIn wsX6_about wsX6_isSong := goodIn_r _ [8, 9, 10, 11, 12, 13, 14, 15, 16, 17, 18, 19, 20, 21, 22, 23, 24, 25, 26, 27, 28, 29, 30, 31, 32, 33, 34, 35, 36, 37, 38, 39, 40, 41, 42, 43, 44, 45] (by decide +kernel) (by decide +kernel)
set_option maxRecDepth 20000 in
theorem gX6_about_X6_isSong : GoodIn wsX6_about (wsV RX6 107 RX6 yX6_isSong wsX6_isSong) := goodIn_app (goodIn_of _ (by decide +kernel)) ggX6_about_X6_isSong
theorem dX6_about_0 : decode cX6_about 0 = .ok (.aload_n 0, 1) := by decide +kernel
theorem dX6_about_1 : decode cX6_about 1 = .ok (.iload_n 1, 1) := by decide +kernel
theorem dX6_about_2 : decode cX6_about 2 = .ok (.invokevirtual 107, 3) := by decide +kernel
theorem dX6_about_5 : decode cX6_about 5 = .ok (.ifCond .eq 36, 3) := by decide +kernel
theorem dX6_about_8 : decode cX6_about 8 = .ok (.iload_n 2, 1) := by decide +kernel
theorem dX6_about_9 : decode cX6_about 9 = .ok (.ifCond .lt 32, 3) := by decide +kernel
theorem dX6_about_12 : decode cX6_about 12 = .ok (.iload_n 2, 1) := by decide +kernel
theorem dX6_about_13 : decode cX6_about 13 = .ok (.bipush 23, 2) := by decide +kernel
theorem dX6_about_15 : decode cX6_about 15 = .ok (.if_icmp .gt 26, 3) := by decide +kernel
theorem dX6_about_18 : decode cX6_about 18 = .ok (.iload_n 3, 1) := by decide +kernel
theorem dX6_about_19 : decode cX6_about 19 = .ok (.ifCond .lt 22, 3) := by decide +kernel
theorem dX6_about_22 : decode cX6_about 22 = .ok (.iload_n 3, 1) := by decide +kernel
theorem dX6_about_23 : decode cX6_about 23 = .ok (.bipush 9, 2) := by decide +kernel
theorem dX6_about_25 : decode cX6_about 25 = .ok (.if_icmp .gt 16, 3) := by decide +kernel
theorem dX6_about_28 : decode cX6_about 28 = .ok (.iload 4, 2) := by decide +kernel
theorem dX6_about_30 : decode cX6_about 30 = .ok (.iconst 1, 1) := by decide +kernel
theorem dX6_about_31 : decode cX6_about 31 = .ok (.if_icmp .lt 10, 3) := by decide +kernel
theorem dX6_about_34 : decode cX6_about 34 = .ok (.iload 4, 2) := by decide +kernel
theorem dX6_about_36 : decode cX6_about 36 = .ok (.bipush 16, 2) := by decide +kernel
theorem dX6_about_38 : decode cX6_about 38 = .ok (.if_icmp .le 5, 3) := by decide +kernel
theorem dX6_about_41 : decode cX6_about 41 = .ok (.iconst 0, 1) := by decide +kernel
theorem dX6_about_42 : decode cX6_about 42 = .ok (.ireturn, 1) := by decide +kernel
theorem dX6_about_43 : decode cX6_about 43 = .ok (.aload_n 0, 1) := by decide +kernel
theorem dX6_about_44 : decode cX6_about 44 = .ok (.getfield 26, 3) := by decide +kernel
theorem dX6_about_47 : decode cX6_about 47 = .ok (.iload_n 1, 1) := by decide +kernel
theorem dX6_about_48 : decode cX6_about 48 = .ok (.iload_n 2, 1) := by decide +kernel
theorem dX6_about_49 : decode cX6_about 49 = .ok (.iastore, 1) := by decide +kernel
theorem dX6_about_50 : decode cX6_about 50 = .ok (.aload_n 0, 1) := by decide +kernel
theorem dX6_about_51 : decode cX6_about 51 = .ok (.getfield 29, 3) := by decide +kernel
theorem dX6_about_54 : decode cX6_about 54 = .ok (.iload_n 1, 1) := by decide +kernel
theorem dX6_about_55 : decode cX6_about 55 = .ok (.iload_n 3, 1) := by decide +kernel
theorem dX6_about_56 : decode cX6_about 56 = .ok (.iastore, 1) := by decide +kernel
theorem dX6_about_57 : decode cX6_about 57 = .ok (.aload_n 0, 1) := by decide +kernel
theorem dX6_about_58 : decode cX6_about 58 = .ok (.getfield 32, 3) := by decide +kernel
theorem dX6_about_61 : decode cX6_about 61 = .ok (.iload_n 1, 1) := by decide +kernel
theorem dX6_about_62 : decode cX6_about 62 = .ok (.iload 4, 2) := by decide +kernel
theorem dX6_about_64 : decode cX6_about 64 = .ok (.iastore, 1) := by decide +kernel
theorem dX6_about_65 : decode cX6_about 65 = .ok (.iconst 1, 1) := by decide +kernel
theorem dX6_about_66 : decode cX6_about 66 = .ok (.ireturn, 1) := by decide +kernel
set_option maxRecDepth 20000 in
theorem ggX6_bar_X6_isSong : GoodIn wsX6_bar wsX6_isSong := goodIn_r _ [7, 8, 9, 10, 11, 12, 13, 14, 15, 16, 17, 18, 19, 20, 21, 22, 23, 24, 25, 26, 27, 28, 29, 30, 31, 32, 33, 34, 35, 36, 37, 38, 39, 40, 41, 42, 43, 44] (by decide +kernel) (by decide +kernel)
set_option maxRecDepth 20000 in
theorem gX6_bar_X6_isSong : GoodIn wsX6_bar (wsV RX6 107 RX6 yX6_isSong wsX6_isSong) := goodIn_app (goodIn_of _ (by decide +kernel)) ggX6_bar_X6_isSong
theorem dX6_bar_0 : decode cX6_bar 0 = .ok (.aload_n 0, 1) := by decide +kernel
theorem dX6_bar_1 : decode cX6_bar 1 = .ok (.iload_n 1, 1) := by decide +kernel
theorem dX6_bar_2 : decode cX6_bar 2 = .ok (.invokevirtual 107, 3) := by decide +kernel
theorem dX6_bar_5 : decode cX6_bar 5 = .ok (.ifCond .eq 27, 3) := by decide +kernel
theorem dX6_bar_8 : decode cX6_bar 8 = .ok (.iload_n 2, 1) := by decide +kernel
theorem dX6_bar_9 : decode cX6_bar 9 = .ok (.ifCond .lt 23, 3) := by decide +kernel
theorem dX6_bar_12 : decode cX6_bar 12 = .ok (.iload_n 2, 1) := by decide +kernel
theorem dX6_bar_13 : decode cX6_bar 13 = .ok (.aload_n 0, 1) := by decide +kernel
theorem dX6_bar_14 : decode cX6_bar 14 = .ok (.getfield 17, 3) := by decide +kernel
theorem dX6_bar_17 : decode cX6_bar 17 = .ok (.iload_n 1, 1) := by decide +kernel
theorem dX6_bar_18 : decode cX6_bar 18 = .ok (.iaload, 1) := by decide +kernel
theorem dX6_bar_19 : decode cX6_bar 19 = .ok (.if_icmp .ge 13, 3) := by decide +kernel
theorem dX6_bar_22 : decode cX6_bar 22 = .ok (.iload_n 3, 1) := by decide +kernel
theorem dX6_bar_23 : decode cX6_bar 23 = .ok (.iconst 1, 1) := by decide +kernel
theorem dX6_bar_24 : decode cX6_bar 24 = .ok (.if_icmp .lt 8, 3) := by decide +kernel
theorem dX6_bar_27 : decode cX6_bar 27 = .ok (.iload_n 3, 1) := by decide +kernel
theorem dX6_bar_28 : decode cX6_bar 28 = .ok (.iconst 4, 1) := by decide +kernel
theorem dX6_bar_29 : decode cX6_bar 29 = .ok (.if_icmp .le 5, 3) := by decide +kernel
theorem dX6_bar_32 : decode cX6_bar 32 = .ok (.iconst 0, 1) := by decide +kernel
theorem dX6_bar_33 : decode cX6_bar 33 = .ok (.ireturn, 1) := by decide +kernel
theorem dX6_bar_34 : decode cX6_bar 34 = .ok (.aload_n 0, 1) := by decide +kernel
theorem dX6_bar_35 : decode cX6_bar 35 = .ok (.getfield 35, 3) := by decide +kernel
theorem dX6_bar_38 : decode cX6_bar 38 = .ok (.bipush 64, 2) := by decide +kernel
theorem dX6_bar_40 : decode cX6_bar 40 = .ok (.iload_n 1, 1) := by decide +kernel
theorem dX6_bar_41 : decode cX6_bar 41 = .ok (.imul, 1) := by decide +kernel
theorem dX6_bar_42 : decode cX6_bar 42 = .ok (.iload_n 2, 1) := by decide +kernel
theorem dX6_bar_43 : decode cX6_bar 43 = .ok (.iadd, 1) := by decide +kernel
theorem dX6_bar_44 : decode cX6_bar 44 = .ok (.iload_n 3, 1) := by decide +kernel
theorem dX6_bar_45 : decode cX6_bar 45 = .ok (.iastore, 1) := by decide +kernel
theorem dX6_bar_46 : decode cX6_bar 46 = .ok (.iconst 1, 1) := by decide +kernel
theorem dX6_bar_47 : decode cX6_bar 47 = .ok (.ireturn, 1) := by decide +kernel
set_option maxRecDepth 20000 in
theorem ggX6_loop_X6_isSong : GoodIn wsX6_loop wsX6_isSong := goodIn_r _ [9, 10, 11, 12, 13, 14, 15, 16, 17, 18, 19, 20, 21, 22, 23, 24, 25, 26, 27, 28, 29, 30, 31, 32, 33, 34, 35, 36, 37, 38, 39, 40, 41, 42, 43, 44, 45, 46] (by decide +kernel) (by decide +kernel)
set_option maxRecDepth 20000 in
theorem gX6_loop_X6_isSong : GoodIn wsX6_loop (wsV RX6 107 RX6 yX6_isSong wsX6_isSong) := goodIn_app (goodIn_of _ (by decide +kernel)) ggX6_loop_X6_isSong
theorem dX6_loop_0 : decode cX6_loop 0 = .ok (.aload_n 0, 1) := by decide +kernel
theorem dX6_loop_1 : decode cX6_loop 1 = .ok (.iload_n 1, 1) := by decide +kernel
theorem dX6_loop_2 : decode cX6_loop 2 = .ok (.invokevirtual 107, 3) := by decide +kernel
theorem dX6_loop_5 : decode cX6_loop 5 = .ok (.ifCond .eq 56, 3) := by decide +kernel
theorem dX6_loop_8 : decode cX6_loop 8 = .ok (.iload_n 2, 1) := by decide +kernel
theorem dX6_loop_9 : decode cX6_loop 9 = .ok (.ifCond .lt 52, 3) := by decide +kernel
theorem dX6_loop_12 : decode cX6_loop 12 = .ok (.iload_n 2, 1) := by decide +kernel
theorem dX6_loop_13 : decode cX6_loop 13 = .ok (.iload_n 3, 1) := by decide +kernel
theorem dX6_loop_14 : decode cX6_loop 14 = .ok (.if_icmp .gt 47, 3) := by decide +kernel
theorem dX6_loop_17 : decode cX6_loop 17 = .ok (.iload_n 3, 1) := by decide +kernel
theorem dX6_loop_18 : decode cX6_loop 18 = .ok (.aload_n 0, 1) := by decide +kernel
theorem dX6_loop_19 : decode cX6_loop 19 = .ok (.getfield 17, 3) := by decide +kernel
theorem dX6_loop_22 : decode cX6_loop 22 = .ok (.iload_n 1, 1) := by decide +kernel
theorem dX6_loop_23 : decode cX6_loop 23 = .ok (.iaload, 1) := by decide +kernel
theorem dX6_loop_24 : decode cX6_loop 24 = .ok (.if_icmp .ge 37, 3) := by decide +kernel
theorem dX6_loop_27 : decode cX6_loop 27 = .ok (.iload 4, 2) := by decide +kernel
theorem dX6_loop_29 : decode cX6_loop 29 = .ok (.iconst 1, 1) := by decide +kernel
theorem dX6_loop_30 : decode cX6_loop 30 = .ok (.if_icmp .lt 31, 3) := by decide +kernel
theorem dX6_loop_33 : decode cX6_loop 33 = .ok (.iload 4, 2) := by decide +kernel
theorem dX6_loop_35 : decode cX6_loop 35 = .ok (.iconst 4, 1) := by decide +kernel
theorem dX6_loop_36 : decode cX6_loop 36 = .ok (.if_icmp .gt 25, 3) := by decide +kernel
theorem dX6_loop_39 : decode cX6_loop 39 = .ok (.aload_n 0, 1) := by decide +kernel
theorem dX6_loop_40 : decode cX6_loop 40 = .ok (.getfield 17, 3) := by decide +kernel
theorem dX6_loop_43 : decode cX6_loop 43 = .ok (.iload_n 1, 1) := by decide +kernel
theorem dX6_loop_44 : decode cX6_loop 44 = .ok (.iaload, 1) := by decide +kernel
theorem dX6_loop_45 : decode cX6_loop 45 = .ok (.iload 4, 2) := by decide +kernel
theorem dX6_loop_47 : decode cX6_loop 47 = .ok (.iconst 1, 1) := by decide +kernel
theorem dX6_loop_48 : decode cX6_loop 48 = .ok (.isub, 1) := by decide +kernel
theorem dX6_loop_49 : decode cX6_loop 49 = .ok (.iload_n 3, 1) := by decide +kernel
theorem dX6_loop_50 : decode cX6_loop 50 = .ok (.iload_n 2, 1) := by decide +kernel
theorem dX6_loop_51 : decode cX6_loop 51 = .ok (.isub, 1) := by decide +kernel
theorem dX6_loop_52 : decode cX6_loop 52 = .ok (.iconst 1, 1) := by decide +kernel
theorem dX6_loop_53 : decode cX6_loop 53 = .ok (.iadd, 1) := by decide +kernel
theorem dX6_loop_54 : decode cX6_loop 54 = .ok (.imul, 1) := by decide +kernel
theorem dX6_loop_55 : decode cX6_loop 55 = .ok (.iadd, 1) := by decide +kernel
theorem dX6_loop_56 : decode cX6_loop 56 = .ok (.bipush 64, 2) := by decide +kernel
theorem dX6_loop_58 : decode cX6_loop 58 = .ok (.if_icmp .le 5, 3) := by decide +kernel
theorem dX6_loop_61 : decode cX6_loop 61 = .ok (.iconst 0, 1) := by decide +kernel
theorem dX6_loop_62 : decode cX6_loop 62 = .ok (.ireturn, 1) := by decide +kernel
theorem dX6_loop_63 : decode cX6_loop 63 = .ok (.aload_n 0, 1) := by decide +kernel
theorem dX6_loop_64 : decode cX6_loop 64 = .ok (.getfield 38, 3) := by decide +kernel
theorem dX6_loop_67 : decode cX6_loop 67 = .ok (.iload_n 1, 1) := by decide +kernel
theorem dX6_loop_68 : decode cX6_loop 68 = .ok (.iload_n 2, 1) := by decide +kernel
theorem dX6_loop_69 : decode cX6_loop 69 = .ok (.iastore, 1) := by decide +kernel
theorem dX6_loop_70 : decode cX6_loop 70 = .ok (.aload_n 0, 1) := by decide +kernel
theorem dX6_loop_71 : decode cX6_loop 71 = .ok (.getfield 41, 3) := by decide +kernel
theorem dX6_loop_74 : decode cX6_loop 74 = .ok (.iload_n 1, 1) := by decide +kernel
theorem dX6_loop_75 : decode cX6_loop 75 = .ok (.iload_n 3, 1) := by decide +kernel
theorem dX6_loop_76 : decode cX6_loop 76 = .ok (.iastore, 1) := by decide +kernel
theorem dX6_loop_77 : decode cX6_loop 77 = .ok (.aload_n 0, 1) := by decide +kernel
theorem dX6_loop_78 : decode cX6_loop 78 = .ok (.getfield 44, 3) := by decide +kernel
theorem dX6_loop_81 : decode cX6_loop 81 = .ok (.iload_n 1, 1) := by decide +kernel
theorem dX6_loop_82 : decode cX6_loop 82 = .ok (.iload 4, 2) := by decide +kernel
theorem dX6_loop_84 : decode cX6_loop 84 = .ok (.iastore, 1) := by decide +kernel
theorem dX6_loop_85 : decode cX6_loop 85 = .ok (.iconst 1, 1) := by decide +kernel
theorem dX6_loop_86 : decode cX6_loop 86 = .ok (.ireturn, 1) := by decide +kernel
set_option maxRecDepth 20000 in
theorem ggX6_drop_X6_isSong : GoodIn wsX6_drop wsX6_isSong := goodIn_r _ [6, 1, 12, 13, 14, 15, 16, 17, 18, 19, 20, 21, 22, 23, 24, 25, 26, 27, 28, 29, 30, 31, 32, 33, 34, 35, 36, 37, 38, 39, 40, 41, 42, 43, 44, 45, 46, 47] (by decide +kernel) (by decide +kernel)
set_option maxRecDepth 20000 in
theorem gX6_drop_X6_isSong : GoodIn wsX6_drop (wsV RX6 107 RX6 yX6_isSong wsX6_isSong) := goodIn_app (goodIn_of _ (by decide +kernel)) ggX6_drop_X6_isSong
set_option maxRecDepth 20000 in
theorem ggX6_drop_X6_forgets : GoodIn wsX6_drop wsX6_forgets := goodIn_r _ [10, 11, 12, 13, 14, 15, 16, 17, 18, 19, 20, 21, 22, 23, 24, 25, 26, 27, 28, 29, 30, 31, 32, 33, 34, 35, 36, 37, 38, 39, 40, 41, 42, 43, 44, 45, 46, 47] (by decide +kernel) (by decide +kernel)
set_option maxRecDepth 20000 in
theorem gX6_drop_X6_forgets : GoodIn wsX6_drop (wsV RX6 103 RX6 yX6_forgets wsX6_forgets) := goodIn_app (goodIn_of _ (by decide +kernel)) ggX6_drop_X6_forgets
theorem dX6_drop_0 : decode cX6_drop 0 = .ok (.aload_n 0, 1) := by decide +kernel
theorem dX6_drop_1 : decode cX6_drop 1 = .ok (.iload_n 1, 1) := by decide +kernel
theorem dX6_drop_2 : decode cX6_drop 2 = .ok (.invokevirtual 107, 3) := by decide +kernel
theorem dX6_drop_5 : decode cX6_drop 5 = .ok (.ifCond .ne 5, 3) := by decide +kernel
theorem dX6_drop_8 : decode cX6_drop 8 = .ok (.iconst 0, 1) := by decide +kernel
theorem dX6_drop_9 : decode cX6_drop 9 = .ok (.ireturn, 1) := by decide +kernel
theorem dX6_drop_10 : decode cX6_drop 10 = .ok (.aload_n 0, 1) := by decide +kernel
theorem dX6_drop_11 : decode cX6_drop 11 = .ok (.getfield 7, 3) := by decide +kernel
theorem dX6_drop_14 : decode cX6_drop 14 = .ok (.iload_n 1, 1) := by decide +kernel
theorem dX6_drop_15 : decode cX6_drop 15 = .ok (.iconst 0, 1) := by decide +kernel
theorem dX6_drop_16 : decode cX6_drop 16 = .ok (.bastore, 1) := by decide +kernel
theorem dX6_drop_17 : decode cX6_drop 17 = .ok (.aload_n 0, 1) := by decide +kernel
theorem dX6_drop_18 : decode cX6_drop 18 = .ok (.iload_n 1, 1) := by decide +kernel
theorem dX6_drop_19 : decode cX6_drop 19 = .ok (.invokevirtual 103, 3) := by decide +kernel
theorem dX6_drop_22 : decode cX6_drop 22 = .ok (.iconst 1, 1) := by decide +kernel
theorem dX6_drop_23 : decode cX6_drop 23 = .ok (.ireturn, 1) := by decide +kernel
theorem dX6_playedBars_0 : decode cX6_playedBars 0 = .ok (.aload_n 0, 1) := by decide +kernel
theorem dX6_playedBars_1 : decode cX6_playedBars 1 = .ok (.getfield 17, 3) := by decide +kernel
theorem dX6_playedBars_4 : decode cX6_playedBars 4 = .ok (.iload_n 1, 1) := by decide +kernel
theorem dX6_playedBars_5 : decode cX6_playedBars 5 = .ok (.iaload, 1) := by decide +kernel
theorem dX6_playedBars_6 : decode cX6_playedBars 6 = .ok (.aload_n 0, 1) := by decide +kernel
theorem dX6_playedBars_7 : decode cX6_playedBars 7 = .ok (.getfield 44, 3) := by decide +kernel
theorem dX6_playedBars_10 : decode cX6_playedBars 10 = .ok (.iload_n 1, 1) := by decide +kernel
theorem dX6_playedBars_11 : decode cX6_playedBars 11 = .ok (.iaload, 1) := by decide +kernel
theorem dX6_playedBars_12 : decode cX6_playedBars 12 = .ok (.iconst 1, 1) := by decide +kernel
theorem dX6_playedBars_13 : decode cX6_playedBars 13 = .ok (.isub, 1) := by decide +kernel
theorem dX6_playedBars_14 : decode cX6_playedBars 14 = .ok (.aload_n 0, 1) := by decide +kernel
theorem dX6_playedBars_15 : decode cX6_playedBars 15 = .ok (.getfield 41, 3) := by decide +kernel
theorem dX6_playedBars_18 : decode cX6_playedBars 18 = .ok (.iload_n 1, 1) := by decide +kernel
theorem dX6_playedBars_19 : decode cX6_playedBars 19 = .ok (.iaload, 1) := by decide +kernel
theorem dX6_playedBars_20 : decode cX6_playedBars 20 = .ok (.aload_n 0, 1) := by decide +kernel
theorem dX6_playedBars_21 : decode cX6_playedBars 21 = .ok (.getfield 38, 3) := by decide +kernel
theorem dX6_playedBars_24 : decode cX6_playedBars 24 = .ok (.iload_n 1, 1) := by decide +kernel
theorem dX6_playedBars_25 : decode cX6_playedBars 25 = .ok (.iaload, 1) := by decide +kernel
theorem dX6_playedBars_26 : decode cX6_playedBars 26 = .ok (.isub, 1) := by decide +kernel
theorem dX6_playedBars_27 : decode cX6_playedBars 27 = .ok (.iconst 1, 1) := by decide +kernel
theorem dX6_playedBars_28 : decode cX6_playedBars 28 = .ok (.iadd, 1) := by decide +kernel
theorem dX6_playedBars_29 : decode cX6_playedBars 29 = .ok (.imul, 1) := by decide +kernel
theorem dX6_playedBars_30 : decode cX6_playedBars 30 = .ok (.iadd, 1) := by decide +kernel
theorem dX6_playedBars_31 : decode cX6_playedBars 31 = .ok (.ireturn, 1) := by decide +kernel
theorem dX6_barOf_0 : decode cX6_barOf 0 = .ok (.aload_n 0, 1) := by decide +kernel
theorem dX6_barOf_1 : decode cX6_barOf 1 = .ok (.getfield 41, 3) := by decide +kernel
theorem dX6_barOf_4 : decode cX6_barOf 4 = .ok (.iload_n 1, 1) := by decide +kernel
theorem dX6_barOf_5 : decode cX6_barOf 5 = .ok (.iaload, 1) := by decide +kernel
theorem dX6_barOf_6 : decode cX6_barOf 6 = .ok (.aload_n 0, 1) := by decide +kernel
theorem dX6_barOf_7 : decode cX6_barOf 7 = .ok (.getfield 38, 3) := by decide +kernel
theorem dX6_barOf_10 : decode cX6_barOf 10 = .ok (.iload_n 1, 1) := by decide +kernel
theorem dX6_barOf_11 : decode cX6_barOf 11 = .ok (.iaload, 1) := by decide +kernel
theorem dX6_barOf_12 : decode cX6_barOf 12 = .ok (.isub, 1) := by decide +kernel
theorem dX6_barOf_13 : decode cX6_barOf 13 = .ok (.iconst 1, 1) := by decide +kernel
theorem dX6_barOf_14 : decode cX6_barOf 14 = .ok (.iadd, 1) := by decide +kernel
theorem dX6_barOf_15 : decode cX6_barOf 15 = .ok (.istore_n 3, 1) := by decide +kernel
theorem dX6_barOf_16 : decode cX6_barOf 16 = .ok (.iload_n 2, 1) := by decide +kernel
theorem dX6_barOf_17 : decode cX6_barOf 17 = .ok (.aload_n 0, 1) := by decide +kernel
theorem dX6_barOf_18 : decode cX6_barOf 18 = .ok (.getfield 41, 3) := by decide +kernel
theorem dX6_barOf_21 : decode cX6_barOf 21 = .ok (.iload_n 1, 1) := by decide +kernel
theorem dX6_barOf_22 : decode cX6_barOf 22 = .ok (.iaload, 1) := by decide +kernel
theorem dX6_barOf_23 : decode cX6_barOf 23 = .ok (.if_icmp .gt 5, 3) := by decide +kernel
theorem dX6_barOf_26 : decode cX6_barOf 26 = .ok (.iload_n 2, 1) := by decide +kernel
theorem dX6_barOf_27 : decode cX6_barOf 27 = .ok (.ireturn, 1) := by decide +kernel
theorem dX6_barOf_28 : decode cX6_barOf 28 = .ok (.iload_n 2, 1) := by decide +kernel
theorem dX6_barOf_29 : decode cX6_barOf 29 = .ok (.aload_n 0, 1) := by decide +kernel
theorem dX6_barOf_30 : decode cX6_barOf 30 = .ok (.getfield 38, 3) := by decide +kernel
theorem dX6_barOf_33 : decode cX6_barOf 33 = .ok (.iload_n 1, 1) := by decide +kernel
theorem dX6_barOf_34 : decode cX6_barOf 34 = .ok (.iaload, 1) := by decide +kernel
theorem dX6_barOf_35 : decode cX6_barOf 35 = .ok (.isub, 1) := by decide +kernel
theorem dX6_barOf_36 : decode cX6_barOf 36 = .ok (.istore 4, 2) := by decide +kernel
theorem dX6_barOf_38 : decode cX6_barOf 38 = .ok (.iload 4, 2) := by decide +kernel
theorem dX6_barOf_40 : decode cX6_barOf 40 = .ok (.iload_n 3, 1) := by decide +kernel
theorem dX6_barOf_41 : decode cX6_barOf 41 = .ok (.aload_n 0, 1) := by decide +kernel
theorem dX6_barOf_42 : decode cX6_barOf 42 = .ok (.getfield 44, 3) := by decide +kernel
theorem dX6_barOf_45 : decode cX6_barOf 45 = .ok (.iload_n 1, 1) := by decide +kernel
theorem dX6_barOf_46 : decode cX6_barOf 46 = .ok (.iaload, 1) := by decide +kernel
theorem dX6_barOf_47 : decode cX6_barOf 47 = .ok (.imul, 1) := by decide +kernel
theorem dX6_barOf_48 : decode cX6_barOf 48 = .ok (.if_icmp .ge 17, 3) := by decide +kernel
theorem dX6_barOf_51 : decode cX6_barOf 51 = .ok (.aload_n 0, 1) := by decide +kernel
theorem dX6_barOf_52 : decode cX6_barOf 52 = .ok (.getfield 38, 3) := by decide +kernel
theorem dX6_barOf_55 : decode cX6_barOf 55 = .ok (.iload_n 1, 1) := by decide +kernel
theorem dX6_barOf_56 : decode cX6_barOf 56 = .ok (.iaload, 1) := by decide +kernel
theorem dX6_barOf_57 : decode cX6_barOf 57 = .ok (.iload 4, 2) := by decide +kernel
theorem dX6_barOf_59 : decode cX6_barOf 59 = .ok (.iload_n 3, 1) := by decide +kernel
theorem dX6_barOf_60 : decode cX6_barOf 60 = .ok (.irem, 1) := by decide +kernel
theorem dX6_barOf_61 : decode cX6_barOf 61 = .ok (.iadd, 1) := by decide +kernel
theorem dX6_barOf_62 : decode cX6_barOf 62 = .ok (.goto 15, 3) := by decide +kernel
theorem dX6_barOf_65 : decode cX6_barOf 65 = .ok (.iload_n 2, 1) := by decide +kernel
theorem dX6_barOf_66 : decode cX6_barOf 66 = .ok (.iload_n 3, 1) := by decide +kernel
theorem dX6_barOf_67 : decode cX6_barOf 67 = .ok (.aload_n 0, 1) := by decide +kernel
theorem dX6_barOf_68 : decode cX6_barOf 68 = .ok (.getfield 44, 3) := by decide +kernel
theorem dX6_barOf_71 : decode cX6_barOf 71 = .ok (.iload_n 1, 1) := by decide +kernel
theorem dX6_barOf_72 : decode cX6_barOf 72 = .ok (.iaload, 1) := by decide +kernel
theorem dX6_barOf_73 : decode cX6_barOf 73 = .ok (.iconst 1, 1) := by decide +kernel
theorem dX6_barOf_74 : decode cX6_barOf 74 = .ok (.isub, 1) := by decide +kernel
theorem dX6_barOf_75 : decode cX6_barOf 75 = .ok (.imul, 1) := by decide +kernel
theorem dX6_barOf_76 : decode cX6_barOf 76 = .ok (.isub, 1) := by decide +kernel
theorem dX6_barOf_77 : decode cX6_barOf 77 = .ok (.ireturn, 1) := by decide +kernel
theorem dX6_beatsOf_0 : decode cX6_beatsOf 0 = .ok (.iconst 0, 1) := by decide +kernel
theorem dX6_beatsOf_1 : decode cX6_beatsOf 1 = .ok (.istore_n 2, 1) := by decide +kernel
theorem dX6_beatsOf_2 : decode cX6_beatsOf 2 = .ok (.iconst 0, 1) := by decide +kernel
theorem dX6_beatsOf_3 : decode cX6_beatsOf 3 = .ok (.istore_n 3, 1) := by decide +kernel
theorem dX6_beatsOf_4 : decode cX6_beatsOf 4 = .ok (.iload_n 3, 1) := by decide +kernel
theorem dX6_beatsOf_5 : decode cX6_beatsOf 5 = .ok (.aload_n 0, 1) := by decide +kernel
theorem dX6_beatsOf_6 : decode cX6_beatsOf 6 = .ok (.getfield 17, 3) := by decide +kernel
theorem dX6_beatsOf_9 : decode cX6_beatsOf 9 = .ok (.iload_n 1, 1) := by decide +kernel
theorem dX6_beatsOf_10 : decode cX6_beatsOf 10 = .ok (.iaload, 1) := by decide +kernel
theorem dX6_beatsOf_11 : decode cX6_beatsOf 11 = .ok (.if_icmp .ge 23, 3) := by decide +kernel
theorem dX6_beatsOf_14 : decode cX6_beatsOf 14 = .ok (.iload_n 2, 1) := by decide +kernel
theorem dX6_beatsOf_15 : decode cX6_beatsOf 15 = .ok (.aload_n 0, 1) := by decide +kernel
theorem dX6_beatsOf_16 : decode cX6_beatsOf 16 = .ok (.getfield 35, 3) := by decide +kernel
theorem dX6_beatsOf_19 : decode cX6_beatsOf 19 = .ok (.bipush 64, 2) := by decide +kernel
theorem dX6_beatsOf_21 : decode cX6_beatsOf 21 = .ok (.iload_n 1, 1) := by decide +kernel
theorem dX6_beatsOf_22 : decode cX6_beatsOf 22 = .ok (.imul, 1) := by decide +kernel
theorem dX6_beatsOf_23 : decode cX6_beatsOf 23 = .ok (.iload_n 3, 1) := by decide +kernel
theorem dX6_beatsOf_24 : decode cX6_beatsOf 24 = .ok (.iadd, 1) := by decide +kernel
theorem dX6_beatsOf_25 : decode cX6_beatsOf 25 = .ok (.iaload, 1) := by decide +kernel
theorem dX6_beatsOf_26 : decode cX6_beatsOf 26 = .ok (.iadd, 1) := by decide +kernel
theorem dX6_beatsOf_27 : decode cX6_beatsOf 27 = .ok (.istore_n 2, 1) := by decide +kernel
theorem dX6_beatsOf_28 : decode cX6_beatsOf 28 = .ok (.iinc 3 1, 3) := by decide +kernel
theorem dX6_beatsOf_31 : decode cX6_beatsOf 31 = .ok (.goto (-27), 3) := by decide +kernel
theorem dX6_beatsOf_34 : decode cX6_beatsOf 34 = .ok (.iload_n 2, 1) := by decide +kernel
theorem dX6_beatsOf_35 : decode cX6_beatsOf 35 = .ok (.ireturn, 1) := by decide +kernel
set_option maxRecDepth 20000 in
theorem ggX6_of_X6_isSong : GoodIn wsX6_of wsX6_isSong := goodIn_r _ [13, 14, 26, 27, 28, 29, 30, 31, 32, 33, 34, 35, 36, 37, 38, 39, 40, 41, 42, 43, 44, 45, 46, 47, 48, 49, 50, 51, 52, 53, 54, 55, 56, 57, 58, 59, 60, 61] (by decide +kernel) (by decide +kernel)
set_option maxRecDepth 20000 in
theorem gX6_of_X6_isSong : GoodIn wsX6_of (wsV RX6 107 RX6 yX6_isSong wsX6_isSong) := goodIn_app (goodIn_of _ (by decide +kernel)) ggX6_of_X6_isSong
set_option maxRecDepth 20000 in
theorem ggX6_of_X6_playedBars : GoodIn wsX6_of wsX6_playedBars := goodIn_r _ [18, 2, 19, 20, 21, 26, 27, 28, 29, 30, 31, 32, 33, 34, 35, 36, 37, 38, 39, 40, 41, 42, 43, 44, 45, 46, 47, 48, 49, 50, 51, 52, 53, 54, 55, 56, 57, 58, 59, 60, 61] (by decide +kernel) (by decide +kernel)
set_option maxRecDepth 20000 in
theorem gX6_of_X6_playedBars : GoodIn wsX6_of (wsV RX6 111 RX6 yX6_playedBars wsX6_playedBars) := goodIn_app (goodIn_of _ (by decide +kernel)) ggX6_of_X6_playedBars
set_option maxRecDepth 20000 in
theorem ggX6_of_X6_beatsOf : GoodIn wsX6_of wsX6_beatsOf := goodIn_r _ [25, 2, 8, 26, 27, 28, 29, 30, 31, 32, 33, 34, 35, 36, 37, 38, 39, 40, 41, 42, 43, 44, 45, 46, 47, 48, 49, 50, 51, 52, 53, 54, 55, 56, 57, 58, 59, 60, 61] (by decide +kernel) (by decide +kernel)
set_option maxRecDepth 20000 in
theorem gX6_of_X6_beatsOf : GoodIn wsX6_of (wsV RX6 115 RX6 yX6_beatsOf wsX6_beatsOf) := goodIn_app (goodIn_of _ (by decide +kernel)) ggX6_of_X6_beatsOf
theorem dX6_of_0 : decode cX6_of 0 = .ok (.aload_n 0, 1) := by decide +kernel
theorem dX6_of_1 : decode cX6_of 1 = .ok (.iload_n 1, 1) := by decide +kernel
theorem dX6_of_2 : decode cX6_of 2 = .ok (.invokevirtual 107, 3) := by decide +kernel
theorem dX6_of_5 : decode cX6_of 5 = .ok (.ifCond .ne 7, 3) := by decide +kernel
theorem dX6_of_8 : decode cX6_of 8 = .ok (.sipush (-1000), 3) := by decide +kernel
theorem dX6_of_11 : decode cX6_of 11 = .ok (.ireturn, 1) := by decide +kernel
theorem dX6_of_12 : decode cX6_of 12 = .ok (.iload_n 2, 1) := by decide +kernel
theorem dX6_of_13 : decode cX6_of 13 = .ok (.tableswitch 159 0 9 #[55, 62, 69, 76, 83, 90, 97, 104, 110, 116], 55) := by decide +kernel
theorem dX6_of_68 : decode cX6_of 68 = .ok (.aload_n 0, 1) := by decide +kernel
theorem dX6_of_69 : decode cX6_of 69 = .ok (.getfield 13, 3) := by decide +kernel
theorem dX6_of_72 : decode cX6_of 72 = .ok (.iload_n 1, 1) := by decide +kernel
theorem dX6_of_73 : decode cX6_of 73 = .ok (.iaload, 1) := by decide +kernel
theorem dX6_of_74 : decode cX6_of 74 = .ok (.ireturn, 1) := by decide +kernel
theorem dX6_of_75 : decode cX6_of 75 = .ok (.aload_n 0, 1) := by decide +kernel
theorem dX6_of_76 : decode cX6_of 76 = .ok (.getfield 17, 3) := by decide +kernel
theorem dX6_of_79 : decode cX6_of 79 = .ok (.iload_n 1, 1) := by decide +kernel
theorem dX6_of_80 : decode cX6_of 80 = .ok (.iaload, 1) := by decide +kernel
theorem dX6_of_81 : decode cX6_of 81 = .ok (.ireturn, 1) := by decide +kernel
theorem dX6_of_82 : decode cX6_of 82 = .ok (.aload_n 0, 1) := by decide +kernel
theorem dX6_of_83 : decode cX6_of 83 = .ok (.getfield 20, 3) := by decide +kernel
theorem dX6_of_86 : decode cX6_of 86 = .ok (.iload_n 1, 1) := by decide +kernel
theorem dX6_of_87 : decode cX6_of 87 = .ok (.iaload, 1) := by decide +kernel
theorem dX6_of_88 : decode cX6_of 88 = .ok (.ireturn, 1) := by decide +kernel
theorem dX6_of_89 : decode cX6_of 89 = .ok (.aload_n 0, 1) := by decide +kernel
theorem dX6_of_90 : decode cX6_of 90 = .ok (.getfield 23, 3) := by decide +kernel
theorem dX6_of_93 : decode cX6_of 93 = .ok (.iload_n 1, 1) := by decide +kernel
theorem dX6_of_94 : decode cX6_of 94 = .ok (.iaload, 1) := by decide +kernel
theorem dX6_of_95 : decode cX6_of 95 = .ok (.ireturn, 1) := by decide +kernel
theorem dX6_of_96 : decode cX6_of 96 = .ok (.aload_n 0, 1) := by decide +kernel
theorem dX6_of_97 : decode cX6_of 97 = .ok (.getfield 26, 3) := by decide +kernel
theorem dX6_of_100 : decode cX6_of 100 = .ok (.iload_n 1, 1) := by decide +kernel
theorem dX6_of_101 : decode cX6_of 101 = .ok (.iaload, 1) := by decide +kernel
theorem dX6_of_102 : decode cX6_of 102 = .ok (.ireturn, 1) := by decide +kernel
theorem dX6_of_103 : decode cX6_of 103 = .ok (.aload_n 0, 1) := by decide +kernel
theorem dX6_of_104 : decode cX6_of 104 = .ok (.getfield 29, 3) := by decide +kernel
theorem dX6_of_107 : decode cX6_of 107 = .ok (.iload_n 1, 1) := by decide +kernel
theorem dX6_of_108 : decode cX6_of 108 = .ok (.iaload, 1) := by decide +kernel
theorem dX6_of_109 : decode cX6_of 109 = .ok (.ireturn, 1) := by decide +kernel
theorem dX6_of_110 : decode cX6_of 110 = .ok (.aload_n 0, 1) := by decide +kernel
theorem dX6_of_111 : decode cX6_of 111 = .ok (.getfield 32, 3) := by decide +kernel
theorem dX6_of_114 : decode cX6_of 114 = .ok (.iload_n 1, 1) := by decide +kernel
theorem dX6_of_115 : decode cX6_of 115 = .ok (.iaload, 1) := by decide +kernel
theorem dX6_of_116 : decode cX6_of 116 = .ok (.ireturn, 1) := by decide +kernel
theorem dX6_of_117 : decode cX6_of 117 = .ok (.aload_n 0, 1) := by decide +kernel
theorem dX6_of_118 : decode cX6_of 118 = .ok (.iload_n 1, 1) := by decide +kernel
theorem dX6_of_119 : decode cX6_of 119 = .ok (.invokevirtual 111, 3) := by decide +kernel
theorem dX6_of_122 : decode cX6_of 122 = .ok (.ireturn, 1) := by decide +kernel
theorem dX6_of_123 : decode cX6_of 123 = .ok (.aload_n 0, 1) := by decide +kernel
theorem dX6_of_124 : decode cX6_of 124 = .ok (.iload_n 1, 1) := by decide +kernel
theorem dX6_of_125 : decode cX6_of 125 = .ok (.invokevirtual 115, 3) := by decide +kernel
theorem dX6_of_128 : decode cX6_of 128 = .ok (.ireturn, 1) := by decide +kernel
theorem dX6_of_129 : decode cX6_of 129 = .ok (.iconst 0, 1) := by decide +kernel
theorem dX6_of_130 : decode cX6_of 130 = .ok (.istore_n 3, 1) := by decide +kernel
theorem dX6_of_131 : decode cX6_of 131 = .ok (.iconst 0, 1) := by decide +kernel
theorem dX6_of_132 : decode cX6_of 132 = .ok (.istore 4, 2) := by decide +kernel
theorem dX6_of_134 : decode cX6_of 134 = .ok (.iload 4, 2) := by decide +kernel
theorem dX6_of_136 : decode cX6_of 136 = .ok (.aload_n 0, 1) := by decide +kernel
theorem dX6_of_137 : decode cX6_of 137 = .ok (.getfield 17, 3) := by decide +kernel
theorem dX6_of_140 : decode cX6_of 140 = .ok (.iload_n 1, 1) := by decide +kernel
theorem dX6_of_141 : decode cX6_of 141 = .ok (.iaload, 1) := by decide +kernel
theorem dX6_of_142 : decode cX6_of 142 = .ok (.if_icmp .ge 28, 3) := by decide +kernel
theorem dX6_of_145 : decode cX6_of 145 = .ok (.aload_n 0, 1) := by decide +kernel
theorem dX6_of_146 : decode cX6_of 146 = .ok (.getfield 35, 3) := by decide +kernel
theorem dX6_of_149 : decode cX6_of 149 = .ok (.bipush 64, 2) := by decide +kernel
theorem dX6_of_151 : decode cX6_of 151 = .ok (.iload_n 1, 1) := by decide +kernel
theorem dX6_of_152 : decode cX6_of 152 = .ok (.imul, 1) := by decide +kernel
theorem dX6_of_153 : decode cX6_of 153 = .ok (.iload 4, 2) := by decide +kernel
theorem dX6_of_155 : decode cX6_of 155 = .ok (.iadd, 1) := by decide +kernel
theorem dX6_of_156 : decode cX6_of 156 = .ok (.iaload, 1) := by decide +kernel
theorem dX6_of_157 : decode cX6_of 157 = .ok (.iconst 4, 1) := by decide +kernel
theorem dX6_of_158 : decode cX6_of 158 = .ok (.if_icmp .ge 6, 3) := by decide +kernel
theorem dX6_of_161 : decode cX6_of 161 = .ok (.iinc 3 1, 3) := by decide +kernel
theorem dX6_of_164 : decode cX6_of 164 = .ok (.iinc 4 1, 3) := by decide +kernel
theorem dX6_of_167 : decode cX6_of 167 = .ok (.goto (-33), 3) := by decide +kernel
theorem dX6_of_170 : decode cX6_of 170 = .ok (.iload_n 3, 1) := by decide +kernel
theorem dX6_of_171 : decode cX6_of 171 = .ok (.ireturn, 1) := by decide +kernel
theorem dX6_of_172 : decode cX6_of 172 = .ok (.sipush (-1000), 3) := by decide +kernel
theorem dX6_of_175 : decode cX6_of 175 = .ok (.ireturn, 1) := by decide +kernel
theorem dX6_floor_0 : decode cX6_floor 0 = .ok (.iload_n 0, 1) := by decide +kernel
theorem dX6_floor_1 : decode cX6_floor 1 = .ok (.ifCond .lt 9, 3) := by decide +kernel
theorem dX6_floor_4 : decode cX6_floor 4 = .ok (.iload_n 0, 1) := by decide +kernel
theorem dX6_floor_5 : decode cX6_floor 5 = .ok (.iload_n 1, 1) := by decide +kernel
theorem dX6_floor_6 : decode cX6_floor 6 = .ok (.idiv, 1) := by decide +kernel
theorem dX6_floor_7 : decode cX6_floor 7 = .ok (.goto 11, 3) := by decide +kernel
theorem dX6_floor_10 : decode cX6_floor 10 = .ok (.iload_n 1, 1) := by decide +kernel
theorem dX6_floor_11 : decode cX6_floor 11 = .ok (.iconst 1, 1) := by decide +kernel
theorem dX6_floor_12 : decode cX6_floor 12 = .ok (.isub, 1) := by decide +kernel
theorem dX6_floor_13 : decode cX6_floor 13 = .ok (.iload_n 0, 1) := by decide +kernel
theorem dX6_floor_14 : decode cX6_floor 14 = .ok (.isub, 1) := by decide +kernel
theorem dX6_floor_15 : decode cX6_floor 15 = .ok (.iload_n 1, 1) := by decide +kernel
theorem dX6_floor_16 : decode cX6_floor 16 = .ok (.idiv, 1) := by decide +kernel
theorem dX6_floor_17 : decode cX6_floor 17 = .ok (.ineg, 1) := by decide +kernel
theorem dX6_floor_18 : decode cX6_floor 18 = .ok (.ireturn, 1) := by decide +kernel
set_option maxRecDepth 20000 in
theorem ggX6_lasts_X6_floor : GoodIn wsX6_lasts wsX6_floor := goodIn_r _ [7] (by decide +kernel) (by decide +kernel)
set_option maxRecDepth 20000 in
theorem gX6_lasts_X6_floor : GoodIn wsX6_lasts (va_wsS RX6 118 yX6_floor wsX6_floor) := goodIn_app (goodIn_of _ (by decide +kernel)) ggX6_lasts_X6_floor
theorem dX6_lasts_0 : decode cX6_lasts 0 = .ok (.aload_n 0, 1) := by decide +kernel
theorem dX6_lasts_1 : decode cX6_lasts 1 = .ok (.getfield 13, 3) := by decide +kernel
theorem dX6_lasts_4 : decode cX6_lasts 4 = .ok (.iload_n 1, 1) := by decide +kernel
theorem dX6_lasts_5 : decode cX6_lasts 5 = .ok (.iaload, 1) := by decide +kernel
theorem dX6_lasts_6 : decode cX6_lasts 6 = .ok (.ifCond .ne 10, 3) := by decide +kernel
theorem dX6_lasts_9 : decode cX6_lasts 9 = .ok (.aload_n 0, 1) := by decide +kernel
theorem dX6_lasts_10 : decode cX6_lasts 10 = .ok (.getfield 20, 3) := by decide +kernel
theorem dX6_lasts_13 : decode cX6_lasts 13 = .ok (.iload_n 1, 1) := by decide +kernel
theorem dX6_lasts_14 : decode cX6_lasts 14 = .ok (.iaload, 1) := by decide +kernel
theorem dX6_lasts_15 : decode cX6_lasts 15 = .ok (.ireturn, 1) := by decide +kernel
theorem dX6_lasts_16 : decode cX6_lasts 16 = .ok (.aload_n 0, 1) := by decide +kernel
theorem dX6_lasts_17 : decode cX6_lasts 17 = .ok (.getfield 13, 3) := by decide +kernel
theorem dX6_lasts_20 : decode cX6_lasts 20 = .ok (.iload_n 1, 1) := by decide +kernel
theorem dX6_lasts_21 : decode cX6_lasts 21 = .ok (.iaload, 1) := by decide +kernel
theorem dX6_lasts_22 : decode cX6_lasts 22 = .ok (.iconst 1, 1) := by decide +kernel
theorem dX6_lasts_23 : decode cX6_lasts 23 = .ok (.if_icmp .ne 39, 3) := by decide +kernel
theorem dX6_lasts_26 : decode cX6_lasts 26 = .ok (.iload_n 2, 1) := by decide +kernel
theorem dX6_lasts_27 : decode cX6_lasts 27 = .ok (.iconst 2, 1) := by decide +kernel
theorem dX6_lasts_28 : decode cX6_lasts 28 = .ok (.irem, 1) := by decide +kernel
theorem dX6_lasts_29 : decode cX6_lasts 29 = .ok (.ifCond .ne 19, 3) := by decide +kernel
theorem dX6_lasts_32 : decode cX6_lasts 32 = .ok (.aload_n 0, 1) := by decide +kernel
theorem dX6_lasts_33 : decode cX6_lasts 33 = .ok (.getfield 20, 3) := by decide +kernel
theorem dX6_lasts_36 : decode cX6_lasts 36 = .ok (.iload_n 1, 1) := by decide +kernel
theorem dX6_lasts_37 : decode cX6_lasts 37 = .ok (.iaload, 1) := by decide +kernel
theorem dX6_lasts_38 : decode cX6_lasts 38 = .ok (.aload_n 0, 1) := by decide +kernel
theorem dX6_lasts_39 : decode cX6_lasts 39 = .ok (.getfield 23, 3) := by decide +kernel
theorem dX6_lasts_42 : decode cX6_lasts 42 = .ok (.iload_n 1, 1) := by decide +kernel
theorem dX6_lasts_43 : decode cX6_lasts 43 = .ok (.iaload, 1) := by decide +kernel
theorem dX6_lasts_44 : decode cX6_lasts 44 = .ok (.iadd, 1) := by decide +kernel
theorem dX6_lasts_45 : decode cX6_lasts 45 = .ok (.goto 16, 3) := by decide +kernel
theorem dX6_lasts_48 : decode cX6_lasts 48 = .ok (.aload_n 0, 1) := by decide +kernel
theorem dX6_lasts_49 : decode cX6_lasts 49 = .ok (.getfield 20, 3) := by decide +kernel
theorem dX6_lasts_52 : decode cX6_lasts 52 = .ok (.iload_n 1, 1) := by decide +kernel
theorem dX6_lasts_53 : decode cX6_lasts 53 = .ok (.iaload, 1) := by decide +kernel
theorem dX6_lasts_54 : decode cX6_lasts 54 = .ok (.aload_n 0, 1) := by decide +kernel
theorem dX6_lasts_55 : decode cX6_lasts 55 = .ok (.getfield 23, 3) := by decide +kernel
theorem dX6_lasts_58 : decode cX6_lasts 58 = .ok (.iload_n 1, 1) := by decide +kernel
theorem dX6_lasts_59 : decode cX6_lasts 59 = .ok (.iaload, 1) := by decide +kernel
theorem dX6_lasts_60 : decode cX6_lasts 60 = .ok (.isub, 1) := by decide +kernel
theorem dX6_lasts_61 : decode cX6_lasts 61 = .ok (.ireturn, 1) := by decide +kernel
theorem dX6_lasts_62 : decode cX6_lasts 62 = .ok (.aload_n 0, 1) := by decide +kernel
theorem dX6_lasts_63 : decode cX6_lasts 63 = .ok (.getfield 20, 3) := by decide +kernel
theorem dX6_lasts_66 : decode cX6_lasts 66 = .ok (.iload_n 1, 1) := by decide +kernel
theorem dX6_lasts_67 : decode cX6_lasts 67 = .ok (.iaload, 1) := by decide +kernel
theorem dX6_lasts_68 : decode cX6_lasts 68 = .ok (.iload_n 2, 1) := by decide +kernel
theorem dX6_lasts_69 : decode cX6_lasts 69 = .ok (.aload_n 0, 1) := by decide +kernel
theorem dX6_lasts_70 : decode cX6_lasts 70 = .ok (.getfield 23, 3) := by decide +kernel
theorem dX6_lasts_73 : decode cX6_lasts 73 = .ok (.iload_n 1, 1) := by decide +kernel
theorem dX6_lasts_74 : decode cX6_lasts 74 = .ok (.iaload, 1) := by decide +kernel
theorem dX6_lasts_75 : decode cX6_lasts 75 = .ok (.imul, 1) := by decide +kernel
theorem dX6_lasts_76 : decode cX6_lasts 76 = .ok (.bipush 16, 2) := by decide +kernel
theorem dX6_lasts_78 : decode cX6_lasts 78 = .ok (.invokestatic 118, 3) := by decide +kernel
theorem dX6_lasts_81 : decode cX6_lasts 81 = .ok (.iadd, 1) := by decide +kernel
theorem dX6_lasts_82 : decode cX6_lasts 82 = .ok (.istore_n 3, 1) := by decide +kernel
theorem dX6_lasts_83 : decode cX6_lasts 83 = .ok (.iload_n 3, 1) := by decide +kernel
theorem dX6_lasts_84 : decode cX6_lasts 84 = .ok (.bipush 20, 2) := by decide +kernel
theorem dX6_lasts_86 : decode cX6_lasts 86 = .ok (.if_icmp .ge 8, 3) := by decide +kernel
theorem dX6_lasts_89 : decode cX6_lasts 89 = .ok (.bipush 20, 2) := by decide +kernel
theorem dX6_lasts_91 : decode cX6_lasts 91 = .ok (.goto 17, 3) := by decide +kernel
theorem dX6_lasts_94 : decode cX6_lasts 94 = .ok (.iload_n 3, 1) := by decide +kernel
theorem dX6_lasts_95 : decode cX6_lasts 95 = .ok (.sipush 400, 3) := by decide +kernel
end
section
theorem dX6_lasts_98 : decode cX6_lasts 98 = .ok (.if_icmp .le 9, 3) := by decide +kernel
theorem dX6_lasts_101 : decode cX6_lasts 101 = .ok (.sipush 400, 3) := by decide +kernel
theorem dX6_lasts_104 : decode cX6_lasts 104 = .ok (.goto 4, 3) := by decide +kernel
theorem dX6_lasts_107 : decode cX6_lasts 107 = .ok (.iload_n 3, 1) := by decide +kernel
theorem dX6_lasts_108 : decode cX6_lasts 108 = .ok (.ireturn, 1) := by decide +kernel
theorem dX6_firstBeat_0 : decode cX6_firstBeat 0 = .ok (.iconst 0, 1) := by decide +kernel
theorem dX6_firstBeat_1 : decode cX6_firstBeat 1 = .ok (.istore_n 3, 1) := by decide +kernel
theorem dX6_firstBeat_2 : decode cX6_firstBeat 2 = .ok (.iconst 0, 1) := by decide +kernel
theorem dX6_firstBeat_3 : decode cX6_firstBeat 3 = .ok (.istore 4, 2) := by decide +kernel
theorem dX6_firstBeat_5 : decode cX6_firstBeat 5 = .ok (.iload 4, 2) := by decide +kernel
theorem dX6_firstBeat_7 : decode cX6_firstBeat 7 = .ok (.iload_n 2, 1) := by decide +kernel
theorem dX6_firstBeat_8 : decode cX6_firstBeat 8 = .ok (.if_icmp .ge 24, 3) := by decide +kernel
theorem dX6_firstBeat_11 : decode cX6_firstBeat 11 = .ok (.iload_n 3, 1) := by decide +kernel
theorem dX6_firstBeat_12 : decode cX6_firstBeat 12 = .ok (.aload_n 0, 1) := by decide +kernel
theorem dX6_firstBeat_13 : decode cX6_firstBeat 13 = .ok (.getfield 35, 3) := by decide +kernel
theorem dX6_firstBeat_16 : decode cX6_firstBeat 16 = .ok (.bipush 64, 2) := by decide +kernel
theorem dX6_firstBeat_18 : decode cX6_firstBeat 18 = .ok (.iload_n 1, 1) := by decide +kernel
theorem dX6_firstBeat_19 : decode cX6_firstBeat 19 = .ok (.imul, 1) := by decide +kernel
theorem dX6_firstBeat_20 : decode cX6_firstBeat 20 = .ok (.iload 4, 2) := by decide +kernel
theorem dX6_firstBeat_22 : decode cX6_firstBeat 22 = .ok (.iadd, 1) := by decide +kernel
theorem dX6_firstBeat_23 : decode cX6_firstBeat 23 = .ok (.iaload, 1) := by decide +kernel
theorem dX6_firstBeat_24 : decode cX6_firstBeat 24 = .ok (.iadd, 1) := by decide +kernel
theorem dX6_firstBeat_25 : decode cX6_firstBeat 25 = .ok (.istore_n 3, 1) := by decide +kernel
theorem dX6_firstBeat_26 : decode cX6_firstBeat 26 = .ok (.iinc 4 1, 3) := by decide +kernel
theorem dX6_firstBeat_29 : decode cX6_firstBeat 29 = .ok (.goto (-24), 3) := by decide +kernel
theorem dX6_firstBeat_32 : decode cX6_firstBeat 32 = .ok (.iload_n 3, 1) := by decide +kernel
theorem dX6_firstBeat_33 : decode cX6_firstBeat 33 = .ok (.ireturn, 1) := by decide +kernel
set_option maxRecDepth 20000 in
theorem ggX6_tick_X6_lasts : GoodIn wsX6_tick wsX6_lasts := goodIn_r _ [5, 6, 7, 8, 9, 10, 4, 11, 12, 13, 14, 15, 16, 17, 18, 19, 20, 21, 22, 23, 24, 25, 26, 27, 28, 29, 30, 31, 32, 33, 34, 35, 36, 37, 38, 39, 40, 41, 42, 43, 44, 45, 46, 47] (by decide +kernel) (by decide +kernel)
set_option maxRecDepth 20000 in
theorem gX6_tick_X6_lasts : GoodIn wsX6_tick (wsV RX6 122 RX6 yX6_lasts wsX6_lasts) := goodIn_app (goodIn_of _ (by decide +kernel)) ggX6_tick_X6_lasts
theorem dX6_tick_0 : decode cX6_tick 0 = .ok (.iconst 0, 1) := by decide +kernel
theorem dX6_tick_1 : decode cX6_tick 1 = .ok (.istore_n 3, 1) := by decide +kernel
theorem dX6_tick_2 : decode cX6_tick 2 = .ok (.iconst 0, 1) := by decide +kernel
theorem dX6_tick_3 : decode cX6_tick 3 = .ok (.istore 4, 2) := by decide +kernel
theorem dX6_tick_5 : decode cX6_tick 5 = .ok (.iload 4, 2) := by decide +kernel
theorem dX6_tick_7 : decode cX6_tick 7 = .ok (.iload_n 2, 1) := by decide +kernel
theorem dX6_tick_8 : decode cX6_tick 8 = .ok (.if_icmp .ge 19, 3) := by decide +kernel
theorem dX6_tick_11 : decode cX6_tick 11 = .ok (.iload_n 3, 1) := by decide +kernel
theorem dX6_tick_12 : decode cX6_tick 12 = .ok (.aload_n 0, 1) := by decide +kernel
theorem dX6_tick_13 : decode cX6_tick 13 = .ok (.iload_n 1, 1) := by decide +kernel
theorem dX6_tick_14 : decode cX6_tick 14 = .ok (.iload 4, 2) := by decide +kernel
theorem dX6_tick_16 : decode cX6_tick 16 = .ok (.invokevirtual 122, 3) := by decide +kernel
theorem dX6_tick_19 : decode cX6_tick 19 = .ok (.iadd, 1) := by decide +kernel
theorem dX6_tick_20 : decode cX6_tick 20 = .ok (.istore_n 3, 1) := by decide +kernel
theorem dX6_tick_21 : decode cX6_tick 21 = .ok (.iinc 4 1, 3) := by decide +kernel
theorem dX6_tick_24 : decode cX6_tick 24 = .ok (.goto (-19), 3) := by decide +kernel
theorem dX6_tick_27 : decode cX6_tick 27 = .ok (.iload_n 3, 1) := by decide +kernel
theorem dX6_tick_28 : decode cX6_tick 28 = .ok (.ireturn, 1) := by decide +kernel
set_option maxRecDepth 20000 in
theorem ggX6_beat_X6_isSong : GoodIn wsX6_beat wsX6_isSong := goodIn_r _ [5, 6, 27, 28, 29, 30, 31, 32, 33, 34, 35, 36, 37, 38, 39, 40, 41, 42, 43, 44, 45, 46, 47, 48, 49, 50, 51, 52, 53, 54, 55, 56, 57, 58, 59, 60, 61, 62] (by decide +kernel) (by decide +kernel)
set_option maxRecDepth 20000 in
theorem gX6_beat_X6_isSong : GoodIn wsX6_beat (wsV RX6 107 RX6 yX6_isSong wsX6_isSong) := goodIn_app (goodIn_of _ (by decide +kernel)) ggX6_beat_X6_isSong
set_option maxRecDepth 20000 in
theorem ggX6_beat_X6_beatsOf : GoodIn wsX6_beat wsX6_beatsOf := goodIn_r _ [10, 11, 12, 27, 28, 29, 30, 31, 32, 33, 34, 35, 36, 37, 38, 39, 40, 41, 42, 43, 44, 45, 46, 47, 48, 49, 50, 51, 52, 53, 54, 55, 56, 57, 58, 59, 60, 61, 62] (by decide +kernel) (by decide +kernel)
set_option maxRecDepth 20000 in
theorem gX6_beat_X6_beatsOf : GoodIn wsX6_beat (wsV RX6 115 RX6 yX6_beatsOf wsX6_beatsOf) := goodIn_app (goodIn_of _ (by decide +kernel)) ggX6_beat_X6_beatsOf
set_option maxRecDepth 20000 in
theorem ggX6_beat_X6_tick : GoodIn wsX6_beat wsX6_tick := goodIn_r _ [16, 17, 18, 19, 4, 20, 21, 22, 23, 24, 25, 26, 27, 28, 29, 30, 31, 32, 33, 34, 35, 36, 37, 38, 39, 40, 41, 42, 43, 44, 45, 46, 47, 48, 49, 50, 51, 52, 53, 54, 55, 56, 57, 58, 59, 60, 61, 62] (by decide +kernel) (by decide +kernel)
set_option maxRecDepth 20000 in
theorem gX6_beat_X6_tick : GoodIn wsX6_beat (wsV RX6 125 RX6 yX6_tick wsX6_tick) := goodIn_app (goodIn_of _ (by decide +kernel)) ggX6_beat_X6_tick
theorem dX6_beat_0 : decode cX6_beat 0 = .ok (.aload_n 0, 1) := by decide +kernel
theorem dX6_beat_1 : decode cX6_beat 1 = .ok (.iload_n 1, 1) := by decide +kernel
theorem dX6_beat_2 : decode cX6_beat 2 = .ok (.invokevirtual 107, 3) := by decide +kernel
theorem dX6_beat_5 : decode cX6_beat 5 = .ok (.ifCond .eq 25, 3) := by decide +kernel
theorem dX6_beat_8 : decode cX6_beat 8 = .ok (.iload_n 2, 1) := by decide +kernel
theorem dX6_beat_9 : decode cX6_beat 9 = .ok (.ifCond .lt 21, 3) := by decide +kernel
theorem dX6_beat_12 : decode cX6_beat 12 = .ok (.iload_n 2, 1) := by decide +kernel
theorem dX6_beat_13 : decode cX6_beat 13 = .ok (.aload_n 0, 1) := by decide +kernel
theorem dX6_beat_14 : decode cX6_beat 14 = .ok (.iload_n 1, 1) := by decide +kernel
theorem dX6_beat_15 : decode cX6_beat 15 = .ok (.invokevirtual 115, 3) := by decide +kernel
theorem dX6_beat_18 : decode cX6_beat 18 = .ok (.if_icmp .gt 12, 3) := by decide +kernel
theorem dX6_beat_21 : decode cX6_beat 21 = .ok (.aload_n 0, 1) := by decide +kernel
theorem dX6_beat_22 : decode cX6_beat 22 = .ok (.iload_n 1, 1) := by decide +kernel
theorem dX6_beat_23 : decode cX6_beat 23 = .ok (.iload_n 2, 1) := by decide +kernel
theorem dX6_beat_24 : decode cX6_beat 24 = .ok (.invokevirtual 125, 3) := by decide +kernel
theorem dX6_beat_27 : decode cX6_beat 27 = .ok (.goto 4, 3) := by decide +kernel
theorem dX6_beat_30 : decode cX6_beat 30 = .ok (.iconst (-1), 1) := by decide +kernel
theorem dX6_beat_31 : decode cX6_beat 31 = .ok (.ireturn, 1) := by decide +kernel
set_option maxRecDepth 20000 in
theorem ggX6_barLong_X6_firstBeat : GoodIn wsX6_barLong wsX6_firstBeat := goodIn_r _ [6, 1, 17, 18, 19, 20, 21, 22, 23, 24, 25, 26, 27, 28, 29, 30, 31, 32, 33, 34, 35, 36, 37, 38, 39, 40, 41, 42, 43, 44, 45, 46, 47, 48, 49, 50, 51, 52] (by decide +kernel) (by decide +kernel)
set_option maxRecDepth 20000 in
theorem gX6_barLong_X6_firstBeat : GoodIn wsX6_barLong (wsV RX6 128 RX6 yX6_firstBeat wsX6_firstBeat) := goodIn_app (goodIn_of _ (by decide +kernel)) ggX6_barLong_X6_firstBeat
set_option maxRecDepth 20000 in
theorem ggX6_barLong_X6_lasts : GoodIn wsX6_barLong wsX6_lasts := goodIn_r _ [10, 11, 12, 13, 14, 15, 5, 16, 17, 18, 19, 20, 21, 22, 23, 24, 25, 26, 27, 28, 29, 30, 31, 32, 33, 34, 35, 36, 37, 38, 39, 40, 41, 42, 43, 44, 45, 46, 47, 48, 49, 50, 51, 52] (by decide +kernel) (by decide +kernel)
set_option maxRecDepth 20000 in
theorem gX6_barLong_X6_lasts : GoodIn wsX6_barLong (wsV RX6 122 RX6 yX6_lasts wsX6_lasts) := goodIn_app (goodIn_of _ (by decide +kernel)) ggX6_barLong_X6_lasts
theorem dX6_barLong_0 : decode cX6_barLong 0 = .ok (.aload_n 0, 1) := by decide +kernel
theorem dX6_barLong_1 : decode cX6_barLong 1 = .ok (.iload_n 1, 1) := by decide +kernel
theorem dX6_barLong_2 : decode cX6_barLong 2 = .ok (.iload_n 2, 1) := by decide +kernel
theorem dX6_barLong_3 : decode cX6_barLong 3 = .ok (.invokevirtual 128, 3) := by decide +kernel
theorem dX6_barLong_6 : decode cX6_barLong 6 = .ok (.istore_n 3, 1) := by decide +kernel
theorem dX6_barLong_7 : decode cX6_barLong 7 = .ok (.iconst 0, 1) := by decide +kernel
theorem dX6_barLong_8 : decode cX6_barLong 8 = .ok (.istore 4, 2) := by decide +kernel
theorem dX6_barLong_10 : decode cX6_barLong 10 = .ok (.iconst 0, 1) := by decide +kernel
theorem dX6_barLong_11 : decode cX6_barLong 11 = .ok (.istore 5, 2) := by decide +kernel
theorem dX6_barLong_13 : decode cX6_barLong 13 = .ok (.iload 5, 2) := by decide +kernel
theorem dX6_barLong_15 : decode cX6_barLong 15 = .ok (.aload_n 0, 1) := by decide +kernel
theorem dX6_barLong_16 : decode cX6_barLong 16 = .ok (.getfield 35, 3) := by decide +kernel
theorem dX6_barLong_19 : decode cX6_barLong 19 = .ok (.bipush 64, 2) := by decide +kernel
theorem dX6_barLong_21 : decode cX6_barLong 21 = .ok (.iload_n 1, 1) := by decide +kernel
theorem dX6_barLong_22 : decode cX6_barLong 22 = .ok (.imul, 1) := by decide +kernel
theorem dX6_barLong_23 : decode cX6_barLong 23 = .ok (.iload_n 2, 1) := by decide +kernel
theorem dX6_barLong_24 : decode cX6_barLong 24 = .ok (.iadd, 1) := by decide +kernel
theorem dX6_barLong_25 : decode cX6_barLong 25 = .ok (.iaload, 1) := by decide +kernel
theorem dX6_barLong_26 : decode cX6_barLong 26 = .ok (.if_icmp .ge 23, 3) := by decide +kernel
theorem dX6_barLong_29 : decode cX6_barLong 29 = .ok (.iload 4, 2) := by decide +kernel
theorem dX6_barLong_31 : decode cX6_barLong 31 = .ok (.aload_n 0, 1) := by decide +kernel
theorem dX6_barLong_32 : decode cX6_barLong 32 = .ok (.iload_n 1, 1) := by decide +kernel
theorem dX6_barLong_33 : decode cX6_barLong 33 = .ok (.iload_n 3, 1) := by decide +kernel
theorem dX6_barLong_34 : decode cX6_barLong 34 = .ok (.iload 5, 2) := by decide +kernel
theorem dX6_barLong_36 : decode cX6_barLong 36 = .ok (.iadd, 1) := by decide +kernel
theorem dX6_barLong_37 : decode cX6_barLong 37 = .ok (.invokevirtual 122, 3) := by decide +kernel
theorem dX6_barLong_40 : decode cX6_barLong 40 = .ok (.iadd, 1) := by decide +kernel
theorem dX6_barLong_41 : decode cX6_barLong 41 = .ok (.istore 4, 2) := by decide +kernel
theorem dX6_barLong_43 : decode cX6_barLong 43 = .ok (.iinc 5 1, 3) := by decide +kernel
theorem dX6_barLong_46 : decode cX6_barLong 46 = .ok (.goto (-33), 3) := by decide +kernel
theorem dX6_barLong_49 : decode cX6_barLong 49 = .ok (.iload 4, 2) := by decide +kernel
theorem dX6_barLong_51 : decode cX6_barLong 51 = .ok (.ireturn, 1) := by decide +kernel
set_option maxRecDepth 20000 in
theorem ggX6_begins_X6_barOf : GoodIn wsX6_begins wsX6_barOf := goodIn_r _ [5, 6, 7, 8, 28, 29, 30, 31, 32, 33, 34, 35, 36, 37, 38, 39, 40, 41, 42, 43, 44, 45, 46, 47, 48, 49, 50, 51, 52, 53, 54, 55, 56, 57, 58, 59, 60, 61, 62, 63] (by decide +kernel) (by decide +kernel)
set_option maxRecDepth 20000 in
theorem gX6_begins_X6_barOf : GoodIn wsX6_begins (wsV RX6 131 RX6 yX6_barOf wsX6_barOf) := goodIn_app (goodIn_of _ (by decide +kernel)) ggX6_begins_X6_barOf
set_option maxRecDepth 20000 in
theorem ggX6_begins_X6_barLong : GoodIn wsX6_begins wsX6_barLong := goodIn_r _ [12, 13, 14, 15, 16, 4, 17, 18, 19, 20, 21, 22, 23, 24, 25, 26, 27, 28, 29, 30, 31, 32, 33, 34, 35, 36, 37, 38, 39, 40, 41, 42, 43, 44, 45, 46, 47, 48, 49, 50, 51, 52, 53, 54, 55, 56, 57, 58, 59, 60, 61, 62, 63] (by decide +kernel) (by decide +kernel)
set_option maxRecDepth 20000 in
theorem gX6_begins_X6_barLong : GoodIn wsX6_begins (wsV RX6 134 RX6 yX6_barLong wsX6_barLong) := goodIn_app (goodIn_of _ (by decide +kernel)) ggX6_begins_X6_barLong
theorem dX6_begins_0 : decode cX6_begins 0 = .ok (.iconst 0, 1) := by decide +kernel
theorem dX6_begins_1 : decode cX6_begins 1 = .ok (.istore_n 3, 1) := by decide +kernel
theorem dX6_begins_2 : decode cX6_begins 2 = .ok (.iconst 0, 1) := by decide +kernel
theorem dX6_begins_3 : decode cX6_begins 3 = .ok (.istore 4, 2) := by decide +kernel
theorem dX6_begins_5 : decode cX6_begins 5 = .ok (.iload 4, 2) := by decide +kernel
theorem dX6_begins_7 : decode cX6_begins 7 = .ok (.iload_n 2, 1) := by decide +kernel
theorem dX6_begins_8 : decode cX6_begins 8 = .ok (.if_icmp .ge 24, 3) := by decide +kernel
theorem dX6_begins_11 : decode cX6_begins 11 = .ok (.iload_n 3, 1) := by decide +kernel
theorem dX6_begins_12 : decode cX6_begins 12 = .ok (.aload_n 0, 1) := by decide +kernel
theorem dX6_begins_13 : decode cX6_begins 13 = .ok (.iload_n 1, 1) := by decide +kernel
theorem dX6_begins_14 : decode cX6_begins 14 = .ok (.aload_n 0, 1) := by decide +kernel
theorem dX6_begins_15 : decode cX6_begins 15 = .ok (.iload_n 1, 1) := by decide +kernel
theorem dX6_begins_16 : decode cX6_begins 16 = .ok (.iload 4, 2) := by decide +kernel
theorem dX6_begins_18 : decode cX6_begins 18 = .ok (.invokevirtual 131, 3) := by decide +kernel
theorem dX6_begins_21 : decode cX6_begins 21 = .ok (.invokevirtual 134, 3) := by decide +kernel
theorem dX6_begins_24 : decode cX6_begins 24 = .ok (.iadd, 1) := by decide +kernel
theorem dX6_begins_25 : decode cX6_begins 25 = .ok (.istore_n 3, 1) := by decide +kernel
theorem dX6_begins_26 : decode cX6_begins 26 = .ok (.iinc 4 1, 3) := by decide +kernel
theorem dX6_begins_29 : decode cX6_begins 29 = .ok (.goto (-24), 3) := by decide +kernel
theorem dX6_begins_32 : decode cX6_begins 32 = .ok (.iload_n 3, 1) := by decide +kernel
theorem dX6_begins_33 : decode cX6_begins 33 = .ok (.ireturn, 1) := by decide +kernel
set_option maxRecDepth 20000 in
theorem ggX6_played_X6_isSong : GoodIn wsX6_played wsX6_isSong := goodIn_r _ [6, 7, 42, 43, 44, 45, 46, 47, 48, 49, 50, 51, 52, 53, 54, 55, 56, 57, 58, 59, 60, 61, 62, 63, 64, 65, 66, 67, 68, 69, 70, 71, 72, 73, 74, 75, 76, 77] (by decide +kernel) (by decide +kernel)
set_option maxRecDepth 20000 in
theorem gX6_played_X6_isSong : GoodIn wsX6_played (wsV RX6 107 RX6 yX6_isSong wsX6_isSong) := goodIn_app (goodIn_of _ (by decide +kernel)) ggX6_played_X6_isSong
set_option maxRecDepth 20000 in
theorem ggX6_played_X6_playedBars : GoodIn wsX6_played wsX6_playedBars := goodIn_r _ [11, 12, 13, 14, 15, 42, 43, 44, 45, 46, 47, 48, 49, 50, 51, 52, 53, 54, 55, 56, 57, 58, 59, 60, 61, 62, 63, 64, 65, 66, 67, 68, 69, 70, 71, 72, 73, 74, 75, 76, 77] (by decide +kernel) (by decide +kernel)
set_option maxRecDepth 20000 in
theorem gX6_played_X6_playedBars : GoodIn wsX6_played (wsV RX6 111 RX6 yX6_playedBars wsX6_playedBars) := goodIn_app (goodIn_of _ (by decide +kernel)) ggX6_played_X6_playedBars
set_option maxRecDepth 20000 in
theorem ggX6_played_X6_barOf : GoodIn wsX6_played wsX6_barOf := goodIn_r _ [19, 14, 15, 13, 42, 43, 44, 45, 46, 47, 48, 49, 50, 51, 52, 53, 54, 55, 56, 57, 58, 59, 60, 61, 62, 63, 64, 65, 66, 67, 68, 69, 70, 71, 72, 73, 74, 75, 76, 77] (by decide +kernel) (by decide +kernel)
set_option maxRecDepth 20000 in
theorem gX6_played_X6_barOf : GoodIn wsX6_played (wsV RX6 131 RX6 yX6_barOf wsX6_barOf) := goodIn_app (goodIn_of _ (by decide +kernel)) ggX6_played_X6_barOf
set_option maxRecDepth 20000 in
theorem ggX6_played_X6_begins : GoodIn wsX6_played wsX6_begins := goodIn_r _ [23, 16, 17, 18, 5, 19, 14, 15, 13, 24, 25, 26, 27, 1, 28, 29, 30, 31, 32, 33, 34, 35, 36, 37, 38, 39, 40, 41, 42, 43, 44, 45, 46, 47, 48, 49, 50, 51, 52, 53, 54, 55, 56, 57, 58, 59, 60, 61, 62, 63, 64, 65, 66, 67, 68, 69, 70, 71, 72, 73, 74, 75, 76, 77] (by decide +kernel) (by decide +kernel)
set_option maxRecDepth 20000 in
theorem gX6_played_X6_begins : GoodIn wsX6_played (wsV RX6 137 RX6 yX6_begins wsX6_begins) := goodIn_app (goodIn_of _ (by decide +kernel)) ggX6_played_X6_begins
theorem dX6_played_0 : decode cX6_played 0 = .ok (.aload_n 0, 1) := by decide +kernel
theorem dX6_played_1 : decode cX6_played 1 = .ok (.iload_n 1, 1) := by decide +kernel
theorem dX6_played_2 : decode cX6_played 2 = .ok (.invokevirtual 107, 3) := by decide +kernel
theorem dX6_played_5 : decode cX6_played 5 = .ok (.ifCond .eq 16, 3) := by decide +kernel
theorem dX6_played_8 : decode cX6_played 8 = .ok (.iload_n 2, 1) := by decide +kernel
theorem dX6_played_9 : decode cX6_played 9 = .ok (.ifCond .lt 12, 3) := by decide +kernel
theorem dX6_played_12 : decode cX6_played 12 = .ok (.iload_n 2, 1) := by decide +kernel
theorem dX6_played_13 : decode cX6_played 13 = .ok (.aload_n 0, 1) := by decide +kernel
theorem dX6_played_14 : decode cX6_played 14 = .ok (.iload_n 1, 1) := by decide +kernel
theorem dX6_played_15 : decode cX6_played 15 = .ok (.invokevirtual 111, 3) := by decide +kernel
theorem dX6_played_18 : decode cX6_played 18 = .ok (.if_icmp .lt 5, 3) := by decide +kernel
theorem dX6_played_21 : decode cX6_played 21 = .ok (.iconst (-1), 1) := by decide +kernel
theorem dX6_played_22 : decode cX6_played 22 = .ok (.ireturn, 1) := by decide +kernel
theorem dX6_played_23 : decode cX6_played 23 = .ok (.aload_n 0, 1) := by decide +kernel
theorem dX6_played_24 : decode cX6_played 24 = .ok (.iload_n 1, 1) := by decide +kernel
theorem dX6_played_25 : decode cX6_played 25 = .ok (.iload_n 2, 1) := by decide +kernel
theorem dX6_played_26 : decode cX6_played 26 = .ok (.invokevirtual 131, 3) := by decide +kernel
theorem dX6_played_29 : decode cX6_played 29 = .ok (.istore 4, 2) := by decide +kernel
theorem dX6_played_31 : decode cX6_played 31 = .ok (.iload_n 3, 1) := by decide +kernel
theorem dX6_played_32 : decode cX6_played 32 = .ok (.ifCond .ne 8, 3) := by decide +kernel
theorem dX6_played_35 : decode cX6_played 35 = .ok (.iload 4, 2) := by decide +kernel
theorem dX6_played_37 : decode cX6_played 37 = .ok (.goto 38, 3) := by decide +kernel
theorem dX6_played_40 : decode cX6_played 40 = .ok (.iload_n 3, 1) := by decide +kernel
theorem dX6_played_41 : decode cX6_played 41 = .ok (.iconst 1, 1) := by decide +kernel
theorem dX6_played_42 : decode cX6_played 42 = .ok (.if_icmp .ne 12, 3) := by decide +kernel
theorem dX6_played_45 : decode cX6_played 45 = .ok (.aload_n 0, 1) := by decide +kernel
theorem dX6_played_46 : decode cX6_played 46 = .ok (.iload_n 1, 1) := by decide +kernel
theorem dX6_played_47 : decode cX6_played 47 = .ok (.iload_n 2, 1) := by decide +kernel
theorem dX6_played_48 : decode cX6_played 48 = .ok (.invokevirtual 137, 3) := by decide +kernel
theorem dX6_played_51 : decode cX6_played 51 = .ok (.goto 24, 3) := by decide +kernel
theorem dX6_played_54 : decode cX6_played 54 = .ok (.iload_n 3, 1) := by decide +kernel
theorem dX6_played_55 : decode cX6_played 55 = .ok (.iconst 2, 1) := by decide +kernel
theorem dX6_played_56 : decode cX6_played 56 = .ok (.if_icmp .ne 18, 3) := by decide +kernel
theorem dX6_played_59 : decode cX6_played 59 = .ok (.aload_n 0, 1) := by decide +kernel
theorem dX6_played_60 : decode cX6_played 60 = .ok (.getfield 35, 3) := by decide +kernel
theorem dX6_played_63 : decode cX6_played 63 = .ok (.bipush 64, 2) := by decide +kernel
theorem dX6_played_65 : decode cX6_played 65 = .ok (.iload_n 1, 1) := by decide +kernel
theorem dX6_played_66 : decode cX6_played 66 = .ok (.imul, 1) := by decide +kernel
theorem dX6_played_67 : decode cX6_played 67 = .ok (.iload 4, 2) := by decide +kernel
theorem dX6_played_69 : decode cX6_played 69 = .ok (.iadd, 1) := by decide +kernel
theorem dX6_played_70 : decode cX6_played 70 = .ok (.iaload, 1) := by decide +kernel
theorem dX6_played_71 : decode cX6_played 71 = .ok (.goto 4, 3) := by decide +kernel
theorem dX6_played_74 : decode cX6_played 74 = .ok (.iconst (-1), 1) := by decide +kernel
theorem dX6_played_75 : decode cX6_played 75 = .ok (.ireturn, 1) := by decide +kernel
set_option maxRecDepth 20000 in
theorem ggX6_length_X6_isSong : GoodIn wsX6_length wsX6_isSong := goodIn_r _ [5, 6, 42, 43, 44, 45, 46, 47, 48, 49, 50, 51, 52, 53, 54, 55, 56, 57, 58, 59, 60, 61, 62, 63, 64, 65, 66, 67, 68, 69, 70, 71, 72, 73, 74, 75, 76, 77] (by decide +kernel) (by decide +kernel)
set_option maxRecDepth 20000 in
theorem gX6_length_X6_isSong : GoodIn wsX6_length (wsV RX6 107 RX6 yX6_isSong wsX6_isSong) := goodIn_app (goodIn_of _ (by decide +kernel)) ggX6_length_X6_isSong
set_option maxRecDepth 20000 in
theorem ggX6_length_X6_playedBars : GoodIn wsX6_length wsX6_playedBars := goodIn_r _ [10, 11, 12, 13, 14, 42, 43, 44, 45, 46, 47, 48, 49, 50, 51, 52, 53, 54, 55, 56, 57, 58, 59, 60, 61, 62, 63, 64, 65, 66, 67, 68, 69, 70, 71, 72, 73, 74, 75, 76, 77] (by decide +kernel) (by decide +kernel)
set_option maxRecDepth 20000 in
theorem gX6_length_X6_playedBars : GoodIn wsX6_length (wsV RX6 111 RX6 yX6_playedBars wsX6_playedBars) := goodIn_app (goodIn_of _ (by decide +kernel)) ggX6_length_X6_playedBars
set_option maxRecDepth 20000 in
theorem ggX6_length_X6_begins : GoodIn wsX6_length wsX6_begins := goodIn_r _ [18, 19, 20, 21, 4, 22, 13, 14, 12, 23, 24, 25, 26, 27, 28, 29, 30, 31, 32, 33, 34, 35, 36, 37, 38, 39, 40, 41, 42, 43, 44, 45, 46, 47, 48, 49, 50, 51, 52, 53, 54, 55, 56, 57, 58, 59, 60, 61, 62, 63, 64, 65, 66, 67, 68, 69, 70, 71, 72, 73, 74, 75, 76, 77] (by decide +kernel) (by decide +kernel)
set_option maxRecDepth 20000 in
theorem gX6_length_X6_begins : GoodIn wsX6_length (wsV RX6 137 RX6 yX6_begins wsX6_begins) := goodIn_app (goodIn_of _ (by decide +kernel)) ggX6_length_X6_begins
theorem dX6_length_0 : decode cX6_length 0 = .ok (.aload_n 0, 1) := by decide +kernel
theorem dX6_length_1 : decode cX6_length 1 = .ok (.iload_n 1, 1) := by decide +kernel
theorem dX6_length_2 : decode cX6_length 2 = .ok (.invokevirtual 107, 3) := by decide +kernel
theorem dX6_length_5 : decode cX6_length 5 = .ok (.ifCond .eq 16, 3) := by decide +kernel
theorem dX6_length_8 : decode cX6_length 8 = .ok (.aload_n 0, 1) := by decide +kernel
theorem dX6_length_9 : decode cX6_length 9 = .ok (.iload_n 1, 1) := by decide +kernel
theorem dX6_length_10 : decode cX6_length 10 = .ok (.aload_n 0, 1) := by decide +kernel
theorem dX6_length_11 : decode cX6_length 11 = .ok (.iload_n 1, 1) := by decide +kernel
theorem dX6_length_12 : decode cX6_length 12 = .ok (.invokevirtual 111, 3) := by decide +kernel
theorem dX6_length_15 : decode cX6_length 15 = .ok (.invokevirtual 137, 3) := by decide +kernel
theorem dX6_length_18 : decode cX6_length 18 = .ok (.goto 4, 3) := by decide +kernel
theorem dX6_length_21 : decode cX6_length 21 = .ok (.iconst (-1), 1) := by decide +kernel
theorem dX6_length_22 : decode cX6_length 22 = .ok (.ireturn, 1) := by decide +kernel
theorem dX6_stroke_0 : decode cX6_stroke 0 = .ok (.iload_n 1, 1) := by decide +kernel
theorem dX6_stroke_1 : decode cX6_stroke 1 = .ok (.ifCond .lt 40, 3) := by decide +kernel
theorem dX6_stroke_4 : decode cX6_stroke 4 = .ok (.iload_n 1, 1) := by decide +kernel
theorem dX6_stroke_5 : decode cX6_stroke 5 = .ok (.ldc 140, 2) := by decide +kernel
theorem dX6_stroke_7 : decode cX6_stroke 7 = .ok (.if_icmp .gt 34, 3) := by decide +kernel
theorem dX6_stroke_10 : decode cX6_stroke 10 = .ok (.aload_n 0, 1) := by decide +kernel
theorem dX6_stroke_11 : decode cX6_stroke 11 = .ok (.getfield 141, 3) := by decide +kernel
theorem dX6_stroke_14 : decode cX6_stroke 14 = .ok (.bipush 60, 2) := by decide +kernel
theorem dX6_stroke_16 : decode cX6_stroke 16 = .ok (.if_icmp .eq 25, 3) := by decide +kernel
theorem dX6_stroke_19 : decode cX6_stroke 19 = .ok (.aload_n 0, 1) := by decide +kernel
theorem dX6_stroke_20 : decode cX6_stroke 20 = .ok (.getfield 141, 3) := by decide +kernel
theorem dX6_stroke_23 : decode cX6_stroke 23 = .ok (.ifCond .le 20, 3) := by decide +kernel
theorem dX6_stroke_26 : decode cX6_stroke 26 = .ok (.iload_n 1, 1) := by decide +kernel
theorem dX6_stroke_27 : decode cX6_stroke 27 = .ok (.aload_n 0, 1) := by decide +kernel
theorem dX6_stroke_28 : decode cX6_stroke 28 = .ok (.getfield 50, 3) := by decide +kernel
theorem dX6_stroke_31 : decode cX6_stroke 31 = .ok (.aload_n 0, 1) := by decide +kernel
theorem dX6_stroke_32 : decode cX6_stroke 32 = .ok (.getfield 141, 3) := by decide +kernel
theorem dX6_stroke_35 : decode cX6_stroke 35 = .ok (.iconst 1, 1) := by decide +kernel
theorem dX6_stroke_36 : decode cX6_stroke 36 = .ok (.isub, 1) := by decide +kernel
theorem dX6_stroke_37 : decode cX6_stroke 37 = .ok (.iaload, 1) := by decide +kernel
theorem dX6_stroke_38 : decode cX6_stroke 38 = .ok (.if_icmp .gt 5, 3) := by decide +kernel
theorem dX6_stroke_41 : decode cX6_stroke 41 = .ok (.iconst (-1), 1) := by decide +kernel
theorem dX6_stroke_42 : decode cX6_stroke 42 = .ok (.ireturn, 1) := by decide +kernel
theorem dX6_stroke_43 : decode cX6_stroke 43 = .ok (.aload_n 0, 1) := by decide +kernel
theorem dX6_stroke_44 : decode cX6_stroke 44 = .ok (.getfield 50, 3) := by decide +kernel
theorem dX6_stroke_47 : decode cX6_stroke 47 = .ok (.aload_n 0, 1) := by decide +kernel
theorem dX6_stroke_48 : decode cX6_stroke 48 = .ok (.getfield 141, 3) := by decide +kernel
theorem dX6_stroke_51 : decode cX6_stroke 51 = .ok (.iload_n 1, 1) := by decide +kernel
theorem dX6_stroke_52 : decode cX6_stroke 52 = .ok (.iastore, 1) := by decide +kernel
theorem dX6_stroke_53 : decode cX6_stroke 53 = .ok (.aload_n 0, 1) := by decide +kernel
theorem dX6_stroke_54 : decode cX6_stroke 54 = .ok (.dup, 1) := by decide +kernel
theorem dX6_stroke_55 : decode cX6_stroke 55 = .ok (.getfield 141, 3) := by decide +kernel
theorem dX6_stroke_58 : decode cX6_stroke 58 = .ok (.iconst 1, 1) := by decide +kernel
theorem dX6_stroke_59 : decode cX6_stroke 59 = .ok (.iadd, 1) := by decide +kernel
theorem dX6_stroke_60 : decode cX6_stroke 60 = .ok (.putfield 141, 3) := by decide +kernel
theorem dX6_stroke_63 : decode cX6_stroke 63 = .ok (.aload_n 0, 1) := by decide +kernel
theorem dX6_stroke_64 : decode cX6_stroke 64 = .ok (.getfield 141, 3) := by decide +kernel
theorem dX6_stroke_67 : decode cX6_stroke 67 = .ok (.ireturn, 1) := by decide +kernel
theorem dX6_clear_0 : decode cX6_clear 0 = .ok (.aload_n 0, 1) := by decide +kernel
theorem dX6_clear_1 : decode cX6_clear 1 = .ok (.getfield 141, 3) := by decide +kernel
theorem dX6_clear_4 : decode cX6_clear 4 = .ok (.istore_n 1, 1) := by decide +kernel
theorem dX6_clear_5 : decode cX6_clear 5 = .ok (.aload_n 0, 1) := by decide +kernel
theorem dX6_clear_6 : decode cX6_clear 6 = .ok (.iconst 0, 1) := by decide +kernel
theorem dX6_clear_7 : decode cX6_clear 7 = .ok (.putfield 141, 3) := by decide +kernel
theorem dX6_clear_10 : decode cX6_clear 10 = .ok (.iload_n 1, 1) := by decide +kernel
theorem dX6_clear_11 : decode cX6_clear 11 = .ok (.ireturn, 1) := by decide +kernel
theorem dX6_size_0 : decode cX6_size 0 = .ok (.iload_n 0, 1) := by decide +kernel
theorem dX6_size_1 : decode cX6_size 1 = .ok (.ifCond .ge 8, 3) := by decide +kernel
theorem dX6_size_4 : decode cX6_size 4 = .ok (.iload_n 0, 1) := by decide +kernel
theorem dX6_size_5 : decode cX6_size 5 = .ok (.ineg, 1) := by decide +kernel
theorem dX6_size_6 : decode cX6_size 6 = .ok (.goto 4, 3) := by decide +kernel
theorem dX6_size_9 : decode cX6_size 9 = .ok (.iload_n 0, 1) := by decide +kernel
theorem dX6_size_10 : decode cX6_size 10 = .ok (.ireturn, 1) := by decide +kernel
set_option maxRecDepth 20000 in
theorem ggX6_apart_X6_size : GoodIn wsX6_apart wsX6_size := goodIn_r _ [4] (by decide +kernel) (by decide +kernel)
set_option maxRecDepth 20000 in
theorem gX6_apart_X6_size : GoodIn wsX6_apart (va_wsS RX6 144 yX6_size wsX6_size) := goodIn_app (goodIn_of _ (by decide +kernel)) ggX6_apart_X6_size
theorem dX6_apart_0 : decode cX6_apart 0 = .ok (.iload_n 0, 1) := by decide +kernel
theorem dX6_apart_1 : decode cX6_apart 1 = .ok (.iload_n 1, 1) := by decide +kernel
theorem dX6_apart_2 : decode cX6_apart 2 = .ok (.idiv, 1) := by decide +kernel
theorem dX6_apart_3 : decode cX6_apart 3 = .ok (.istore_n 3, 1) := by decide +kernel
theorem dX6_apart_4 : decode cX6_apart 4 = .ok (.iconst 2, 1) := by decide +kernel
theorem dX6_apart_5 : decode cX6_apart 5 = .ok (.iload_n 0, 1) := by decide +kernel
theorem dX6_apart_6 : decode cX6_apart 6 = .ok (.iload_n 3, 1) := by decide +kernel
theorem dX6_apart_7 : decode cX6_apart 7 = .ok (.iload_n 1, 1) := by decide +kernel
theorem dX6_apart_8 : decode cX6_apart 8 = .ok (.imul, 1) := by decide +kernel
theorem dX6_apart_9 : decode cX6_apart 9 = .ok (.isub, 1) := by decide +kernel
theorem dX6_apart_10 : decode cX6_apart 10 = .ok (.imul, 1) := by decide +kernel
theorem dX6_apart_11 : decode cX6_apart 11 = .ok (.iload_n 1, 1) := by decide +kernel
theorem dX6_apart_12 : decode cX6_apart 12 = .ok (.if_icmp .le 6, 3) := by decide +kernel
theorem dX6_apart_15 : decode cX6_apart 15 = .ok (.iinc 3 1, 3) := by decide +kernel
theorem dX6_apart_18 : decode cX6_apart 18 = .ok (.iload_n 3, 1) := by decide +kernel
theorem dX6_apart_19 : decode cX6_apart 19 = .ok (.iconst 1, 1) := by decide +kernel
theorem dX6_apart_20 : decode cX6_apart 20 = .ok (.if_icmp .ge 5, 3) := by decide +kernel
theorem dX6_apart_23 : decode cX6_apart 23 = .ok (.iconst 1, 1) := by decide +kernel
theorem dX6_apart_24 : decode cX6_apart 24 = .ok (.istore_n 3, 1) := by decide +kernel
theorem dX6_apart_25 : decode cX6_apart 25 = .ok (.iload_n 0, 1) := by decide +kernel
theorem dX6_apart_26 : decode cX6_apart 26 = .ok (.iload_n 3, 1) := by decide +kernel
theorem dX6_apart_27 : decode cX6_apart 27 = .ok (.iload_n 1, 1) := by decide +kernel
theorem dX6_apart_28 : decode cX6_apart 28 = .ok (.imul, 1) := by decide +kernel
theorem dX6_apart_29 : decode cX6_apart 29 = .ok (.isub, 1) := by decide +kernel
theorem dX6_apart_30 : decode cX6_apart 30 = .ok (.invokestatic 144, 3) := by decide +kernel
theorem dX6_apart_33 : decode cX6_apart 33 = .ok (.iload_n 3, 1) := by decide +kernel
theorem dX6_apart_34 : decode cX6_apart 34 = .ok (.iconst 1, 1) := by decide +kernel
theorem dX6_apart_35 : decode cX6_apart 35 = .ok (.isub, 1) := by decide +kernel
theorem dX6_apart_36 : decode cX6_apart 36 = .ok (.iload_n 2, 1) := by decide +kernel
theorem dX6_apart_37 : decode cX6_apart 37 = .ok (.imul, 1) := by decide +kernel
theorem dX6_apart_38 : decode cX6_apart 38 = .ok (.iadd, 1) := by decide +kernel
theorem dX6_apart_39 : decode cX6_apart 39 = .ok (.ireturn, 1) := by decide +kernel
set_option maxRecDepth 20000 in
theorem ggX6_find_X6_apart : GoodIn wsX6_find wsX6_apart := goodIn_r _ [9, 10, 11, 8, 12] (by decide +kernel) (by decide +kernel)
set_option maxRecDepth 20000 in
theorem gX6_find_X6_apart : GoodIn wsX6_find (va_wsS RX6 147 yX6_apart wsX6_apart) := goodIn_app (goodIn_of _ (by decide +kernel)) ggX6_find_X6_apart
theorem dX6_find_0 : decode cX6_find 0 = .ok (.iload_n 1, 1) := by decide +kernel
theorem dX6_find_1 : decode cX6_find 1 = .ok (.bipush 10, 2) := by decide +kernel
theorem dX6_find_3 : decode cX6_find 3 = .ok (.if_icmp .lt 39, 3) := by decide +kernel
theorem dX6_find_6 : decode cX6_find 6 = .ok (.iload_n 1, 1) := by decide +kernel
theorem dX6_find_7 : decode cX6_find 7 = .ok (.sipush 1000, 3) := by decide +kernel
theorem dX6_find_10 : decode cX6_find 10 = .ok (.if_icmp .gt 32, 3) := by decide +kernel
theorem dX6_find_13 : decode cX6_find 13 = .ok (.iload_n 2, 1) := by decide +kernel
theorem dX6_find_14 : decode cX6_find 14 = .ok (.ifCond .lt 28, 3) := by decide +kernel
theorem dX6_find_17 : decode cX6_find 17 = .ok (.iload_n 2, 1) := by decide +kernel
theorem dX6_find_18 : decode cX6_find 18 = .ok (.sipush 10000, 3) := by decide +kernel
theorem dX6_find_21 : decode cX6_find 21 = .ok (.if_icmp .gt 21, 3) := by decide +kernel
theorem dX6_find_24 : decode cX6_find 24 = .ok (.iload_n 3, 1) := by decide +kernel
theorem dX6_find_25 : decode cX6_find 25 = .ok (.ifCond .lt 17, 3) := by decide +kernel
theorem dX6_find_28 : decode cX6_find 28 = .ok (.iload_n 3, 1) := by decide +kernel
theorem dX6_find_29 : decode cX6_find 29 = .ok (.sipush 10000, 3) := by decide +kernel
theorem dX6_find_32 : decode cX6_find 32 = .ok (.if_icmp .gt 10, 3) := by decide +kernel
theorem dX6_find_35 : decode cX6_find 35 = .ok (.aload_n 0, 1) := by decide +kernel
theorem dX6_find_36 : decode cX6_find 36 = .ok (.getfield 141, 3) := by decide +kernel
theorem dX6_find_39 : decode cX6_find 39 = .ok (.ifCond .ne 5, 3) := by decide +kernel
theorem dX6_find_42 : decode cX6_find 42 = .ok (.iconst (-1), 1) := by decide +kernel
theorem dX6_find_43 : decode cX6_find 43 = .ok (.ireturn, 1) := by decide +kernel
theorem dX6_find_44 : decode cX6_find 44 = .ok (.aload_n 0, 1) := by decide +kernel
theorem dX6_find_45 : decode cX6_find 45 = .ok (.getfield 141, 3) := by decide +kernel
theorem dX6_find_48 : decode cX6_find 48 = .ok (.iconst 1, 1) := by decide +kernel
theorem dX6_find_49 : decode cX6_find 49 = .ok (.isub, 1) := by decide +kernel
theorem dX6_find_50 : decode cX6_find 50 = .ok (.istore 4, 2) := by decide +kernel
theorem dX6_find_52 : decode cX6_find 52 = .ok (.iload 4, 2) := by decide +kernel
theorem dX6_find_54 : decode cX6_find 54 = .ok (.ifCond .lt 109, 3) := by decide +kernel
theorem dX6_find_57 : decode cX6_find 57 = .ok (.aload_n 0, 1) := by decide +kernel
theorem dX6_find_58 : decode cX6_find 58 = .ok (.getfield 53, 3) := by decide +kernel
theorem dX6_find_61 : decode cX6_find 61 = .ok (.iload 4, 2) := by decide +kernel
theorem dX6_find_63 : decode cX6_find 63 = .ok (.iload_n 3, 1) := by decide +kernel
theorem dX6_find_64 : decode cX6_find 64 = .ok (.aload_n 0, 1) := by decide +kernel
theorem dX6_find_65 : decode cX6_find 65 = .ok (.getfield 141, 3) := by decide +kernel
theorem dX6_find_68 : decode cX6_find 68 = .ok (.iconst 1, 1) := by decide +kernel
theorem dX6_find_69 : decode cX6_find 69 = .ok (.isub, 1) := by decide +kernel
theorem dX6_find_70 : decode cX6_find 70 = .ok (.iload 4, 2) := by decide +kernel
theorem dX6_find_72 : decode cX6_find 72 = .ok (.isub, 1) := by decide +kernel
theorem dX6_find_73 : decode cX6_find 73 = .ok (.imul, 1) := by decide +kernel
theorem dX6_find_74 : decode cX6_find 74 = .ok (.iastore, 1) := by decide +kernel
theorem dX6_find_75 : decode cX6_find 75 = .ok (.iload 4, 2) := by decide +kernel
theorem dX6_find_77 : decode cX6_find 77 = .ok (.iconst 1, 1) := by decide +kernel
theorem dX6_find_78 : decode cX6_find 78 = .ok (.iadd, 1) := by decide +kernel
theorem dX6_find_79 : decode cX6_find 79 = .ok (.istore 5, 2) := by decide +kernel
theorem dX6_find_81 : decode cX6_find 81 = .ok (.iload 5, 2) := by decide +kernel
theorem dX6_find_83 : decode cX6_find 83 = .ok (.aload_n 0, 1) := by decide +kernel
theorem dX6_find_84 : decode cX6_find 84 = .ok (.getfield 141, 3) := by decide +kernel
theorem dX6_find_87 : decode cX6_find 87 = .ok (.if_icmp .ge 70, 3) := by decide +kernel
theorem dX6_find_90 : decode cX6_find 90 = .ok (.aload_n 0, 1) := by decide +kernel
theorem dX6_find_91 : decode cX6_find 91 = .ok (.getfield 50, 3) := by decide +kernel
theorem dX6_find_94 : decode cX6_find 94 = .ok (.iload 5, 2) := by decide +kernel
theorem dX6_find_96 : decode cX6_find 96 = .ok (.iaload, 1) := by decide +kernel
theorem dX6_find_97 : decode cX6_find 97 = .ok (.aload_n 0, 1) := by decide +kernel
theorem dX6_find_98 : decode cX6_find 98 = .ok (.getfield 50, 3) := by decide +kernel
theorem dX6_find_101 : decode cX6_find 101 = .ok (.iload 4, 2) := by decide +kernel
theorem dX6_find_103 : decode cX6_find 103 = .ok (.iaload, 1) := by decide +kernel
theorem dX6_find_104 : decode cX6_find 104 = .ok (.isub, 1) := by decide +kernel
theorem dX6_find_105 : decode cX6_find 105 = .ok (.iload_n 1, 1) := by decide +kernel
theorem dX6_find_106 : decode cX6_find 106 = .ok (.iload_n 2, 1) := by decide +kernel
theorem dX6_find_107 : decode cX6_find 107 = .ok (.invokestatic 147, 3) := by decide +kernel
theorem dX6_find_110 : decode cX6_find 110 = .ok (.iload_n 3, 1) := by decide +kernel
theorem dX6_find_111 : decode cX6_find 111 = .ok (.iload 5, 2) := by decide +kernel
theorem dX6_find_113 : decode cX6_find 113 = .ok (.iload 4, 2) := by decide +kernel
theorem dX6_find_115 : decode cX6_find 115 = .ok (.isub, 1) := by decide +kernel
theorem dX6_find_116 : decode cX6_find 116 = .ok (.iconst 1, 1) := by decide +kernel
theorem dX6_find_117 : decode cX6_find 117 = .ok (.isub, 1) := by decide +kernel
theorem dX6_find_118 : decode cX6_find 118 = .ok (.imul, 1) := by decide +kernel
theorem dX6_find_119 : decode cX6_find 119 = .ok (.iadd, 1) := by decide +kernel
theorem dX6_find_120 : decode cX6_find 120 = .ok (.aload_n 0, 1) := by decide +kernel
theorem dX6_find_121 : decode cX6_find 121 = .ok (.getfield 53, 3) := by decide +kernel
theorem dX6_find_124 : decode cX6_find 124 = .ok (.iload 5, 2) := by decide +kernel
theorem dX6_find_126 : decode cX6_find 126 = .ok (.iaload, 1) := by decide +kernel
theorem dX6_find_127 : decode cX6_find 127 = .ok (.iadd, 1) := by decide +kernel
theorem dX6_find_128 : decode cX6_find 128 = .ok (.istore 6, 2) := by decide +kernel
theorem dX6_find_130 : decode cX6_find 130 = .ok (.iload 6, 2) := by decide +kernel
theorem dX6_find_132 : decode cX6_find 132 = .ok (.aload_n 0, 1) := by decide +kernel
theorem dX6_find_133 : decode cX6_find 133 = .ok (.getfield 53, 3) := by decide +kernel
theorem dX6_find_136 : decode cX6_find 136 = .ok (.iload 4, 2) := by decide +kernel
theorem dX6_find_138 : decode cX6_find 138 = .ok (.iaload, 1) := by decide +kernel
theorem dX6_find_139 : decode cX6_find 139 = .ok (.if_icmp .ge 12, 3) := by decide +kernel
theorem dX6_find_142 : decode cX6_find 142 = .ok (.aload_n 0, 1) := by decide +kernel
theorem dX6_find_143 : decode cX6_find 143 = .ok (.getfield 53, 3) := by decide +kernel
theorem dX6_find_146 : decode cX6_find 146 = .ok (.iload 4, 2) := by decide +kernel
theorem dX6_find_148 : decode cX6_find 148 = .ok (.iload 6, 2) := by decide +kernel
theorem dX6_find_150 : decode cX6_find 150 = .ok (.iastore, 1) := by decide +kernel
theorem dX6_find_151 : decode cX6_find 151 = .ok (.iinc 5 1, 3) := by decide +kernel
theorem dX6_find_154 : decode cX6_find 154 = .ok (.goto (-73), 3) := by decide +kernel
theorem dX6_find_157 : decode cX6_find 157 = .ok (.iinc 4 (-1), 3) := by decide +kernel
theorem dX6_find_160 : decode cX6_find 160 = .ok (.goto (-108), 3) := by decide +kernel
theorem dX6_find_163 : decode cX6_find 163 = .ok (.iconst 0, 1) := by decide +kernel
theorem dX6_find_164 : decode cX6_find 164 = .ok (.istore 4, 2) := by decide +kernel
theorem dX6_find_166 : decode cX6_find 166 = .ok (.iconst 1, 1) := by decide +kernel
theorem dX6_find_167 : decode cX6_find 167 = .ok (.istore 5, 2) := by decide +kernel
theorem dX6_find_169 : decode cX6_find 169 = .ok (.iload 5, 2) := by decide +kernel
theorem dX6_find_171 : decode cX6_find 171 = .ok (.aload_n 0, 1) := by decide +kernel
theorem dX6_find_172 : decode cX6_find 172 = .ok (.getfield 141, 3) := by decide +kernel
theorem dX6_find_175 : decode cX6_find 175 = .ok (.if_icmp .ge 40, 3) := by decide +kernel
theorem dX6_find_178 : decode cX6_find 178 = .ok (.iload_n 3, 1) := by decide +kernel
theorem dX6_find_179 : decode cX6_find 179 = .ok (.iload 5, 2) := by decide +kernel
theorem dX6_find_181 : decode cX6_find 181 = .ok (.imul, 1) := by decide +kernel
theorem dX6_find_182 : decode cX6_find 182 = .ok (.aload_n 0, 1) := by decide +kernel
theorem dX6_find_183 : decode cX6_find 183 = .ok (.getfield 53, 3) := by decide +kernel
theorem dX6_find_186 : decode cX6_find 186 = .ok (.iload 5, 2) := by decide +kernel
theorem dX6_find_188 : decode cX6_find 188 = .ok (.iaload, 1) := by decide +kernel
theorem dX6_find_189 : decode cX6_find 189 = .ok (.iadd, 1) := by decide +kernel
theorem dX6_find_190 : decode cX6_find 190 = .ok (.iload_n 3, 1) := by decide +kernel
theorem dX6_find_191 : decode cX6_find 191 = .ok (.iload 4, 2) := by decide +kernel
theorem dX6_find_193 : decode cX6_find 193 = .ok (.imul, 1) := by decide +kernel
theorem dX6_find_194 : decode cX6_find 194 = .ok (.aload_n 0, 1) := by decide +kernel
theorem dX6_find_195 : decode cX6_find 195 = .ok (.getfield 53, 3) := by decide +kernel
theorem dX6_find_198 : decode cX6_find 198 = .ok (.iload 4, 2) := by decide +kernel
theorem dX6_find_200 : decode cX6_find 200 = .ok (.iaload, 1) := by decide +kernel
theorem dX6_find_201 : decode cX6_find 201 = .ok (.iadd, 1) := by decide +kernel
theorem dX6_find_202 : decode cX6_find 202 = .ok (.if_icmp .ge 7, 3) := by decide +kernel
theorem dX6_find_205 : decode cX6_find 205 = .ok (.iload 5, 2) := by decide +kernel
theorem dX6_find_207 : decode cX6_find 207 = .ok (.istore 4, 2) := by decide +kernel
theorem dX6_find_209 : decode cX6_find 209 = .ok (.iinc 5 1, 3) := by decide +kernel
theorem dX6_find_212 : decode cX6_find 212 = .ok (.goto (-43), 3) := by decide +kernel
theorem dX6_find_215 : decode cX6_find 215 = .ok (.iload_n 3, 1) := by decide +kernel
theorem dX6_find_216 : decode cX6_find 216 = .ok (.iload 4, 2) := by decide +kernel
theorem dX6_find_218 : decode cX6_find 218 = .ok (.imul, 1) := by decide +kernel
theorem dX6_find_219 : decode cX6_find 219 = .ok (.aload_n 0, 1) := by decide +kernel
theorem dX6_find_220 : decode cX6_find 220 = .ok (.getfield 53, 3) := by decide +kernel
theorem dX6_find_223 : decode cX6_find 223 = .ok (.iload 4, 2) := by decide +kernel
theorem dX6_find_225 : decode cX6_find 225 = .ok (.iaload, 1) := by decide +kernel
theorem dX6_find_226 : decode cX6_find 226 = .ok (.iadd, 1) := by decide +kernel
theorem dX6_find_227 : decode cX6_find 227 = .ok (.istore 5, 2) := by decide +kernel
theorem dX6_find_229 : decode cX6_find 229 = .ok (.aload_n 0, 1) := by decide +kernel
theorem dX6_find_230 : decode cX6_find 230 = .ok (.iconst 0, 1) := by decide +kernel
theorem dX6_find_231 : decode cX6_find 231 = .ok (.putfield 151, 3) := by decide +kernel
theorem dX6_find_234 : decode cX6_find 234 = .ok (.iload 4, 2) := by decide +kernel
theorem dX6_find_236 : decode cX6_find 236 = .ok (.istore 6, 2) := by decide +kernel
theorem dX6_find_238 : decode cX6_find 238 = .ok (.iload 6, 2) := by decide +kernel
theorem dX6_find_240 : decode cX6_find 240 = .ok (.iconst (-1), 1) := by decide +kernel
theorem dX6_find_241 : decode cX6_find 241 = .ok (.if_icmp .eq 113, 3) := by decide +kernel
theorem dX6_find_244 : decode cX6_find 244 = .ok (.aload_n 0, 1) := by decide +kernel
theorem dX6_find_245 : decode cX6_find 245 = .ok (.getfield 56, 3) := by decide +kernel
theorem dX6_find_248 : decode cX6_find 248 = .ok (.aload_n 0, 1) := by decide +kernel
theorem dX6_find_249 : decode cX6_find 249 = .ok (.getfield 151, 3) := by decide +kernel
theorem dX6_find_252 : decode cX6_find 252 = .ok (.iload 6, 2) := by decide +kernel
theorem dX6_find_254 : decode cX6_find 254 = .ok (.iastore, 1) := by decide +kernel
theorem dX6_find_255 : decode cX6_find 255 = .ok (.aload_n 0, 1) := by decide +kernel
theorem dX6_find_256 : decode cX6_find 256 = .ok (.dup, 1) := by decide +kernel
theorem dX6_find_257 : decode cX6_find 257 = .ok (.getfield 151, 3) := by decide +kernel
theorem dX6_find_260 : decode cX6_find 260 = .ok (.iconst 1, 1) := by decide +kernel
theorem dX6_find_261 : decode cX6_find 261 = .ok (.iadd, 1) := by decide +kernel
theorem dX6_find_262 : decode cX6_find 262 = .ok (.putfield 151, 3) := by decide +kernel
theorem dX6_find_265 : decode cX6_find 265 = .ok (.iconst (-1), 1) := by decide +kernel
theorem dX6_find_266 : decode cX6_find 266 = .ok (.istore 7, 2) := by decide +kernel
theorem dX6_find_268 : decode cX6_find 268 = .ok (.iload 6, 2) := by decide +kernel
theorem dX6_find_270 : decode cX6_find 270 = .ok (.iconst 1, 1) := by decide +kernel
theorem dX6_find_271 : decode cX6_find 271 = .ok (.iadd, 1) := by decide +kernel
theorem dX6_find_272 : decode cX6_find 272 = .ok (.istore 8, 2) := by decide +kernel
theorem dX6_find_274 : decode cX6_find 274 = .ok (.iload 8, 2) := by decide +kernel
theorem dX6_find_276 : decode cX6_find 276 = .ok (.aload_n 0, 1) := by decide +kernel
theorem dX6_find_277 : decode cX6_find 277 = .ok (.getfield 141, 3) := by decide +kernel
theorem dX6_find_280 : decode cX6_find 280 = .ok (.if_icmp .ge 67, 3) := by decide +kernel
theorem dX6_find_283 : decode cX6_find 283 = .ok (.iload 7, 2) := by decide +kernel
theorem dX6_find_285 : decode cX6_find 285 = .ok (.iconst (-1), 1) := by decide +kernel
theorem dX6_find_286 : decode cX6_find 286 = .ok (.if_icmp .ne 61, 3) := by decide +kernel
theorem dX6_find_289 : decode cX6_find 289 = .ok (.aload_n 0, 1) := by decide +kernel
theorem dX6_find_290 : decode cX6_find 290 = .ok (.getfield 50, 3) := by decide +kernel
theorem dX6_find_293 : decode cX6_find 293 = .ok (.iload 8, 2) := by decide +kernel
theorem dX6_find_295 : decode cX6_find 295 = .ok (.iaload, 1) := by decide +kernel
theorem dX6_find_296 : decode cX6_find 296 = .ok (.aload_n 0, 1) := by decide +kernel
theorem dX6_find_297 : decode cX6_find 297 = .ok (.getfield 50, 3) := by decide +kernel
theorem dX6_find_300 : decode cX6_find 300 = .ok (.iload 6, 2) := by decide +kernel
theorem dX6_find_302 : decode cX6_find 302 = .ok (.iaload, 1) := by decide +kernel
theorem dX6_find_303 : decode cX6_find 303 = .ok (.isub, 1) := by decide +kernel
theorem dX6_find_304 : decode cX6_find 304 = .ok (.iload_n 1, 1) := by decide +kernel
theorem dX6_find_305 : decode cX6_find 305 = .ok (.iload_n 2, 1) := by decide +kernel
theorem dX6_find_306 : decode cX6_find 306 = .ok (.invokestatic 147, 3) := by decide +kernel
theorem dX6_find_309 : decode cX6_find 309 = .ok (.iload_n 3, 1) := by decide +kernel
theorem dX6_find_310 : decode cX6_find 310 = .ok (.iload 8, 2) := by decide +kernel
theorem dX6_find_312 : decode cX6_find 312 = .ok (.iload 6, 2) := by decide +kernel
theorem dX6_find_314 : decode cX6_find 314 = .ok (.isub, 1) := by decide +kernel
theorem dX6_find_315 : decode cX6_find 315 = .ok (.iconst 1, 1) := by decide +kernel
theorem dX6_find_316 : decode cX6_find 316 = .ok (.isub, 1) := by decide +kernel
theorem dX6_find_317 : decode cX6_find 317 = .ok (.imul, 1) := by decide +kernel
theorem dX6_find_318 : decode cX6_find 318 = .ok (.iadd, 1) := by decide +kernel
theorem dX6_find_319 : decode cX6_find 319 = .ok (.aload_n 0, 1) := by decide +kernel
theorem dX6_find_320 : decode cX6_find 320 = .ok (.getfield 53, 3) := by decide +kernel
theorem dX6_find_323 : decode cX6_find 323 = .ok (.iload 8, 2) := by decide +kernel
theorem dX6_find_325 : decode cX6_find 325 = .ok (.iaload, 1) := by decide +kernel
theorem dX6_find_326 : decode cX6_find 326 = .ok (.iadd, 1) := by decide +kernel
theorem dX6_find_327 : decode cX6_find 327 = .ok (.aload_n 0, 1) := by decide +kernel
theorem dX6_find_328 : decode cX6_find 328 = .ok (.getfield 53, 3) := by decide +kernel
theorem dX6_find_331 : decode cX6_find 331 = .ok (.iload 6, 2) := by decide +kernel
theorem dX6_find_333 : decode cX6_find 333 = .ok (.iaload, 1) := by decide +kernel
theorem dX6_find_334 : decode cX6_find 334 = .ok (.if_icmp .ne 7, 3) := by decide +kernel
theorem dX6_find_337 : decode cX6_find 337 = .ok (.iload 8, 2) := by decide +kernel
theorem dX6_find_339 : decode cX6_find 339 = .ok (.istore 7, 2) := by decide +kernel
theorem dX6_find_341 : decode cX6_find 341 = .ok (.iinc 8 1, 3) := by decide +kernel
theorem dX6_find_344 : decode cX6_find 344 = .ok (.goto (-70), 3) := by decide +kernel
theorem dX6_find_347 : decode cX6_find 347 = .ok (.iload 7, 2) := by decide +kernel
theorem dX6_find_349 : decode cX6_find 349 = .ok (.istore 6, 2) := by decide +kernel
theorem dX6_find_351 : decode cX6_find 351 = .ok (.goto (-113), 3) := by decide +kernel
theorem dX6_find_354 : decode cX6_find 354 = .ok (.iload 5, 2) := by decide +kernel
theorem dX6_find_356 : decode cX6_find 356 = .ok (.ireturn, 1) := by decide +kernel
theorem dX6_found_0 : decode cX6_found 0 = .ok (.iload_n 1, 1) := by decide +kernel
theorem dX6_found_1 : decode cX6_found 1 = .ok (.ifCond .lt 20, 3) := by decide +kernel
theorem dX6_found_4 : decode cX6_found 4 = .ok (.iload_n 1, 1) := by decide +kernel
theorem dX6_found_5 : decode cX6_found 5 = .ok (.aload_n 0, 1) := by decide +kernel
theorem dX6_found_6 : decode cX6_found 6 = .ok (.getfield 151, 3) := by decide +kernel
theorem dX6_found_9 : decode cX6_found 9 = .ok (.if_icmp .ge 12, 3) := by decide +kernel
theorem dX6_found_12 : decode cX6_found 12 = .ok (.aload_n 0, 1) := by decide +kernel
theorem dX6_found_13 : decode cX6_found 13 = .ok (.getfield 56, 3) := by decide +kernel
theorem dX6_found_16 : decode cX6_found 16 = .ok (.iload_n 1, 1) := by decide +kernel
theorem dX6_found_17 : decode cX6_found 17 = .ok (.iaload, 1) := by decide +kernel
theorem dX6_found_18 : decode cX6_found 18 = .ok (.goto 4, 3) := by decide +kernel
theorem dX6_found_21 : decode cX6_found 21 = .ok (.iconst (-1), 1) := by decide +kernel
theorem dX6_found_22 : decode cX6_found 22 = .ok (.ireturn, 1) := by decide +kernel
theorem dX6_costs_0 : decode cX6_costs 0 = .ok (.iload_n 1, 1) := by decide +kernel
theorem dX6_costs_1 : decode cX6_costs 1 = .ok (.ifCond .lt 32, 3) := by decide +kernel
theorem dX6_costs_4 : decode cX6_costs 4 = .ok (.iload_n 1, 1) := by decide +kernel
theorem dX6_costs_5 : decode cX6_costs 5 = .ok (.sipush 1000, 3) := by decide +kernel
theorem dX6_costs_8 : decode cX6_costs 8 = .ok (.if_icmp .gt 25, 3) := by decide +kernel
theorem dX6_costs_11 : decode cX6_costs 11 = .ok (.iload_n 2, 1) := by decide +kernel
theorem dX6_costs_12 : decode cX6_costs 12 = .ok (.ifCond .lt 21, 3) := by decide +kernel
theorem dX6_costs_15 : decode cX6_costs 15 = .ok (.iload_n 2, 1) := by decide +kernel
theorem dX6_costs_16 : decode cX6_costs 16 = .ok (.sipush 1000, 3) := by decide +kernel
theorem dX6_costs_19 : decode cX6_costs 19 = .ok (.if_icmp .gt 14, 3) := by decide +kernel
theorem dX6_costs_22 : decode cX6_costs 22 = .ok (.iload_n 3, 1) := by decide +kernel
theorem dX6_costs_23 : decode cX6_costs 23 = .ok (.ifCond .lt 10, 3) := by decide +kernel
theorem dX6_costs_26 : decode cX6_costs 26 = .ok (.iload_n 3, 1) := by decide +kernel
theorem dX6_costs_27 : decode cX6_costs 27 = .ok (.sipush 1000, 3) := by decide +kernel
theorem dX6_costs_30 : decode cX6_costs 30 = .ok (.if_icmp .le 5, 3) := by decide +kernel
theorem dX6_costs_33 : decode cX6_costs 33 = .ok (.iconst 0, 1) := by decide +kernel
theorem dX6_costs_34 : decode cX6_costs 34 = .ok (.ireturn, 1) := by decide +kernel
theorem dX6_costs_35 : decode cX6_costs 35 = .ok (.aload_n 0, 1) := by decide +kernel
theorem dX6_costs_36 : decode cX6_costs 36 = .ok (.iload_n 1, 1) := by decide +kernel
theorem dX6_costs_37 : decode cX6_costs 37 = .ok (.putfield 59, 3) := by decide +kernel
theorem dX6_costs_40 : decode cX6_costs 40 = .ok (.aload_n 0, 1) := by decide +kernel
theorem dX6_costs_41 : decode cX6_costs 41 = .ok (.iload_n 2, 1) := by decide +kernel
theorem dX6_costs_42 : decode cX6_costs 42 = .ok (.putfield 63, 3) := by decide +kernel
theorem dX6_costs_45 : decode cX6_costs 45 = .ok (.aload_n 0, 1) := by decide +kernel
theorem dX6_costs_46 : decode cX6_costs 46 = .ok (.iload_n 3, 1) := by decide +kernel
theorem dX6_costs_47 : decode cX6_costs 47 = .ok (.putfield 66, 3) := by decide +kernel
theorem dX6_costs_50 : decode cX6_costs 50 = .ok (.iconst 1, 1) := by decide +kernel
theorem dX6_costs_51 : decode cX6_costs 51 = .ok (.ireturn, 1) := by decide +kernel
set_option maxRecDepth 20000 in
theorem ggX6_plays_X6_playedBars : GoodIn wsX6_plays wsX6_playedBars := goodIn_r _ [7, 8, 9, 10, 11, 30, 31, 32, 33, 34, 35, 36, 37, 38, 39, 40, 41, 42, 43, 44, 45, 46, 47, 48, 49, 50, 51, 52, 53, 54, 55, 56, 57, 58, 59, 60, 61, 62, 63, 64, 65] (by decide +kernel) (by decide +kernel)
set_option maxRecDepth 20000 in
theorem gX6_plays_X6_playedBars : GoodIn wsX6_plays (wsV RX6 111 RX6 yX6_playedBars wsX6_playedBars) := goodIn_app (goodIn_of _ (by decide +kernel)) ggX6_plays_X6_playedBars
set_option maxRecDepth 20000 in
theorem ggX6_plays_X6_barOf : GoodIn wsX6_plays wsX6_barOf := goodIn_r _ [15, 10, 11, 9, 30, 31, 32, 33, 34, 35, 36, 37, 38, 39, 40, 41, 42, 43, 44, 45, 46, 47, 48, 49, 50, 51, 52, 53, 54, 55, 56, 57, 58, 59, 60, 61, 62, 63, 64, 65] (by decide +kernel) (by decide +kernel)
set_option maxRecDepth 20000 in
theorem gX6_plays_X6_barOf : GoodIn wsX6_plays (wsV RX6 131 RX6 yX6_barOf wsX6_barOf) := goodIn_app (goodIn_of _ (by decide +kernel)) ggX6_plays_X6_barOf
set_option maxRecDepth 20000 in
theorem ggX6_plays_X6_firstBeat : GoodIn wsX6_plays wsX6_firstBeat := goodIn_r _ [19, 1, 30, 31, 32, 33, 34, 35, 36, 37, 38, 39, 40, 41, 42, 43, 44, 45, 46, 47, 48, 49, 50, 51, 52, 53, 54, 55, 56, 57, 58, 59, 60, 61, 62, 63, 64, 65] (by decide +kernel) (by decide +kernel)
set_option maxRecDepth 20000 in
theorem gX6_plays_X6_firstBeat : GoodIn wsX6_plays (wsV RX6 128 RX6 yX6_firstBeat wsX6_firstBeat) := goodIn_app (goodIn_of _ (by decide +kernel)) ggX6_plays_X6_firstBeat
set_option maxRecDepth 20000 in
theorem ggX6_plays_X6_lasts : GoodIn wsX6_plays wsX6_lasts := goodIn_r _ [23, 24, 25, 26, 27, 28, 6, 29, 30, 31, 32, 33, 34, 35, 36, 37, 38, 39, 40, 41, 42, 43, 44, 45, 46, 47, 48, 49, 50, 51, 52, 53, 54, 55, 56, 57, 58, 59, 60, 61, 62, 63, 64, 65] (by decide +kernel) (by decide +kernel)
set_option maxRecDepth 20000 in
theorem gX6_plays_X6_lasts : GoodIn wsX6_plays (wsV RX6 122 RX6 yX6_lasts wsX6_lasts) := goodIn_app (goodIn_of _ (by decide +kernel)) ggX6_plays_X6_lasts
theorem dX6_plays_0 : decode cX6_plays 0 = .ok (.iconst 0, 1) := by decide +kernel
theorem dX6_plays_1 : decode cX6_plays 1 = .ok (.istore 5, 2) := by decide +kernel
theorem dX6_plays_3 : decode cX6_plays 3 = .ok (.iload 5, 2) := by decide +kernel
theorem dX6_plays_5 : decode cX6_plays 5 = .ok (.aload_n 0, 1) := by decide +kernel
theorem dX6_plays_6 : decode cX6_plays 6 = .ok (.iload_n 1, 1) := by decide +kernel
theorem dX6_plays_7 : decode cX6_plays 7 = .ok (.invokevirtual 111, 3) := by decide +kernel
theorem dX6_plays_10 : decode cX6_plays 10 = .ok (.if_icmp .ge 108, 3) := by decide +kernel
theorem dX6_plays_13 : decode cX6_plays 13 = .ok (.aload_n 0, 1) := by decide +kernel
theorem dX6_plays_14 : decode cX6_plays 14 = .ok (.iload_n 1, 1) := by decide +kernel
theorem dX6_plays_15 : decode cX6_plays 15 = .ok (.iload 5, 2) := by decide +kernel
theorem dX6_plays_17 : decode cX6_plays 17 = .ok (.invokevirtual 131, 3) := by decide +kernel
theorem dX6_plays_20 : decode cX6_plays 20 = .ok (.istore 6, 2) := by decide +kernel
theorem dX6_plays_22 : decode cX6_plays 22 = .ok (.aload_n 0, 1) := by decide +kernel
theorem dX6_plays_23 : decode cX6_plays 23 = .ok (.iload_n 1, 1) := by decide +kernel
theorem dX6_plays_24 : decode cX6_plays 24 = .ok (.iload 6, 2) := by decide +kernel
theorem dX6_plays_26 : decode cX6_plays 26 = .ok (.invokevirtual 128, 3) := by decide +kernel
theorem dX6_plays_29 : decode cX6_plays 29 = .ok (.istore 7, 2) := by decide +kernel
theorem dX6_plays_31 : decode cX6_plays 31 = .ok (.iconst 0, 1) := by decide +kernel
theorem dX6_plays_32 : decode cX6_plays 32 = .ok (.istore 8, 2) := by decide +kernel
theorem dX6_plays_34 : decode cX6_plays 34 = .ok (.iload 8, 2) := by decide +kernel
theorem dX6_plays_36 : decode cX6_plays 36 = .ok (.iconst 4, 1) := by decide +kernel
theorem dX6_plays_37 : decode cX6_plays 37 = .ok (.if_icmp .ge 28, 3) := by decide +kernel
theorem dX6_plays_40 : decode cX6_plays 40 = .ok (.aload_n 2, 1) := by decide +kernel
theorem dX6_plays_41 : decode cX6_plays 41 = .ok (.iconst 4, 1) := by decide +kernel
theorem dX6_plays_42 : decode cX6_plays 42 = .ok (.iload 5, 2) := by decide +kernel
theorem dX6_plays_44 : decode cX6_plays 44 = .ok (.imul, 1) := by decide +kernel
theorem dX6_plays_45 : decode cX6_plays 45 = .ok (.iload 8, 2) := by decide +kernel
theorem dX6_plays_47 : decode cX6_plays 47 = .ok (.iadd, 1) := by decide +kernel
theorem dX6_plays_48 : decode cX6_plays 48 = .ok (.aload_n 0, 1) := by decide +kernel
theorem dX6_plays_49 : decode cX6_plays 49 = .ok (.iload_n 1, 1) := by decide +kernel
theorem dX6_plays_50 : decode cX6_plays 50 = .ok (.iload 7, 2) := by decide +kernel
theorem dX6_plays_52 : decode cX6_plays 52 = .ok (.iload 8, 2) := by decide +kernel
theorem dX6_plays_54 : decode cX6_plays 54 = .ok (.iadd, 1) := by decide +kernel
theorem dX6_plays_55 : decode cX6_plays 55 = .ok (.invokevirtual 122, 3) := by decide +kernel
theorem dX6_plays_58 : decode cX6_plays 58 = .ok (.iastore, 1) := by decide +kernel
theorem dX6_plays_59 : decode cX6_plays 59 = .ok (.iinc 8 1, 3) := by decide +kernel
theorem dX6_plays_62 : decode cX6_plays 62 = .ok (.goto (-28), 3) := by decide +kernel
theorem dX6_plays_65 : decode cX6_plays 65 = .ok (.aload_n 3, 1) := by decide +kernel
theorem dX6_plays_66 : decode cX6_plays 66 = .ok (.iload 5, 2) := by decide +kernel
theorem dX6_plays_68 : decode cX6_plays 68 = .ok (.aload_n 0, 1) := by decide +kernel
theorem dX6_plays_69 : decode cX6_plays 69 = .ok (.getfield 35, 3) := by decide +kernel
theorem dX6_plays_72 : decode cX6_plays 72 = .ok (.bipush 64, 2) := by decide +kernel
theorem dX6_plays_74 : decode cX6_plays 74 = .ok (.iload_n 1, 1) := by decide +kernel
theorem dX6_plays_75 : decode cX6_plays 75 = .ok (.imul, 1) := by decide +kernel
theorem dX6_plays_76 : decode cX6_plays 76 = .ok (.iload 6, 2) := by decide +kernel
theorem dX6_plays_78 : decode cX6_plays 78 = .ok (.iadd, 1) := by decide +kernel
theorem dX6_plays_79 : decode cX6_plays 79 = .ok (.iaload, 1) := by decide +kernel
theorem dX6_plays_80 : decode cX6_plays 80 = .ok (.iconst 4, 1) := by decide +kernel
theorem dX6_plays_81 : decode cX6_plays 81 = .ok (.if_icmp .ge 7, 3) := by decide +kernel
theorem dX6_plays_84 : decode cX6_plays 84 = .ok (.iconst 1, 1) := by decide +kernel
theorem dX6_plays_85 : decode cX6_plays 85 = .ok (.goto 4, 3) := by decide +kernel
theorem dX6_plays_88 : decode cX6_plays 88 = .ok (.iconst 0, 1) := by decide +kernel
theorem dX6_plays_89 : decode cX6_plays 89 = .ok (.bastore, 1) := by decide +kernel
theorem dX6_plays_90 : decode cX6_plays 90 = .ok (.aload 4, 2) := by decide +kernel
theorem dX6_plays_92 : decode cX6_plays 92 = .ok (.iload 5, 2) := by decide +kernel
theorem dX6_plays_94 : decode cX6_plays 94 = .ok (.iload 6, 2) := by decide +kernel
theorem dX6_plays_96 : decode cX6_plays 96 = .ok (.aload_n 0, 1) := by decide +kernel
theorem dX6_plays_97 : decode cX6_plays 97 = .ok (.getfield 32, 3) := by decide +kernel
theorem dX6_plays_100 : decode cX6_plays 100 = .ok (.iload_n 1, 1) := by decide +kernel
theorem dX6_plays_101 : decode cX6_plays 101 = .ok (.iaload, 1) := by decide +kernel
theorem dX6_plays_102 : decode cX6_plays 102 = .ok (.irem, 1) := by decide +kernel
theorem dX6_plays_103 : decode cX6_plays 103 = .ok (.ifCond .ne 7, 3) := by decide +kernel
theorem dX6_plays_106 : decode cX6_plays 106 = .ok (.iconst 1, 1) := by decide +kernel
theorem dX6_plays_107 : decode cX6_plays 107 = .ok (.goto 4, 3) := by decide +kernel
theorem dX6_plays_110 : decode cX6_plays 110 = .ok (.iconst 0, 1) := by decide +kernel
theorem dX6_plays_111 : decode cX6_plays 111 = .ok (.bastore, 1) := by decide +kernel
theorem dX6_plays_112 : decode cX6_plays 112 = .ok (.iinc 5 1, 3) := by decide +kernel
theorem dX6_plays_115 : decode cX6_plays 115 = .ok (.goto (-112), 3) := by decide +kernel
theorem dX6_plays_118 : decode cX6_plays 118 = .ok (.return_, 1) := by decide +kernel
set_option maxRecDepth 20000 in
theorem ggX6_keysApart_X6_size : GoodIn wsX6_keysApart wsX6_size := goodIn_r _ [5] (by decide +kernel) (by decide +kernel)
set_option maxRecDepth 20000 in
theorem gX6_keysApart_X6_size : GoodIn wsX6_keysApart (va_wsS RX6 144 yX6_size wsX6_size) := goodIn_app (goodIn_of _ (by decide +kernel)) ggX6_keysApart_X6_size
theorem dX6_keysApart_0 : decode cX6_keysApart 0 = .ok (.aload_n 0, 1) := by decide +kernel
theorem dX6_keysApart_1 : decode cX6_keysApart 1 = .ok (.getfield 26, 3) := by decide +kernel
theorem dX6_keysApart_4 : decode cX6_keysApart 4 = .ok (.iload_n 1, 1) := by decide +kernel
theorem dX6_keysApart_5 : decode cX6_keysApart 5 = .ok (.iaload, 1) := by decide +kernel
theorem dX6_keysApart_6 : decode cX6_keysApart 6 = .ok (.bipush 12, 2) := by decide +kernel
theorem dX6_keysApart_8 : decode cX6_keysApart 8 = .ok (.irem, 1) := by decide +kernel
theorem dX6_keysApart_9 : decode cX6_keysApart 9 = .ok (.aload_n 0, 1) := by decide +kernel
theorem dX6_keysApart_10 : decode cX6_keysApart 10 = .ok (.getfield 26, 3) := by decide +kernel
theorem dX6_keysApart_13 : decode cX6_keysApart 13 = .ok (.iload_n 2, 1) := by decide +kernel
theorem dX6_keysApart_14 : decode cX6_keysApart 14 = .ok (.iaload, 1) := by decide +kernel
theorem dX6_keysApart_15 : decode cX6_keysApart 15 = .ok (.bipush 12, 2) := by decide +kernel
theorem dX6_keysApart_17 : decode cX6_keysApart 17 = .ok (.irem, 1) := by decide +kernel
theorem dX6_keysApart_18 : decode cX6_keysApart 18 = .ok (.isub, 1) := by decide +kernel
theorem dX6_keysApart_19 : decode cX6_keysApart 19 = .ok (.invokestatic 144, 3) := by decide +kernel
theorem dX6_keysApart_22 : decode cX6_keysApart 22 = .ok (.istore_n 3, 1) := by decide +kernel
theorem dX6_keysApart_23 : decode cX6_keysApart 23 = .ok (.iload_n 3, 1) := by decide +kernel
theorem dX6_keysApart_24 : decode cX6_keysApart 24 = .ok (.bipush 12, 2) := by decide +kernel
theorem dX6_keysApart_26 : decode cX6_keysApart 26 = .ok (.iload_n 3, 1) := by decide +kernel
theorem dX6_keysApart_27 : decode cX6_keysApart 27 = .ok (.isub, 1) := by decide +kernel
theorem dX6_keysApart_28 : decode cX6_keysApart 28 = .ok (.if_icmp .ge 7, 3) := by decide +kernel
theorem dX6_keysApart_31 : decode cX6_keysApart 31 = .ok (.iload_n 3, 1) := by decide +kernel
theorem dX6_keysApart_32 : decode cX6_keysApart 32 = .ok (.goto 7, 3) := by decide +kernel
theorem dX6_keysApart_35 : decode cX6_keysApart 35 = .ok (.bipush 12, 2) := by decide +kernel
theorem dX6_keysApart_37 : decode cX6_keysApart 37 = .ok (.iload_n 3, 1) := by decide +kernel
theorem dX6_keysApart_38 : decode cX6_keysApart 38 = .ok (.isub, 1) := by decide +kernel
theorem dX6_keysApart_39 : decode cX6_keysApart 39 = .ok (.aload_n 0, 1) := by decide +kernel
theorem dX6_keysApart_40 : decode cX6_keysApart 40 = .ok (.getfield 26, 3) := by decide +kernel
theorem dX6_keysApart_43 : decode cX6_keysApart 43 = .ok (.iload_n 1, 1) := by decide +kernel
theorem dX6_keysApart_44 : decode cX6_keysApart 44 = .ok (.iaload, 1) := by decide +kernel
theorem dX6_keysApart_45 : decode cX6_keysApart 45 = .ok (.bipush 12, 2) := by decide +kernel
theorem dX6_keysApart_47 : decode cX6_keysApart 47 = .ok (.idiv, 1) := by decide +kernel
theorem dX6_keysApart_48 : decode cX6_keysApart 48 = .ok (.aload_n 0, 1) := by decide +kernel
theorem dX6_keysApart_49 : decode cX6_keysApart 49 = .ok (.getfield 26, 3) := by decide +kernel
theorem dX6_keysApart_52 : decode cX6_keysApart 52 = .ok (.iload_n 2, 1) := by decide +kernel
theorem dX6_keysApart_53 : decode cX6_keysApart 53 = .ok (.iaload, 1) := by decide +kernel
theorem dX6_keysApart_54 : decode cX6_keysApart 54 = .ok (.bipush 12, 2) := by decide +kernel
theorem dX6_keysApart_56 : decode cX6_keysApart 56 = .ok (.idiv, 1) := by decide +kernel
theorem dX6_keysApart_57 : decode cX6_keysApart 57 = .ok (.if_icmp .ne 7, 3) := by decide +kernel
theorem dX6_keysApart_60 : decode cX6_keysApart 60 = .ok (.iconst 0, 1) := by decide +kernel
theorem dX6_keysApart_61 : decode cX6_keysApart 61 = .ok (.goto 4, 3) := by decide +kernel
theorem dX6_keysApart_64 : decode cX6_keysApart 64 = .ok (.iconst 1, 1) := by decide +kernel
theorem dX6_keysApart_65 : decode cX6_keysApart 65 = .ok (.iadd, 1) := by decide +kernel
theorem dX6_keysApart_66 : decode cX6_keysApart 66 = .ok (.ireturn, 1) := by decide +kernel
set_option maxRecDepth 20000 in
theorem ggX6_always_X6_keysApart : GoodIn wsX6_always wsX6_keysApart := goodIn_r _ [8, 9, 10, 11, 7, 12, 13, 14, 15, 16, 17, 18, 19, 20, 21, 22, 23, 24, 25, 26, 27, 28, 29, 30, 31, 32, 33, 34, 35, 36, 37, 38, 39, 40, 41, 42, 43, 44, 45, 46, 47, 48] (by decide +kernel) (by decide +kernel)
set_option maxRecDepth 20000 in
theorem gX6_always_X6_keysApart : GoodIn wsX6_always (wsV RX6 154 RX6 yX6_keysApart wsX6_keysApart) := goodIn_app (goodIn_of _ (by decide +kernel)) ggX6_always_X6_keysApart
set_option maxRecDepth 20000 in
theorem ggX6_always_X6_size : GoodIn wsX6_always wsX6_size := goodIn_r _ [12] (by decide +kernel) (by decide +kernel)
set_option maxRecDepth 20000 in
theorem gX6_always_X6_size : GoodIn wsX6_always (va_wsS RX6 144 yX6_size wsX6_size) := goodIn_app (goodIn_of _ (by decide +kernel)) ggX6_always_X6_size
theorem dX6_always_0 : decode cX6_always 0 = .ok (.aload_n 0, 1) := by decide +kernel
theorem dX6_always_1 : decode cX6_always 1 = .ok (.getfield 63, 3) := by decide +kernel
theorem dX6_always_4 : decode cX6_always 4 = .ok (.aload_n 0, 1) := by decide +kernel
theorem dX6_always_5 : decode cX6_always 5 = .ok (.iload_n 1, 1) := by decide +kernel
theorem dX6_always_6 : decode cX6_always 6 = .ok (.iload_n 2, 1) := by decide +kernel
theorem dX6_always_7 : decode cX6_always 7 = .ok (.invokevirtual 154, 3) := by decide +kernel
theorem dX6_always_10 : decode cX6_always 10 = .ok (.imul, 1) := by decide +kernel
theorem dX6_always_11 : decode cX6_always 11 = .ok (.aload_n 0, 1) := by decide +kernel
theorem dX6_always_12 : decode cX6_always 12 = .ok (.getfield 66, 3) := by decide +kernel
theorem dX6_always_15 : decode cX6_always 15 = .ok (.aload_n 0, 1) := by decide +kernel
theorem dX6_always_16 : decode cX6_always 16 = .ok (.getfield 29, 3) := by decide +kernel
theorem dX6_always_19 : decode cX6_always 19 = .ok (.iload_n 1, 1) := by decide +kernel
theorem dX6_always_20 : decode cX6_always 20 = .ok (.iaload, 1) := by decide +kernel
theorem dX6_always_21 : decode cX6_always 21 = .ok (.aload_n 0, 1) := by decide +kernel
theorem dX6_always_22 : decode cX6_always 22 = .ok (.getfield 29, 3) := by decide +kernel
theorem dX6_always_25 : decode cX6_always 25 = .ok (.iload_n 2, 1) := by decide +kernel
theorem dX6_always_26 : decode cX6_always 26 = .ok (.iaload, 1) := by decide +kernel
theorem dX6_always_27 : decode cX6_always 27 = .ok (.isub, 1) := by decide +kernel
theorem dX6_always_28 : decode cX6_always 28 = .ok (.invokestatic 144, 3) := by decide +kernel
theorem dX6_always_31 : decode cX6_always 31 = .ok (.imul, 1) := by decide +kernel
theorem dX6_always_32 : decode cX6_always 32 = .ok (.iadd, 1) := by decide +kernel
theorem dX6_always_33 : decode cX6_always 33 = .ok (.ireturn, 1) := by decide +kernel
set_option maxRecDepth 20000 in
theorem ggX6_joined_X6_floor : GoodIn wsX6_joined wsX6_floor := goodIn_r _ [4] (by decide +kernel) (by decide +kernel)
set_option maxRecDepth 20000 in
theorem gX6_joined_X6_floor : GoodIn wsX6_joined (va_wsS RX6 118 yX6_floor wsX6_floor) := goodIn_app (goodIn_of _ (by decide +kernel)) ggX6_joined_X6_floor
theorem dX6_joined_0 : decode cX6_joined 0 = .ok (.iload_n 0, 1) := by decide +kernel
theorem dX6_joined_1 : decode cX6_joined 1 = .ok (.iload_n 1, 1) := by decide +kernel
theorem dX6_joined_2 : decode cX6_joined 2 = .ok (.iload_n 0, 1) := by decide +kernel
theorem dX6_joined_3 : decode cX6_joined 3 = .ok (.isub, 1) := by decide +kernel
theorem dX6_joined_4 : decode cX6_joined 4 = .ok (.iload_n 2, 1) := by decide +kernel
theorem dX6_joined_5 : decode cX6_joined 5 = .ok (.imul, 1) := by decide +kernel
theorem dX6_joined_6 : decode cX6_joined 6 = .ok (.iconst 2, 1) := by decide +kernel
theorem dX6_joined_7 : decode cX6_joined 7 = .ok (.iload_n 3, 1) := by decide +kernel
theorem dX6_joined_8 : decode cX6_joined 8 = .ok (.imul, 1) := by decide +kernel
theorem dX6_joined_9 : decode cX6_joined 9 = .ok (.iadd, 1) := by decide +kernel
theorem dX6_joined_10 : decode cX6_joined 10 = .ok (.iconst 4, 1) := by decide +kernel
theorem dX6_joined_11 : decode cX6_joined 11 = .ok (.iload_n 3, 1) := by decide +kernel
theorem dX6_joined_12 : decode cX6_joined 12 = .ok (.imul, 1) := by decide +kernel
theorem dX6_joined_13 : decode cX6_joined 13 = .ok (.invokestatic 118, 3) := by decide +kernel
theorem dX6_joined_16 : decode cX6_joined 16 = .ok (.iadd, 1) := by decide +kernel
theorem dX6_joined_17 : decode cX6_joined 17 = .ok (.ireturn, 1) := by decide +kernel
set_option maxRecDepth 20000 in
theorem ggX6_bend_X6_size : GoodIn wsX6_bend wsX6_size := goodIn_r _ [4] (by decide +kernel) (by decide +kernel)
set_option maxRecDepth 20000 in
theorem gX6_bend_X6_size : GoodIn wsX6_bend (va_wsS RX6 144 yX6_size wsX6_size) := goodIn_app (goodIn_of _ (by decide +kernel)) ggX6_bend_X6_size
theorem dX6_bend_0 : decode cX6_bend 0 = .ok (.iload_n 0, 1) := by decide +kernel
theorem dX6_bend_1 : decode cX6_bend 1 = .ok (.iload_n 1, 1) := by decide +kernel
theorem dX6_bend_2 : decode cX6_bend 2 = .ok (.isub, 1) := by decide +kernel
theorem dX6_bend_3 : decode cX6_bend 3 = .ok (.invokestatic 144, 3) := by decide +kernel
theorem dX6_bend_6 : decode cX6_bend 6 = .ok (.sipush 1000, 3) := by decide +kernel
theorem dX6_bend_9 : decode cX6_bend 9 = .ok (.imul, 1) := by decide +kernel
theorem dX6_bend_10 : decode cX6_bend 10 = .ok (.iload_n 1, 1) := by decide +kernel
theorem dX6_bend_11 : decode cX6_bend 11 = .ok (.idiv, 1) := by decide +kernel
theorem dX6_bend_12 : decode cX6_bend 12 = .ok (.istore_n 3, 1) := by decide +kernel
theorem dX6_bend_13 : decode cX6_bend 13 = .ok (.iload_n 0, 1) := by decide +kernel
theorem dX6_bend_14 : decode cX6_bend 14 = .ok (.iload_n 2, 1) := by decide +kernel
theorem dX6_bend_15 : decode cX6_bend 15 = .ok (.isub, 1) := by decide +kernel
theorem dX6_bend_16 : decode cX6_bend 16 = .ok (.invokestatic 144, 3) := by decide +kernel
theorem dX6_bend_19 : decode cX6_bend 19 = .ok (.sipush 1000, 3) := by decide +kernel
theorem dX6_bend_22 : decode cX6_bend 22 = .ok (.imul, 1) := by decide +kernel
theorem dX6_bend_23 : decode cX6_bend 23 = .ok (.iload_n 2, 1) := by decide +kernel
theorem dX6_bend_24 : decode cX6_bend 24 = .ok (.idiv, 1) := by decide +kernel
theorem dX6_bend_25 : decode cX6_bend 25 = .ok (.istore 4, 2) := by decide +kernel
theorem dX6_bend_27 : decode cX6_bend 27 = .ok (.iload_n 3, 1) := by decide +kernel
theorem dX6_bend_28 : decode cX6_bend 28 = .ok (.iload 4, 2) := by decide +kernel
theorem dX6_bend_30 : decode cX6_bend 30 = .ok (.if_icmp .le 7, 3) := by decide +kernel
theorem dX6_bend_33 : decode cX6_bend 33 = .ok (.iload_n 3, 1) := by decide +kernel
theorem dX6_bend_34 : decode cX6_bend 34 = .ok (.goto 5, 3) := by decide +kernel
theorem dX6_bend_37 : decode cX6_bend 37 = .ok (.iload 4, 2) := by decide +kernel
theorem dX6_bend_39 : decode cX6_bend 39 = .ok (.ireturn, 1) := by decide +kernel
theorem dX6_isWhole_0 : decode cX6_isWhole 0 = .ok (.iload_n 2, 1) := by decide +kernel
theorem dX6_isWhole_1 : decode cX6_isWhole 1 = .ok (.iload_n 3, 1) := by decide +kernel
theorem dX6_isWhole_2 : decode cX6_isWhole 2 = .ok (.iadd, 1) := by decide +kernel
theorem dX6_isWhole_3 : decode cX6_isWhole 3 = .ok (.iload_n 1, 1) := by decide +kernel
theorem dX6_isWhole_4 : decode cX6_isWhole 4 = .ok (.if_icmp .le 5, 3) := by decide +kernel
theorem dX6_isWhole_7 : decode cX6_isWhole 7 = .ok (.iconst 0, 1) := by decide +kernel
theorem dX6_isWhole_8 : decode cX6_isWhole 8 = .ok (.ireturn, 1) := by decide +kernel
theorem dX6_isWhole_9 : decode cX6_isWhole 9 = .ok (.iconst 0, 1) := by decide +kernel
theorem dX6_isWhole_10 : decode cX6_isWhole 10 = .ok (.istore 4, 2) := by decide +kernel
theorem dX6_isWhole_12 : decode cX6_isWhole 12 = .ok (.iload 4, 2) := by decide +kernel
theorem dX6_isWhole_14 : decode cX6_isWhole 14 = .ok (.iload_n 3, 1) := by decide +kernel
theorem dX6_isWhole_15 : decode cX6_isWhole 15 = .ok (.if_icmp .ge 20, 3) := by decide +kernel
theorem dX6_isWhole_18 : decode cX6_isWhole 18 = .ok (.aload_n 0, 1) := by decide +kernel
theorem dX6_isWhole_19 : decode cX6_isWhole 19 = .ok (.iload_n 2, 1) := by decide +kernel
theorem dX6_isWhole_20 : decode cX6_isWhole 20 = .ok (.iload 4, 2) := by decide +kernel
theorem dX6_isWhole_22 : decode cX6_isWhole 22 = .ok (.iadd, 1) := by decide +kernel
theorem dX6_isWhole_23 : decode cX6_isWhole 23 = .ok (.baload, 1) := by decide +kernel
theorem dX6_isWhole_24 : decode cX6_isWhole 24 = .ok (.ifCond .eq 5, 3) := by decide +kernel
theorem dX6_isWhole_27 : decode cX6_isWhole 27 = .ok (.iconst 0, 1) := by decide +kernel
theorem dX6_isWhole_28 : decode cX6_isWhole 28 = .ok (.ireturn, 1) := by decide +kernel
theorem dX6_isWhole_29 : decode cX6_isWhole 29 = .ok (.iinc 4 1, 3) := by decide +kernel
theorem dX6_isWhole_32 : decode cX6_isWhole 32 = .ok (.goto (-20), 3) := by decide +kernel
theorem dX6_isWhole_35 : decode cX6_isWhole 35 = .ok (.iconst 1, 1) := by decide +kernel
theorem dX6_isWhole_36 : decode cX6_isWhole 36 = .ok (.ireturn, 1) := by decide +kernel
set_option maxRecDepth 20000 in
theorem ggX6_beatsCost_X6_joined : GoodIn wsX6_beatsCost wsX6_joined := goodIn_r _ [8, 9, 10, 7, 11] (by decide +kernel) (by decide +kernel)
set_option maxRecDepth 20000 in
theorem gX6_beatsCost_X6_joined : GoodIn wsX6_beatsCost (va_wsS RX6 157 yX6_joined wsX6_joined) := goodIn_app (goodIn_of _ (by decide +kernel)) ggX6_beatsCost_X6_joined
set_option maxRecDepth 20000 in
theorem ggX6_beatsCost_X6_bend : GoodIn wsX6_beatsCost wsX6_bend := goodIn_r _ [14, 15, 16, 7, 17] (by decide +kernel) (by decide +kernel)
set_option maxRecDepth 20000 in
theorem gX6_beatsCost_X6_bend : GoodIn wsX6_beatsCost (va_wsS RX6 161 yX6_bend wsX6_bend) := goodIn_app (goodIn_of _ (by decide +kernel)) ggX6_beatsCost_X6_bend
set_option maxRecDepth 20000 in
theorem ggX6_beatsCost_X6_size : GoodIn wsX6_beatsCost wsX6_size := goodIn_r _ [17] (by decide +kernel) (by decide +kernel)
set_option maxRecDepth 20000 in
theorem gX6_beatsCost_X6_size : GoodIn wsX6_beatsCost (va_wsS RX6 144 yX6_size wsX6_size) := goodIn_app (goodIn_of _ (by decide +kernel)) ggX6_beatsCost_X6_size
theorem dX6_beatsCost_0 : decode cX6_beatsCost 0 = .ok (.iconst 0, 1) := by decide +kernel
theorem dX6_beatsCost_1 : decode cX6_beatsCost 1 = .ok (.istore 4, 2) := by decide +kernel
theorem dX6_beatsCost_3 : decode cX6_beatsCost 3 = .ok (.iconst 0, 1) := by decide +kernel
theorem dX6_beatsCost_4 : decode cX6_beatsCost 4 = .ok (.istore 5, 2) := by decide +kernel
theorem dX6_beatsCost_6 : decode cX6_beatsCost 6 = .ok (.iload 5, 2) := by decide +kernel
theorem dX6_beatsCost_8 : decode cX6_beatsCost 8 = .ok (.iconst 4, 1) := by decide +kernel
theorem dX6_beatsCost_9 : decode cX6_beatsCost 9 = .ok (.iload_n 3, 1) := by decide +kernel
theorem dX6_beatsCost_10 : decode cX6_beatsCost 10 = .ok (.imul, 1) := by decide +kernel
theorem dX6_beatsCost_11 : decode cX6_beatsCost 11 = .ok (.if_icmp .ge 88, 3) := by decide +kernel
theorem dX6_beatsCost_14 : decode cX6_beatsCost 14 = .ok (.aload_n 0, 1) := by decide +kernel
theorem dX6_beatsCost_15 : decode cX6_beatsCost 15 = .ok (.getfield 69, 3) := by decide +kernel
theorem dX6_beatsCost_18 : decode cX6_beatsCost 18 = .ok (.iconst 4, 1) := by decide +kernel
theorem dX6_beatsCost_19 : decode cX6_beatsCost 19 = .ok (.iload_n 1, 1) := by decide +kernel
theorem dX6_beatsCost_20 : decode cX6_beatsCost 20 = .ok (.imul, 1) := by decide +kernel
theorem dX6_beatsCost_21 : decode cX6_beatsCost 21 = .ok (.iload 5, 2) := by decide +kernel
theorem dX6_beatsCost_23 : decode cX6_beatsCost 23 = .ok (.iadd, 1) := by decide +kernel
theorem dX6_beatsCost_24 : decode cX6_beatsCost 24 = .ok (.iaload, 1) := by decide +kernel
theorem dX6_beatsCost_25 : decode cX6_beatsCost 25 = .ok (.istore 6, 2) := by decide +kernel
theorem dX6_beatsCost_27 : decode cX6_beatsCost 27 = .ok (.aload_n 0, 1) := by decide +kernel
theorem dX6_beatsCost_28 : decode cX6_beatsCost 28 = .ok (.getfield 72, 3) := by decide +kernel
theorem dX6_beatsCost_31 : decode cX6_beatsCost 31 = .ok (.iconst 4, 1) := by decide +kernel
theorem dX6_beatsCost_32 : decode cX6_beatsCost 32 = .ok (.iload_n 2, 1) := by decide +kernel
theorem dX6_beatsCost_33 : decode cX6_beatsCost 33 = .ok (.imul, 1) := by decide +kernel
theorem dX6_beatsCost_34 : decode cX6_beatsCost 34 = .ok (.iload 5, 2) := by decide +kernel
theorem dX6_beatsCost_36 : decode cX6_beatsCost 36 = .ok (.iadd, 1) := by decide +kernel
theorem dX6_beatsCost_37 : decode cX6_beatsCost 37 = .ok (.iaload, 1) := by decide +kernel
theorem dX6_beatsCost_38 : decode cX6_beatsCost 38 = .ok (.istore 7, 2) := by decide +kernel
theorem dX6_beatsCost_40 : decode cX6_beatsCost 40 = .ok (.iload 6, 2) := by decide +kernel
theorem dX6_beatsCost_42 : decode cX6_beatsCost 42 = .ok (.iload 7, 2) := by decide +kernel
theorem dX6_beatsCost_44 : decode cX6_beatsCost 44 = .ok (.iload 5, 2) := by decide +kernel
theorem dX6_beatsCost_46 : decode cX6_beatsCost 46 = .ok (.iload_n 3, 1) := by decide +kernel
theorem dX6_beatsCost_47 : decode cX6_beatsCost 47 = .ok (.invokestatic 157, 3) := by decide +kernel
theorem dX6_beatsCost_50 : decode cX6_beatsCost 50 = .ok (.istore 8, 2) := by decide +kernel
theorem dX6_beatsCost_52 : decode cX6_beatsCost 52 = .ok (.iload 8, 2) := by decide +kernel
theorem dX6_beatsCost_54 : decode cX6_beatsCost 54 = .ok (.iload 6, 2) := by decide +kernel
theorem dX6_beatsCost_56 : decode cX6_beatsCost 56 = .ok (.iload 7, 2) := by decide +kernel
theorem dX6_beatsCost_58 : decode cX6_beatsCost 58 = .ok (.invokestatic 161, 3) := by decide +kernel
theorem dX6_beatsCost_61 : decode cX6_beatsCost 61 = .ok (.aload_n 0, 1) := by decide +kernel
theorem dX6_beatsCost_62 : decode cX6_beatsCost 62 = .ok (.getfield 59, 3) := by decide +kernel
theorem dX6_beatsCost_65 : decode cX6_beatsCost 65 = .ok (.if_icmp .le 6, 3) := by decide +kernel
theorem dX6_beatsCost_68 : decode cX6_beatsCost 68 = .ok (.ldc 164, 2) := by decide +kernel
theorem dX6_beatsCost_70 : decode cX6_beatsCost 70 = .ok (.ireturn, 1) := by decide +kernel
theorem dX6_beatsCost_71 : decode cX6_beatsCost 71 = .ok (.iload 4, 2) := by decide +kernel
theorem dX6_beatsCost_73 : decode cX6_beatsCost 73 = .ok (.iload 8, 2) := by decide +kernel
theorem dX6_beatsCost_75 : decode cX6_beatsCost 75 = .ok (.iload 6, 2) := by decide +kernel
theorem dX6_beatsCost_77 : decode cX6_beatsCost 77 = .ok (.isub, 1) := by decide +kernel
theorem dX6_beatsCost_78 : decode cX6_beatsCost 78 = .ok (.invokestatic 144, 3) := by decide +kernel
theorem dX6_beatsCost_81 : decode cX6_beatsCost 81 = .ok (.iload 8, 2) := by decide +kernel
theorem dX6_beatsCost_83 : decode cX6_beatsCost 83 = .ok (.iload 7, 2) := by decide +kernel
theorem dX6_beatsCost_85 : decode cX6_beatsCost 85 = .ok (.isub, 1) := by decide +kernel
theorem dX6_beatsCost_86 : decode cX6_beatsCost 86 = .ok (.invokestatic 144, 3) := by decide +kernel
theorem dX6_beatsCost_89 : decode cX6_beatsCost 89 = .ok (.iadd, 1) := by decide +kernel
theorem dX6_beatsCost_90 : decode cX6_beatsCost 90 = .ok (.iadd, 1) := by decide +kernel
theorem dX6_beatsCost_91 : decode cX6_beatsCost 91 = .ok (.istore 4, 2) := by decide +kernel
theorem dX6_beatsCost_93 : decode cX6_beatsCost 93 = .ok (.iinc 5 1, 3) := by decide +kernel
theorem dX6_beatsCost_96 : decode cX6_beatsCost 96 = .ok (.goto (-90), 3) := by decide +kernel
theorem dX6_beatsCost_99 : decode cX6_beatsCost 99 = .ok (.iload 4, 2) := by decide +kernel
theorem dX6_beatsCost_101 : decode cX6_beatsCost 101 = .ok (.ireturn, 1) := by decide +kernel
set_option maxRecDepth 20000 in
theorem ggX6_loads_X6_plays : GoodIn wsX6_loads wsX6_plays := goodIn_r _ [11, 12, 13, 14, 15, 16, 10, 17, 18, 19, 20, 21, 22, 23, 24, 25, 26, 27, 28, 29, 30, 31, 32, 33, 34, 35, 36, 37, 38, 39, 40, 41, 42, 43, 44, 45, 46, 47, 48, 49, 50, 51, 52, 53, 54, 55, 56, 57, 58, 59, 60, 61, 62, 63, 64, 65, 66, 67, 68, 69, 70, 71, 72, 73, 74, 75] (by decide +kernel) (by decide +kernel)
set_option maxRecDepth 20000 in
theorem gX6_loads_X6_plays : GoodIn wsX6_loads (wsV RX6 165 RX6 yX6_plays wsX6_plays) := goodIn_app (goodIn_of _ (by decide +kernel)) ggX6_loads_X6_plays
theorem dX6_loads_0 : decode cX6_loads 0 = .ok (.aload_n 0, 1) := by decide +kernel
theorem dX6_loads_1 : decode cX6_loads 1 = .ok (.iload_n 1, 1) := by decide +kernel
theorem dX6_loads_2 : decode cX6_loads 2 = .ok (.aload_n 0, 1) := by decide +kernel
theorem dX6_loads_3 : decode cX6_loads 3 = .ok (.getfield 69, 3) := by decide +kernel
theorem dX6_loads_6 : decode cX6_loads 6 = .ok (.aload_n 0, 1) := by decide +kernel
theorem dX6_loads_7 : decode cX6_loads 7 = .ok (.getfield 75, 3) := by decide +kernel
theorem dX6_loads_10 : decode cX6_loads 10 = .ok (.aload_n 0, 1) := by decide +kernel
theorem dX6_loads_11 : decode cX6_loads 11 = .ok (.getfield 81, 3) := by decide +kernel
theorem dX6_loads_14 : decode cX6_loads 14 = .ok (.invokevirtual 165, 3) := by decide +kernel
theorem dX6_loads_17 : decode cX6_loads 17 = .ok (.aload_n 0, 1) := by decide +kernel
theorem dX6_loads_18 : decode cX6_loads 18 = .ok (.iload_n 2, 1) := by decide +kernel
theorem dX6_loads_19 : decode cX6_loads 19 = .ok (.aload_n 0, 1) := by decide +kernel
theorem dX6_loads_20 : decode cX6_loads 20 = .ok (.getfield 72, 3) := by decide +kernel
theorem dX6_loads_23 : decode cX6_loads 23 = .ok (.aload_n 0, 1) := by decide +kernel
theorem dX6_loads_24 : decode cX6_loads 24 = .ok (.getfield 78, 3) := by decide +kernel
theorem dX6_loads_27 : decode cX6_loads 27 = .ok (.aload_n 0, 1) := by decide +kernel
theorem dX6_loads_28 : decode cX6_loads 28 = .ok (.getfield 84, 3) := by decide +kernel
theorem dX6_loads_31 : decode cX6_loads 31 = .ok (.invokevirtual 165, 3) := by decide +kernel
theorem dX6_loads_34 : decode cX6_loads 34 = .ok (.return_, 1) := by decide +kernel
set_option maxRecDepth 20000 in
theorem ggX6_join_X6_isSong : GoodIn wsX6_join wsX6_isSong := goodIn_r _ [15, 16, 82, 83, 84, 85, 86, 87, 88, 89, 90, 91, 92, 93, 94, 95, 96, 97, 98, 99, 100, 101, 102, 103, 104, 105, 106, 107, 108, 109, 110, 111, 112, 113, 114, 115, 116, 117] (by decide +kernel) (by decide +kernel)
set_option maxRecDepth 20000 in
theorem gX6_join_X6_isSong : GoodIn wsX6_join (wsV RX6 107 RX6 yX6_isSong wsX6_isSong) := goodIn_app (goodIn_of _ (by decide +kernel)) ggX6_join_X6_isSong
set_option maxRecDepth 20000 in
theorem ggX6_join_X6_playedBars : GoodIn wsX6_join wsX6_playedBars := goodIn_r _ [20, 21, 22, 23, 24, 82, 83, 84, 85, 86, 87, 88, 89, 90, 91, 92, 93, 94, 95, 96, 97, 98, 99, 100, 101, 102, 103, 104, 105, 106, 107, 108, 109, 110, 111, 112, 113, 114, 115, 116, 117] (by decide +kernel) (by decide +kernel)
set_option maxRecDepth 20000 in
theorem gX6_join_X6_playedBars : GoodIn wsX6_join (wsV RX6 111 RX6 yX6_playedBars wsX6_playedBars) := goodIn_app (goodIn_of _ (by decide +kernel)) ggX6_join_X6_playedBars
set_option maxRecDepth 20000 in
theorem ggX6_join_X6_loads : GoodIn wsX6_join wsX6_loads := goodIn_r _ [28, 7, 1, 3, 8, 2, 4, 29, 30, 31, 14, 32, 33, 34, 17, 18, 19, 20, 21, 22, 23, 24, 35, 36, 37, 38, 39, 40, 41, 42, 43, 44, 45, 46, 47, 48, 49, 50, 51, 52, 82, 83, 84, 85, 86, 87, 88, 89, 90, 91, 92, 93, 94, 95, 96, 97, 98, 99, 100, 101, 102, 103, 104, 105, 106, 107, 108, 109, 110, 111, 112, 113, 114, 115, 116, 117] (by decide +kernel) (by decide +kernel)
set_option maxRecDepth 20000 in
theorem gX6_join_X6_loads : GoodIn wsX6_join (wsV RX6 169 RX6 yX6_loads wsX6_loads) := goodIn_app (goodIn_of _ (by decide +kernel)) ggX6_join_X6_loads
set_option maxRecDepth 20000 in
theorem ggX6_join_X6_isWhole : GoodIn wsX6_join wsX6_isWhole := goodIn_r _ [55] (by decide +kernel) (by decide +kernel)
set_option maxRecDepth 20000 in
theorem gX6_join_X6_isWhole : GoodIn wsX6_join (va_wsS RX6 173 yX6_isWhole wsX6_isWhole) := goodIn_app (goodIn_of _ (by decide +kernel)) ggX6_join_X6_isWhole
set_option maxRecDepth 20000 in
theorem ggX6_join_X6_beatsCost : GoodIn wsX6_join wsX6_beatsCost := goodIn_r _ [59, 7, 8, 60, 5, 61, 62, 14, 63, 50, 51, 52, 64, 65, 66, 67, 68, 69, 82, 83, 84, 85, 86, 87, 88, 89, 90, 91, 92, 93, 94, 95, 96, 97, 98, 99, 100, 101, 102, 103, 104, 105, 106, 107, 108, 109, 110, 111, 112, 113, 114, 115, 116, 117] (by decide +kernel) (by decide +kernel)
set_option maxRecDepth 20000 in
theorem gX6_join_X6_beatsCost : GoodIn wsX6_join (wsV RX6 177 RX6 yX6_beatsCost wsX6_beatsCost) := goodIn_app (goodIn_of _ (by decide +kernel)) ggX6_join_X6_beatsCost
set_option maxRecDepth 20000 in
theorem ggX6_join_X6_joined : GoodIn wsX6_join wsX6_joined := goodIn_r _ [63, 50, 51, 14, 52] (by decide +kernel) (by decide +kernel)
set_option maxRecDepth 20000 in
theorem gX6_join_X6_joined : GoodIn wsX6_join (va_wsS RX6 157 yX6_joined wsX6_joined) := goodIn_app (goodIn_of _ (by decide +kernel)) ggX6_join_X6_joined
set_option maxRecDepth 20000 in
theorem ggX6_join_X6_bend : GoodIn wsX6_join wsX6_bend := goodIn_r _ [66, 67, 68, 14, 69] (by decide +kernel) (by decide +kernel)
set_option maxRecDepth 20000 in
theorem gX6_join_X6_bend : GoodIn wsX6_join (va_wsS RX6 161 yX6_bend wsX6_bend) := goodIn_app (goodIn_of _ (by decide +kernel)) ggX6_join_X6_bend
set_option maxRecDepth 20000 in
theorem ggX6_join_X6_always : GoodIn wsX6_join wsX6_always := goodIn_r _ [73, 74, 75, 76, 77, 78, 79, 14, 80, 81, 67, 68, 69, 82, 83, 84, 85, 86, 87, 88, 89, 90, 91, 92, 93, 94, 95, 96, 97, 98, 99, 100, 101, 102, 103, 104, 105, 106, 107, 108, 109, 110, 111, 112, 113, 114, 115, 116, 117] (by decide +kernel) (by decide +kernel)
set_option maxRecDepth 20000 in
theorem gX6_join_X6_always : GoodIn wsX6_join (wsV RX6 183 RX6 yX6_always wsX6_always) := goodIn_app (goodIn_of _ (by decide +kernel)) ggX6_join_X6_always
theorem dX6_join_0 : decode cX6_join 0 = .ok (.aload_n 0, 1) := by decide +kernel
theorem dX6_join_1 : decode cX6_join 1 = .ok (.iload_n 1, 1) := by decide +kernel
theorem dX6_join_2 : decode cX6_join 2 = .ok (.invokevirtual 107, 3) := by decide +kernel
theorem dX6_join_5 : decode cX6_join 5 = .ok (.ifCond .eq 57, 3) := by decide +kernel
theorem dX6_join_8 : decode cX6_join 8 = .ok (.aload_n 0, 1) := by decide +kernel
theorem dX6_join_9 : decode cX6_join 9 = .ok (.iload_n 2, 1) := by decide +kernel
theorem dX6_join_10 : decode cX6_join 10 = .ok (.invokevirtual 107, 3) := by decide +kernel
theorem dX6_join_13 : decode cX6_join 13 = .ok (.ifCond .eq 49, 3) := by decide +kernel
theorem dX6_join_16 : decode cX6_join 16 = .ok (.iload_n 1, 1) := by decide +kernel
theorem dX6_join_17 : decode cX6_join 17 = .ok (.iload_n 2, 1) := by decide +kernel
theorem dX6_join_18 : decode cX6_join 18 = .ok (.if_icmp .eq 44, 3) := by decide +kernel
theorem dX6_join_21 : decode cX6_join 21 = .ok (.iload_n 3, 1) := by decide +kernel
theorem dX6_join_22 : decode cX6_join 22 = .ok (.iconst 1, 1) := by decide +kernel
theorem dX6_join_23 : decode cX6_join 23 = .ok (.if_icmp .lt 39, 3) := by decide +kernel
theorem dX6_join_26 : decode cX6_join 26 = .ok (.iload_n 3, 1) := by decide +kernel
theorem dX6_join_27 : decode cX6_join 27 = .ok (.bipush 8, 2) := by decide +kernel
theorem dX6_join_29 : decode cX6_join 29 = .ok (.if_icmp .gt 33, 3) := by decide +kernel
theorem dX6_join_32 : decode cX6_join 32 = .ok (.iload 4, 2) := by decide +kernel
theorem dX6_join_34 : decode cX6_join 34 = .ok (.ifCond .lt 28, 3) := by decide +kernel
theorem dX6_join_37 : decode cX6_join 37 = .ok (.iload 4, 2) := by decide +kernel
theorem dX6_join_39 : decode cX6_join 39 = .ok (.aload_n 0, 1) := by decide +kernel
theorem dX6_join_40 : decode cX6_join 40 = .ok (.iload_n 1, 1) := by decide +kernel
theorem dX6_join_41 : decode cX6_join 41 = .ok (.invokevirtual 111, 3) := by decide +kernel
theorem dX6_join_44 : decode cX6_join 44 = .ok (.if_icmp .ge 18, 3) := by decide +kernel
theorem dX6_join_47 : decode cX6_join 47 = .ok (.iload 5, 2) := by decide +kernel
theorem dX6_join_49 : decode cX6_join 49 = .ok (.ifCond .lt 13, 3) := by decide +kernel
theorem dX6_join_52 : decode cX6_join 52 = .ok (.iload 5, 2) := by decide +kernel
theorem dX6_join_54 : decode cX6_join 54 = .ok (.aload_n 0, 1) := by decide +kernel
theorem dX6_join_55 : decode cX6_join 55 = .ok (.iload_n 2, 1) := by decide +kernel
theorem dX6_join_56 : decode cX6_join 56 = .ok (.invokevirtual 111, 3) := by decide +kernel
theorem dX6_join_59 : decode cX6_join 59 = .ok (.if_icmp .lt 5, 3) := by decide +kernel
theorem dX6_join_62 : decode cX6_join 62 = .ok (.iconst (-1), 1) := by decide +kernel
theorem dX6_join_63 : decode cX6_join 63 = .ok (.ireturn, 1) := by decide +kernel
theorem dX6_join_64 : decode cX6_join 64 = .ok (.aload_n 0, 1) := by decide +kernel
theorem dX6_join_65 : decode cX6_join 65 = .ok (.iload_n 1, 1) := by decide +kernel
theorem dX6_join_66 : decode cX6_join 66 = .ok (.iload_n 2, 1) := by decide +kernel
theorem dX6_join_67 : decode cX6_join 67 = .ok (.invokevirtual 169, 3) := by decide +kernel
theorem dX6_join_70 : decode cX6_join 70 = .ok (.aload_n 0, 1) := by decide +kernel
theorem dX6_join_71 : decode cX6_join 71 = .ok (.getfield 75, 3) := by decide +kernel
theorem dX6_join_74 : decode cX6_join 74 = .ok (.aload_n 0, 1) := by decide +kernel
theorem dX6_join_75 : decode cX6_join 75 = .ok (.iload_n 1, 1) := by decide +kernel
theorem dX6_join_76 : decode cX6_join 76 = .ok (.invokevirtual 111, 3) := by decide +kernel
theorem dX6_join_79 : decode cX6_join 79 = .ok (.iload 4, 2) := by decide +kernel
theorem dX6_join_81 : decode cX6_join 81 = .ok (.iload_n 3, 1) := by decide +kernel
theorem dX6_join_82 : decode cX6_join 82 = .ok (.invokestatic 173, 3) := by decide +kernel
theorem dX6_join_85 : decode cX6_join 85 = .ok (.ifCond .eq 21, 3) := by decide +kernel
theorem dX6_join_88 : decode cX6_join 88 = .ok (.aload_n 0, 1) := by decide +kernel
theorem dX6_join_89 : decode cX6_join 89 = .ok (.getfield 78, 3) := by decide +kernel
theorem dX6_join_92 : decode cX6_join 92 = .ok (.aload_n 0, 1) := by decide +kernel
theorem dX6_join_93 : decode cX6_join 93 = .ok (.iload_n 2, 1) := by decide +kernel
theorem dX6_join_94 : decode cX6_join 94 = .ok (.invokevirtual 111, 3) := by decide +kernel
theorem dX6_join_97 : decode cX6_join 97 = .ok (.iload 5, 2) := by decide +kernel
theorem dX6_join_99 : decode cX6_join 99 = .ok (.iload_n 3, 1) := by decide +kernel
theorem dX6_join_100 : decode cX6_join 100 = .ok (.invokestatic 173, 3) := by decide +kernel
theorem dX6_join_103 : decode cX6_join 103 = .ok (.ifCond .ne 6, 3) := by decide +kernel
theorem dX6_join_106 : decode cX6_join 106 = .ok (.bipush (-2), 2) := by decide +kernel
theorem dX6_join_108 : decode cX6_join 108 = .ok (.ireturn, 1) := by decide +kernel
theorem dX6_join_109 : decode cX6_join 109 = .ok (.iload 6, 2) := by decide +kernel
theorem dX6_join_111 : decode cX6_join 111 = .ok (.ifCond .eq 26, 3) := by decide +kernel
theorem dX6_join_114 : decode cX6_join 114 = .ok (.aload_n 0, 1) := by decide +kernel
theorem dX6_join_115 : decode cX6_join 115 = .ok (.getfield 81, 3) := by decide +kernel
theorem dX6_join_118 : decode cX6_join 118 = .ok (.iload 4, 2) := by decide +kernel
theorem dX6_join_120 : decode cX6_join 120 = .ok (.baload, 1) := by decide +kernel
theorem dX6_join_121 : decode cX6_join 121 = .ok (.ifCond .eq 13, 3) := by decide +kernel
theorem dX6_join_124 : decode cX6_join 124 = .ok (.aload_n 0, 1) := by decide +kernel
theorem dX6_join_125 : decode cX6_join 125 = .ok (.getfield 84, 3) := by decide +kernel
theorem dX6_join_128 : decode cX6_join 128 = .ok (.iload 5, 2) := by decide +kernel
theorem dX6_join_130 : decode cX6_join 130 = .ok (.baload, 1) := by decide +kernel
theorem dX6_join_131 : decode cX6_join 131 = .ok (.ifCond .ne 6, 3) := by decide +kernel
theorem dX6_join_134 : decode cX6_join 134 = .ok (.bipush (-3), 2) := by decide +kernel
theorem dX6_join_136 : decode cX6_join 136 = .ok (.ireturn, 1) := by decide +kernel
theorem dX6_join_137 : decode cX6_join 137 = .ok (.aload_n 0, 1) := by decide +kernel
theorem dX6_join_138 : decode cX6_join 138 = .ok (.iload 4, 2) := by decide +kernel
theorem dX6_join_140 : decode cX6_join 140 = .ok (.iload 5, 2) := by decide +kernel
theorem dX6_join_142 : decode cX6_join 142 = .ok (.iload_n 3, 1) := by decide +kernel
theorem dX6_join_143 : decode cX6_join 143 = .ok (.invokevirtual 177, 3) := by decide +kernel
theorem dX6_join_146 : decode cX6_join 146 = .ok (.istore 7, 2) := by decide +kernel
theorem dX6_join_148 : decode cX6_join 148 = .ok (.iload 7, 2) := by decide +kernel
theorem dX6_join_150 : decode cX6_join 150 = .ok (.ldc 164, 2) := by decide +kernel
theorem dX6_join_152 : decode cX6_join 152 = .ok (.if_icmp .ne 6, 3) := by decide +kernel
theorem dX6_join_155 : decode cX6_join 155 = .ok (.bipush (-4), 2) := by decide +kernel
theorem dX6_join_157 : decode cX6_join 157 = .ok (.ireturn, 1) := by decide +kernel
theorem dX6_join_158 : decode cX6_join 158 = .ok (.aload_n 0, 1) := by decide +kernel
theorem dX6_join_159 : decode cX6_join 159 = .ok (.iconst 4, 1) := by decide +kernel
theorem dX6_join_160 : decode cX6_join 160 = .ok (.iload_n 3, 1) := by decide +kernel
theorem dX6_join_161 : decode cX6_join 161 = .ok (.imul, 1) := by decide +kernel
theorem dX6_join_162 : decode cX6_join 162 = .ok (.putfield 180, 3) := by decide +kernel
theorem dX6_join_165 : decode cX6_join 165 = .ok (.iconst 0, 1) := by decide +kernel
theorem dX6_join_166 : decode cX6_join 166 = .ok (.istore 8, 2) := by decide +kernel
theorem dX6_join_168 : decode cX6_join 168 = .ok (.iload 8, 2) := by decide +kernel
theorem dX6_join_170 : decode cX6_join 170 = .ok (.aload_n 0, 1) := by decide +kernel
theorem dX6_join_171 : decode cX6_join 171 = .ok (.getfield 180, 3) := by decide +kernel
theorem dX6_join_174 : decode cX6_join 174 = .ok (.if_icmp .ge 75, 3) := by decide +kernel
theorem dX6_join_177 : decode cX6_join 177 = .ok (.aload_n 0, 1) := by decide +kernel
theorem dX6_join_178 : decode cX6_join 178 = .ok (.getfield 69, 3) := by decide +kernel
theorem dX6_join_181 : decode cX6_join 181 = .ok (.iconst 4, 1) := by decide +kernel
theorem dX6_join_182 : decode cX6_join 182 = .ok (.iload 4, 2) := by decide +kernel
theorem dX6_join_184 : decode cX6_join 184 = .ok (.imul, 1) := by decide +kernel
theorem dX6_join_185 : decode cX6_join 185 = .ok (.iload 8, 2) := by decide +kernel
theorem dX6_join_187 : decode cX6_join 187 = .ok (.iadd, 1) := by decide +kernel
theorem dX6_join_188 : decode cX6_join 188 = .ok (.iaload, 1) := by decide +kernel
theorem dX6_join_189 : decode cX6_join 189 = .ok (.istore 9, 2) := by decide +kernel
theorem dX6_join_191 : decode cX6_join 191 = .ok (.aload_n 0, 1) := by decide +kernel
theorem dX6_join_192 : decode cX6_join 192 = .ok (.getfield 72, 3) := by decide +kernel
theorem dX6_join_195 : decode cX6_join 195 = .ok (.iconst 4, 1) := by decide +kernel
theorem dX6_join_196 : decode cX6_join 196 = .ok (.iload 5, 2) := by decide +kernel
theorem dX6_join_198 : decode cX6_join 198 = .ok (.imul, 1) := by decide +kernel
theorem dX6_join_199 : decode cX6_join 199 = .ok (.iload 8, 2) := by decide +kernel
theorem dX6_join_201 : decode cX6_join 201 = .ok (.iadd, 1) := by decide +kernel
theorem dX6_join_202 : decode cX6_join 202 = .ok (.iaload, 1) := by decide +kernel
theorem dX6_join_203 : decode cX6_join 203 = .ok (.istore 10, 2) := by decide +kernel
theorem dX6_join_205 : decode cX6_join 205 = .ok (.aload_n 0, 1) := by decide +kernel
theorem dX6_join_206 : decode cX6_join 206 = .ok (.getfield 87, 3) := by decide +kernel
theorem dX6_join_209 : decode cX6_join 209 = .ok (.iload 8, 2) := by decide +kernel
theorem dX6_join_211 : decode cX6_join 211 = .ok (.iload 9, 2) := by decide +kernel
theorem dX6_join_213 : decode cX6_join 213 = .ok (.iload 10, 2) := by decide +kernel
theorem dX6_join_215 : decode cX6_join 215 = .ok (.iload 8, 2) := by decide +kernel
theorem dX6_join_217 : decode cX6_join 217 = .ok (.iload_n 3, 1) := by decide +kernel
theorem dX6_join_218 : decode cX6_join 218 = .ok (.invokestatic 157, 3) := by decide +kernel
theorem dX6_join_221 : decode cX6_join 221 = .ok (.iastore, 1) := by decide +kernel
theorem dX6_join_222 : decode cX6_join 222 = .ok (.aload_n 0, 1) := by decide +kernel
theorem dX6_join_223 : decode cX6_join 223 = .ok (.getfield 90, 3) := by decide +kernel
theorem dX6_join_226 : decode cX6_join 226 = .ok (.iload 8, 2) := by decide +kernel
theorem dX6_join_228 : decode cX6_join 228 = .ok (.aload_n 0, 1) := by decide +kernel
theorem dX6_join_229 : decode cX6_join 229 = .ok (.getfield 87, 3) := by decide +kernel
theorem dX6_join_232 : decode cX6_join 232 = .ok (.iload 8, 2) := by decide +kernel
theorem dX6_join_234 : decode cX6_join 234 = .ok (.iaload, 1) := by decide +kernel
theorem dX6_join_235 : decode cX6_join 235 = .ok (.iload 9, 2) := by decide +kernel
theorem dX6_join_237 : decode cX6_join 237 = .ok (.iload 10, 2) := by decide +kernel
theorem dX6_join_239 : decode cX6_join 239 = .ok (.invokestatic 161, 3) := by decide +kernel
theorem dX6_join_242 : decode cX6_join 242 = .ok (.iastore, 1) := by decide +kernel
theorem dX6_join_243 : decode cX6_join 243 = .ok (.iinc 8 1, 3) := by decide +kernel
theorem dX6_join_246 : decode cX6_join 246 = .ok (.goto (-78), 3) := by decide +kernel
theorem dX6_join_249 : decode cX6_join 249 = .ok (.iload 7, 2) := by decide +kernel
theorem dX6_join_251 : decode cX6_join 251 = .ok (.aload_n 0, 1) := by decide +kernel
theorem dX6_join_252 : decode cX6_join 252 = .ok (.iload_n 1, 1) := by decide +kernel
theorem dX6_join_253 : decode cX6_join 253 = .ok (.iload_n 2, 1) := by decide +kernel
theorem dX6_join_254 : decode cX6_join 254 = .ok (.invokevirtual 183, 3) := by decide +kernel
theorem dX6_join_257 : decode cX6_join 257 = .ok (.iadd, 1) := by decide +kernel
theorem dX6_join_258 : decode cX6_join 258 = .ok (.ireturn, 1) := by decide +kernel
theorem dX6_meets_0 : decode cX6_meets 0 = .ok (.iload_n 1, 1) := by decide +kernel
theorem dX6_meets_1 : decode cX6_meets 1 = .ok (.ifCond .lt 39, 3) := by decide +kernel
theorem dX6_meets_4 : decode cX6_meets 4 = .ok (.aload_n 0, 1) := by decide +kernel
theorem dX6_meets_5 : decode cX6_meets 5 = .ok (.getfield 180, 3) := by decide +kernel
theorem dX6_meets_8 : decode cX6_meets 8 = .ok (.ifCond .eq 32, 3) := by decide +kernel
theorem dX6_meets_11 : decode cX6_meets 11 = .ok (.iload_n 1, 1) := by decide +kernel
theorem dX6_meets_12 : decode cX6_meets 12 = .ok (.aload_n 0, 1) := by decide +kernel
theorem dX6_meets_13 : decode cX6_meets 13 = .ok (.getfield 180, 3) := by decide +kernel
theorem dX6_meets_16 : decode cX6_meets 16 = .ok (.if_icmp .gt 24, 3) := by decide +kernel
theorem dX6_meets_19 : decode cX6_meets 19 = .ok (.iload_n 1, 1) := by decide +kernel
theorem dX6_meets_20 : decode cX6_meets 20 = .ok (.aload_n 0, 1) := by decide +kernel
theorem dX6_meets_21 : decode cX6_meets 21 = .ok (.getfield 180, 3) := by decide +kernel
theorem dX6_meets_24 : decode cX6_meets 24 = .ok (.if_icmp .ne 7, 3) := by decide +kernel
theorem dX6_meets_27 : decode cX6_meets 27 = .ok (.iload_n 2, 1) := by decide +kernel
theorem dX6_meets_28 : decode cX6_meets 28 = .ok (.ifCond .ne 12, 3) := by decide +kernel
theorem dX6_meets_31 : decode cX6_meets 31 = .ok (.iload_n 2, 1) := by decide +kernel
theorem dX6_meets_32 : decode cX6_meets 32 = .ok (.ifCond .lt 8, 3) := by decide +kernel
theorem dX6_meets_35 : decode cX6_meets 35 = .ok (.iload_n 2, 1) := by decide +kernel
theorem dX6_meets_36 : decode cX6_meets 36 = .ok (.iconst 2, 1) := by decide +kernel
theorem dX6_meets_37 : decode cX6_meets 37 = .ok (.if_icmp .le 5, 3) := by decide +kernel
theorem dX6_meets_40 : decode cX6_meets 40 = .ok (.iconst (-1), 1) := by decide +kernel
theorem dX6_meets_41 : decode cX6_meets 41 = .ok (.ireturn, 1) := by decide +kernel
theorem dX6_meets_42 : decode cX6_meets 42 = .ok (.iload_n 2, 1) := by decide +kernel
theorem dX6_meets_43 : decode cX6_meets 43 = .ok (.iconst 1, 1) := by decide +kernel
theorem dX6_meets_44 : decode cX6_meets 44 = .ok (.if_icmp .ne 10, 3) := by decide +kernel
theorem dX6_meets_47 : decode cX6_meets 47 = .ok (.aload_n 0, 1) := by decide +kernel
theorem dX6_meets_48 : decode cX6_meets 48 = .ok (.getfield 87, 3) := by decide +kernel
theorem dX6_meets_51 : decode cX6_meets 51 = .ok (.iload_n 1, 1) := by decide +kernel
theorem dX6_meets_52 : decode cX6_meets 52 = .ok (.iaload, 1) := by decide +kernel
theorem dX6_meets_53 : decode cX6_meets 53 = .ok (.ireturn, 1) := by decide +kernel
theorem dX6_meets_54 : decode cX6_meets 54 = .ok (.iload_n 2, 1) := by decide +kernel
theorem dX6_meets_55 : decode cX6_meets 55 = .ok (.iconst 2, 1) := by decide +kernel
theorem dX6_meets_56 : decode cX6_meets 56 = .ok (.if_icmp .ne 10, 3) := by decide +kernel
theorem dX6_meets_59 : decode cX6_meets 59 = .ok (.aload_n 0, 1) := by decide +kernel
theorem dX6_meets_60 : decode cX6_meets 60 = .ok (.getfield 90, 3) := by decide +kernel
theorem dX6_meets_63 : decode cX6_meets 63 = .ok (.iload_n 1, 1) := by decide +kernel
theorem dX6_meets_64 : decode cX6_meets 64 = .ok (.iaload, 1) := by decide +kernel
theorem dX6_meets_65 : decode cX6_meets 65 = .ok (.ireturn, 1) := by decide +kernel
theorem dX6_meets_66 : decode cX6_meets 66 = .ok (.iconst 0, 1) := by decide +kernel
theorem dX6_meets_67 : decode cX6_meets 67 = .ok (.istore_n 3, 1) := by decide +kernel
theorem dX6_meets_68 : decode cX6_meets 68 = .ok (.iconst 0, 1) := by decide +kernel
theorem dX6_meets_69 : decode cX6_meets 69 = .ok (.istore 4, 2) := by decide +kernel
theorem dX6_meets_71 : decode cX6_meets 71 = .ok (.iload 4, 2) := by decide +kernel
theorem dX6_meets_73 : decode cX6_meets 73 = .ok (.iload_n 1, 1) := by decide +kernel
theorem dX6_meets_74 : decode cX6_meets 74 = .ok (.if_icmp .ge 19, 3) := by decide +kernel
theorem dX6_meets_77 : decode cX6_meets 77 = .ok (.iload_n 3, 1) := by decide +kernel
theorem dX6_meets_78 : decode cX6_meets 78 = .ok (.aload_n 0, 1) := by decide +kernel
theorem dX6_meets_79 : decode cX6_meets 79 = .ok (.getfield 87, 3) := by decide +kernel
theorem dX6_meets_82 : decode cX6_meets 82 = .ok (.iload 4, 2) := by decide +kernel
theorem dX6_meets_84 : decode cX6_meets 84 = .ok (.iaload, 1) := by decide +kernel
theorem dX6_meets_85 : decode cX6_meets 85 = .ok (.iadd, 1) := by decide +kernel
theorem dX6_meets_86 : decode cX6_meets 86 = .ok (.istore_n 3, 1) := by decide +kernel
theorem dX6_meets_87 : decode cX6_meets 87 = .ok (.iinc 4 1, 3) := by decide +kernel
theorem dX6_meets_90 : decode cX6_meets 90 = .ok (.goto (-19), 3) := by decide +kernel
theorem dX6_meets_93 : decode cX6_meets 93 = .ok (.iload_n 3, 1) := by decide +kernel
theorem dX6_meets_94 : decode cX6_meets 94 = .ok (.ireturn, 1) := by decide +kernel
set_option maxRecDepth 20000 in
theorem ggX6_bestOf_X6_loads : GoodIn wsX6_bestOf wsX6_loads := goodIn_r _ [12, 13, 3, 2, 14, 5, 4, 15, 16, 17, 11, 18, 19, 20, 21, 22, 23, 24, 25, 26, 27, 28, 29, 30, 31, 32, 33, 34, 35, 36, 37, 38, 39, 40, 41, 42, 43, 44, 45, 46, 76, 77, 78, 79, 80, 81, 82, 83, 84, 85, 86, 87, 88, 89, 90, 91, 92, 93, 94, 95, 96, 97, 98, 99, 100, 101, 102, 103, 104, 105, 106, 107, 108, 109, 110, 111] (by decide +kernel) (by decide +kernel)
set_option maxRecDepth 20000 in
theorem gX6_bestOf_X6_loads : GoodIn wsX6_bestOf (wsV RX6 169 RX6 yX6_loads wsX6_loads) := goodIn_app (goodIn_of _ (by decide +kernel)) ggX6_bestOf_X6_loads
set_option maxRecDepth 20000 in
theorem ggX6_bestOf_X6_playedBars : GoodIn wsX6_bestOf wsX6_playedBars := goodIn_r _ [24, 25, 26, 27, 28, 76, 77, 78, 79, 80, 81, 82, 83, 84, 85, 86, 87, 88, 89, 90, 91, 92, 93, 94, 95, 96, 97, 98, 99, 100, 101, 102, 103, 104, 105, 106, 107, 108, 109, 110, 111] (by decide +kernel) (by decide +kernel)
set_option maxRecDepth 20000 in
theorem gX6_bestOf_X6_playedBars : GoodIn wsX6_bestOf (wsV RX6 111 RX6 yX6_playedBars wsX6_playedBars) := goodIn_app (goodIn_of _ (by decide +kernel)) ggX6_bestOf_X6_playedBars
set_option maxRecDepth 20000 in
theorem ggX6_bestOf_X6_isWhole : GoodIn wsX6_bestOf wsX6_isWhole := goodIn_r _ [49] (by decide +kernel) (by decide +kernel)
set_option maxRecDepth 20000 in
theorem gX6_bestOf_X6_isWhole : GoodIn wsX6_bestOf (va_wsS RX6 173 yX6_isWhole wsX6_isWhole) := goodIn_app (goodIn_of _ (by decide +kernel)) ggX6_bestOf_X6_isWhole
set_option maxRecDepth 20000 in
theorem ggX6_bestOf_X6_beatsCost : GoodIn wsX6_bestOf wsX6_beatsCost := goodIn_r _ [53, 13, 14, 54, 1, 55, 56, 11, 57, 44, 45, 46, 58, 59, 60, 61, 62, 63, 76, 77, 78, 79, 80, 81, 82, 83, 84, 85, 86, 87, 88, 89, 90, 91, 92, 93, 94, 95, 96, 97, 98, 99, 100, 101, 102, 103, 104, 105, 106, 107, 108, 109, 110, 111] (by decide +kernel) (by decide +kernel)
set_option maxRecDepth 20000 in
theorem gX6_bestOf_X6_beatsCost : GoodIn wsX6_bestOf (wsV RX6 177 RX6 yX6_beatsCost wsX6_beatsCost) := goodIn_app (goodIn_of _ (by decide +kernel)) ggX6_bestOf_X6_beatsCost
set_option maxRecDepth 20000 in
theorem ggX6_bestOf_X6_always : GoodIn wsX6_bestOf wsX6_always := goodIn_r _ [67, 68, 69, 70, 71, 72, 73, 11, 74, 75, 61, 62, 63, 76, 77, 78, 79, 80, 81, 82, 83, 84, 85, 86, 87, 88, 89, 90, 91, 92, 93, 94, 95, 96, 97, 98, 99, 100, 101, 102, 103, 104, 105, 106, 107, 108, 109, 110, 111] (by decide +kernel) (by decide +kernel)
set_option maxRecDepth 20000 in
theorem gX6_bestOf_X6_always : GoodIn wsX6_bestOf (wsV RX6 183 RX6 yX6_always wsX6_always) := goodIn_app (goodIn_of _ (by decide +kernel)) ggX6_bestOf_X6_always
theorem dX6_bestOf_0 : decode cX6_bestOf 0 = .ok (.aload_n 0, 1) := by decide +kernel
theorem dX6_bestOf_1 : decode cX6_bestOf 1 = .ok (.iload_n 1, 1) := by decide +kernel
theorem dX6_bestOf_2 : decode cX6_bestOf 2 = .ok (.iload_n 2, 1) := by decide +kernel
theorem dX6_bestOf_3 : decode cX6_bestOf 3 = .ok (.invokevirtual 169, 3) := by decide +kernel
theorem dX6_bestOf_6 : decode cX6_bestOf 6 = .ok (.ldc 164, 2) := by decide +kernel
theorem dX6_bestOf_8 : decode cX6_bestOf 8 = .ok (.istore 4, 2) := by decide +kernel
theorem dX6_bestOf_10 : decode cX6_bestOf 10 = .ok (.aload_n 0, 1) := by decide +kernel
theorem dX6_bestOf_11 : decode cX6_bestOf 11 = .ok (.iload_n 1, 1) := by decide +kernel
theorem dX6_bestOf_12 : decode cX6_bestOf 12 = .ok (.invokevirtual 111, 3) := by decide +kernel
theorem dX6_bestOf_15 : decode cX6_bestOf 15 = .ok (.istore 5, 2) := by decide +kernel
theorem dX6_bestOf_17 : decode cX6_bestOf 17 = .ok (.aload_n 0, 1) := by decide +kernel
theorem dX6_bestOf_18 : decode cX6_bestOf 18 = .ok (.iload_n 2, 1) := by decide +kernel
theorem dX6_bestOf_19 : decode cX6_bestOf 19 = .ok (.invokevirtual 111, 3) := by decide +kernel
theorem dX6_bestOf_22 : decode cX6_bestOf 22 = .ok (.istore 6, 2) := by decide +kernel
theorem dX6_bestOf_24 : decode cX6_bestOf 24 = .ok (.iload 5, 2) := by decide +kernel
theorem dX6_bestOf_26 : decode cX6_bestOf 26 = .ok (.iload_n 3, 1) := by decide +kernel
theorem dX6_bestOf_27 : decode cX6_bestOf 27 = .ok (.isub, 1) := by decide +kernel
theorem dX6_bestOf_28 : decode cX6_bestOf 28 = .ok (.istore 7, 2) := by decide +kernel
theorem dX6_bestOf_30 : decode cX6_bestOf 30 = .ok (.iload 7, 2) := by decide +kernel
theorem dX6_bestOf_32 : decode cX6_bestOf 32 = .ok (.ifCond .lt 120, 3) := by decide +kernel
theorem dX6_bestOf_35 : decode cX6_bestOf 35 = .ok (.aload_n 0, 1) := by decide +kernel
theorem dX6_bestOf_36 : decode cX6_bestOf 36 = .ok (.getfield 81, 3) := by decide +kernel
theorem dX6_bestOf_39 : decode cX6_bestOf 39 = .ok (.iload 7, 2) := by decide +kernel
theorem dX6_bestOf_41 : decode cX6_bestOf 41 = .ok (.baload, 1) := by decide +kernel
theorem dX6_bestOf_42 : decode cX6_bestOf 42 = .ok (.ifCond .eq 104, 3) := by decide +kernel
theorem dX6_bestOf_45 : decode cX6_bestOf 45 = .ok (.aload_n 0, 1) := by decide +kernel
theorem dX6_bestOf_46 : decode cX6_bestOf 46 = .ok (.getfield 75, 3) := by decide +kernel
theorem dX6_bestOf_49 : decode cX6_bestOf 49 = .ok (.iload 5, 2) := by decide +kernel
theorem dX6_bestOf_51 : decode cX6_bestOf 51 = .ok (.iload 7, 2) := by decide +kernel
theorem dX6_bestOf_53 : decode cX6_bestOf 53 = .ok (.iload_n 3, 1) := by decide +kernel
theorem dX6_bestOf_54 : decode cX6_bestOf 54 = .ok (.invokestatic 173, 3) := by decide +kernel
theorem dX6_bestOf_57 : decode cX6_bestOf 57 = .ok (.ifCond .ne 6, 3) := by decide +kernel
theorem dX6_bestOf_60 : decode cX6_bestOf 60 = .ok (.goto 86, 3) := by decide +kernel
theorem dX6_bestOf_63 : decode cX6_bestOf 63 = .ok (.iconst 0, 1) := by decide +kernel
theorem dX6_bestOf_64 : decode cX6_bestOf 64 = .ok (.istore 8, 2) := by decide +kernel
theorem dX6_bestOf_66 : decode cX6_bestOf 66 = .ok (.iload 8, 2) := by decide +kernel
theorem dX6_bestOf_68 : decode cX6_bestOf 68 = .ok (.iload_n 3, 1) := by decide +kernel
theorem dX6_bestOf_69 : decode cX6_bestOf 69 = .ok (.iadd, 1) := by decide +kernel
theorem dX6_bestOf_70 : decode cX6_bestOf 70 = .ok (.iload 6, 2) := by decide +kernel
theorem dX6_bestOf_72 : decode cX6_bestOf 72 = .ok (.if_icmp .gt 74, 3) := by decide +kernel
theorem dX6_bestOf_75 : decode cX6_bestOf 75 = .ok (.aload_n 0, 1) := by decide +kernel
theorem dX6_bestOf_76 : decode cX6_bestOf 76 = .ok (.getfield 84, 3) := by decide +kernel
theorem dX6_bestOf_79 : decode cX6_bestOf 79 = .ok (.iload 8, 2) := by decide +kernel
theorem dX6_bestOf_81 : decode cX6_bestOf 81 = .ok (.baload, 1) := by decide +kernel
theorem dX6_bestOf_82 : decode cX6_bestOf 82 = .ok (.ifCond .eq 58, 3) := by decide +kernel
theorem dX6_bestOf_85 : decode cX6_bestOf 85 = .ok (.aload_n 0, 1) := by decide +kernel
theorem dX6_bestOf_86 : decode cX6_bestOf 86 = .ok (.getfield 78, 3) := by decide +kernel
theorem dX6_bestOf_89 : decode cX6_bestOf 89 = .ok (.iload 6, 2) := by decide +kernel
theorem dX6_bestOf_91 : decode cX6_bestOf 91 = .ok (.iload 8, 2) := by decide +kernel
theorem dX6_bestOf_93 : decode cX6_bestOf 93 = .ok (.iload_n 3, 1) := by decide +kernel
theorem dX6_bestOf_94 : decode cX6_bestOf 94 = .ok (.invokestatic 173, 3) := by decide +kernel
theorem dX6_bestOf_97 : decode cX6_bestOf 97 = .ok (.ifCond .ne 6, 3) := by decide +kernel
theorem dX6_bestOf_100 : decode cX6_bestOf 100 = .ok (.goto 40, 3) := by decide +kernel
theorem dX6_bestOf_103 : decode cX6_bestOf 103 = .ok (.aload_n 0, 1) := by decide +kernel
theorem dX6_bestOf_104 : decode cX6_bestOf 104 = .ok (.iload 7, 2) := by decide +kernel
theorem dX6_bestOf_106 : decode cX6_bestOf 106 = .ok (.iload 8, 2) := by decide +kernel
theorem dX6_bestOf_108 : decode cX6_bestOf 108 = .ok (.iload_n 3, 1) := by decide +kernel
theorem dX6_bestOf_109 : decode cX6_bestOf 109 = .ok (.invokevirtual 177, 3) := by decide +kernel
theorem dX6_bestOf_112 : decode cX6_bestOf 112 = .ok (.istore 9, 2) := by decide +kernel
theorem dX6_bestOf_114 : decode cX6_bestOf 114 = .ok (.iload 9, 2) := by decide +kernel
theorem dX6_bestOf_116 : decode cX6_bestOf 116 = .ok (.iload 4, 2) := by decide +kernel
theorem dX6_bestOf_118 : decode cX6_bestOf 118 = .ok (.if_icmp .lt 6, 3) := by decide +kernel
theorem dX6_bestOf_121 : decode cX6_bestOf 121 = .ok (.goto 19, 3) := by decide +kernel
theorem dX6_bestOf_124 : decode cX6_bestOf 124 = .ok (.iload 9, 2) := by decide +kernel
theorem dX6_bestOf_126 : decode cX6_bestOf 126 = .ok (.istore 4, 2) := by decide +kernel
theorem dX6_bestOf_128 : decode cX6_bestOf 128 = .ok (.aload_n 0, 1) := by decide +kernel
theorem dX6_bestOf_129 : decode cX6_bestOf 129 = .ok (.iload 7, 2) := by decide +kernel
theorem dX6_bestOf_131 : decode cX6_bestOf 131 = .ok (.putfield 186, 3) := by decide +kernel
theorem dX6_bestOf_134 : decode cX6_bestOf 134 = .ok (.aload_n 0, 1) := by decide +kernel
theorem dX6_bestOf_135 : decode cX6_bestOf 135 = .ok (.iload 8, 2) := by decide +kernel
theorem dX6_bestOf_137 : decode cX6_bestOf 137 = .ok (.putfield 189, 3) := by decide +kernel
theorem dX6_bestOf_140 : decode cX6_bestOf 140 = .ok (.iinc 8 1, 3) := by decide +kernel
theorem dX6_bestOf_143 : decode cX6_bestOf 143 = .ok (.goto (-77), 3) := by decide +kernel
theorem dX6_bestOf_146 : decode cX6_bestOf 146 = .ok (.iinc 7 (-1), 3) := by decide +kernel
theorem dX6_bestOf_149 : decode cX6_bestOf 149 = .ok (.goto (-119), 3) := by decide +kernel
theorem dX6_bestOf_152 : decode cX6_bestOf 152 = .ok (.iload 4, 2) := by decide +kernel
theorem dX6_bestOf_154 : decode cX6_bestOf 154 = .ok (.ldc 164, 2) := by decide +kernel
theorem dX6_bestOf_156 : decode cX6_bestOf 156 = .ok (.if_icmp .ne 8, 3) := by decide +kernel
theorem dX6_bestOf_159 : decode cX6_bestOf 159 = .ok (.ldc 164, 2) := by decide +kernel
theorem dX6_bestOf_161 : decode cX6_bestOf 161 = .ok (.goto 12, 3) := by decide +kernel
theorem dX6_bestOf_164 : decode cX6_bestOf 164 = .ok (.iload 4, 2) := by decide +kernel
theorem dX6_bestOf_166 : decode cX6_bestOf 166 = .ok (.aload_n 0, 1) := by decide +kernel
theorem dX6_bestOf_167 : decode cX6_bestOf 167 = .ok (.iload_n 1, 1) := by decide +kernel
theorem dX6_bestOf_168 : decode cX6_bestOf 168 = .ok (.iload_n 2, 1) := by decide +kernel
theorem dX6_bestOf_169 : decode cX6_bestOf 169 = .ok (.invokevirtual 183, 3) := by decide +kernel
theorem dX6_bestOf_172 : decode cX6_bestOf 172 = .ok (.iadd, 1) := by decide +kernel
theorem dX6_bestOf_173 : decode cX6_bestOf 173 = .ok (.ireturn, 1) := by decide +kernel
set_option maxRecDepth 20000 in
theorem ggX6_best_X6_isSong : GoodIn wsX6_best wsX6_isSong := goodIn_r _ [8, 9, 85, 86, 87, 88, 89, 90, 91, 92, 93, 94, 95, 96, 97, 98, 99, 100, 101, 102, 103, 104, 105, 106, 107, 108, 109, 110, 111, 112, 113, 114, 115, 116, 117, 118, 119, 120] (by decide +kernel) (by decide +kernel)
set_option maxRecDepth 20000 in
theorem gX6_best_X6_isSong : GoodIn wsX6_best (wsV RX6 107 RX6 yX6_isSong wsX6_isSong) := goodIn_app (goodIn_of _ (by decide +kernel)) ggX6_best_X6_isSong
set_option maxRecDepth 20000 in
theorem ggX6_best_X6_bestOf : GoodIn wsX6_best wsX6_bestOf := goodIn_r _ [13, 1, 14, 15, 16, 17, 2, 3, 18, 19, 20, 7, 21, 22, 23, 24, 25, 26, 27, 28, 29, 30, 31, 32, 33, 34, 35, 36, 37, 38, 39, 40, 41, 42, 43, 44, 45, 46, 47, 48, 49, 50, 51, 52, 53, 54, 55, 56, 57, 58, 59, 60, 61, 62, 63, 64, 65, 66, 67, 68, 69, 70, 71, 72, 73, 74, 75, 76, 77, 78, 79, 80, 81, 82, 83, 84, 85, 86, 87, 88, 89, 90, 91, 92, 93, 94, 95, 96, 97, 98, 99, 100, 101, 102, 103, 104, 105, 106, 107, 108, 109, 110, 111, 112, 113, 114, 115, 116, 117, 118, 119, 120] (by decide +kernel) (by decide +kernel)
set_option maxRecDepth 20000 in
theorem gX6_best_X6_bestOf : GoodIn wsX6_best (wsV RX6 192 RX6 yX6_bestOf wsX6_bestOf) := goodIn_app (goodIn_of _ (by decide +kernel)) ggX6_best_X6_bestOf
theorem dX6_best_0 : decode cX6_best 0 = .ok (.aload_n 0, 1) := by decide +kernel
theorem dX6_best_1 : decode cX6_best 1 = .ok (.iload_n 1, 1) := by decide +kernel
theorem dX6_best_2 : decode cX6_best 2 = .ok (.invokevirtual 107, 3) := by decide +kernel
theorem dX6_best_5 : decode cX6_best 5 = .ok (.ifCond .eq 38, 3) := by decide +kernel
theorem dX6_best_8 : decode cX6_best 8 = .ok (.aload_n 0, 1) := by decide +kernel
theorem dX6_best_9 : decode cX6_best 9 = .ok (.iload_n 2, 1) := by decide +kernel
theorem dX6_best_10 : decode cX6_best 10 = .ok (.invokevirtual 107, 3) := by decide +kernel
theorem dX6_best_13 : decode cX6_best 13 = .ok (.ifCond .eq 30, 3) := by decide +kernel
theorem dX6_best_16 : decode cX6_best 16 = .ok (.iload_n 1, 1) := by decide +kernel
theorem dX6_best_17 : decode cX6_best 17 = .ok (.iload_n 2, 1) := by decide +kernel
theorem dX6_best_18 : decode cX6_best 18 = .ok (.if_icmp .eq 25, 3) := by decide +kernel
theorem dX6_best_21 : decode cX6_best 21 = .ok (.iload_n 3, 1) := by decide +kernel
theorem dX6_best_22 : decode cX6_best 22 = .ok (.iconst 1, 1) := by decide +kernel
theorem dX6_best_23 : decode cX6_best 23 = .ok (.if_icmp .lt 20, 3) := by decide +kernel
theorem dX6_best_26 : decode cX6_best 26 = .ok (.iload_n 3, 1) := by decide +kernel
theorem dX6_best_27 : decode cX6_best 27 = .ok (.bipush 8, 2) := by decide +kernel
theorem dX6_best_29 : decode cX6_best 29 = .ok (.if_icmp .gt 14, 3) := by decide +kernel
theorem dX6_best_32 : decode cX6_best 32 = .ok (.iload 4, 2) := by decide +kernel
theorem dX6_best_34 : decode cX6_best 34 = .ok (.ifCond .lt 9, 3) := by decide +kernel
theorem dX6_best_37 : decode cX6_best 37 = .ok (.iload 4, 2) := by decide +kernel
theorem dX6_best_39 : decode cX6_best 39 = .ok (.iconst 2, 1) := by decide +kernel
theorem dX6_best_40 : decode cX6_best 40 = .ok (.if_icmp .le 5, 3) := by decide +kernel
theorem dX6_best_43 : decode cX6_best 43 = .ok (.iconst (-1), 1) := by decide +kernel
theorem dX6_best_44 : decode cX6_best 44 = .ok (.ireturn, 1) := by decide +kernel
theorem dX6_best_45 : decode cX6_best 45 = .ok (.aload_n 0, 1) := by decide +kernel
theorem dX6_best_46 : decode cX6_best 46 = .ok (.iload_n 1, 1) := by decide +kernel
theorem dX6_best_47 : decode cX6_best 47 = .ok (.iload_n 2, 1) := by decide +kernel
theorem dX6_best_48 : decode cX6_best 48 = .ok (.iload_n 3, 1) := by decide +kernel
theorem dX6_best_49 : decode cX6_best 49 = .ok (.invokevirtual 192, 3) := by decide +kernel
theorem dX6_best_52 : decode cX6_best 52 = .ok (.istore 5, 2) := by decide +kernel
theorem dX6_best_54 : decode cX6_best 54 = .ok (.iload 5, 2) := by decide +kernel
theorem dX6_best_56 : decode cX6_best 56 = .ok (.ldc 164, 2) := by decide +kernel
theorem dX6_best_58 : decode cX6_best 58 = .ok (.if_icmp .ne 7, 3) := by decide +kernel
theorem dX6_best_61 : decode cX6_best 61 = .ok (.iconst (-1), 1) := by decide +kernel
theorem dX6_best_62 : decode cX6_best 62 = .ok (.goto 30, 3) := by decide +kernel
theorem dX6_best_65 : decode cX6_best 65 = .ok (.iload 4, 2) := by decide +kernel
theorem dX6_best_67 : decode cX6_best 67 = .ok (.ifCond .ne 8, 3) := by decide +kernel
theorem dX6_best_70 : decode cX6_best 70 = .ok (.iload 5, 2) := by decide +kernel
theorem dX6_best_72 : decode cX6_best 72 = .ok (.goto 20, 3) := by decide +kernel
theorem dX6_best_75 : decode cX6_best 75 = .ok (.iload 4, 2) := by decide +kernel
theorem dX6_best_77 : decode cX6_best 77 = .ok (.iconst 1, 1) := by decide +kernel
theorem dX6_best_78 : decode cX6_best 78 = .ok (.if_icmp .ne 10, 3) := by decide +kernel
theorem dX6_best_81 : decode cX6_best 81 = .ok (.aload_n 0, 1) := by decide +kernel
theorem dX6_best_82 : decode cX6_best 82 = .ok (.getfield 186, 3) := by decide +kernel
theorem dX6_best_85 : decode cX6_best 85 = .ok (.goto 7, 3) := by decide +kernel
theorem dX6_best_88 : decode cX6_best 88 = .ok (.aload_n 0, 1) := by decide +kernel
theorem dX6_best_89 : decode cX6_best 89 = .ok (.getfield 189, 3) := by decide +kernel
theorem dX6_best_92 : decode cX6_best 92 = .ok (.ireturn, 1) := by decide +kernel
set_option maxRecDepth 20000 in
theorem ggX6_must_X6_isSong : GoodIn wsX6_must wsX6_isSong := goodIn_r _ [6, 7, 8, 9, 10, 11, 12, 13, 14, 15, 16, 17, 18, 19, 20, 21, 22, 23, 24, 25, 26, 27, 28, 29, 30, 31, 32, 33, 34, 35, 36, 37, 38, 39, 40, 41, 42, 43] (by decide +kernel) (by decide +kernel)
set_option maxRecDepth 20000 in
theorem gX6_must_X6_isSong : GoodIn wsX6_must (wsV RX6 107 RX6 yX6_isSong wsX6_isSong) := goodIn_app (goodIn_of _ (by decide +kernel)) ggX6_must_X6_isSong
theorem dX6_must_0 : decode cX6_must 0 = .ok (.aload_n 0, 1) := by decide +kernel
theorem dX6_must_1 : decode cX6_must 1 = .ok (.iload_n 1, 1) := by decide +kernel
theorem dX6_must_2 : decode cX6_must 2 = .ok (.invokevirtual 107, 3) := by decide +kernel
theorem dX6_must_5 : decode cX6_must 5 = .ok (.ifCond .eq 25, 3) := by decide +kernel
theorem dX6_must_8 : decode cX6_must 8 = .ok (.aload_n 0, 1) := by decide +kernel
theorem dX6_must_9 : decode cX6_must 9 = .ok (.iload_n 2, 1) := by decide +kernel
theorem dX6_must_10 : decode cX6_must 10 = .ok (.invokevirtual 107, 3) := by decide +kernel
theorem dX6_must_13 : decode cX6_must 13 = .ok (.ifCond .eq 17, 3) := by decide +kernel
theorem dX6_must_16 : decode cX6_must 16 = .ok (.iload_n 1, 1) := by decide +kernel
theorem dX6_must_17 : decode cX6_must 17 = .ok (.iload_n 2, 1) := by decide +kernel
theorem dX6_must_18 : decode cX6_must 18 = .ok (.if_icmp .eq 12, 3) := by decide +kernel
theorem dX6_must_21 : decode cX6_must 21 = .ok (.iload_n 3, 1) := by decide +kernel
theorem dX6_must_22 : decode cX6_must 22 = .ok (.ifCond .lt 8, 3) := by decide +kernel
theorem dX6_must_25 : decode cX6_must 25 = .ok (.iload_n 3, 1) := by decide +kernel
theorem dX6_must_26 : decode cX6_must 26 = .ok (.iconst 2, 1) := by decide +kernel
theorem dX6_must_27 : decode cX6_must 27 = .ok (.if_icmp .le 5, 3) := by decide +kernel
theorem dX6_must_30 : decode cX6_must 30 = .ok (.iconst 0, 1) := by decide +kernel
theorem dX6_must_31 : decode cX6_must 31 = .ok (.ireturn, 1) := by decide +kernel
theorem dX6_must_32 : decode cX6_must 32 = .ok (.aload_n 0, 1) := by decide +kernel
theorem dX6_must_33 : decode cX6_must 33 = .ok (.getfield 47, 3) := by decide +kernel
theorem dX6_must_36 : decode cX6_must 36 = .ok (.bipush 12, 2) := by decide +kernel
theorem dX6_must_38 : decode cX6_must 38 = .ok (.iload_n 1, 1) := by decide +kernel
theorem dX6_must_39 : decode cX6_must 39 = .ok (.imul, 1) := by decide +kernel
theorem dX6_must_40 : decode cX6_must 40 = .ok (.iload_n 2, 1) := by decide +kernel
theorem dX6_must_41 : decode cX6_must 41 = .ok (.iadd, 1) := by decide +kernel
theorem dX6_must_42 : decode cX6_must 42 = .ok (.iload_n 3, 1) := by decide +kernel
theorem dX6_must_43 : decode cX6_must 43 = .ok (.iastore, 1) := by decide +kernel
theorem dX6_must_44 : decode cX6_must 44 = .ok (.iconst 1, 1) := by decide +kernel
theorem dX6_must_45 : decode cX6_must 45 = .ok (.ireturn, 1) := by decide +kernel
theorem dX6_there_0 : decode cX6_there 0 = .ok (.iconst 0, 1) := by decide +kernel
theorem dX6_there_1 : decode cX6_there 1 = .ok (.istore_n 1, 1) := by decide +kernel
theorem dX6_there_2 : decode cX6_there 2 = .ok (.iconst 0, 1) := by decide +kernel
theorem dX6_there_3 : decode cX6_there 3 = .ok (.istore_n 2, 1) := by decide +kernel
theorem dX6_there_4 : decode cX6_there 4 = .ok (.iload_n 2, 1) := by decide +kernel
theorem dX6_there_5 : decode cX6_there 5 = .ok (.bipush 12, 2) := by decide +kernel
theorem dX6_there_7 : decode cX6_there 7 = .ok (.if_icmp .ge 24, 3) := by decide +kernel
theorem dX6_there_10 : decode cX6_there 10 = .ok (.aload_n 0, 1) := by decide +kernel
theorem dX6_there_11 : decode cX6_there 11 = .ok (.getfield 7, 3) := by decide +kernel
theorem dX6_there_14 : decode cX6_there 14 = .ok (.iload_n 2, 1) := by decide +kernel
theorem dX6_there_15 : decode cX6_there 15 = .ok (.baload, 1) := by decide +kernel
theorem dX6_there_16 : decode cX6_there 16 = .ok (.ifCond .eq 9, 3) := by decide +kernel
theorem dX6_there_19 : decode cX6_there 19 = .ok (.iload_n 1, 1) := by decide +kernel
theorem dX6_there_20 : decode cX6_there 20 = .ok (.iconst 1, 1) := by decide +kernel
theorem dX6_there_21 : decode cX6_there 21 = .ok (.iload_n 2, 1) := by decide +kernel
theorem dX6_there_22 : decode cX6_there 22 = .ok (.ishl, 1) := by decide +kernel
theorem dX6_there_23 : decode cX6_there 23 = .ok (.ior, 1) := by decide +kernel
theorem dX6_there_24 : decode cX6_there 24 = .ok (.istore_n 1, 1) := by decide +kernel
theorem dX6_there_25 : decode cX6_there 25 = .ok (.iinc 2 1, 3) := by decide +kernel
theorem dX6_there_28 : decode cX6_there 28 = .ok (.goto (-24), 3) := by decide +kernel
theorem dX6_there_31 : decode cX6_there 31 = .ok (.iload_n 1, 1) := by decide +kernel
theorem dX6_there_32 : decode cX6_there 32 = .ok (.ireturn, 1) := by decide +kernel
set_option maxRecDepth 20000 in
theorem ggX6_edges_X6_bestOf : GoodIn wsX6_edges wsX6_bestOf := goodIn_r _ [9, 2, 10, 11, 12, 13, 14, 15, 16, 17, 18, 8, 19, 20, 21, 22, 23, 24, 25, 26, 27, 28, 29, 30, 31, 32, 33, 34, 35, 36, 37, 38, 39, 40, 41, 42, 43, 44, 45, 46, 47, 48, 49, 50, 51, 52, 53, 54, 55, 56, 57, 58, 59, 60, 61, 62, 63, 64, 65, 66, 67, 68, 69, 70, 71, 72, 73, 74, 75, 76, 77, 78, 79, 80, 81, 82, 83, 84, 85, 86, 87, 88, 89, 90, 91, 92, 93, 94, 95, 96, 97, 98, 99, 100, 101, 102, 103, 104, 105, 106, 107, 108, 109, 110, 111, 112, 113, 114, 115, 116, 117, 118] (by decide +kernel) (by decide +kernel)
set_option maxRecDepth 20000 in
theorem gX6_edges_X6_bestOf : GoodIn wsX6_edges (wsV RX6 192 RX6 yX6_bestOf wsX6_bestOf) := goodIn_app (goodIn_of _ (by decide +kernel)) ggX6_edges_X6_bestOf
theorem dX6_edges_0 : decode cX6_edges 0 = .ok (.iconst 0, 1) := by decide +kernel
theorem dX6_edges_1 : decode cX6_edges 1 = .ok (.istore_n 2, 1) := by decide +kernel
theorem dX6_edges_2 : decode cX6_edges 2 = .ok (.iload_n 2, 1) := by decide +kernel
theorem dX6_edges_3 : decode cX6_edges 3 = .ok (.bipush 12, 2) := by decide +kernel
theorem dX6_edges_5 : decode cX6_edges 5 = .ok (.if_icmp .ge 92, 3) := by decide +kernel
theorem dX6_edges_8 : decode cX6_edges 8 = .ok (.iconst 0, 1) := by decide +kernel
theorem dX6_edges_9 : decode cX6_edges 9 = .ok (.istore_n 3, 1) := by decide +kernel
theorem dX6_edges_10 : decode cX6_edges 10 = .ok (.iload_n 3, 1) := by decide +kernel
theorem dX6_edges_11 : decode cX6_edges 11 = .ok (.bipush 12, 2) := by decide +kernel
theorem dX6_edges_13 : decode cX6_edges 13 = .ok (.if_icmp .ge 78, 3) := by decide +kernel
theorem dX6_edges_16 : decode cX6_edges 16 = .ok (.aload_n 0, 1) := by decide +kernel
theorem dX6_edges_17 : decode cX6_edges 17 = .ok (.getfield 93, 3) := by decide +kernel
theorem dX6_edges_20 : decode cX6_edges 20 = .ok (.bipush 12, 2) := by decide +kernel
theorem dX6_edges_22 : decode cX6_edges 22 = .ok (.iload_n 2, 1) := by decide +kernel
theorem dX6_edges_23 : decode cX6_edges 23 = .ok (.imul, 1) := by decide +kernel
theorem dX6_edges_24 : decode cX6_edges 24 = .ok (.iload_n 3, 1) := by decide +kernel
theorem dX6_edges_25 : decode cX6_edges 25 = .ok (.iadd, 1) := by decide +kernel
theorem dX6_edges_26 : decode cX6_edges 26 = .ok (.ldc 164, 2) := by decide +kernel
theorem dX6_edges_28 : decode cX6_edges 28 = .ok (.iastore, 1) := by decide +kernel
theorem dX6_edges_29 : decode cX6_edges 29 = .ok (.iload_n 2, 1) := by decide +kernel
theorem dX6_edges_30 : decode cX6_edges 30 = .ok (.iload_n 3, 1) := by decide +kernel
theorem dX6_edges_31 : decode cX6_edges 31 = .ok (.if_icmp .eq 54, 3) := by decide +kernel
theorem dX6_edges_34 : decode cX6_edges 34 = .ok (.aload_n 0, 1) := by decide +kernel
theorem dX6_edges_35 : decode cX6_edges 35 = .ok (.getfield 7, 3) := by decide +kernel
theorem dX6_edges_38 : decode cX6_edges 38 = .ok (.iload_n 2, 1) := by decide +kernel
theorem dX6_edges_39 : decode cX6_edges 39 = .ok (.baload, 1) := by decide +kernel
theorem dX6_edges_40 : decode cX6_edges 40 = .ok (.ifCond .eq 45, 3) := by decide +kernel
theorem dX6_edges_43 : decode cX6_edges 43 = .ok (.aload_n 0, 1) := by decide +kernel
theorem dX6_edges_44 : decode cX6_edges 44 = .ok (.getfield 7, 3) := by decide +kernel
theorem dX6_edges_47 : decode cX6_edges 47 = .ok (.iload_n 3, 1) := by decide +kernel
theorem dX6_edges_48 : decode cX6_edges 48 = .ok (.baload, 1) := by decide +kernel
theorem dX6_edges_49 : decode cX6_edges 49 = .ok (.ifCond .eq 36, 3) := by decide +kernel
theorem dX6_edges_52 : decode cX6_edges 52 = .ok (.aload_n 0, 1) := by decide +kernel
theorem dX6_edges_53 : decode cX6_edges 53 = .ok (.getfield 47, 3) := by decide +kernel
theorem dX6_edges_56 : decode cX6_edges 56 = .ok (.bipush 12, 2) := by decide +kernel
theorem dX6_edges_58 : decode cX6_edges 58 = .ok (.iload_n 2, 1) := by decide +kernel
theorem dX6_edges_59 : decode cX6_edges 59 = .ok (.imul, 1) := by decide +kernel
theorem dX6_edges_60 : decode cX6_edges 60 = .ok (.iload_n 3, 1) := by decide +kernel
theorem dX6_edges_61 : decode cX6_edges 61 = .ok (.iadd, 1) := by decide +kernel
theorem dX6_edges_62 : decode cX6_edges 62 = .ok (.iaload, 1) := by decide +kernel
theorem dX6_edges_63 : decode cX6_edges 63 = .ok (.iconst 2, 1) := by decide +kernel
theorem dX6_edges_64 : decode cX6_edges 64 = .ok (.if_icmp .eq 21, 3) := by decide +kernel
theorem dX6_edges_67 : decode cX6_edges 67 = .ok (.aload_n 0, 1) := by decide +kernel
theorem dX6_edges_68 : decode cX6_edges 68 = .ok (.getfield 93, 3) := by decide +kernel
theorem dX6_edges_71 : decode cX6_edges 71 = .ok (.bipush 12, 2) := by decide +kernel
theorem dX6_edges_73 : decode cX6_edges 73 = .ok (.iload_n 2, 1) := by decide +kernel
theorem dX6_edges_74 : decode cX6_edges 74 = .ok (.imul, 1) := by decide +kernel
theorem dX6_edges_75 : decode cX6_edges 75 = .ok (.iload_n 3, 1) := by decide +kernel
theorem dX6_edges_76 : decode cX6_edges 76 = .ok (.iadd, 1) := by decide +kernel
theorem dX6_edges_77 : decode cX6_edges 77 = .ok (.aload_n 0, 1) := by decide +kernel
theorem dX6_edges_78 : decode cX6_edges 78 = .ok (.iload_n 2, 1) := by decide +kernel
theorem dX6_edges_79 : decode cX6_edges 79 = .ok (.iload_n 3, 1) := by decide +kernel
theorem dX6_edges_80 : decode cX6_edges 80 = .ok (.iload_n 1, 1) := by decide +kernel
theorem dX6_edges_81 : decode cX6_edges 81 = .ok (.invokevirtual 192, 3) := by decide +kernel
theorem dX6_edges_84 : decode cX6_edges 84 = .ok (.iastore, 1) := by decide +kernel
theorem dX6_edges_85 : decode cX6_edges 85 = .ok (.iinc 3 1, 3) := by decide +kernel
theorem dX6_edges_88 : decode cX6_edges 88 = .ok (.goto (-78), 3) := by decide +kernel
theorem dX6_edges_91 : decode cX6_edges 91 = .ok (.iinc 2 1, 3) := by decide +kernel
theorem dX6_edges_94 : decode cX6_edges 94 = .ok (.goto (-92), 3) := by decide +kernel
theorem dX6_edges_97 : decode cX6_edges 97 = .ok (.iconst 0, 1) := by decide +kernel
theorem dX6_edges_98 : decode cX6_edges 98 = .ok (.istore_n 2, 1) := by decide +kernel
theorem dX6_edges_99 : decode cX6_edges 99 = .ok (.iload_n 2, 1) := by decide +kernel
theorem dX6_edges_100 : decode cX6_edges 100 = .ok (.bipush 12, 2) := by decide +kernel
theorem dX6_edges_102 : decode cX6_edges 102 = .ok (.if_icmp .ge 97, 3) := by decide +kernel
theorem dX6_edges_105 : decode cX6_edges 105 = .ok (.iconst 0, 1) := by decide +kernel
theorem dX6_edges_106 : decode cX6_edges 106 = .ok (.istore_n 3, 1) := by decide +kernel
theorem dX6_edges_107 : decode cX6_edges 107 = .ok (.iload_n 3, 1) := by decide +kernel
theorem dX6_edges_108 : decode cX6_edges 108 = .ok (.bipush 12, 2) := by decide +kernel
theorem dX6_edges_110 : decode cX6_edges 110 = .ok (.if_icmp .ge 83, 3) := by decide +kernel
theorem dX6_edges_113 : decode cX6_edges 113 = .ok (.aload_n 0, 1) := by decide +kernel
theorem dX6_edges_114 : decode cX6_edges 114 = .ok (.getfield 47, 3) := by decide +kernel
theorem dX6_edges_117 : decode cX6_edges 117 = .ok (.bipush 12, 2) := by decide +kernel
theorem dX6_edges_119 : decode cX6_edges 119 = .ok (.iload_n 2, 1) := by decide +kernel
theorem dX6_edges_120 : decode cX6_edges 120 = .ok (.imul, 1) := by decide +kernel
theorem dX6_edges_121 : decode cX6_edges 121 = .ok (.iload_n 3, 1) := by decide +kernel
theorem dX6_edges_122 : decode cX6_edges 122 = .ok (.iadd, 1) := by decide +kernel
theorem dX6_edges_123 : decode cX6_edges 123 = .ok (.iaload, 1) := by decide +kernel
theorem dX6_edges_124 : decode cX6_edges 124 = .ok (.iconst 1, 1) := by decide +kernel
theorem dX6_edges_125 : decode cX6_edges 125 = .ok (.if_icmp .eq 6, 3) := by decide +kernel
theorem dX6_edges_128 : decode cX6_edges 128 = .ok (.goto 59, 3) := by decide +kernel
theorem dX6_edges_131 : decode cX6_edges 131 = .ok (.iconst 0, 1) := by decide +kernel
theorem dX6_edges_132 : decode cX6_edges 132 = .ok (.istore 4, 2) := by decide +kernel
theorem dX6_edges_134 : decode cX6_edges 134 = .ok (.iload 4, 2) := by decide +kernel
theorem dX6_edges_136 : decode cX6_edges 136 = .ok (.bipush 12, 2) := by decide +kernel
theorem dX6_edges_138 : decode cX6_edges 138 = .ok (.if_icmp .ge 49, 3) := by decide +kernel
theorem dX6_edges_141 : decode cX6_edges 141 = .ok (.iload 4, 2) := by decide +kernel
theorem dX6_edges_143 : decode cX6_edges 143 = .ok (.iload_n 3, 1) := by decide +kernel
theorem dX6_edges_144 : decode cX6_edges 144 = .ok (.if_icmp .eq 17, 3) := by decide +kernel
theorem dX6_edges_147 : decode cX6_edges 147 = .ok (.aload_n 0, 1) := by decide +kernel
theorem dX6_edges_148 : decode cX6_edges 148 = .ok (.getfield 93, 3) := by decide +kernel
theorem dX6_edges_151 : decode cX6_edges 151 = .ok (.bipush 12, 2) := by decide +kernel
theorem dX6_edges_153 : decode cX6_edges 153 = .ok (.iload_n 2, 1) := by decide +kernel
theorem dX6_edges_154 : decode cX6_edges 154 = .ok (.imul, 1) := by decide +kernel
theorem dX6_edges_155 : decode cX6_edges 155 = .ok (.iload 4, 2) := by decide +kernel
theorem dX6_edges_157 : decode cX6_edges 157 = .ok (.iadd, 1) := by decide +kernel
theorem dX6_edges_158 : decode cX6_edges 158 = .ok (.ldc 164, 2) := by decide +kernel
theorem dX6_edges_160 : decode cX6_edges 160 = .ok (.iastore, 1) := by decide +kernel
theorem dX6_edges_161 : decode cX6_edges 161 = .ok (.iload 4, 2) := by decide +kernel
theorem dX6_edges_163 : decode cX6_edges 163 = .ok (.iload_n 2, 1) := by decide +kernel
theorem dX6_edges_164 : decode cX6_edges 164 = .ok (.if_icmp .eq 17, 3) := by decide +kernel
theorem dX6_edges_167 : decode cX6_edges 167 = .ok (.aload_n 0, 1) := by decide +kernel
theorem dX6_edges_168 : decode cX6_edges 168 = .ok (.getfield 93, 3) := by decide +kernel
theorem dX6_edges_171 : decode cX6_edges 171 = .ok (.bipush 12, 2) := by decide +kernel
theorem dX6_edges_173 : decode cX6_edges 173 = .ok (.iload 4, 2) := by decide +kernel
theorem dX6_edges_175 : decode cX6_edges 175 = .ok (.imul, 1) := by decide +kernel
theorem dX6_edges_176 : decode cX6_edges 176 = .ok (.iload_n 3, 1) := by decide +kernel
theorem dX6_edges_177 : decode cX6_edges 177 = .ok (.iadd, 1) := by decide +kernel
theorem dX6_edges_178 : decode cX6_edges 178 = .ok (.ldc 164, 2) := by decide +kernel
theorem dX6_edges_180 : decode cX6_edges 180 = .ok (.iastore, 1) := by decide +kernel
theorem dX6_edges_181 : decode cX6_edges 181 = .ok (.iinc 4 1, 3) := by decide +kernel
theorem dX6_edges_184 : decode cX6_edges 184 = .ok (.goto (-50), 3) := by decide +kernel
theorem dX6_edges_187 : decode cX6_edges 187 = .ok (.iinc 3 1, 3) := by decide +kernel
theorem dX6_edges_190 : decode cX6_edges 190 = .ok (.goto (-83), 3) := by decide +kernel
theorem dX6_edges_193 : decode cX6_edges 193 = .ok (.iinc 2 1, 3) := by decide +kernel
theorem dX6_edges_196 : decode cX6_edges 196 = .ok (.goto (-97), 3) := by decide +kernel
theorem dX6_edges_199 : decode cX6_edges 199 = .ok (.return_, 1) := by decide +kernel
theorem dX6_isBound_0 : decode cX6_isBound 0 = .ok (.iconst 0, 1) := by decide +kernel
theorem dX6_isBound_1 : decode cX6_isBound 1 = .ok (.istore_n 3, 1) := by decide +kernel
theorem dX6_isBound_2 : decode cX6_isBound 2 = .ok (.iload_n 3, 1) := by decide +kernel
theorem dX6_isBound_3 : decode cX6_isBound 3 = .ok (.bipush 12, 2) := by decide +kernel
theorem dX6_isBound_5 : decode cX6_isBound 5 = .ok (.if_icmp .ge 39, 3) := by decide +kernel
theorem dX6_isBound_8 : decode cX6_isBound 8 = .ok (.aload_n 0, 1) := by decide +kernel
theorem dX6_isBound_9 : decode cX6_isBound 9 = .ok (.getfield 47, 3) := by decide +kernel
theorem dX6_isBound_12 : decode cX6_isBound 12 = .ok (.iload_n 2, 1) := by decide +kernel
theorem dX6_isBound_13 : decode cX6_isBound 13 = .ok (.ifCond .eq 12, 3) := by decide +kernel
theorem dX6_isBound_16 : decode cX6_isBound 16 = .ok (.bipush 12, 2) := by decide +kernel
theorem dX6_isBound_18 : decode cX6_isBound 18 = .ok (.iload_n 3, 1) := by decide +kernel
theorem dX6_isBound_19 : decode cX6_isBound 19 = .ok (.imul, 1) := by decide +kernel
theorem dX6_isBound_20 : decode cX6_isBound 20 = .ok (.iload_n 1, 1) := by decide +kernel
theorem dX6_isBound_21 : decode cX6_isBound 21 = .ok (.iadd, 1) := by decide +kernel
theorem dX6_isBound_22 : decode cX6_isBound 22 = .ok (.goto 9, 3) := by decide +kernel
theorem dX6_isBound_25 : decode cX6_isBound 25 = .ok (.bipush 12, 2) := by decide +kernel
theorem dX6_isBound_27 : decode cX6_isBound 27 = .ok (.iload_n 1, 1) := by decide +kernel
theorem dX6_isBound_28 : decode cX6_isBound 28 = .ok (.imul, 1) := by decide +kernel
theorem dX6_isBound_29 : decode cX6_isBound 29 = .ok (.iload_n 3, 1) := by decide +kernel
theorem dX6_isBound_30 : decode cX6_isBound 30 = .ok (.iadd, 1) := by decide +kernel
theorem dX6_isBound_31 : decode cX6_isBound 31 = .ok (.iaload, 1) := by decide +kernel
theorem dX6_isBound_32 : decode cX6_isBound 32 = .ok (.iconst 1, 1) := by decide +kernel
theorem dX6_isBound_33 : decode cX6_isBound 33 = .ok (.if_icmp .ne 5, 3) := by decide +kernel
theorem dX6_isBound_36 : decode cX6_isBound 36 = .ok (.iconst 1, 1) := by decide +kernel
theorem dX6_isBound_37 : decode cX6_isBound 37 = .ok (.ireturn, 1) := by decide +kernel
theorem dX6_isBound_38 : decode cX6_isBound 38 = .ok (.iinc 3 1, 3) := by decide +kernel
theorem dX6_isBound_41 : decode cX6_isBound 41 = .ok (.goto (-39), 3) := by decide +kernel
theorem dX6_isBound_44 : decode cX6_isBound 44 = .ok (.iconst 0, 1) := by decide +kernel
theorem dX6_isBound_45 : decode cX6_isBound 45 = .ok (.ireturn, 1) := by decide +kernel
set_option maxRecDepth 20000 in
theorem ggX6_weighs_X6_isBound : GoodIn wsX6_weighs wsX6_isBound := goodIn_r _ [8, 9, 10, 11, 12, 13, 14, 15, 16, 17, 18, 19, 20, 21, 22, 23, 24, 25, 26, 27, 28, 29, 30, 31, 32, 33, 34, 35, 36, 37, 38, 39, 40, 41, 42, 43, 44, 45] (by decide +kernel) (by decide +kernel)
set_option maxRecDepth 20000 in
theorem gX6_weighs_X6_isBound : GoodIn wsX6_weighs (wsV RX6 195 RX6 yX6_isBound wsX6_isBound) := goodIn_app (goodIn_of _ (by decide +kernel)) ggX6_weighs_X6_isBound
theorem dX6_weighs_0 : decode cX6_weighs 0 = .ok (.iconst 0, 1) := by decide +kernel
theorem dX6_weighs_1 : decode cX6_weighs 1 = .ok (.istore_n 2, 1) := by decide +kernel
theorem dX6_weighs_2 : decode cX6_weighs 2 = .ok (.iload_n 2, 1) := by decide +kernel
theorem dX6_weighs_3 : decode cX6_weighs 3 = .ok (.iload_n 1, 1) := by decide +kernel
theorem dX6_weighs_4 : decode cX6_weighs 4 = .ok (.if_icmp .gt 178, 3) := by decide +kernel
theorem dX6_weighs_7 : decode cX6_weighs 7 = .ok (.iload_n 2, 1) := by decide +kernel
theorem dX6_weighs_8 : decode cX6_weighs 8 = .ok (.iload_n 1, 1) := by decide +kernel
theorem dX6_weighs_9 : decode cX6_weighs 9 = .ok (.iconst (-1), 1) := by decide +kernel
theorem dX6_weighs_10 : decode cX6_weighs 10 = .ok (.ixor, 1) := by decide +kernel
theorem dX6_weighs_11 : decode cX6_weighs 11 = .ok (.iand, 1) := by decide +kernel
theorem dX6_weighs_12 : decode cX6_weighs 12 = .ok (.ifCond .eq 6, 3) := by decide +kernel
theorem dX6_weighs_15 : decode cX6_weighs 15 = .ok (.goto 161, 3) := by decide +kernel
theorem dX6_weighs_18 : decode cX6_weighs 18 = .ok (.iconst 0, 1) := by decide +kernel
theorem dX6_weighs_19 : decode cX6_weighs 19 = .ok (.istore_n 3, 1) := by decide +kernel
theorem dX6_weighs_20 : decode cX6_weighs 20 = .ok (.iload_n 3, 1) := by decide +kernel
theorem dX6_weighs_21 : decode cX6_weighs 21 = .ok (.bipush 12, 2) := by decide +kernel
theorem dX6_weighs_23 : decode cX6_weighs 23 = .ok (.if_icmp .ge 153, 3) := by decide +kernel
theorem dX6_weighs_26 : decode cX6_weighs 26 = .ok (.iload_n 2, 1) := by decide +kernel
theorem dX6_weighs_27 : decode cX6_weighs 27 = .ok (.ifCond .ne 16, 3) := by decide +kernel
theorem dX6_weighs_30 : decode cX6_weighs 30 = .ok (.aload_n 0, 1) := by decide +kernel
theorem dX6_weighs_31 : decode cX6_weighs 31 = .ok (.iload_n 3, 1) := by decide +kernel
theorem dX6_weighs_32 : decode cX6_weighs 32 = .ok (.iconst 0, 1) := by decide +kernel
theorem dX6_weighs_33 : decode cX6_weighs 33 = .ok (.invokevirtual 195, 3) := by decide +kernel
theorem dX6_weighs_36 : decode cX6_weighs 36 = .ok (.ifCond .ne 7, 3) := by decide +kernel
theorem dX6_weighs_39 : decode cX6_weighs 39 = .ok (.iconst 0, 1) := by decide +kernel
theorem dX6_weighs_40 : decode cX6_weighs 40 = .ok (.goto 5, 3) := by decide +kernel
theorem dX6_weighs_43 : decode cX6_weighs 43 = .ok (.ldc 164, 2) := by decide +kernel
theorem dX6_weighs_45 : decode cX6_weighs 45 = .ok (.istore 4, 2) := by decide +kernel
theorem dX6_weighs_47 : decode cX6_weighs 47 = .ok (.iconst 0, 1) := by decide +kernel
theorem dX6_weighs_48 : decode cX6_weighs 48 = .ok (.istore 5, 2) := by decide +kernel
theorem dX6_weighs_50 : decode cX6_weighs 50 = .ok (.iload 5, 2) := by decide +kernel
theorem dX6_weighs_52 : decode cX6_weighs 52 = .ok (.bipush 12, 2) := by decide +kernel
theorem dX6_weighs_54 : decode cX6_weighs 54 = .ok (.if_icmp .ge 103, 3) := by decide +kernel
theorem dX6_weighs_57 : decode cX6_weighs 57 = .ok (.iload_n 2, 1) := by decide +kernel
theorem dX6_weighs_58 : decode cX6_weighs 58 = .ok (.iload 5, 2) := by decide +kernel
theorem dX6_weighs_60 : decode cX6_weighs 60 = .ok (.ishr, 1) := by decide +kernel
theorem dX6_weighs_61 : decode cX6_weighs 61 = .ok (.iconst 1, 1) := by decide +kernel
theorem dX6_weighs_62 : decode cX6_weighs 62 = .ok (.iand, 1) := by decide +kernel
theorem dX6_weighs_63 : decode cX6_weighs 63 = .ok (.ifCond .eq 88, 3) := by decide +kernel
theorem dX6_weighs_66 : decode cX6_weighs 66 = .ok (.aload_n 0, 1) := by decide +kernel
theorem dX6_weighs_67 : decode cX6_weighs 67 = .ok (.getfield 93, 3) := by decide +kernel
theorem dX6_weighs_70 : decode cX6_weighs 70 = .ok (.bipush 12, 2) := by decide +kernel
theorem dX6_weighs_72 : decode cX6_weighs 72 = .ok (.iload_n 3, 1) := by decide +kernel
theorem dX6_weighs_73 : decode cX6_weighs 73 = .ok (.imul, 1) := by decide +kernel
theorem dX6_weighs_74 : decode cX6_weighs 74 = .ok (.iload 5, 2) := by decide +kernel
theorem dX6_weighs_76 : decode cX6_weighs 76 = .ok (.iadd, 1) := by decide +kernel
theorem dX6_weighs_77 : decode cX6_weighs 77 = .ok (.iaload, 1) := by decide +kernel
theorem dX6_weighs_78 : decode cX6_weighs 78 = .ok (.ldc 164, 2) := by decide +kernel
theorem dX6_weighs_80 : decode cX6_weighs 80 = .ok (.if_icmp .ne 6, 3) := by decide +kernel
theorem dX6_weighs_83 : decode cX6_weighs 83 = .ok (.goto 68, 3) := by decide +kernel
theorem dX6_weighs_86 : decode cX6_weighs 86 = .ok (.aload_n 0, 1) := by decide +kernel
theorem dX6_weighs_87 : decode cX6_weighs 87 = .ok (.getfield 97, 3) := by decide +kernel
theorem dX6_weighs_90 : decode cX6_weighs 90 = .ok (.bipush 12, 2) := by decide +kernel
theorem dX6_weighs_92 : decode cX6_weighs 92 = .ok (.iload_n 2, 1) := by decide +kernel
theorem dX6_weighs_93 : decode cX6_weighs 93 = .ok (.iconst 1, 1) := by decide +kernel
theorem dX6_weighs_94 : decode cX6_weighs 94 = .ok (.iload 5, 2) := by decide +kernel
theorem dX6_weighs_96 : decode cX6_weighs 96 = .ok (.ishl, 1) := by decide +kernel
theorem dX6_weighs_97 : decode cX6_weighs 97 = .ok (.iconst (-1), 1) := by decide +kernel
theorem dX6_weighs_98 : decode cX6_weighs 98 = .ok (.ixor, 1) := by decide +kernel
theorem dX6_weighs_99 : decode cX6_weighs 99 = .ok (.iand, 1) := by decide +kernel
theorem dX6_weighs_100 : decode cX6_weighs 100 = .ok (.imul, 1) := by decide +kernel
theorem dX6_weighs_101 : decode cX6_weighs 101 = .ok (.iload 5, 2) := by decide +kernel
theorem dX6_weighs_103 : decode cX6_weighs 103 = .ok (.iadd, 1) := by decide +kernel
theorem dX6_weighs_104 : decode cX6_weighs 104 = .ok (.iaload, 1) := by decide +kernel
theorem dX6_weighs_105 : decode cX6_weighs 105 = .ok (.istore 6, 2) := by decide +kernel
theorem dX6_weighs_107 : decode cX6_weighs 107 = .ok (.iload 6, 2) := by decide +kernel
theorem dX6_weighs_109 : decode cX6_weighs 109 = .ok (.ldc 164, 2) := by decide +kernel
theorem dX6_weighs_111 : decode cX6_weighs 111 = .ok (.if_icmp .ge 40, 3) := by decide +kernel
theorem dX6_weighs_114 : decode cX6_weighs 114 = .ok (.iload 6, 2) := by decide +kernel
theorem dX6_weighs_116 : decode cX6_weighs 116 = .ok (.aload_n 0, 1) := by decide +kernel
theorem dX6_weighs_117 : decode cX6_weighs 117 = .ok (.getfield 93, 3) := by decide +kernel
theorem dX6_weighs_120 : decode cX6_weighs 120 = .ok (.bipush 12, 2) := by decide +kernel
theorem dX6_weighs_122 : decode cX6_weighs 122 = .ok (.iload_n 3, 1) := by decide +kernel
theorem dX6_weighs_123 : decode cX6_weighs 123 = .ok (.imul, 1) := by decide +kernel
theorem dX6_weighs_124 : decode cX6_weighs 124 = .ok (.iload 5, 2) := by decide +kernel
theorem dX6_weighs_126 : decode cX6_weighs 126 = .ok (.iadd, 1) := by decide +kernel
theorem dX6_weighs_127 : decode cX6_weighs 127 = .ok (.iaload, 1) := by decide +kernel
theorem dX6_weighs_128 : decode cX6_weighs 128 = .ok (.iadd, 1) := by decide +kernel
theorem dX6_weighs_129 : decode cX6_weighs 129 = .ok (.iload 4, 2) := by decide +kernel
theorem dX6_weighs_131 : decode cX6_weighs 131 = .ok (.if_icmp .ge 20, 3) := by decide +kernel
theorem dX6_weighs_134 : decode cX6_weighs 134 = .ok (.iload 6, 2) := by decide +kernel
theorem dX6_weighs_136 : decode cX6_weighs 136 = .ok (.aload_n 0, 1) := by decide +kernel
theorem dX6_weighs_137 : decode cX6_weighs 137 = .ok (.getfield 93, 3) := by decide +kernel
theorem dX6_weighs_140 : decode cX6_weighs 140 = .ok (.bipush 12, 2) := by decide +kernel
theorem dX6_weighs_142 : decode cX6_weighs 142 = .ok (.iload_n 3, 1) := by decide +kernel
theorem dX6_weighs_143 : decode cX6_weighs 143 = .ok (.imul, 1) := by decide +kernel
theorem dX6_weighs_144 : decode cX6_weighs 144 = .ok (.iload 5, 2) := by decide +kernel
theorem dX6_weighs_146 : decode cX6_weighs 146 = .ok (.iadd, 1) := by decide +kernel
theorem dX6_weighs_147 : decode cX6_weighs 147 = .ok (.iaload, 1) := by decide +kernel
theorem dX6_weighs_148 : decode cX6_weighs 148 = .ok (.iadd, 1) := by decide +kernel
theorem dX6_weighs_149 : decode cX6_weighs 149 = .ok (.istore 4, 2) := by decide +kernel
theorem dX6_weighs_151 : decode cX6_weighs 151 = .ok (.iinc 5 1, 3) := by decide +kernel
theorem dX6_weighs_154 : decode cX6_weighs 154 = .ok (.goto (-104), 3) := by decide +kernel
theorem dX6_weighs_157 : decode cX6_weighs 157 = .ok (.aload_n 0, 1) := by decide +kernel
theorem dX6_weighs_158 : decode cX6_weighs 158 = .ok (.getfield 97, 3) := by decide +kernel
theorem dX6_weighs_161 : decode cX6_weighs 161 = .ok (.bipush 12, 2) := by decide +kernel
theorem dX6_weighs_163 : decode cX6_weighs 163 = .ok (.iload_n 2, 1) := by decide +kernel
theorem dX6_weighs_164 : decode cX6_weighs 164 = .ok (.imul, 1) := by decide +kernel
theorem dX6_weighs_165 : decode cX6_weighs 165 = .ok (.iload_n 3, 1) := by decide +kernel
theorem dX6_weighs_166 : decode cX6_weighs 166 = .ok (.iadd, 1) := by decide +kernel
theorem dX6_weighs_167 : decode cX6_weighs 167 = .ok (.iload 4, 2) := by decide +kernel
theorem dX6_weighs_169 : decode cX6_weighs 169 = .ok (.iastore, 1) := by decide +kernel
theorem dX6_weighs_170 : decode cX6_weighs 170 = .ok (.iinc 3 1, 3) := by decide +kernel
theorem dX6_weighs_173 : decode cX6_weighs 173 = .ok (.goto (-153), 3) := by decide +kernel
theorem dX6_weighs_176 : decode cX6_weighs 176 = .ok (.iinc 2 1, 3) := by decide +kernel
theorem dX6_weighs_179 : decode cX6_weighs 179 = .ok (.goto (-177), 3) := by decide +kernel
theorem dX6_weighs_182 : decode cX6_weighs 182 = .ok (.return_, 1) := by decide +kernel
set_option maxRecDepth 20000 in
theorem ggX6_night_X6_there : GoodIn wsX6_night wsX6_there := goodIn_r _ [10, 11, 102, 103, 104, 105, 106, 107, 108, 109, 110, 111, 112, 113, 114, 115, 116, 117, 118, 119, 120, 121, 122, 123, 124, 125, 126, 127, 128, 129, 130, 131, 132, 133, 134, 135, 136, 137] (by decide +kernel) (by decide +kernel)
set_option maxRecDepth 20000 in
theorem gX6_night_X6_there : GoodIn wsX6_night (wsV RX6 199 RX6 yX6_there wsX6_there) := goodIn_app (goodIn_of _ (by decide +kernel)) ggX6_night_X6_there
set_option maxRecDepth 20000 in
theorem ggX6_night_X6_edges : GoodIn wsX6_night wsX6_edges := goodIn_r _ [15, 5, 1, 11, 16, 17, 18, 19, 9, 20, 21, 22, 23, 24, 25, 26, 27, 28, 29, 30, 31, 32, 33, 34, 35, 36, 37, 38, 39, 40, 41, 42, 43, 44, 45, 46, 47, 48, 49, 50, 51, 52, 53, 54, 55, 56, 57, 58, 59, 60, 61, 62, 63, 64, 65, 66, 67, 68, 69, 70, 71, 72, 73, 74, 75, 76, 77, 78, 79, 80, 81, 82, 83, 84, 85, 86, 87, 88, 89, 90, 91, 92, 93, 102, 103, 104, 105, 106, 107, 108, 109, 110, 111, 112, 113, 114, 115, 116, 117, 118, 119, 120, 121, 122, 123, 124, 125, 126, 127, 128, 129, 130, 131, 132, 133, 134, 135, 136, 137] (by decide +kernel) (by decide +kernel)
set_option maxRecDepth 20000 in
theorem gX6_night_X6_edges : GoodIn wsX6_night (wsV RX6 203 RX6 yX6_edges wsX6_edges) := goodIn_app (goodIn_of _ (by decide +kernel)) ggX6_night_X6_edges
set_option maxRecDepth 20000 in
theorem ggX6_night_X6_weighs : GoodIn wsX6_night wsX6_weighs := goodIn_r _ [97, 1, 5, 2, 98, 99, 100, 9, 101, 16, 102, 103, 104, 105, 106, 107, 108, 109, 110, 111, 112, 113, 114, 115, 116, 117, 118, 119, 120, 121, 122, 123, 124, 125, 126, 127, 128, 129, 130, 131, 132, 133, 134, 135, 136, 137] (by decide +kernel) (by decide +kernel)
set_option maxRecDepth 20000 in
theorem gX6_night_X6_weighs : GoodIn wsX6_night (wsV RX6 206 RX6 yX6_weighs wsX6_weighs) := goodIn_app (goodIn_of _ (by decide +kernel)) ggX6_night_X6_weighs
set_option maxRecDepth 20000 in
theorem ggX6_night_X6_isBound : GoodIn wsX6_night wsX6_isBound := goodIn_r _ [101, 16, 102, 103, 104, 105, 106, 107, 108, 109, 110, 111, 112, 113, 114, 115, 116, 117, 118, 119, 120, 121, 122, 123, 124, 125, 126, 127, 128, 129, 130, 131, 132, 133, 134, 135, 136, 137] (by decide +kernel) (by decide +kernel)
set_option maxRecDepth 20000 in
theorem gX6_night_X6_isBound : GoodIn wsX6_night (wsV RX6 195 RX6 yX6_isBound wsX6_isBound) := goodIn_app (goodIn_of _ (by decide +kernel)) ggX6_night_X6_isBound
theorem dX6_night_0 : decode cX6_night 0 = .ok (.aload_n 0, 1) := by decide +kernel
theorem dX6_night_1 : decode cX6_night 1 = .ok (.invokevirtual 199, 3) := by decide +kernel
theorem dX6_night_4 : decode cX6_night 4 = .ok (.istore_n 2, 1) := by decide +kernel
theorem dX6_night_5 : decode cX6_night 5 = .ok (.iload_n 1, 1) := by decide +kernel
theorem dX6_night_6 : decode cX6_night 6 = .ok (.iconst 1, 1) := by decide +kernel
theorem dX6_night_7 : decode cX6_night 7 = .ok (.if_icmp .lt 13, 3) := by decide +kernel
theorem dX6_night_10 : decode cX6_night 10 = .ok (.iload_n 1, 1) := by decide +kernel
theorem dX6_night_11 : decode cX6_night 11 = .ok (.bipush 8, 2) := by decide +kernel
theorem dX6_night_13 : decode cX6_night 13 = .ok (.if_icmp .gt 7, 3) := by decide +kernel
theorem dX6_night_16 : decode cX6_night 16 = .ok (.iload_n 2, 1) := by decide +kernel
theorem dX6_night_17 : decode cX6_night 17 = .ok (.ifCond .ne 5, 3) := by decide +kernel
theorem dX6_night_20 : decode cX6_night 20 = .ok (.iconst (-1), 1) := by decide +kernel
theorem dX6_night_21 : decode cX6_night 21 = .ok (.ireturn, 1) := by decide +kernel
theorem dX6_night_22 : decode cX6_night 22 = .ok (.aload_n 0, 1) := by decide +kernel
theorem dX6_night_23 : decode cX6_night 23 = .ok (.iload_n 1, 1) := by decide +kernel
theorem dX6_night_24 : decode cX6_night 24 = .ok (.invokevirtual 203, 3) := by decide +kernel
theorem dX6_night_27 : decode cX6_night 27 = .ok (.aload_n 0, 1) := by decide +kernel
theorem dX6_night_28 : decode cX6_night 28 = .ok (.iload_n 2, 1) := by decide +kernel
theorem dX6_night_29 : decode cX6_night 29 = .ok (.invokevirtual 206, 3) := by decide +kernel
theorem dX6_night_32 : decode cX6_night 32 = .ok (.ldc 164, 2) := by decide +kernel
theorem dX6_night_34 : decode cX6_night 34 = .ok (.istore_n 3, 1) := by decide +kernel
theorem dX6_night_35 : decode cX6_night 35 = .ok (.iconst (-1), 1) := by decide +kernel
theorem dX6_night_36 : decode cX6_night 36 = .ok (.istore 4, 2) := by decide +kernel
theorem dX6_night_38 : decode cX6_night 38 = .ok (.iconst 0, 1) := by decide +kernel
theorem dX6_night_39 : decode cX6_night 39 = .ok (.istore 5, 2) := by decide +kernel
theorem dX6_night_41 : decode cX6_night 41 = .ok (.iload 5, 2) := by decide +kernel
theorem dX6_night_43 : decode cX6_night 43 = .ok (.bipush 12, 2) := by decide +kernel
theorem dX6_night_45 : decode cX6_night 45 = .ok (.if_icmp .ge 78, 3) := by decide +kernel
theorem dX6_night_48 : decode cX6_night 48 = .ok (.iload_n 2, 1) := by decide +kernel
theorem dX6_night_49 : decode cX6_night 49 = .ok (.iload 5, 2) := by decide +kernel
theorem dX6_night_51 : decode cX6_night 51 = .ok (.ishr, 1) := by decide +kernel
theorem dX6_night_52 : decode cX6_night 52 = .ok (.iconst 1, 1) := by decide +kernel
theorem dX6_night_53 : decode cX6_night 53 = .ok (.iand, 1) := by decide +kernel
theorem dX6_night_54 : decode cX6_night 54 = .ok (.ifCond .eq 63, 3) := by decide +kernel
theorem dX6_night_57 : decode cX6_night 57 = .ok (.aload_n 0, 1) := by decide +kernel
theorem dX6_night_58 : decode cX6_night 58 = .ok (.iload 5, 2) := by decide +kernel
theorem dX6_night_60 : decode cX6_night 60 = .ok (.iconst 1, 1) := by decide +kernel
theorem dX6_night_61 : decode cX6_night 61 = .ok (.invokevirtual 195, 3) := by decide +kernel
theorem dX6_night_64 : decode cX6_night 64 = .ok (.ifCond .ne 53, 3) := by decide +kernel
theorem dX6_night_67 : decode cX6_night 67 = .ok (.aload_n 0, 1) := by decide +kernel
theorem dX6_night_68 : decode cX6_night 68 = .ok (.getfield 97, 3) := by decide +kernel
theorem dX6_night_71 : decode cX6_night 71 = .ok (.bipush 12, 2) := by decide +kernel
theorem dX6_night_73 : decode cX6_night 73 = .ok (.iload_n 2, 1) := by decide +kernel
theorem dX6_night_74 : decode cX6_night 74 = .ok (.iconst 1, 1) := by decide +kernel
theorem dX6_night_75 : decode cX6_night 75 = .ok (.iload 5, 2) := by decide +kernel
theorem dX6_night_77 : decode cX6_night 77 = .ok (.ishl, 1) := by decide +kernel
theorem dX6_night_78 : decode cX6_night 78 = .ok (.iconst (-1), 1) := by decide +kernel
theorem dX6_night_79 : decode cX6_night 79 = .ok (.ixor, 1) := by decide +kernel
theorem dX6_night_80 : decode cX6_night 80 = .ok (.iand, 1) := by decide +kernel
theorem dX6_night_81 : decode cX6_night 81 = .ok (.imul, 1) := by decide +kernel
theorem dX6_night_82 : decode cX6_night 82 = .ok (.iload 5, 2) := by decide +kernel
theorem dX6_night_84 : decode cX6_night 84 = .ok (.iadd, 1) := by decide +kernel
theorem dX6_night_85 : decode cX6_night 85 = .ok (.iaload, 1) := by decide +kernel
theorem dX6_night_86 : decode cX6_night 86 = .ok (.iload_n 3, 1) := by decide +kernel
theorem dX6_night_87 : decode cX6_night 87 = .ok (.if_icmp .lt 6, 3) := by decide +kernel
theorem dX6_night_90 : decode cX6_night 90 = .ok (.goto 27, 3) := by decide +kernel
theorem dX6_night_93 : decode cX6_night 93 = .ok (.aload_n 0, 1) := by decide +kernel
theorem dX6_night_94 : decode cX6_night 94 = .ok (.getfield 97, 3) := by decide +kernel
theorem dX6_night_97 : decode cX6_night 97 = .ok (.bipush 12, 2) := by decide +kernel
theorem dX6_night_99 : decode cX6_night 99 = .ok (.iload_n 2, 1) := by decide +kernel
theorem dX6_night_100 : decode cX6_night 100 = .ok (.iconst 1, 1) := by decide +kernel
theorem dX6_night_101 : decode cX6_night 101 = .ok (.iload 5, 2) := by decide +kernel
theorem dX6_night_103 : decode cX6_night 103 = .ok (.ishl, 1) := by decide +kernel
theorem dX6_night_104 : decode cX6_night 104 = .ok (.iconst (-1), 1) := by decide +kernel
theorem dX6_night_105 : decode cX6_night 105 = .ok (.ixor, 1) := by decide +kernel
theorem dX6_night_106 : decode cX6_night 106 = .ok (.iand, 1) := by decide +kernel
theorem dX6_night_107 : decode cX6_night 107 = .ok (.imul, 1) := by decide +kernel
theorem dX6_night_108 : decode cX6_night 108 = .ok (.iload 5, 2) := by decide +kernel
theorem dX6_night_110 : decode cX6_night 110 = .ok (.iadd, 1) := by decide +kernel
theorem dX6_night_111 : decode cX6_night 111 = .ok (.iaload, 1) := by decide +kernel
theorem dX6_night_112 : decode cX6_night 112 = .ok (.istore_n 3, 1) := by decide +kernel
theorem dX6_night_113 : decode cX6_night 113 = .ok (.iload 5, 2) := by decide +kernel
theorem dX6_night_115 : decode cX6_night 115 = .ok (.istore 4, 2) := by decide +kernel
theorem dX6_night_117 : decode cX6_night 117 = .ok (.iinc 5 1, 3) := by decide +kernel
theorem dX6_night_120 : decode cX6_night 120 = .ok (.goto (-79), 3) := by decide +kernel
theorem dX6_night_123 : decode cX6_night 123 = .ok (.iload 4, 2) := by decide +kernel
theorem dX6_night_125 : decode cX6_night 125 = .ok (.iconst (-1), 1) := by decide +kernel
theorem dX6_night_126 : decode cX6_night 126 = .ok (.if_icmp .ne 6, 3) := by decide +kernel
theorem dX6_night_129 : decode cX6_night 129 = .ok (.bipush (-2), 2) := by decide +kernel
theorem dX6_night_131 : decode cX6_night 131 = .ok (.ireturn, 1) := by decide +kernel
theorem dX6_night_132 : decode cX6_night 132 = .ok (.aload_n 0, 1) := by decide +kernel
theorem dX6_night_133 : decode cX6_night 133 = .ok (.iconst 0, 1) := by decide +kernel
theorem dX6_night_134 : decode cX6_night 134 = .ok (.putfield 209, 3) := by decide +kernel
theorem dX6_night_137 : decode cX6_night 137 = .ok (.iload_n 2, 1) := by decide +kernel
theorem dX6_night_138 : decode cX6_night 138 = .ok (.iconst 1, 1) := by decide +kernel
theorem dX6_night_139 : decode cX6_night 139 = .ok (.iload 4, 2) := by decide +kernel
theorem dX6_night_141 : decode cX6_night 141 = .ok (.ishl, 1) := by decide +kernel
theorem dX6_night_142 : decode cX6_night 142 = .ok (.iconst (-1), 1) := by decide +kernel
theorem dX6_night_143 : decode cX6_night 143 = .ok (.ixor, 1) := by decide +kernel
theorem dX6_night_144 : decode cX6_night 144 = .ok (.iand, 1) := by decide +kernel
theorem dX6_night_145 : decode cX6_night 145 = .ok (.istore 5, 2) := by decide +kernel
theorem dX6_night_147 : decode cX6_night 147 = .ok (.aload_n 0, 1) := by decide +kernel
theorem dX6_night_148 : decode cX6_night 148 = .ok (.getfield 100, 3) := by decide +kernel
theorem dX6_night_151 : decode cX6_night 151 = .ok (.aload_n 0, 1) := by decide +kernel
theorem dX6_night_152 : decode cX6_night 152 = .ok (.getfield 209, 3) := by decide +kernel
theorem dX6_night_155 : decode cX6_night 155 = .ok (.iload 4, 2) := by decide +kernel
theorem dX6_night_157 : decode cX6_night 157 = .ok (.iastore, 1) := by decide +kernel
theorem dX6_night_158 : decode cX6_night 158 = .ok (.aload_n 0, 1) := by decide +kernel
theorem dX6_night_159 : decode cX6_night 159 = .ok (.dup, 1) := by decide +kernel
theorem dX6_night_160 : decode cX6_night 160 = .ok (.getfield 209, 3) := by decide +kernel
theorem dX6_night_163 : decode cX6_night 163 = .ok (.iconst 1, 1) := by decide +kernel
theorem dX6_night_164 : decode cX6_night 164 = .ok (.iadd, 1) := by decide +kernel
theorem dX6_night_165 : decode cX6_night 165 = .ok (.putfield 209, 3) := by decide +kernel
theorem dX6_night_168 : decode cX6_night 168 = .ok (.iload 5, 2) := by decide +kernel
theorem dX6_night_170 : decode cX6_night 170 = .ok (.ifCond .eq 163, 3) := by decide +kernel
theorem dX6_night_173 : decode cX6_night 173 = .ok (.iconst (-1), 1) := by decide +kernel
theorem dX6_night_174 : decode cX6_night 174 = .ok (.istore 6, 2) := by decide +kernel
theorem dX6_night_176 : decode cX6_night 176 = .ok (.iconst 0, 1) := by decide +kernel
theorem dX6_night_177 : decode cX6_night 177 = .ok (.istore 7, 2) := by decide +kernel
theorem dX6_night_179 : decode cX6_night 179 = .ok (.iload 7, 2) := by decide +kernel
theorem dX6_night_181 : decode cX6_night 181 = .ok (.bipush 12, 2) := by decide +kernel
theorem dX6_night_183 : decode cX6_night 183 = .ok (.if_icmp .ge 111, 3) := by decide +kernel
theorem dX6_night_186 : decode cX6_night 186 = .ok (.iload 6, 2) := by decide +kernel
theorem dX6_night_188 : decode cX6_night 188 = .ok (.iconst (-1), 1) := by decide +kernel
theorem dX6_night_189 : decode cX6_night 189 = .ok (.if_icmp .ne 105, 3) := by decide +kernel
theorem dX6_night_192 : decode cX6_night 192 = .ok (.iload 5, 2) := by decide +kernel
theorem dX6_night_194 : decode cX6_night 194 = .ok (.iload 7, 2) := by decide +kernel
theorem dX6_night_196 : decode cX6_night 196 = .ok (.ishr, 1) := by decide +kernel
theorem dX6_night_197 : decode cX6_night 197 = .ok (.iconst 1, 1) := by decide +kernel
theorem dX6_night_198 : decode cX6_night 198 = .ok (.iand, 1) := by decide +kernel
theorem dX6_night_199 : decode cX6_night 199 = .ok (.ifCond .eq 89, 3) := by decide +kernel
theorem dX6_night_202 : decode cX6_night 202 = .ok (.aload_n 0, 1) := by decide +kernel
theorem dX6_night_203 : decode cX6_night 203 = .ok (.getfield 93, 3) := by decide +kernel
theorem dX6_night_206 : decode cX6_night 206 = .ok (.bipush 12, 2) := by decide +kernel
theorem dX6_night_208 : decode cX6_night 208 = .ok (.iload 4, 2) := by decide +kernel
theorem dX6_night_210 : decode cX6_night 210 = .ok (.imul, 1) := by decide +kernel
theorem dX6_night_211 : decode cX6_night 211 = .ok (.iload 7, 2) := by decide +kernel
theorem dX6_night_213 : decode cX6_night 213 = .ok (.iadd, 1) := by decide +kernel
theorem dX6_night_214 : decode cX6_night 214 = .ok (.iaload, 1) := by decide +kernel
theorem dX6_night_215 : decode cX6_night 215 = .ok (.ldc 164, 2) := by decide +kernel
theorem dX6_night_217 : decode cX6_night 217 = .ok (.if_icmp .ne 6, 3) := by decide +kernel
theorem dX6_night_220 : decode cX6_night 220 = .ok (.goto 68, 3) := by decide +kernel
theorem dX6_night_223 : decode cX6_night 223 = .ok (.aload_n 0, 1) := by decide +kernel
theorem dX6_night_224 : decode cX6_night 224 = .ok (.getfield 97, 3) := by decide +kernel
theorem dX6_night_227 : decode cX6_night 227 = .ok (.bipush 12, 2) := by decide +kernel
theorem dX6_night_229 : decode cX6_night 229 = .ok (.iload 5, 2) := by decide +kernel
theorem dX6_night_231 : decode cX6_night 231 = .ok (.iconst 1, 1) := by decide +kernel
theorem dX6_night_232 : decode cX6_night 232 = .ok (.iload 7, 2) := by decide +kernel
theorem dX6_night_234 : decode cX6_night 234 = .ok (.ishl, 1) := by decide +kernel
theorem dX6_night_235 : decode cX6_night 235 = .ok (.iconst (-1), 1) := by decide +kernel
theorem dX6_night_236 : decode cX6_night 236 = .ok (.ixor, 1) := by decide +kernel
theorem dX6_night_237 : decode cX6_night 237 = .ok (.iand, 1) := by decide +kernel
theorem dX6_night_238 : decode cX6_night 238 = .ok (.imul, 1) := by decide +kernel
theorem dX6_night_239 : decode cX6_night 239 = .ok (.iload 7, 2) := by decide +kernel
theorem dX6_night_241 : decode cX6_night 241 = .ok (.iadd, 1) := by decide +kernel
theorem dX6_night_242 : decode cX6_night 242 = .ok (.iaload, 1) := by decide +kernel
theorem dX6_night_243 : decode cX6_night 243 = .ok (.istore 8, 2) := by decide +kernel
theorem dX6_night_245 : decode cX6_night 245 = .ok (.iload 8, 2) := by decide +kernel
theorem dX6_night_247 : decode cX6_night 247 = .ok (.ldc 164, 2) := by decide +kernel
theorem dX6_night_249 : decode cX6_night 249 = .ok (.if_icmp .ge 39, 3) := by decide +kernel
theorem dX6_night_252 : decode cX6_night 252 = .ok (.iload 8, 2) := by decide +kernel
theorem dX6_night_254 : decode cX6_night 254 = .ok (.aload_n 0, 1) := by decide +kernel
theorem dX6_night_255 : decode cX6_night 255 = .ok (.getfield 93, 3) := by decide +kernel
theorem dX6_night_258 : decode cX6_night 258 = .ok (.bipush 12, 2) := by decide +kernel
theorem dX6_night_260 : decode cX6_night 260 = .ok (.iload 4, 2) := by decide +kernel
theorem dX6_night_262 : decode cX6_night 262 = .ok (.imul, 1) := by decide +kernel
theorem dX6_night_263 : decode cX6_night 263 = .ok (.iload 7, 2) := by decide +kernel
theorem dX6_night_265 : decode cX6_night 265 = .ok (.iadd, 1) := by decide +kernel
theorem dX6_night_266 : decode cX6_night 266 = .ok (.iaload, 1) := by decide +kernel
theorem dX6_night_267 : decode cX6_night 267 = .ok (.iadd, 1) := by decide +kernel
theorem dX6_night_268 : decode cX6_night 268 = .ok (.aload_n 0, 1) := by decide +kernel
theorem dX6_night_269 : decode cX6_night 269 = .ok (.getfield 97, 3) := by decide +kernel
theorem dX6_night_272 : decode cX6_night 272 = .ok (.bipush 12, 2) := by decide +kernel
theorem dX6_night_274 : decode cX6_night 274 = .ok (.iload 5, 2) := by decide +kernel
theorem dX6_night_276 : decode cX6_night 276 = .ok (.imul, 1) := by decide +kernel
theorem dX6_night_277 : decode cX6_night 277 = .ok (.iload 4, 2) := by decide +kernel
theorem dX6_night_279 : decode cX6_night 279 = .ok (.iadd, 1) := by decide +kernel
theorem dX6_night_280 : decode cX6_night 280 = .ok (.iaload, 1) := by decide +kernel
theorem dX6_night_281 : decode cX6_night 281 = .ok (.if_icmp .ne 7, 3) := by decide +kernel
theorem dX6_night_284 : decode cX6_night 284 = .ok (.iload 7, 2) := by decide +kernel
theorem dX6_night_286 : decode cX6_night 286 = .ok (.istore 6, 2) := by decide +kernel
theorem dX6_night_288 : decode cX6_night 288 = .ok (.iinc 7 1, 3) := by decide +kernel
theorem dX6_night_291 : decode cX6_night 291 = .ok (.goto (-112), 3) := by decide +kernel
theorem dX6_night_294 : decode cX6_night 294 = .ok (.iload 6, 2) := by decide +kernel
theorem dX6_night_296 : decode cX6_night 296 = .ok (.istore 4, 2) := by decide +kernel
theorem dX6_night_298 : decode cX6_night 298 = .ok (.iload 5, 2) := by decide +kernel
theorem dX6_night_300 : decode cX6_night 300 = .ok (.iconst 1, 1) := by decide +kernel
theorem dX6_night_301 : decode cX6_night 301 = .ok (.iload 4, 2) := by decide +kernel
theorem dX6_night_303 : decode cX6_night 303 = .ok (.ishl, 1) := by decide +kernel
theorem dX6_night_304 : decode cX6_night 304 = .ok (.iconst (-1), 1) := by decide +kernel
theorem dX6_night_305 : decode cX6_night 305 = .ok (.ixor, 1) := by decide +kernel
theorem dX6_night_306 : decode cX6_night 306 = .ok (.iand, 1) := by decide +kernel
theorem dX6_night_307 : decode cX6_night 307 = .ok (.istore 5, 2) := by decide +kernel
theorem dX6_night_309 : decode cX6_night 309 = .ok (.aload_n 0, 1) := by decide +kernel
theorem dX6_night_310 : decode cX6_night 310 = .ok (.getfield 100, 3) := by decide +kernel
theorem dX6_night_313 : decode cX6_night 313 = .ok (.aload_n 0, 1) := by decide +kernel
theorem dX6_night_314 : decode cX6_night 314 = .ok (.getfield 209, 3) := by decide +kernel
theorem dX6_night_317 : decode cX6_night 317 = .ok (.iload 4, 2) := by decide +kernel
theorem dX6_night_319 : decode cX6_night 319 = .ok (.iastore, 1) := by decide +kernel
theorem dX6_night_320 : decode cX6_night 320 = .ok (.aload_n 0, 1) := by decide +kernel
theorem dX6_night_321 : decode cX6_night 321 = .ok (.dup, 1) := by decide +kernel
theorem dX6_night_322 : decode cX6_night 322 = .ok (.getfield 209, 3) := by decide +kernel
theorem dX6_night_325 : decode cX6_night 325 = .ok (.iconst 1, 1) := by decide +kernel
theorem dX6_night_326 : decode cX6_night 326 = .ok (.iadd, 1) := by decide +kernel
theorem dX6_night_327 : decode cX6_night 327 = .ok (.putfield 209, 3) := by decide +kernel
theorem dX6_night_330 : decode cX6_night 330 = .ok (.goto (-162), 3) := by decide +kernel
theorem dX6_night_333 : decode cX6_night 333 = .ok (.iload_n 3, 1) := by decide +kernel
theorem dX6_night_334 : decode cX6_night 334 = .ok (.ireturn, 1) := by decide +kernel
theorem dX6_order_0 : decode cX6_order 0 = .ok (.iload_n 1, 1) := by decide +kernel
theorem dX6_order_1 : decode cX6_order 1 = .ok (.ifCond .lt 20, 3) := by decide +kernel
theorem dX6_order_4 : decode cX6_order 4 = .ok (.iload_n 1, 1) := by decide +kernel
theorem dX6_order_5 : decode cX6_order 5 = .ok (.aload_n 0, 1) := by decide +kernel
theorem dX6_order_6 : decode cX6_order 6 = .ok (.getfield 209, 3) := by decide +kernel
theorem dX6_order_9 : decode cX6_order 9 = .ok (.if_icmp .ge 12, 3) := by decide +kernel
theorem dX6_order_12 : decode cX6_order 12 = .ok (.aload_n 0, 1) := by decide +kernel
theorem dX6_order_13 : decode cX6_order 13 = .ok (.getfield 100, 3) := by decide +kernel
theorem dX6_order_16 : decode cX6_order 16 = .ok (.iload_n 1, 1) := by decide +kernel
theorem dX6_order_17 : decode cX6_order 17 = .ok (.iaload, 1) := by decide +kernel
theorem dX6_order_18 : decode cX6_order 18 = .ok (.goto 4, 3) := by decide +kernel
theorem dX6_order_21 : decode cX6_order 21 = .ok (.iconst (-1), 1) := by decide +kernel
theorem dX6_order_22 : decode cX6_order 22 = .ok (.ireturn, 1) := by decide +kernel
set_option maxRecDepth 20000 in
theorem ggX6_mend_X6_size : GoodIn wsX6_mend wsX6_size := goodIn_r _ [7] (by decide +kernel) (by decide +kernel)
set_option maxRecDepth 20000 in
theorem gX6_mend_X6_size : GoodIn wsX6_mend (va_wsS RX6 144 yX6_size wsX6_size) := goodIn_app (goodIn_of _ (by decide +kernel)) ggX6_mend_X6_size
theorem dX6_mend_0 : decode cX6_mend 0 = .ok (.iload_n 1, 1) := by decide +kernel
theorem dX6_mend_1 : decode cX6_mend 1 = .ok (.ldc 212, 2) := by decide +kernel
theorem dX6_mend_3 : decode cX6_mend 3 = .ok (.if_icmp .lt 22, 3) := by decide +kernel
theorem dX6_mend_6 : decode cX6_mend 6 = .ok (.iload_n 1, 1) := by decide +kernel
theorem dX6_mend_7 : decode cX6_mend 7 = .ok (.ldc 213, 2) := by decide +kernel
theorem dX6_mend_9 : decode cX6_mend 9 = .ok (.if_icmp .gt 16, 3) := by decide +kernel
theorem dX6_mend_12 : decode cX6_mend 12 = .ok (.iload_n 2, 1) := by decide +kernel
theorem dX6_mend_13 : decode cX6_mend 13 = .ok (.bipush 20, 2) := by decide +kernel
theorem dX6_mend_15 : decode cX6_mend 15 = .ok (.if_icmp .lt 10, 3) := by decide +kernel
theorem dX6_mend_18 : decode cX6_mend 18 = .ok (.iload_n 2, 1) := by decide +kernel
theorem dX6_mend_19 : decode cX6_mend 19 = .ok (.sipush 400, 3) := by decide +kernel
theorem dX6_mend_22 : decode cX6_mend 22 = .ok (.if_icmp .le 5, 3) := by decide +kernel
theorem dX6_mend_25 : decode cX6_mend 25 = .ok (.iconst (-1), 1) := by decide +kernel
theorem dX6_mend_26 : decode cX6_mend 26 = .ok (.ireturn, 1) := by decide +kernel
theorem dX6_mend_27 : decode cX6_mend 27 = .ok (.iload_n 2, 1) := by decide +kernel
theorem dX6_mend_28 : decode cX6_mend 28 = .ok (.aload_n 0, 1) := by decide +kernel
theorem dX6_mend_29 : decode cX6_mend 29 = .ok (.getfield 59, 3) := by decide +kernel
theorem dX6_mend_32 : decode cX6_mend 32 = .ok (.imul, 1) := by decide +kernel
theorem dX6_mend_33 : decode cX6_mend 33 = .ok (.sipush 1000, 3) := by decide +kernel
theorem dX6_mend_36 : decode cX6_mend 36 = .ok (.idiv, 1) := by decide +kernel
theorem dX6_mend_37 : decode cX6_mend 37 = .ok (.istore_n 3, 1) := by decide +kernel
theorem dX6_mend_38 : decode cX6_mend 38 = .ok (.iload_n 1, 1) := by decide +kernel
theorem dX6_mend_39 : decode cX6_mend 39 = .ok (.ifCond .ne 5, 3) := by decide +kernel
theorem dX6_mend_42 : decode cX6_mend 42 = .ok (.iconst 0, 1) := by decide +kernel
theorem dX6_mend_43 : decode cX6_mend 43 = .ok (.ireturn, 1) := by decide +kernel
theorem dX6_mend_44 : decode cX6_mend 44 = .ok (.iload_n 3, 1) := by decide +kernel
theorem dX6_mend_45 : decode cX6_mend 45 = .ok (.ifCond .ne 5, 3) := by decide +kernel
theorem dX6_mend_48 : decode cX6_mend 48 = .ok (.iconst (-1), 1) := by decide +kernel
theorem dX6_mend_49 : decode cX6_mend 49 = .ok (.ireturn, 1) := by decide +kernel
theorem dX6_mend_50 : decode cX6_mend 50 = .ok (.iload_n 1, 1) := by decide +kernel
theorem dX6_mend_51 : decode cX6_mend 51 = .ok (.invokestatic 144, 3) := by decide +kernel
theorem dX6_mend_54 : decode cX6_mend 54 = .ok (.iload_n 3, 1) := by decide +kernel
theorem dX6_mend_55 : decode cX6_mend 55 = .ok (.iadd, 1) := by decide +kernel
theorem dX6_mend_56 : decode cX6_mend 56 = .ok (.iconst 1, 1) := by decide +kernel
theorem dX6_mend_57 : decode cX6_mend 57 = .ok (.isub, 1) := by decide +kernel
theorem dX6_mend_58 : decode cX6_mend 58 = .ok (.iload_n 3, 1) := by decide +kernel
theorem dX6_mend_59 : decode cX6_mend 59 = .ok (.idiv, 1) := by decide +kernel
theorem dX6_mend_60 : decode cX6_mend 60 = .ok (.istore 4, 2) := by decide +kernel
theorem dX6_mend_62 : decode cX6_mend 62 = .ok (.iload 4, 2) := by decide +kernel
theorem dX6_mend_64 : decode cX6_mend 64 = .ok (.iconst 3, 1) := by decide +kernel
theorem dX6_mend_65 : decode cX6_mend 65 = .ok (.iadd, 1) := by decide +kernel
theorem dX6_mend_66 : decode cX6_mend 66 = .ok (.iconst 4, 1) := by decide +kernel
theorem dX6_mend_67 : decode cX6_mend 67 = .ok (.idiv, 1) := by decide +kernel
theorem dX6_mend_68 : decode cX6_mend 68 = .ok (.ireturn, 1) := by decide +kernel
end
section
theorem dJ9_floorDiv_7cf53_0 : decode cJ9_floorDiv_7cf53 0 = .ok (.iload_n 0, 1) := by decide +kernel
theorem dJ9_floorDiv_7cf53_1 : decode cJ9_floorDiv_7cf53 1 = .ok (.iload_n 1, 1) := by decide +kernel
theorem dJ9_floorDiv_7cf53_2 : decode cJ9_floorDiv_7cf53 2 = .ok (.idiv, 1) := by decide +kernel
theorem dJ9_floorDiv_7cf53_3 : decode cJ9_floorDiv_7cf53 3 = .ok (.istore_n 2, 1) := by decide +kernel
theorem dJ9_floorDiv_7cf53_4 : decode cJ9_floorDiv_7cf53 4 = .ok (.iload_n 0, 1) := by decide +kernel
theorem dJ9_floorDiv_7cf53_5 : decode cJ9_floorDiv_7cf53 5 = .ok (.iload_n 1, 1) := by decide +kernel
theorem dJ9_floorDiv_7cf53_6 : decode cJ9_floorDiv_7cf53 6 = .ok (.ixor, 1) := by decide +kernel
theorem dJ9_floorDiv_7cf53_7 : decode cJ9_floorDiv_7cf53 7 = .ok (.ifCond .ge 14, 3) := by decide +kernel
theorem dJ9_floorDiv_7cf53_10 : decode cJ9_floorDiv_7cf53 10 = .ok (.iload_n 2, 1) := by decide +kernel
theorem dJ9_floorDiv_7cf53_11 : decode cJ9_floorDiv_7cf53 11 = .ok (.iload_n 1, 1) := by decide +kernel
theorem dJ9_floorDiv_7cf53_12 : decode cJ9_floorDiv_7cf53 12 = .ok (.imul, 1) := by decide +kernel
theorem dJ9_floorDiv_7cf53_13 : decode cJ9_floorDiv_7cf53 13 = .ok (.iload_n 0, 1) := by decide +kernel
theorem dJ9_floorDiv_7cf53_14 : decode cJ9_floorDiv_7cf53 14 = .ok (.if_icmp .eq 7, 3) := by decide +kernel
theorem dJ9_floorDiv_7cf53_17 : decode cJ9_floorDiv_7cf53 17 = .ok (.iload_n 2, 1) := by decide +kernel
theorem dJ9_floorDiv_7cf53_18 : decode cJ9_floorDiv_7cf53 18 = .ok (.iconst 1, 1) := by decide +kernel
theorem dJ9_floorDiv_7cf53_19 : decode cJ9_floorDiv_7cf53 19 = .ok (.isub, 1) := by decide +kernel
theorem dJ9_floorDiv_7cf53_20 : decode cJ9_floorDiv_7cf53 20 = .ok (.ireturn, 1) := by decide +kernel
theorem dJ9_floorDiv_7cf53_21 : decode cJ9_floorDiv_7cf53 21 = .ok (.iload_n 2, 1) := by decide +kernel
theorem dJ9_floorDiv_7cf53_22 : decode cJ9_floorDiv_7cf53 22 = .ok (.ireturn, 1) := by decide +kernel
theorem dJ9_abs_0f7a4_0 : decode cJ9_abs_0f7a4 0 = .ok (.iload_n 0, 1) := by decide +kernel
theorem dJ9_abs_0f7a4_1 : decode cJ9_abs_0f7a4 1 = .ok (.ifCond .ge 8, 3) := by decide +kernel
theorem dJ9_abs_0f7a4_4 : decode cJ9_abs_0f7a4 4 = .ok (.iload_n 0, 1) := by decide +kernel
theorem dJ9_abs_0f7a4_5 : decode cJ9_abs_0f7a4 5 = .ok (.ineg, 1) := by decide +kernel
theorem dJ9_abs_0f7a4_6 : decode cJ9_abs_0f7a4 6 = .ok (.goto 4, 3) := by decide +kernel
theorem dJ9_abs_0f7a4_9 : decode cJ9_abs_0f7a4 9 = .ok (.iload_n 0, 1) := by decide +kernel
theorem dJ9_abs_0f7a4_10 : decode cJ9_abs_0f7a4 10 = .ok (.ireturn, 1) := by decide +kernel
theorem dJ9_max_7cf53_0 : decode cJ9_max_7cf53 0 = .ok (.iload_n 0, 1) := by decide +kernel
theorem dJ9_max_7cf53_1 : decode cJ9_max_7cf53 1 = .ok (.iload_n 1, 1) := by decide +kernel
theorem dJ9_max_7cf53_2 : decode cJ9_max_7cf53 2 = .ok (.if_icmp .lt 7, 3) := by decide +kernel
theorem dJ9_max_7cf53_5 : decode cJ9_max_7cf53 5 = .ok (.iload_n 0, 1) := by decide +kernel
theorem dJ9_max_7cf53_6 : decode cJ9_max_7cf53 6 = .ok (.goto 4, 3) := by decide +kernel
theorem dJ9_max_7cf53_9 : decode cJ9_max_7cf53 9 = .ok (.iload_n 1, 1) := by decide +kernel
theorem dJ9_max_7cf53_10 : decode cJ9_max_7cf53 10 = .ok (.ireturn, 1) := by decide +kernel
theorem dJ9_min_7cf53_0 : decode cJ9_min_7cf53 0 = .ok (.iload_n 0, 1) := by decide +kernel
theorem dJ9_min_7cf53_1 : decode cJ9_min_7cf53 1 = .ok (.iload_n 1, 1) := by decide +kernel
theorem dJ9_min_7cf53_2 : decode cJ9_min_7cf53 2 = .ok (.if_icmp .gt 7, 3) := by decide +kernel
theorem dJ9_min_7cf53_5 : decode cJ9_min_7cf53 5 = .ok (.iload_n 0, 1) := by decide +kernel
theorem dJ9_min_7cf53_6 : decode cJ9_min_7cf53 6 = .ok (.goto 4, 3) := by decide +kernel
theorem dJ9_min_7cf53_9 : decode cJ9_min_7cf53 9 = .ok (.iload_n 1, 1) := by decide +kernel
theorem dJ9_min_7cf53_10 : decode cJ9_min_7cf53 10 = .ok (.ireturn, 1) := by decide +kernel
theorem dJ7_fill_53178_0 : decode cJ7_fill_53178 0 = .ok (.iconst 0, 1) := by decide +kernel
theorem dJ7_fill_53178_1 : decode cJ7_fill_53178 1 = .ok (.istore_n 2, 1) := by decide +kernel
theorem dJ7_fill_53178_2 : decode cJ7_fill_53178 2 = .ok (.aload_n 0, 1) := by decide +kernel
theorem dJ7_fill_53178_3 : decode cJ7_fill_53178 3 = .ok (.arraylength, 1) := by decide +kernel
theorem dJ7_fill_53178_4 : decode cJ7_fill_53178 4 = .ok (.istore_n 3, 1) := by decide +kernel
theorem dJ7_fill_53178_5 : decode cJ7_fill_53178 5 = .ok (.iload_n 2, 1) := by decide +kernel
theorem dJ7_fill_53178_6 : decode cJ7_fill_53178 6 = .ok (.iload_n 3, 1) := by decide +kernel
theorem dJ7_fill_53178_7 : decode cJ7_fill_53178 7 = .ok (.if_icmp .ge 13, 3) := by decide +kernel
theorem dJ7_fill_53178_10 : decode cJ7_fill_53178 10 = .ok (.aload_n 0, 1) := by decide +kernel
theorem dJ7_fill_53178_11 : decode cJ7_fill_53178 11 = .ok (.iload_n 2, 1) := by decide +kernel
theorem dJ7_fill_53178_12 : decode cJ7_fill_53178 12 = .ok (.iload_n 1, 1) := by decide +kernel
theorem dJ7_fill_53178_13 : decode cJ7_fill_53178 13 = .ok (.iastore, 1) := by decide +kernel
theorem dJ7_fill_53178_14 : decode cJ7_fill_53178 14 = .ok (.iinc 2 1, 3) := by decide +kernel
theorem dJ7_fill_53178_17 : decode cJ7_fill_53178 17 = .ok (.goto (-12), 3) := by decide +kernel
theorem dJ7_fill_53178_20 : decode cJ7_fill_53178 20 = .ok (.return_, 1) := by decide +kernel
set_option maxRecDepth 20000 in
theorem ggL_law_X5_init : GoodIn wsL_law wsX5_init := goodIn_r _ [8, 9, 10, 11, 12, 13, 14, 15, 16, 17, 18, 19, 20, 21, 22, 23, 24, 25, 26, 27, 28, 29, 30, 31, 32, 33, 34, 35, 36, 37, 38, 39, 40, 41, 42, 43, 44, 45, 46, 47, 48, 49, 50, 51, 52, 53, 54, 55, 56, 57, 58, 59, 60, 61, 62, 63, 64, 65, 66, 67, 68, 69, 70, 71, 72, 73, 74, 75, 76, 77, 652, 653, 654, 655, 656, 657, 694, 695, 696, 697, 698, 699, 700, 701, 702, 703, 704, 705, 706, 707, 708, 709, 710, 711, 712, 713, 714, 715, 716, 717, 718, 719] (by decide +kernel) (by decide +kernel)
set_option maxRecDepth 20000 in
theorem gL_law_X5_init : GoodIn wsL_law (wsX5_init) := ggL_law_X5_init
set_option maxRecDepth 20000 in
theorem ggL_law_X6_init : GoodIn wsL_law wsX6_init := goodIn_r _ [80, 81, 10, 11, 71, 82, 14, 83, 84, 85, 86, 87, 88, 89, 90, 91, 92, 93, 94, 95, 96, 97, 98, 99, 100, 101, 102, 103, 104, 105, 106, 107, 108, 109, 110, 111, 112, 658, 659, 660, 661, 662, 663, 664, 665, 666, 667, 668, 669, 670, 671, 672, 673, 674, 675, 676, 677, 678, 679, 680, 681, 682, 683, 684, 685, 686, 687, 688, 689, 690, 691, 692, 693] (by decide +kernel) (by decide +kernel)
set_option maxRecDepth 20000 in
theorem gL_law_X6_init : GoodIn wsL_law (wsX6_init) := ggL_law_X6_init
set_option maxRecDepth 20000 in
theorem ggL_law_X5_song : GoodIn wsL_law wsX5_song := goodIn_r _ [116, 13, 12, 117, 118, 119, 120, 2, 121, 122, 123, 124, 125, 126, 127, 128, 15, 23, 129, 130, 131, 22, 132, 48, 133, 134, 135, 136, 137, 138, 139, 10, 11, 140, 141, 142, 143, 144, 145, 14, 146, 147, 148, 149, 150, 151, 152, 153, 154, 155, 156, 157, 158, 54, 55, 56, 159, 160, 161, 162, 163, 164, 165, 166, 167, 168, 169, 170, 171, 172, 173, 174, 175, 176, 177, 178, 179, 180, 181, 182, 183, 184, 185, 186, 652, 653, 654, 655, 656, 657, 720, 721, 722, 723, 724, 725, 726, 727, 728, 729, 730, 731, 732, 733, 734, 735, 736, 737, 738, 700, 701, 702, 703, 704, 705, 706, 707] (by decide +kernel) (by decide +kernel)
set_option maxRecDepth 20000 in
theorem gL_law_X5_song : GoodIn wsL_law (wsV RL 13 RX5 yX5_song wsX5_song) := goodIn_app (goodIn_of _ (by decide +kernel)) ggL_law_X5_song
set_option maxRecDepth 20000 in
theorem ggL_law_X6_song : GoodIn wsL_law wsX6_song := goodIn_r _ [190, 82, 83, 84, 85, 86, 87, 88, 89, 90, 91, 92, 93, 191, 192, 193, 5, 194, 94, 658, 659, 660, 661, 662, 663, 664, 665, 666, 667, 668, 669, 670, 671, 672, 673, 674, 675, 676, 677, 678, 679, 680, 681, 682, 683, 684, 685, 686, 687, 688, 689, 690, 691, 692, 693] (by decide +kernel) (by decide +kernel)
set_option maxRecDepth 20000 in
theorem gL_law_X6_song : GoodIn wsL_law (wsV RL 17 RX6 yX6_song wsX6_song) := goodIn_app (goodIn_of _ (by decide +kernel)) ggL_law_X6_song
set_option maxRecDepth 20000 in
theorem ggL_law_X5_about : GoodIn wsL_law wsX5_about := goodIn_r _ [198, 199, 200, 201, 23, 202, 203, 204, 2, 205, 13, 119, 120, 121, 129, 130, 131, 22, 132, 48, 133, 134, 135, 720, 721, 722, 723, 724, 725, 726, 727, 728, 729, 730, 731, 732, 733, 734, 735, 736, 737, 738, 652, 653, 654, 655, 656, 657, 700, 701, 702, 703, 704, 705, 706, 707] (by decide +kernel) (by decide +kernel)
set_option maxRecDepth 20000 in
theorem gL_law_X5_about : GoodIn wsL_law (wsV RL 18 RX5 yX5_about wsX5_about) := goodIn_app (goodIn_of _ (by decide +kernel)) ggL_law_X5_about
set_option maxRecDepth 20000 in
theorem ggL_law_X6_about : GoodIn wsL_law wsX6_about := goodIn_r _ [209, 87, 88, 89, 210, 211, 212, 5, 213, 82, 658, 659, 660, 661, 662, 663, 664, 665, 666, 667, 668, 669, 670, 671, 672, 673, 674, 675, 676, 677, 678, 679, 680, 681, 682, 683, 684, 685, 686, 687, 688, 689, 690, 691, 692, 693] (by decide +kernel) (by decide +kernel)
set_option maxRecDepth 20000 in
theorem gL_law_X6_about : GoodIn wsL_law (wsV RL 22 RX6 yX6_about wsX6_about) := goodIn_app (goodIn_of _ (by decide +kernel)) ggL_law_X6_about
set_option maxRecDepth 20000 in
theorem ggL_law_X5_bar : GoodIn wsL_law wsX5_bar := goodIn_r _ [217, 218, 23, 202, 203, 204, 2, 205, 13, 119, 120, 121, 219, 220, 221, 118, 222, 146, 159, 160, 161, 162, 155, 147, 148, 163, 164, 165, 166, 154, 156, 157, 167, 168, 169, 170, 171, 172, 173, 174, 175, 176, 177, 178, 179, 180, 181, 145, 144, 143, 182, 149, 150, 152, 151, 183, 184, 185, 186, 129, 130, 131, 22, 132, 48, 133, 134, 135, 720, 721, 722, 723, 724, 725, 726, 727, 728, 729, 730, 731, 732, 733, 734, 735, 736, 737, 738, 652, 653, 654, 655, 656, 657, 700, 701, 702, 703, 704, 705, 706, 707] (by decide +kernel) (by decide +kernel)
set_option maxRecDepth 20000 in
theorem gL_law_X5_bar : GoodIn wsL_law (wsV RL 23 RX5 yX5_bar wsX5_bar) := goodIn_app (goodIn_of _ (by decide +kernel)) ggL_law_X5_bar
set_option maxRecDepth 20000 in
theorem ggL_law_X6_bar : GoodIn wsL_law wsX6_bar := goodIn_r _ [226, 84, 90, 210, 211, 212, 5, 213, 82, 658, 659, 660, 661, 662, 663, 664, 665, 666, 667, 668, 669, 670, 671, 672, 673, 674, 675, 676, 677, 678, 679, 680, 681, 682, 683, 684, 685, 686, 687, 688, 689, 690, 691, 692, 693] (by decide +kernel) (by decide +kernel)
set_option maxRecDepth 20000 in
theorem gL_law_X6_bar : GoodIn wsL_law (wsV RL 27 RX6 yX6_bar wsX6_bar) := goodIn_app (goodIn_of _ (by decide +kernel)) ggL_law_X6_bar
set_option maxRecDepth 20000 in
theorem ggL_law_X5_loop : GoodIn wsL_law wsX5_loop := goodIn_r _ [230, 23, 202, 203, 204, 2, 205, 13, 119, 120, 121, 231, 232, 233, 118, 234, 155, 235, 236, 237, 238, 143, 144, 145, 178, 179, 180, 181, 182, 149, 150, 146, 147, 152, 148, 151, 183, 184, 185, 186, 129, 130, 131, 22, 132, 48, 133, 134, 135, 652, 653, 654, 655, 656, 657, 720, 721, 722, 723, 724, 725, 726, 727, 728, 729, 730, 731, 732, 733, 734, 735, 736, 737, 738, 700, 701, 702, 703, 704, 705, 706, 707] (by decide +kernel) (by decide +kernel)
set_option maxRecDepth 20000 in
theorem gL_law_X5_loop : GoodIn wsL_law (wsV RL 28 RX5 yX5_loop wsX5_loop) := goodIn_app (goodIn_of _ (by decide +kernel)) ggL_law_X5_loop
set_option maxRecDepth 20000 in
theorem ggL_law_X6_loop : GoodIn wsL_law wsX6_loop := goodIn_r _ [242, 84, 91, 92, 93, 210, 211, 212, 5, 213, 82, 658, 659, 660, 661, 662, 663, 664, 665, 666, 667, 668, 669, 670, 671, 672, 673, 674, 675, 676, 677, 678, 679, 680, 681, 682, 683, 684, 685, 686, 687, 688, 689, 690, 691, 692, 693] (by decide +kernel) (by decide +kernel)
set_option maxRecDepth 20000 in
theorem gL_law_X6_loop : GoodIn wsL_law (wsV RL 31 RX6 yX6_loop wsX6_loop) := goodIn_app (goodIn_of _ (by decide +kernel)) ggL_law_X6_loop
set_option maxRecDepth 20000 in
theorem ggL_law_X5_drop : GoodIn wsL_law wsX5_drop := goodIn_r _ [246, 13, 202, 203, 204, 2, 205, 119, 120, 121, 125, 126, 127, 128, 15, 23, 129, 130, 131, 22, 132, 48, 133, 134, 135, 652, 653, 654, 655, 656, 657, 700, 701, 702, 703, 704, 705, 706, 707] (by decide +kernel) (by decide +kernel)
set_option maxRecDepth 20000 in
theorem gL_law_X5_drop : GoodIn wsL_law (wsV RL 32 RX5 yX5_drop wsX5_drop) := goodIn_app (goodIn_of _ (by decide +kernel)) ggL_law_X5_drop
set_option maxRecDepth 20000 in
theorem ggL_law_X6_drop : GoodIn wsL_law wsX6_drop := goodIn_r _ [250, 82, 210, 211, 212, 5, 213, 191, 192, 193, 194, 94, 658, 659, 660, 661, 662, 663, 664, 665, 666, 667, 668, 669, 670, 671, 672, 673, 674, 675, 676, 677, 678, 679, 680, 681, 682, 683, 684, 685, 686, 687, 688, 689, 690, 691, 692, 693] (by decide +kernel) (by decide +kernel)
set_option maxRecDepth 20000 in
theorem gL_law_X6_drop : GoodIn wsL_law (wsV RL 36 RX6 yX6_drop wsX6_drop) := goodIn_app (goodIn_of _ (by decide +kernel)) ggL_law_X6_drop
set_option maxRecDepth 20000 in
theorem ggL_law_X5_of : GoodIn wsL_law wsX5_of := goodIn_r _ [254, 255, 218, 256, 257, 199, 200, 201, 258, 202, 203, 204, 2, 205, 13, 119, 120, 121, 259, 260, 261, 118, 262, 147, 155, 263, 264, 265, 266, 146, 720, 721, 722, 723, 724, 725, 726, 727, 728, 729, 730, 731, 732, 733, 734, 735, 736, 737, 738, 652, 653, 654, 655, 656, 657] (by decide +kernel) (by decide +kernel)
set_option maxRecDepth 20000 in
theorem gL_law_X5_of : GoodIn wsL_law (wsV RL 37 RX5 yX5_of wsX5_of) := goodIn_app (goodIn_of _ (by decide +kernel)) ggL_law_X5_of
set_option maxRecDepth 20000 in
theorem ggL_law_X6_of : GoodIn wsL_law wsX6_of := goodIn_r _ [270, 83, 84, 85, 86, 87, 88, 89, 90, 210, 211, 212, 5, 213, 82, 271, 272, 273, 274, 93, 92, 91, 275, 276, 277, 278, 658, 659, 660, 661, 662, 663, 664, 665, 666, 667, 668, 669, 670, 671, 672, 673, 674, 675, 676, 677, 678, 679, 680, 681, 682, 683, 684, 685, 686, 687, 688, 689, 690, 691, 692, 693] (by decide +kernel) (by decide +kernel)
set_option maxRecDepth 20000 in
theorem gL_law_X6_of : GoodIn wsL_law (wsV RL 41 RX6 yX6_of wsX6_of) := goodIn_app (goodIn_of _ (by decide +kernel)) ggL_law_X6_of
set_option maxRecDepth 20000 in
theorem ggL_law_X5_beat : GoodIn wsL_law wsX5_beat := goodIn_r _ [282, 283, 202, 203, 204, 2, 205, 13, 119, 120, 121, 259, 260, 261, 118, 262, 147, 155, 720, 721, 722, 723, 724, 725, 726, 727, 728, 729, 730, 731, 732, 733, 734, 735, 736, 737, 738, 652, 653, 654, 655, 656, 657] (by decide +kernel) (by decide +kernel)
set_option maxRecDepth 20000 in
theorem gL_law_X5_beat : GoodIn wsL_law (wsV RL 42 RX5 yX5_beat wsX5_beat) := goodIn_app (goodIn_of _ (by decide +kernel)) ggL_law_X5_beat
set_option maxRecDepth 20000 in
theorem ggL_law_X6_beat : GoodIn wsL_law wsX6_beat := goodIn_r _ [287, 210, 211, 212, 5, 213, 82, 275, 276, 277, 278, 84, 90, 288, 289, 290, 291, 292, 293, 294, 295, 83, 85, 86, 296, 297, 298, 658, 659, 660, 661, 662, 663, 664, 665, 666, 667, 668, 669, 670, 671, 672, 673, 674, 675, 676, 677, 678, 679, 680, 681, 682, 683, 684, 685, 686, 687, 688, 689, 690, 691, 692, 693] (by decide +kernel) (by decide +kernel)
set_option maxRecDepth 20000 in
theorem gL_law_X6_beat : GoodIn wsL_law (wsV RL 45 RX6 yX6_beat wsX6_beat) := goodIn_app (goodIn_of _ (by decide +kernel)) ggL_law_X6_beat
set_option maxRecDepth 20000 in
theorem ggL_law_X5_played : GoodIn wsL_law wsX5_played := goodIn_r _ [302, 258, 303, 304, 305, 202, 203, 204, 2, 205, 13, 119, 120, 121, 720, 721, 722, 723, 724, 725, 726, 727, 728, 729, 730, 731, 732, 733, 734, 735, 736, 737, 738, 652, 653, 654, 655, 656, 657] (by decide +kernel) (by decide +kernel)
set_option maxRecDepth 20000 in
theorem gL_law_X5_played : GoodIn wsL_law (wsV RL 46 RX5 yX5_played wsX5_played) := goodIn_app (goodIn_of _ (by decide +kernel)) ggL_law_X5_played
set_option maxRecDepth 20000 in
theorem ggL_law_X6_played : GoodIn wsL_law wsX6_played := goodIn_r _ [309, 90, 210, 211, 212, 5, 213, 82, 271, 272, 273, 274, 84, 93, 92, 91, 310, 311, 312, 313, 314, 315, 316, 317, 318, 319, 320, 321, 322, 323, 324, 325, 292, 293, 294, 295, 83, 85, 86, 296, 297, 298, 658, 659, 660, 661, 662, 663, 664, 665, 666, 667, 668, 669, 670, 671, 672, 673, 674, 675, 676, 677, 678, 679, 680, 681, 682, 683, 684, 685, 686, 687, 688, 689, 690, 691, 692, 693] (by decide +kernel) (by decide +kernel)
set_option maxRecDepth 20000 in
theorem gL_law_X6_played : GoodIn wsL_law (wsV RL 50 RX6 yX6_played wsX6_played) := goodIn_app (goodIn_of _ (by decide +kernel)) ggL_law_X6_played
set_option maxRecDepth 20000 in
theorem ggL_law_X5_length : GoodIn wsL_law wsX5_length := goodIn_r _ [329, 304, 258, 202, 203, 204, 2, 205, 13, 119, 120, 121, 720, 721, 722, 723, 724, 725, 726, 727, 728, 729, 730, 731, 732, 733, 734, 735, 736, 737, 738, 652, 653, 654, 655, 656, 657] (by decide +kernel) (by decide +kernel)
set_option maxRecDepth 20000 in
theorem gL_law_X5_length : GoodIn wsL_law (wsV RL 51 RX5 yX5_length wsX5_length) := goodIn_app (goodIn_of _ (by decide +kernel)) ggL_law_X5_length
set_option maxRecDepth 20000 in
theorem ggL_law_X6_length : GoodIn wsL_law wsX6_length := goodIn_r _ [333, 210, 211, 212, 5, 213, 82, 271, 272, 273, 274, 84, 93, 92, 91, 314, 315, 316, 317, 310, 311, 312, 313, 318, 319, 320, 321, 90, 322, 323, 324, 325, 292, 293, 294, 295, 83, 85, 86, 296, 297, 298, 658, 659, 660, 661, 662, 663, 664, 665, 666, 667, 668, 669, 670, 671, 672, 673, 674, 675, 676, 677, 678, 679, 680, 681, 682, 683, 684, 685, 686, 687, 688, 689, 690, 691, 692, 693] (by decide +kernel) (by decide +kernel)
set_option maxRecDepth 20000 in
theorem gL_law_X6_length : GoodIn wsL_law (wsV RL 55 RX6 yX6_length wsX6_length) := goodIn_app (goodIn_of _ (by decide +kernel)) ggL_law_X6_length
set_option maxRecDepth 20000 in
theorem ggL_law_X5_stroke : GoodIn wsL_law wsX5_stroke := goodIn_r _ [337, 19, 338, 339, 340, 18, 341, 36, 342, 35, 120, 2, 121, 652, 653, 654, 655, 656, 657, 694, 695, 696, 697, 698, 699] (by decide +kernel) (by decide +kernel)
set_option maxRecDepth 20000 in
theorem gL_law_X5_stroke : GoodIn wsL_law (wsV RL 56 RX5 yX5_stroke wsX5_stroke) := goodIn_app (goodIn_of _ (by decide +kernel)) ggL_law_X5_stroke
set_option maxRecDepth 20000 in
theorem ggL_law_X6_stroke : GoodIn wsL_law wsX6_stroke := goodIn_r _ [346, 347, 348, 95, 658, 659, 660, 661, 662, 663, 664, 665, 666, 667, 668, 669, 670, 671, 672, 673, 674, 675, 676, 677, 678, 679, 680, 681, 682, 683, 684, 685, 686, 687, 688, 689, 690, 691, 692, 693] (by decide +kernel) (by decide +kernel)
set_option maxRecDepth 20000 in
theorem gL_law_X6_stroke : GoodIn wsL_law (wsV RL 59 RX6 yX6_stroke wsX6_stroke) := goodIn_app (goodIn_of _ (by decide +kernel)) ggL_law_X6_stroke
set_option maxRecDepth 20000 in
theorem ggL_law_X5_clear : GoodIn wsL_law wsX5_clear := goodIn_r _ [352, 19, 353, 354, 355, 18, 356, 36, 652, 653, 654, 655, 656, 657, 694, 695, 696, 697, 698, 699] (by decide +kernel) (by decide +kernel)
set_option maxRecDepth 20000 in
theorem gL_law_X5_clear : GoodIn wsL_law (wsV RL 60 RX5 yX5_clear wsX5_clear) := goodIn_app (goodIn_of _ (by decide +kernel)) ggL_law_X5_clear
set_option maxRecDepth 20000 in
theorem ggL_law_X6_clear : GoodIn wsL_law wsX6_clear := goodIn_r _ [360, 348, 658, 659, 660, 661, 662, 663, 664, 665, 666, 667, 668, 669, 670, 671, 672, 673, 674, 675, 676, 677, 678, 679, 680, 681, 682, 683, 684, 685, 686, 687, 688, 689, 690, 691, 692, 693] (by decide +kernel) (by decide +kernel)
set_option maxRecDepth 20000 in
theorem gL_law_X6_clear : GoodIn wsL_law (wsV RL 64 RX6 yX6_clear wsX6_clear) := goodIn_app (goodIn_of _ (by decide +kernel)) ggL_law_X6_clear
set_option maxRecDepth 20000 in
theorem ggL_law_X5_find : GoodIn wsL_law wsX5_find := goodIn_r _ [364, 19, 119, 120, 2, 121, 365, 366, 367, 18, 368, 36, 37, 369, 370, 371, 372, 373, 38, 35, 374, 375, 376, 377, 172, 169, 173, 378, 379, 380, 381, 382, 383, 384, 40, 39, 652, 653, 654, 655, 656, 657, 694, 695, 696, 697, 698, 699] (by decide +kernel) (by decide +kernel)
set_option maxRecDepth 20000 in
theorem gL_law_X5_find : GoodIn wsL_law (wsV RL 65 RX5 yX5_find wsX5_find) := goodIn_app (goodIn_of _ (by decide +kernel)) ggL_law_X5_find
set_option maxRecDepth 20000 in
theorem ggL_law_X6_find : GoodIn wsL_law wsX6_find := goodIn_r _ [388, 348, 96, 95, 389, 97, 390, 391, 5, 392, 393, 394, 395, 658, 659, 660, 661, 662, 663, 664, 665, 666, 667, 668, 669, 670, 671, 672, 673, 674, 675, 676, 677, 678, 679, 680, 681, 682, 683, 684, 685, 686, 687, 688, 689, 690, 691, 692, 693] (by decide +kernel) (by decide +kernel)
set_option maxRecDepth 20000 in
theorem gL_law_X6_find : GoodIn wsL_law (wsV RL 68 RX6 yX6_find wsX6_find) := goodIn_app (goodIn_of _ (by decide +kernel)) ggL_law_X6_find
set_option maxRecDepth 20000 in
theorem ggL_law_X5_found : GoodIn wsL_law wsX5_found := goodIn_r _ [399, 19, 400, 401, 402, 18, 403, 40, 39, 120, 2, 121, 652, 653, 654, 655, 656, 657, 694, 695, 696, 697, 698, 699] (by decide +kernel) (by decide +kernel)
set_option maxRecDepth 20000 in
theorem gL_law_X5_found : GoodIn wsL_law (wsV RL 69 RX5 yX5_found wsX5_found) := goodIn_app (goodIn_of _ (by decide +kernel)) ggL_law_X5_found
set_option maxRecDepth 20000 in
theorem ggL_law_X6_found : GoodIn wsL_law wsX6_found := goodIn_r _ [407, 389, 97, 658, 659, 660, 661, 662, 663, 664, 665, 666, 667, 668, 669, 670, 671, 672, 673, 674, 675, 676, 677, 678, 679, 680, 681, 682, 683, 684, 685, 686, 687, 688, 689, 690, 691, 692, 693] (by decide +kernel) (by decide +kernel)
set_option maxRecDepth 20000 in
theorem gL_law_X6_found : GoodIn wsL_law (wsV RL 72 RX6 yX6_found wsX6_found) := goodIn_app (goodIn_of _ (by decide +kernel)) ggL_law_X6_found
set_option maxRecDepth 20000 in
theorem ggL_law_X5_costs : GoodIn wsL_law wsX5_costs := goodIn_r _ [411, 23, 119, 120, 2, 121, 412, 413, 414, 22, 415, 45, 46, 47, 48, 53, 54, 55, 56, 652, 653, 654, 655, 656, 657, 700, 701, 702, 703, 704, 705, 706, 707] (by decide +kernel) (by decide +kernel)
set_option maxRecDepth 20000 in
theorem gL_law_X5_costs : GoodIn wsL_law (wsV RL 73 RX5 yX5_costs wsX5_costs) := goodIn_app (goodIn_of _ (by decide +kernel)) ggL_law_X5_costs
set_option maxRecDepth 20000 in
theorem ggL_law_X6_costs : GoodIn wsL_law wsX6_costs := goodIn_r _ [419, 98, 99, 100, 658, 659, 660, 661, 662, 663, 664, 665, 666, 667, 668, 669, 670, 671, 672, 673, 674, 675, 676, 677, 678, 679, 680, 681, 682, 683, 684, 685, 686, 687, 688, 689, 690, 691, 692, 693] (by decide +kernel) (by decide +kernel)
set_option maxRecDepth 20000 in
theorem gL_law_X6_costs : GoodIn wsL_law (wsV RL 76 RX6 yX6_costs wsX6_costs) := goodIn_app (goodIn_of _ (by decide +kernel)) ggL_law_X6_costs
set_option maxRecDepth 20000 in
theorem ggL_law_X5_join : GoodIn wsL_law wsX5_join := goodIn_r _ [423, 258, 424, 23, 425, 27, 202, 203, 204, 2, 205, 13, 119, 120, 121, 426, 427, 428, 118, 429, 149, 142, 430, 431, 432, 22, 433, 434, 435, 379, 169, 380, 45, 436, 437, 438, 439, 175, 176, 177, 440, 441, 442, 443, 172, 173, 444, 445, 446, 26, 447, 60, 61, 448, 62, 63, 449, 450, 451, 452, 453, 454, 168, 170, 46, 47, 455, 720, 721, 722, 723, 724, 725, 726, 727, 728, 729, 730, 731, 732, 733, 734, 735, 736, 737, 738, 652, 653, 654, 655, 656, 657, 700, 701, 702, 703, 704, 705, 706, 707, 708, 709, 710, 711] (by decide +kernel) (by decide +kernel)
set_option maxRecDepth 20000 in
theorem gL_law_X5_join : GoodIn wsL_law (wsV RL 77 RX5 yX5_join wsX5_join) := goodIn_app (goodIn_of _ (by decide +kernel)) ggL_law_X5_join
set_option maxRecDepth 20000 in
theorem ggL_law_X6_join : GoodIn wsL_law wsX6_join := goodIn_r _ [459, 103, 104, 105, 106, 460, 461, 101, 102, 107, 108, 210, 211, 212, 5, 213, 82, 271, 272, 273, 274, 84, 93, 92, 91, 462, 463, 464, 465, 466, 467, 468, 469, 90, 89, 310, 311, 312, 313, 322, 323, 324, 325, 292, 293, 294, 295, 83, 85, 86, 296, 297, 298, 470, 471, 472, 473, 474, 475, 476, 98, 477, 478, 479, 480, 481, 482, 393, 394, 395, 483, 484, 485, 486, 99, 100, 88, 487, 488, 489, 490, 87, 658, 659, 660, 661, 662, 663, 664, 665, 666, 667, 668, 669, 670, 671, 672, 673, 674, 675, 676, 677, 678, 679, 680, 681, 682, 683, 684, 685, 686, 687, 688, 689, 690, 691, 692, 693] (by decide +kernel) (by decide +kernel)
set_option maxRecDepth 20000 in
theorem gL_law_X6_join : GoodIn wsL_law (wsV RL 81 RX6 yX6_join wsX6_join) := goodIn_app (goodIn_of _ (by decide +kernel)) ggL_law_X6_join
set_option maxRecDepth 20000 in
theorem ggL_law_X5_meets : GoodIn wsL_law wsX5_meets := goodIn_r _ [494, 27, 495, 496, 497, 26, 498, 60, 61, 62, 63, 120, 2, 121, 652, 653, 654, 655, 656, 657, 708, 709, 710, 711] (by decide +kernel) (by decide +kernel)
set_option maxRecDepth 20000 in
theorem gL_law_X5_meets : GoodIn wsL_law (wsV RL 82 RX5 yX5_meets wsX5_meets) := goodIn_app (goodIn_of _ (by decide +kernel)) ggL_law_X5_meets
set_option maxRecDepth 20000 in
theorem ggL_law_X6_meets : GoodIn wsL_law wsX6_meets := goodIn_r _ [502, 461, 107, 108, 658, 659, 660, 661, 662, 663, 664, 665, 666, 667, 668, 669, 670, 671, 672, 673, 674, 675, 676, 677, 678, 679, 680, 681, 682, 683, 684, 685, 686, 687, 688, 689, 690, 691, 692, 693] (by decide +kernel) (by decide +kernel)
set_option maxRecDepth 20000 in
theorem gL_law_X6_meets : GoodIn wsL_law (wsV RL 85 RX6 yX6_meets wsX6_meets) := goodIn_app (goodIn_of _ (by decide +kernel)) ggL_law_X6_meets
set_option maxRecDepth 20000 in
theorem ggL_law_X5_best : GoodIn wsL_law wsX5_best := goodIn_r _ [506, 23, 507, 425, 508, 509, 202, 203, 204, 2, 205, 13, 119, 120, 121, 510, 511, 512, 22, 513, 514, 48, 133, 134, 135, 515, 516, 517, 518, 436, 51, 52, 49, 50, 519, 520, 521, 522, 523, 524, 525, 526, 527, 528, 427, 428, 118, 429, 149, 142, 529, 530, 531, 532, 152, 533, 534, 535, 536, 537, 431, 432, 433, 434, 435, 379, 169, 380, 45, 437, 438, 439, 175, 176, 177, 440, 441, 442, 443, 172, 173, 538, 450, 451, 452, 453, 454, 168, 170, 46, 47, 455, 652, 653, 654, 655, 656, 657, 700, 701, 702, 703, 704, 705, 706, 707, 720, 721, 722, 723, 724, 725, 726, 727, 728, 729, 730, 731, 732, 733, 734, 735, 736, 737, 738] (by decide +kernel) (by decide +kernel)
set_option maxRecDepth 20000 in
theorem gL_law_X5_best : GoodIn wsL_law (wsV RL 86 RX5 yX5_best wsX5_best) := goodIn_app (goodIn_of _ (by decide +kernel)) ggL_law_X5_best
set_option maxRecDepth 20000 in
theorem ggL_law_X6_best : GoodIn wsL_law wsX6_best := goodIn_r _ [542, 460, 543, 544, 210, 211, 212, 5, 213, 82, 545, 546, 547, 548, 105, 103, 106, 104, 462, 463, 464, 465, 101, 102, 466, 467, 468, 469, 90, 89, 271, 272, 273, 274, 84, 93, 92, 91, 310, 311, 312, 313, 322, 323, 324, 325, 292, 293, 294, 295, 83, 85, 86, 296, 297, 298, 470, 471, 472, 473, 474, 475, 476, 98, 477, 478, 479, 480, 481, 482, 393, 394, 395, 483, 484, 485, 486, 99, 100, 88, 487, 488, 489, 490, 87, 658, 659, 660, 661, 662, 663, 664, 665, 666, 667, 668, 669, 670, 671, 672, 673, 674, 675, 676, 677, 678, 679, 680, 681, 682, 683, 684, 685, 686, 687, 688, 689, 690, 691, 692, 693] (by decide +kernel) (by decide +kernel)
set_option maxRecDepth 20000 in
theorem gL_law_X6_best : GoodIn wsL_law (wsV RL 90 RX6 yX6_best wsX6_best) := goodIn_app (goodIn_of _ (by decide +kernel)) ggL_law_X6_best
set_option maxRecDepth 20000 in
theorem ggL_law_X5_must : GoodIn wsL_law wsX5_must := goodIn_r _ [552, 15, 202, 203, 204, 2, 205, 13, 119, 120, 121, 652, 653, 654, 655, 656, 657] (by decide +kernel) (by decide +kernel)
set_option maxRecDepth 20000 in
theorem gL_law_X5_must : GoodIn wsL_law (wsV RL 91 RX5 yX5_must wsX5_must) := goodIn_app (goodIn_of _ (by decide +kernel)) ggL_law_X5_must
set_option maxRecDepth 20000 in
theorem ggL_law_X6_must : GoodIn wsL_law wsX6_must := goodIn_r _ [556, 94, 210, 211, 212, 5, 213, 82, 658, 659, 660, 661, 662, 663, 664, 665, 666, 667, 668, 669, 670, 671, 672, 673, 674, 675, 676, 677, 678, 679, 680, 681, 682, 683, 684, 685, 686, 687, 688, 689, 690, 691, 692, 693] (by decide +kernel) (by decide +kernel)
set_option maxRecDepth 20000 in
theorem gL_law_X6_must : GoodIn wsL_law (wsV RL 94 RX6 yX6_must wsX6_must) := goodIn_app (goodIn_of _ (by decide +kernel)) ggL_law_X6_must
set_option maxRecDepth 20000 in
theorem ggL_law_X5_night : GoodIn wsL_law wsX5_night := goodIn_r _ [560, 31, 13, 561, 562, 119, 120, 2, 121, 563, 564, 565, 30, 566, 69, 68, 567, 568, 569, 570, 571, 572, 573, 574, 23, 507, 425, 575, 576, 577, 578, 15, 579, 580, 581, 582, 510, 511, 512, 22, 513, 514, 48, 133, 134, 135, 515, 516, 517, 518, 436, 51, 52, 49, 50, 519, 520, 521, 522, 523, 524, 525, 526, 527, 528, 427, 428, 118, 429, 149, 142, 529, 530, 531, 532, 152, 533, 534, 535, 536, 537, 431, 432, 433, 434, 435, 379, 169, 380, 45, 437, 438, 439, 175, 176, 177, 440, 441, 442, 443, 172, 173, 538, 450, 451, 452, 453, 454, 168, 170, 46, 47, 455, 583, 584, 585, 586, 73, 14, 75, 587, 588, 589, 590, 74, 591, 592, 593, 594, 70, 595, 596, 597, 598, 599, 600, 601, 602, 72, 603, 604, 605, 606, 76, 607, 77, 652, 653, 654, 655, 656, 657, 712, 713, 714, 715, 716, 717, 718, 719, 720, 721, 722, 723, 724, 725, 726, 727, 728, 729, 730, 731, 732, 733, 734, 735, 736, 737, 738, 700, 701, 702, 703, 704, 705, 706, 707] (by decide +kernel) (by decide +kernel)
set_option maxRecDepth 20000 in
theorem gL_law_X5_night : GoodIn wsL_law (wsV RL 95 RX5 yX5_night wsX5_night) := goodIn_app (goodIn_of _ (by decide +kernel)) ggL_law_X5_night
set_option maxRecDepth 20000 in
theorem ggL_law_X6_night : GoodIn wsL_law wsX6_night := goodIn_r _ [611, 460, 111, 612, 112, 109, 613, 614, 615, 5, 616, 82, 617, 618, 619, 620, 94, 545, 546, 547, 548, 105, 103, 106, 104, 543, 544, 462, 463, 464, 465, 101, 102, 466, 467, 468, 469, 90, 89, 271, 272, 273, 274, 84, 93, 92, 91, 310, 311, 312, 313, 322, 323, 324, 325, 292, 293, 294, 295, 83, 85, 86, 296, 297, 298, 470, 471, 472, 473, 474, 475, 476, 98, 477, 478, 479, 480, 481, 482, 393, 394, 395, 483, 484, 485, 486, 99, 100, 88, 487, 488, 489, 490, 87, 621, 622, 623, 624, 625, 626, 627, 628, 658, 659, 660, 661, 662, 663, 664, 665, 666, 667, 668, 669, 670, 671, 672, 673, 674, 675, 676, 677, 678, 679, 680, 681, 682, 683, 684, 685, 686, 687, 688, 689, 690, 691, 692, 693] (by decide +kernel) (by decide +kernel)
set_option maxRecDepth 20000 in
theorem gL_law_X6_night : GoodIn wsL_law (wsV RL 98 RX6 yX6_night wsX6_night) := goodIn_app (goodIn_of _ (by decide +kernel)) ggL_law_X6_night
set_option maxRecDepth 20000 in
theorem ggL_law_X5_order : GoodIn wsL_law wsX5_order := goodIn_r _ [632, 31, 633, 634, 119, 120, 2, 121, 652, 653, 654, 655, 656, 657, 712, 713, 714, 715, 716, 717, 718, 719] (by decide +kernel) (by decide +kernel)
set_option maxRecDepth 20000 in
theorem gL_law_X5_order : GoodIn wsL_law (wsV RL 99 RX5 yX5_order wsX5_order) := goodIn_app (goodIn_of _ (by decide +kernel)) ggL_law_X5_order
set_option maxRecDepth 20000 in
theorem ggL_law_X6_order : GoodIn wsL_law wsX6_order := goodIn_r _ [638, 612, 112, 658, 659, 660, 661, 662, 663, 664, 665, 666, 667, 668, 669, 670, 671, 672, 673, 674, 675, 676, 677, 678, 679, 680, 681, 682, 683, 684, 685, 686, 687, 688, 689, 690, 691, 692, 693] (by decide +kernel) (by decide +kernel)
set_option maxRecDepth 20000 in
theorem gL_law_X6_order : GoodIn wsL_law (wsV RL 102 RX6 yX6_order wsX6_order) := goodIn_app (goodIn_of _ (by decide +kernel)) ggL_law_X6_order
set_option maxRecDepth 20000 in
theorem ggL_law_X5_mend : GoodIn wsL_law wsX5_mend := goodIn_r _ [642, 643, 644, 23, 645, 442, 379, 169, 380, 119, 120, 2, 121, 652, 653, 654, 655, 656, 657, 700, 701, 702, 703, 704, 705, 706, 707] (by decide +kernel) (by decide +kernel)
set_option maxRecDepth 20000 in
theorem gL_law_X5_mend : GoodIn wsL_law (wsV RL 103 RX5 yX5_mend wsX5_mend) := goodIn_app (goodIn_of _ (by decide +kernel)) ggL_law_X5_mend
set_option maxRecDepth 20000 in
theorem ggL_law_X6_mend : GoodIn wsL_law wsX6_mend := goodIn_r _ [649, 650, 651, 98, 393, 394, 5, 395, 658, 659, 660, 661, 662, 663, 664, 665, 666, 667, 668, 669, 670, 671, 672, 673, 674, 675, 676, 677, 678, 679, 680, 681, 682, 683, 684, 685, 686, 687, 688, 689, 690, 691, 692, 693] (by decide +kernel) (by decide +kernel)
set_option maxRecDepth 20000 in
theorem gL_law_X6_mend : GoodIn wsL_law (wsV RL 106 RX6 yX6_mend wsX6_mend) := goodIn_app (goodIn_of _ (by decide +kernel)) ggL_law_X6_mend
end
section
theorem dL_law_0 : decode cL_law 0 = .ok (.new 7, 3) := by decide +kernel
theorem dL_law_3 : decode cL_law 3 = .ok (.dup, 1) := by decide +kernel
theorem dL_law_4 : decode cL_law 4 = .ok (.invokespecial 9, 3) := by decide +kernel
theorem dL_law_7 : decode cL_law 7 = .ok (.astore_n 1, 1) := by decide +kernel
theorem dL_law_8 : decode cL_law 8 = .ok (.new 10, 3) := by decide +kernel
theorem dL_law_11 : decode cL_law 11 = .ok (.dup, 1) := by decide +kernel
theorem dL_law_12 : decode cL_law 12 = .ok (.invokespecial 12, 3) := by decide +kernel
theorem dL_law_15 : decode cL_law 15 = .ok (.astore_n 2, 1) := by decide +kernel
theorem dL_law_16 : decode cL_law 16 = .ok (.iconst 0, 1) := by decide +kernel
theorem dL_law_17 : decode cL_law 17 = .ok (.istore_n 3, 1) := by decide +kernel
theorem dL_law_18 : decode cL_law 18 = .ok (.iload_n 3, 1) := by decide +kernel
theorem dL_law_19 : decode cL_law 19 = .ok (.aload_n 0, 1) := by decide +kernel
theorem dL_law_20 : decode cL_law 20 = .ok (.arraylength, 1) := by decide +kernel
theorem dL_law_21 : decode cL_law 21 = .ok (.bipush 7, 2) := by decide +kernel
theorem dL_law_23 : decode cL_law 23 = .ok (.isub, 1) := by decide +kernel
theorem dL_law_24 : decode cL_law 24 = .ok (.if_icmp .gt 925, 3) := by decide +kernel
theorem dL_law_27 : decode cL_law 27 = .ok (.aload_n 0, 1) := by decide +kernel
theorem dL_law_28 : decode cL_law 28 = .ok (.iload_n 3, 1) := by decide +kernel
theorem dL_law_29 : decode cL_law 29 = .ok (.iaload, 1) := by decide +kernel
theorem dL_law_30 : decode cL_law 30 = .ok (.bipush 31, 2) := by decide +kernel
theorem dL_law_32 : decode cL_law 32 = .ok (.iand, 1) := by decide +kernel
theorem dL_law_33 : decode cL_law 33 = .ok (.tableswitch 910 0 20 #[99, 162, 215, 258, 311, 334, 367, 400, 443, 466, 489, 502, 545, 568, 611, 702, 735, 788, 831, 854, 877], 99) := by decide +kernel
theorem dL_law_132 : decode cL_law 132 = .ok (.aload_n 1, 1) := by decide +kernel
theorem dL_law_133 : decode cL_law 133 = .ok (.aload_n 0, 1) := by decide +kernel
theorem dL_law_134 : decode cL_law 134 = .ok (.iload_n 3, 1) := by decide +kernel
theorem dL_law_135 : decode cL_law 135 = .ok (.iconst 1, 1) := by decide +kernel
theorem dL_law_136 : decode cL_law 136 = .ok (.iadd, 1) := by decide +kernel
theorem dL_law_137 : decode cL_law 137 = .ok (.iaload, 1) := by decide +kernel
theorem dL_law_138 : decode cL_law 138 = .ok (.aload_n 0, 1) := by decide +kernel
theorem dL_law_139 : decode cL_law 139 = .ok (.iload_n 3, 1) := by decide +kernel
theorem dL_law_140 : decode cL_law 140 = .ok (.iconst 2, 1) := by decide +kernel
theorem dL_law_141 : decode cL_law 141 = .ok (.iadd, 1) := by decide +kernel
theorem dL_law_142 : decode cL_law 142 = .ok (.iaload, 1) := by decide +kernel
theorem dL_law_143 : decode cL_law 143 = .ok (.aload_n 0, 1) := by decide +kernel
theorem dL_law_144 : decode cL_law 144 = .ok (.iload_n 3, 1) := by decide +kernel
theorem dL_law_145 : decode cL_law 145 = .ok (.iconst 3, 1) := by decide +kernel
theorem dL_law_146 : decode cL_law 146 = .ok (.iadd, 1) := by decide +kernel
theorem dL_law_147 : decode cL_law 147 = .ok (.iaload, 1) := by decide +kernel
theorem dL_law_148 : decode cL_law 148 = .ok (.aload_n 0, 1) := by decide +kernel
theorem dL_law_149 : decode cL_law 149 = .ok (.iload_n 3, 1) := by decide +kernel
theorem dL_law_150 : decode cL_law 150 = .ok (.iconst 4, 1) := by decide +kernel
theorem dL_law_151 : decode cL_law 151 = .ok (.iadd, 1) := by decide +kernel
theorem dL_law_152 : decode cL_law 152 = .ok (.iaload, 1) := by decide +kernel
theorem dL_law_153 : decode cL_law 153 = .ok (.aload_n 0, 1) := by decide +kernel
theorem dL_law_154 : decode cL_law 154 = .ok (.iload_n 3, 1) := by decide +kernel
theorem dL_law_155 : decode cL_law 155 = .ok (.iconst 5, 1) := by decide +kernel
theorem dL_law_156 : decode cL_law 156 = .ok (.iadd, 1) := by decide +kernel
theorem dL_law_157 : decode cL_law 157 = .ok (.iaload, 1) := by decide +kernel
theorem dL_law_158 : decode cL_law 158 = .ok (.invokevirtual 13, 3) := by decide +kernel
theorem dL_law_161 : decode cL_law 161 = .ok (.aload_n 2, 1) := by decide +kernel
theorem dL_law_162 : decode cL_law 162 = .ok (.aload_n 0, 1) := by decide +kernel
theorem dL_law_163 : decode cL_law 163 = .ok (.iload_n 3, 1) := by decide +kernel
theorem dL_law_164 : decode cL_law 164 = .ok (.iconst 1, 1) := by decide +kernel
theorem dL_law_165 : decode cL_law 165 = .ok (.iadd, 1) := by decide +kernel
theorem dL_law_166 : decode cL_law 166 = .ok (.iaload, 1) := by decide +kernel
theorem dL_law_167 : decode cL_law 167 = .ok (.aload_n 0, 1) := by decide +kernel
theorem dL_law_168 : decode cL_law 168 = .ok (.iload_n 3, 1) := by decide +kernel
theorem dL_law_169 : decode cL_law 169 = .ok (.iconst 2, 1) := by decide +kernel
theorem dL_law_170 : decode cL_law 170 = .ok (.iadd, 1) := by decide +kernel
theorem dL_law_171 : decode cL_law 171 = .ok (.iaload, 1) := by decide +kernel
theorem dL_law_172 : decode cL_law 172 = .ok (.aload_n 0, 1) := by decide +kernel
theorem dL_law_173 : decode cL_law 173 = .ok (.iload_n 3, 1) := by decide +kernel
theorem dL_law_174 : decode cL_law 174 = .ok (.iconst 3, 1) := by decide +kernel
theorem dL_law_175 : decode cL_law 175 = .ok (.iadd, 1) := by decide +kernel
theorem dL_law_176 : decode cL_law 176 = .ok (.iaload, 1) := by decide +kernel
theorem dL_law_177 : decode cL_law 177 = .ok (.aload_n 0, 1) := by decide +kernel
theorem dL_law_178 : decode cL_law 178 = .ok (.iload_n 3, 1) := by decide +kernel
theorem dL_law_179 : decode cL_law 179 = .ok (.iconst 4, 1) := by decide +kernel
theorem dL_law_180 : decode cL_law 180 = .ok (.iadd, 1) := by decide +kernel
theorem dL_law_181 : decode cL_law 181 = .ok (.iaload, 1) := by decide +kernel
theorem dL_law_182 : decode cL_law 182 = .ok (.aload_n 0, 1) := by decide +kernel
theorem dL_law_183 : decode cL_law 183 = .ok (.iload_n 3, 1) := by decide +kernel
theorem dL_law_184 : decode cL_law 184 = .ok (.iconst 5, 1) := by decide +kernel
theorem dL_law_185 : decode cL_law 185 = .ok (.iadd, 1) := by decide +kernel
theorem dL_law_186 : decode cL_law 186 = .ok (.iaload, 1) := by decide +kernel
theorem dL_law_187 : decode cL_law 187 = .ok (.invokevirtual 17, 3) := by decide +kernel
theorem dL_law_190 : decode cL_law 190 = .ok (.if_icmp .eq 753, 3) := by decide +kernel
theorem dL_law_193 : decode cL_law 193 = .ok (.iconst 0, 1) := by decide +kernel
theorem dL_law_194 : decode cL_law 194 = .ok (.ireturn, 1) := by decide +kernel
theorem dL_law_195 : decode cL_law 195 = .ok (.aload_n 1, 1) := by decide +kernel
theorem dL_law_196 : decode cL_law 196 = .ok (.aload_n 0, 1) := by decide +kernel
theorem dL_law_197 : decode cL_law 197 = .ok (.iload_n 3, 1) := by decide +kernel
theorem dL_law_198 : decode cL_law 198 = .ok (.iconst 1, 1) := by decide +kernel
theorem dL_law_199 : decode cL_law 199 = .ok (.iadd, 1) := by decide +kernel
theorem dL_law_200 : decode cL_law 200 = .ok (.iaload, 1) := by decide +kernel
theorem dL_law_201 : decode cL_law 201 = .ok (.aload_n 0, 1) := by decide +kernel
theorem dL_law_202 : decode cL_law 202 = .ok (.iload_n 3, 1) := by decide +kernel
theorem dL_law_203 : decode cL_law 203 = .ok (.iconst 2, 1) := by decide +kernel
theorem dL_law_204 : decode cL_law 204 = .ok (.iadd, 1) := by decide +kernel
theorem dL_law_205 : decode cL_law 205 = .ok (.iaload, 1) := by decide +kernel
theorem dL_law_206 : decode cL_law 206 = .ok (.aload_n 0, 1) := by decide +kernel
theorem dL_law_207 : decode cL_law 207 = .ok (.iload_n 3, 1) := by decide +kernel
theorem dL_law_208 : decode cL_law 208 = .ok (.iconst 3, 1) := by decide +kernel
theorem dL_law_209 : decode cL_law 209 = .ok (.iadd, 1) := by decide +kernel
theorem dL_law_210 : decode cL_law 210 = .ok (.iaload, 1) := by decide +kernel
theorem dL_law_211 : decode cL_law 211 = .ok (.aload_n 0, 1) := by decide +kernel
theorem dL_law_212 : decode cL_law 212 = .ok (.iload_n 3, 1) := by decide +kernel
theorem dL_law_213 : decode cL_law 213 = .ok (.iconst 4, 1) := by decide +kernel
theorem dL_law_214 : decode cL_law 214 = .ok (.iadd, 1) := by decide +kernel
theorem dL_law_215 : decode cL_law 215 = .ok (.iaload, 1) := by decide +kernel
theorem dL_law_216 : decode cL_law 216 = .ok (.invokevirtual 18, 3) := by decide +kernel
theorem dL_law_219 : decode cL_law 219 = .ok (.aload_n 2, 1) := by decide +kernel
theorem dL_law_220 : decode cL_law 220 = .ok (.aload_n 0, 1) := by decide +kernel
theorem dL_law_221 : decode cL_law 221 = .ok (.iload_n 3, 1) := by decide +kernel
theorem dL_law_222 : decode cL_law 222 = .ok (.iconst 1, 1) := by decide +kernel
theorem dL_law_223 : decode cL_law 223 = .ok (.iadd, 1) := by decide +kernel
theorem dL_law_224 : decode cL_law 224 = .ok (.iaload, 1) := by decide +kernel
theorem dL_law_225 : decode cL_law 225 = .ok (.aload_n 0, 1) := by decide +kernel
theorem dL_law_226 : decode cL_law 226 = .ok (.iload_n 3, 1) := by decide +kernel
theorem dL_law_227 : decode cL_law 227 = .ok (.iconst 2, 1) := by decide +kernel
theorem dL_law_228 : decode cL_law 228 = .ok (.iadd, 1) := by decide +kernel
theorem dL_law_229 : decode cL_law 229 = .ok (.iaload, 1) := by decide +kernel
theorem dL_law_230 : decode cL_law 230 = .ok (.aload_n 0, 1) := by decide +kernel
theorem dL_law_231 : decode cL_law 231 = .ok (.iload_n 3, 1) := by decide +kernel
theorem dL_law_232 : decode cL_law 232 = .ok (.iconst 3, 1) := by decide +kernel
theorem dL_law_233 : decode cL_law 233 = .ok (.iadd, 1) := by decide +kernel
theorem dL_law_234 : decode cL_law 234 = .ok (.iaload, 1) := by decide +kernel
theorem dL_law_235 : decode cL_law 235 = .ok (.aload_n 0, 1) := by decide +kernel
theorem dL_law_236 : decode cL_law 236 = .ok (.iload_n 3, 1) := by decide +kernel
theorem dL_law_237 : decode cL_law 237 = .ok (.iconst 4, 1) := by decide +kernel
theorem dL_law_238 : decode cL_law 238 = .ok (.iadd, 1) := by decide +kernel
theorem dL_law_239 : decode cL_law 239 = .ok (.iaload, 1) := by decide +kernel
theorem dL_law_240 : decode cL_law 240 = .ok (.invokevirtual 22, 3) := by decide +kernel
theorem dL_law_243 : decode cL_law 243 = .ok (.if_icmp .eq 700, 3) := by decide +kernel
theorem dL_law_246 : decode cL_law 246 = .ok (.iconst 0, 1) := by decide +kernel
theorem dL_law_247 : decode cL_law 247 = .ok (.ireturn, 1) := by decide +kernel
theorem dL_law_248 : decode cL_law 248 = .ok (.aload_n 1, 1) := by decide +kernel
theorem dL_law_249 : decode cL_law 249 = .ok (.aload_n 0, 1) := by decide +kernel
theorem dL_law_250 : decode cL_law 250 = .ok (.iload_n 3, 1) := by decide +kernel
theorem dL_law_251 : decode cL_law 251 = .ok (.iconst 1, 1) := by decide +kernel
theorem dL_law_252 : decode cL_law 252 = .ok (.iadd, 1) := by decide +kernel
theorem dL_law_253 : decode cL_law 253 = .ok (.iaload, 1) := by decide +kernel
theorem dL_law_254 : decode cL_law 254 = .ok (.aload_n 0, 1) := by decide +kernel
theorem dL_law_255 : decode cL_law 255 = .ok (.iload_n 3, 1) := by decide +kernel
theorem dL_law_256 : decode cL_law 256 = .ok (.iconst 2, 1) := by decide +kernel
theorem dL_law_257 : decode cL_law 257 = .ok (.iadd, 1) := by decide +kernel
theorem dL_law_258 : decode cL_law 258 = .ok (.iaload, 1) := by decide +kernel
theorem dL_law_259 : decode cL_law 259 = .ok (.aload_n 0, 1) := by decide +kernel
theorem dL_law_260 : decode cL_law 260 = .ok (.iload_n 3, 1) := by decide +kernel
theorem dL_law_261 : decode cL_law 261 = .ok (.iconst 3, 1) := by decide +kernel
theorem dL_law_262 : decode cL_law 262 = .ok (.iadd, 1) := by decide +kernel
theorem dL_law_263 : decode cL_law 263 = .ok (.iaload, 1) := by decide +kernel
theorem dL_law_264 : decode cL_law 264 = .ok (.invokevirtual 23, 3) := by decide +kernel
theorem dL_law_267 : decode cL_law 267 = .ok (.aload_n 2, 1) := by decide +kernel
theorem dL_law_268 : decode cL_law 268 = .ok (.aload_n 0, 1) := by decide +kernel
theorem dL_law_269 : decode cL_law 269 = .ok (.iload_n 3, 1) := by decide +kernel
theorem dL_law_270 : decode cL_law 270 = .ok (.iconst 1, 1) := by decide +kernel
theorem dL_law_271 : decode cL_law 271 = .ok (.iadd, 1) := by decide +kernel
theorem dL_law_272 : decode cL_law 272 = .ok (.iaload, 1) := by decide +kernel
theorem dL_law_273 : decode cL_law 273 = .ok (.aload_n 0, 1) := by decide +kernel
theorem dL_law_274 : decode cL_law 274 = .ok (.iload_n 3, 1) := by decide +kernel
theorem dL_law_275 : decode cL_law 275 = .ok (.iconst 2, 1) := by decide +kernel
theorem dL_law_276 : decode cL_law 276 = .ok (.iadd, 1) := by decide +kernel
theorem dL_law_277 : decode cL_law 277 = .ok (.iaload, 1) := by decide +kernel
theorem dL_law_278 : decode cL_law 278 = .ok (.aload_n 0, 1) := by decide +kernel
theorem dL_law_279 : decode cL_law 279 = .ok (.iload_n 3, 1) := by decide +kernel
theorem dL_law_280 : decode cL_law 280 = .ok (.iconst 3, 1) := by decide +kernel
theorem dL_law_281 : decode cL_law 281 = .ok (.iadd, 1) := by decide +kernel
theorem dL_law_282 : decode cL_law 282 = .ok (.iaload, 1) := by decide +kernel
theorem dL_law_283 : decode cL_law 283 = .ok (.invokevirtual 27, 3) := by decide +kernel
theorem dL_law_286 : decode cL_law 286 = .ok (.if_icmp .eq 657, 3) := by decide +kernel
theorem dL_law_289 : decode cL_law 289 = .ok (.iconst 0, 1) := by decide +kernel
theorem dL_law_290 : decode cL_law 290 = .ok (.ireturn, 1) := by decide +kernel
theorem dL_law_291 : decode cL_law 291 = .ok (.aload_n 1, 1) := by decide +kernel
theorem dL_law_292 : decode cL_law 292 = .ok (.aload_n 0, 1) := by decide +kernel
theorem dL_law_293 : decode cL_law 293 = .ok (.iload_n 3, 1) := by decide +kernel
theorem dL_law_294 : decode cL_law 294 = .ok (.iconst 1, 1) := by decide +kernel
theorem dL_law_295 : decode cL_law 295 = .ok (.iadd, 1) := by decide +kernel
theorem dL_law_296 : decode cL_law 296 = .ok (.iaload, 1) := by decide +kernel
theorem dL_law_297 : decode cL_law 297 = .ok (.aload_n 0, 1) := by decide +kernel
theorem dL_law_298 : decode cL_law 298 = .ok (.iload_n 3, 1) := by decide +kernel
theorem dL_law_299 : decode cL_law 299 = .ok (.iconst 2, 1) := by decide +kernel
theorem dL_law_300 : decode cL_law 300 = .ok (.iadd, 1) := by decide +kernel
theorem dL_law_301 : decode cL_law 301 = .ok (.iaload, 1) := by decide +kernel
theorem dL_law_302 : decode cL_law 302 = .ok (.aload_n 0, 1) := by decide +kernel
theorem dL_law_303 : decode cL_law 303 = .ok (.iload_n 3, 1) := by decide +kernel
theorem dL_law_304 : decode cL_law 304 = .ok (.iconst 3, 1) := by decide +kernel
theorem dL_law_305 : decode cL_law 305 = .ok (.iadd, 1) := by decide +kernel
theorem dL_law_306 : decode cL_law 306 = .ok (.iaload, 1) := by decide +kernel
theorem dL_law_307 : decode cL_law 307 = .ok (.aload_n 0, 1) := by decide +kernel
theorem dL_law_308 : decode cL_law 308 = .ok (.iload_n 3, 1) := by decide +kernel
theorem dL_law_309 : decode cL_law 309 = .ok (.iconst 4, 1) := by decide +kernel
theorem dL_law_310 : decode cL_law 310 = .ok (.iadd, 1) := by decide +kernel
theorem dL_law_311 : decode cL_law 311 = .ok (.iaload, 1) := by decide +kernel
theorem dL_law_312 : decode cL_law 312 = .ok (.invokevirtual 28, 3) := by decide +kernel
theorem dL_law_315 : decode cL_law 315 = .ok (.aload_n 2, 1) := by decide +kernel
theorem dL_law_316 : decode cL_law 316 = .ok (.aload_n 0, 1) := by decide +kernel
theorem dL_law_317 : decode cL_law 317 = .ok (.iload_n 3, 1) := by decide +kernel
theorem dL_law_318 : decode cL_law 318 = .ok (.iconst 1, 1) := by decide +kernel
theorem dL_law_319 : decode cL_law 319 = .ok (.iadd, 1) := by decide +kernel
theorem dL_law_320 : decode cL_law 320 = .ok (.iaload, 1) := by decide +kernel
theorem dL_law_321 : decode cL_law 321 = .ok (.aload_n 0, 1) := by decide +kernel
theorem dL_law_322 : decode cL_law 322 = .ok (.iload_n 3, 1) := by decide +kernel
theorem dL_law_323 : decode cL_law 323 = .ok (.iconst 2, 1) := by decide +kernel
theorem dL_law_324 : decode cL_law 324 = .ok (.iadd, 1) := by decide +kernel
theorem dL_law_325 : decode cL_law 325 = .ok (.iaload, 1) := by decide +kernel
theorem dL_law_326 : decode cL_law 326 = .ok (.aload_n 0, 1) := by decide +kernel
theorem dL_law_327 : decode cL_law 327 = .ok (.iload_n 3, 1) := by decide +kernel
theorem dL_law_328 : decode cL_law 328 = .ok (.iconst 3, 1) := by decide +kernel
theorem dL_law_329 : decode cL_law 329 = .ok (.iadd, 1) := by decide +kernel
theorem dL_law_330 : decode cL_law 330 = .ok (.iaload, 1) := by decide +kernel
theorem dL_law_331 : decode cL_law 331 = .ok (.aload_n 0, 1) := by decide +kernel
theorem dL_law_332 : decode cL_law 332 = .ok (.iload_n 3, 1) := by decide +kernel
theorem dL_law_333 : decode cL_law 333 = .ok (.iconst 4, 1) := by decide +kernel
theorem dL_law_334 : decode cL_law 334 = .ok (.iadd, 1) := by decide +kernel
theorem dL_law_335 : decode cL_law 335 = .ok (.iaload, 1) := by decide +kernel
theorem dL_law_336 : decode cL_law 336 = .ok (.invokevirtual 31, 3) := by decide +kernel
theorem dL_law_339 : decode cL_law 339 = .ok (.if_icmp .eq 604, 3) := by decide +kernel
theorem dL_law_342 : decode cL_law 342 = .ok (.iconst 0, 1) := by decide +kernel
theorem dL_law_343 : decode cL_law 343 = .ok (.ireturn, 1) := by decide +kernel
theorem dL_law_344 : decode cL_law 344 = .ok (.aload_n 1, 1) := by decide +kernel
theorem dL_law_345 : decode cL_law 345 = .ok (.aload_n 0, 1) := by decide +kernel
theorem dL_law_346 : decode cL_law 346 = .ok (.iload_n 3, 1) := by decide +kernel
theorem dL_law_347 : decode cL_law 347 = .ok (.iconst 1, 1) := by decide +kernel
theorem dL_law_348 : decode cL_law 348 = .ok (.iadd, 1) := by decide +kernel
theorem dL_law_349 : decode cL_law 349 = .ok (.iaload, 1) := by decide +kernel
theorem dL_law_350 : decode cL_law 350 = .ok (.invokevirtual 32, 3) := by decide +kernel
theorem dL_law_353 : decode cL_law 353 = .ok (.aload_n 2, 1) := by decide +kernel
theorem dL_law_354 : decode cL_law 354 = .ok (.aload_n 0, 1) := by decide +kernel
theorem dL_law_355 : decode cL_law 355 = .ok (.iload_n 3, 1) := by decide +kernel
theorem dL_law_356 : decode cL_law 356 = .ok (.iconst 1, 1) := by decide +kernel
theorem dL_law_357 : decode cL_law 357 = .ok (.iadd, 1) := by decide +kernel
theorem dL_law_358 : decode cL_law 358 = .ok (.iaload, 1) := by decide +kernel
theorem dL_law_359 : decode cL_law 359 = .ok (.invokevirtual 36, 3) := by decide +kernel
theorem dL_law_362 : decode cL_law 362 = .ok (.if_icmp .eq 581, 3) := by decide +kernel
theorem dL_law_365 : decode cL_law 365 = .ok (.iconst 0, 1) := by decide +kernel
theorem dL_law_366 : decode cL_law 366 = .ok (.ireturn, 1) := by decide +kernel
theorem dL_law_367 : decode cL_law 367 = .ok (.aload_n 1, 1) := by decide +kernel
theorem dL_law_368 : decode cL_law 368 = .ok (.aload_n 0, 1) := by decide +kernel
theorem dL_law_369 : decode cL_law 369 = .ok (.iload_n 3, 1) := by decide +kernel
theorem dL_law_370 : decode cL_law 370 = .ok (.iconst 1, 1) := by decide +kernel
theorem dL_law_371 : decode cL_law 371 = .ok (.iadd, 1) := by decide +kernel
theorem dL_law_372 : decode cL_law 372 = .ok (.iaload, 1) := by decide +kernel
theorem dL_law_373 : decode cL_law 373 = .ok (.aload_n 0, 1) := by decide +kernel
theorem dL_law_374 : decode cL_law 374 = .ok (.iload_n 3, 1) := by decide +kernel
theorem dL_law_375 : decode cL_law 375 = .ok (.iconst 2, 1) := by decide +kernel
theorem dL_law_376 : decode cL_law 376 = .ok (.iadd, 1) := by decide +kernel
theorem dL_law_377 : decode cL_law 377 = .ok (.iaload, 1) := by decide +kernel
theorem dL_law_378 : decode cL_law 378 = .ok (.invokevirtual 37, 3) := by decide +kernel
theorem dL_law_381 : decode cL_law 381 = .ok (.aload_n 2, 1) := by decide +kernel
theorem dL_law_382 : decode cL_law 382 = .ok (.aload_n 0, 1) := by decide +kernel
theorem dL_law_383 : decode cL_law 383 = .ok (.iload_n 3, 1) := by decide +kernel
theorem dL_law_384 : decode cL_law 384 = .ok (.iconst 1, 1) := by decide +kernel
theorem dL_law_385 : decode cL_law 385 = .ok (.iadd, 1) := by decide +kernel
theorem dL_law_386 : decode cL_law 386 = .ok (.iaload, 1) := by decide +kernel
theorem dL_law_387 : decode cL_law 387 = .ok (.aload_n 0, 1) := by decide +kernel
theorem dL_law_388 : decode cL_law 388 = .ok (.iload_n 3, 1) := by decide +kernel
theorem dL_law_389 : decode cL_law 389 = .ok (.iconst 2, 1) := by decide +kernel
theorem dL_law_390 : decode cL_law 390 = .ok (.iadd, 1) := by decide +kernel
theorem dL_law_391 : decode cL_law 391 = .ok (.iaload, 1) := by decide +kernel
theorem dL_law_392 : decode cL_law 392 = .ok (.invokevirtual 41, 3) := by decide +kernel
theorem dL_law_395 : decode cL_law 395 = .ok (.if_icmp .eq 548, 3) := by decide +kernel
theorem dL_law_398 : decode cL_law 398 = .ok (.iconst 0, 1) := by decide +kernel
theorem dL_law_399 : decode cL_law 399 = .ok (.ireturn, 1) := by decide +kernel
theorem dL_law_400 : decode cL_law 400 = .ok (.aload_n 1, 1) := by decide +kernel
theorem dL_law_401 : decode cL_law 401 = .ok (.aload_n 0, 1) := by decide +kernel
theorem dL_law_402 : decode cL_law 402 = .ok (.iload_n 3, 1) := by decide +kernel
theorem dL_law_403 : decode cL_law 403 = .ok (.iconst 1, 1) := by decide +kernel
theorem dL_law_404 : decode cL_law 404 = .ok (.iadd, 1) := by decide +kernel
theorem dL_law_405 : decode cL_law 405 = .ok (.iaload, 1) := by decide +kernel
theorem dL_law_406 : decode cL_law 406 = .ok (.aload_n 0, 1) := by decide +kernel
theorem dL_law_407 : decode cL_law 407 = .ok (.iload_n 3, 1) := by decide +kernel
theorem dL_law_408 : decode cL_law 408 = .ok (.iconst 2, 1) := by decide +kernel
theorem dL_law_409 : decode cL_law 409 = .ok (.iadd, 1) := by decide +kernel
theorem dL_law_410 : decode cL_law 410 = .ok (.iaload, 1) := by decide +kernel
theorem dL_law_411 : decode cL_law 411 = .ok (.invokevirtual 42, 3) := by decide +kernel
theorem dL_law_414 : decode cL_law 414 = .ok (.aload_n 2, 1) := by decide +kernel
theorem dL_law_415 : decode cL_law 415 = .ok (.aload_n 0, 1) := by decide +kernel
theorem dL_law_416 : decode cL_law 416 = .ok (.iload_n 3, 1) := by decide +kernel
theorem dL_law_417 : decode cL_law 417 = .ok (.iconst 1, 1) := by decide +kernel
theorem dL_law_418 : decode cL_law 418 = .ok (.iadd, 1) := by decide +kernel
theorem dL_law_419 : decode cL_law 419 = .ok (.iaload, 1) := by decide +kernel
theorem dL_law_420 : decode cL_law 420 = .ok (.aload_n 0, 1) := by decide +kernel
theorem dL_law_421 : decode cL_law 421 = .ok (.iload_n 3, 1) := by decide +kernel
theorem dL_law_422 : decode cL_law 422 = .ok (.iconst 2, 1) := by decide +kernel
theorem dL_law_423 : decode cL_law 423 = .ok (.iadd, 1) := by decide +kernel
theorem dL_law_424 : decode cL_law 424 = .ok (.iaload, 1) := by decide +kernel
theorem dL_law_425 : decode cL_law 425 = .ok (.invokevirtual 45, 3) := by decide +kernel
theorem dL_law_428 : decode cL_law 428 = .ok (.if_icmp .eq 515, 3) := by decide +kernel
theorem dL_law_431 : decode cL_law 431 = .ok (.iconst 0, 1) := by decide +kernel
theorem dL_law_432 : decode cL_law 432 = .ok (.ireturn, 1) := by decide +kernel
theorem dL_law_433 : decode cL_law 433 = .ok (.aload_n 1, 1) := by decide +kernel
theorem dL_law_434 : decode cL_law 434 = .ok (.aload_n 0, 1) := by decide +kernel
theorem dL_law_435 : decode cL_law 435 = .ok (.iload_n 3, 1) := by decide +kernel
theorem dL_law_436 : decode cL_law 436 = .ok (.iconst 1, 1) := by decide +kernel
theorem dL_law_437 : decode cL_law 437 = .ok (.iadd, 1) := by decide +kernel
theorem dL_law_438 : decode cL_law 438 = .ok (.iaload, 1) := by decide +kernel
theorem dL_law_439 : decode cL_law 439 = .ok (.aload_n 0, 1) := by decide +kernel
theorem dL_law_440 : decode cL_law 440 = .ok (.iload_n 3, 1) := by decide +kernel
theorem dL_law_441 : decode cL_law 441 = .ok (.iconst 2, 1) := by decide +kernel
theorem dL_law_442 : decode cL_law 442 = .ok (.iadd, 1) := by decide +kernel
theorem dL_law_443 : decode cL_law 443 = .ok (.iaload, 1) := by decide +kernel
theorem dL_law_444 : decode cL_law 444 = .ok (.aload_n 0, 1) := by decide +kernel
theorem dL_law_445 : decode cL_law 445 = .ok (.iload_n 3, 1) := by decide +kernel
theorem dL_law_446 : decode cL_law 446 = .ok (.iconst 3, 1) := by decide +kernel
theorem dL_law_447 : decode cL_law 447 = .ok (.iadd, 1) := by decide +kernel
theorem dL_law_448 : decode cL_law 448 = .ok (.iaload, 1) := by decide +kernel
theorem dL_law_449 : decode cL_law 449 = .ok (.invokevirtual 46, 3) := by decide +kernel
theorem dL_law_452 : decode cL_law 452 = .ok (.aload_n 2, 1) := by decide +kernel
theorem dL_law_453 : decode cL_law 453 = .ok (.aload_n 0, 1) := by decide +kernel
theorem dL_law_454 : decode cL_law 454 = .ok (.iload_n 3, 1) := by decide +kernel
theorem dL_law_455 : decode cL_law 455 = .ok (.iconst 1, 1) := by decide +kernel
theorem dL_law_456 : decode cL_law 456 = .ok (.iadd, 1) := by decide +kernel
theorem dL_law_457 : decode cL_law 457 = .ok (.iaload, 1) := by decide +kernel
theorem dL_law_458 : decode cL_law 458 = .ok (.aload_n 0, 1) := by decide +kernel
theorem dL_law_459 : decode cL_law 459 = .ok (.iload_n 3, 1) := by decide +kernel
theorem dL_law_460 : decode cL_law 460 = .ok (.iconst 2, 1) := by decide +kernel
theorem dL_law_461 : decode cL_law 461 = .ok (.iadd, 1) := by decide +kernel
theorem dL_law_462 : decode cL_law 462 = .ok (.iaload, 1) := by decide +kernel
theorem dL_law_463 : decode cL_law 463 = .ok (.aload_n 0, 1) := by decide +kernel
theorem dL_law_464 : decode cL_law 464 = .ok (.iload_n 3, 1) := by decide +kernel
theorem dL_law_465 : decode cL_law 465 = .ok (.iconst 3, 1) := by decide +kernel
theorem dL_law_466 : decode cL_law 466 = .ok (.iadd, 1) := by decide +kernel
theorem dL_law_467 : decode cL_law 467 = .ok (.iaload, 1) := by decide +kernel
theorem dL_law_468 : decode cL_law 468 = .ok (.invokevirtual 50, 3) := by decide +kernel
theorem dL_law_471 : decode cL_law 471 = .ok (.if_icmp .eq 472, 3) := by decide +kernel
theorem dL_law_474 : decode cL_law 474 = .ok (.iconst 0, 1) := by decide +kernel
theorem dL_law_475 : decode cL_law 475 = .ok (.ireturn, 1) := by decide +kernel
theorem dL_law_476 : decode cL_law 476 = .ok (.aload_n 1, 1) := by decide +kernel
theorem dL_law_477 : decode cL_law 477 = .ok (.aload_n 0, 1) := by decide +kernel
theorem dL_law_478 : decode cL_law 478 = .ok (.iload_n 3, 1) := by decide +kernel
theorem dL_law_479 : decode cL_law 479 = .ok (.iconst 1, 1) := by decide +kernel
theorem dL_law_480 : decode cL_law 480 = .ok (.iadd, 1) := by decide +kernel
theorem dL_law_481 : decode cL_law 481 = .ok (.iaload, 1) := by decide +kernel
theorem dL_law_482 : decode cL_law 482 = .ok (.invokevirtual 51, 3) := by decide +kernel
theorem dL_law_485 : decode cL_law 485 = .ok (.aload_n 2, 1) := by decide +kernel
theorem dL_law_486 : decode cL_law 486 = .ok (.aload_n 0, 1) := by decide +kernel
theorem dL_law_487 : decode cL_law 487 = .ok (.iload_n 3, 1) := by decide +kernel
theorem dL_law_488 : decode cL_law 488 = .ok (.iconst 1, 1) := by decide +kernel
theorem dL_law_489 : decode cL_law 489 = .ok (.iadd, 1) := by decide +kernel
theorem dL_law_490 : decode cL_law 490 = .ok (.iaload, 1) := by decide +kernel
theorem dL_law_491 : decode cL_law 491 = .ok (.invokevirtual 55, 3) := by decide +kernel
theorem dL_law_494 : decode cL_law 494 = .ok (.if_icmp .eq 449, 3) := by decide +kernel
theorem dL_law_497 : decode cL_law 497 = .ok (.iconst 0, 1) := by decide +kernel
theorem dL_law_498 : decode cL_law 498 = .ok (.ireturn, 1) := by decide +kernel
theorem dL_law_499 : decode cL_law 499 = .ok (.aload_n 1, 1) := by decide +kernel
theorem dL_law_500 : decode cL_law 500 = .ok (.aload_n 0, 1) := by decide +kernel
theorem dL_law_501 : decode cL_law 501 = .ok (.iload_n 3, 1) := by decide +kernel
theorem dL_law_502 : decode cL_law 502 = .ok (.iconst 1, 1) := by decide +kernel
theorem dL_law_503 : decode cL_law 503 = .ok (.iadd, 1) := by decide +kernel
theorem dL_law_504 : decode cL_law 504 = .ok (.iaload, 1) := by decide +kernel
theorem dL_law_505 : decode cL_law 505 = .ok (.invokevirtual 56, 3) := by decide +kernel
theorem dL_law_508 : decode cL_law 508 = .ok (.aload_n 2, 1) := by decide +kernel
theorem dL_law_509 : decode cL_law 509 = .ok (.aload_n 0, 1) := by decide +kernel
theorem dL_law_510 : decode cL_law 510 = .ok (.iload_n 3, 1) := by decide +kernel
theorem dL_law_511 : decode cL_law 511 = .ok (.iconst 1, 1) := by decide +kernel
theorem dL_law_512 : decode cL_law 512 = .ok (.iadd, 1) := by decide +kernel
theorem dL_law_513 : decode cL_law 513 = .ok (.iaload, 1) := by decide +kernel
theorem dL_law_514 : decode cL_law 514 = .ok (.invokevirtual 59, 3) := by decide +kernel
theorem dL_law_517 : decode cL_law 517 = .ok (.if_icmp .eq 426, 3) := by decide +kernel
theorem dL_law_520 : decode cL_law 520 = .ok (.iconst 0, 1) := by decide +kernel
theorem dL_law_521 : decode cL_law 521 = .ok (.ireturn, 1) := by decide +kernel
theorem dL_law_522 : decode cL_law 522 = .ok (.aload_n 1, 1) := by decide +kernel
theorem dL_law_523 : decode cL_law 523 = .ok (.invokevirtual 60, 3) := by decide +kernel
theorem dL_law_526 : decode cL_law 526 = .ok (.aload_n 2, 1) := by decide +kernel
theorem dL_law_527 : decode cL_law 527 = .ok (.invokevirtual 64, 3) := by decide +kernel
theorem dL_law_530 : decode cL_law 530 = .ok (.if_icmp .eq 413, 3) := by decide +kernel
theorem dL_law_533 : decode cL_law 533 = .ok (.iconst 0, 1) := by decide +kernel
theorem dL_law_534 : decode cL_law 534 = .ok (.ireturn, 1) := by decide +kernel
theorem dL_law_535 : decode cL_law 535 = .ok (.aload_n 1, 1) := by decide +kernel
theorem dL_law_536 : decode cL_law 536 = .ok (.aload_n 0, 1) := by decide +kernel
theorem dL_law_537 : decode cL_law 537 = .ok (.iload_n 3, 1) := by decide +kernel
theorem dL_law_538 : decode cL_law 538 = .ok (.iconst 1, 1) := by decide +kernel
theorem dL_law_539 : decode cL_law 539 = .ok (.iadd, 1) := by decide +kernel
theorem dL_law_540 : decode cL_law 540 = .ok (.iaload, 1) := by decide +kernel
theorem dL_law_541 : decode cL_law 541 = .ok (.aload_n 0, 1) := by decide +kernel
theorem dL_law_542 : decode cL_law 542 = .ok (.iload_n 3, 1) := by decide +kernel
theorem dL_law_543 : decode cL_law 543 = .ok (.iconst 2, 1) := by decide +kernel
theorem dL_law_544 : decode cL_law 544 = .ok (.iadd, 1) := by decide +kernel
theorem dL_law_545 : decode cL_law 545 = .ok (.iaload, 1) := by decide +kernel
theorem dL_law_546 : decode cL_law 546 = .ok (.aload_n 0, 1) := by decide +kernel
theorem dL_law_547 : decode cL_law 547 = .ok (.iload_n 3, 1) := by decide +kernel
theorem dL_law_548 : decode cL_law 548 = .ok (.iconst 3, 1) := by decide +kernel
theorem dL_law_549 : decode cL_law 549 = .ok (.iadd, 1) := by decide +kernel
theorem dL_law_550 : decode cL_law 550 = .ok (.iaload, 1) := by decide +kernel
theorem dL_law_551 : decode cL_law 551 = .ok (.invokevirtual 65, 3) := by decide +kernel
theorem dL_law_554 : decode cL_law 554 = .ok (.aload_n 2, 1) := by decide +kernel
theorem dL_law_555 : decode cL_law 555 = .ok (.aload_n 0, 1) := by decide +kernel
theorem dL_law_556 : decode cL_law 556 = .ok (.iload_n 3, 1) := by decide +kernel
theorem dL_law_557 : decode cL_law 557 = .ok (.iconst 1, 1) := by decide +kernel
theorem dL_law_558 : decode cL_law 558 = .ok (.iadd, 1) := by decide +kernel
theorem dL_law_559 : decode cL_law 559 = .ok (.iaload, 1) := by decide +kernel
theorem dL_law_560 : decode cL_law 560 = .ok (.aload_n 0, 1) := by decide +kernel
theorem dL_law_561 : decode cL_law 561 = .ok (.iload_n 3, 1) := by decide +kernel
theorem dL_law_562 : decode cL_law 562 = .ok (.iconst 2, 1) := by decide +kernel
theorem dL_law_563 : decode cL_law 563 = .ok (.iadd, 1) := by decide +kernel
theorem dL_law_564 : decode cL_law 564 = .ok (.iaload, 1) := by decide +kernel
theorem dL_law_565 : decode cL_law 565 = .ok (.aload_n 0, 1) := by decide +kernel
theorem dL_law_566 : decode cL_law 566 = .ok (.iload_n 3, 1) := by decide +kernel
theorem dL_law_567 : decode cL_law 567 = .ok (.iconst 3, 1) := by decide +kernel
theorem dL_law_568 : decode cL_law 568 = .ok (.iadd, 1) := by decide +kernel
theorem dL_law_569 : decode cL_law 569 = .ok (.iaload, 1) := by decide +kernel
theorem dL_law_570 : decode cL_law 570 = .ok (.invokevirtual 68, 3) := by decide +kernel
theorem dL_law_573 : decode cL_law 573 = .ok (.if_icmp .eq 370, 3) := by decide +kernel
theorem dL_law_576 : decode cL_law 576 = .ok (.iconst 0, 1) := by decide +kernel
theorem dL_law_577 : decode cL_law 577 = .ok (.ireturn, 1) := by decide +kernel
theorem dL_law_578 : decode cL_law 578 = .ok (.aload_n 1, 1) := by decide +kernel
theorem dL_law_579 : decode cL_law 579 = .ok (.aload_n 0, 1) := by decide +kernel
theorem dL_law_580 : decode cL_law 580 = .ok (.iload_n 3, 1) := by decide +kernel
theorem dL_law_581 : decode cL_law 581 = .ok (.iconst 1, 1) := by decide +kernel
theorem dL_law_582 : decode cL_law 582 = .ok (.iadd, 1) := by decide +kernel
theorem dL_law_583 : decode cL_law 583 = .ok (.iaload, 1) := by decide +kernel
theorem dL_law_584 : decode cL_law 584 = .ok (.invokevirtual 69, 3) := by decide +kernel
theorem dL_law_587 : decode cL_law 587 = .ok (.aload_n 2, 1) := by decide +kernel
theorem dL_law_588 : decode cL_law 588 = .ok (.aload_n 0, 1) := by decide +kernel
theorem dL_law_589 : decode cL_law 589 = .ok (.iload_n 3, 1) := by decide +kernel
theorem dL_law_590 : decode cL_law 590 = .ok (.iconst 1, 1) := by decide +kernel
theorem dL_law_591 : decode cL_law 591 = .ok (.iadd, 1) := by decide +kernel
theorem dL_law_592 : decode cL_law 592 = .ok (.iaload, 1) := by decide +kernel
theorem dL_law_593 : decode cL_law 593 = .ok (.invokevirtual 72, 3) := by decide +kernel
theorem dL_law_596 : decode cL_law 596 = .ok (.if_icmp .eq 347, 3) := by decide +kernel
theorem dL_law_599 : decode cL_law 599 = .ok (.iconst 0, 1) := by decide +kernel
theorem dL_law_600 : decode cL_law 600 = .ok (.ireturn, 1) := by decide +kernel
theorem dL_law_601 : decode cL_law 601 = .ok (.aload_n 1, 1) := by decide +kernel
theorem dL_law_602 : decode cL_law 602 = .ok (.aload_n 0, 1) := by decide +kernel
theorem dL_law_603 : decode cL_law 603 = .ok (.iload_n 3, 1) := by decide +kernel
theorem dL_law_604 : decode cL_law 604 = .ok (.iconst 1, 1) := by decide +kernel
theorem dL_law_605 : decode cL_law 605 = .ok (.iadd, 1) := by decide +kernel
theorem dL_law_606 : decode cL_law 606 = .ok (.iaload, 1) := by decide +kernel
theorem dL_law_607 : decode cL_law 607 = .ok (.aload_n 0, 1) := by decide +kernel
theorem dL_law_608 : decode cL_law 608 = .ok (.iload_n 3, 1) := by decide +kernel
theorem dL_law_609 : decode cL_law 609 = .ok (.iconst 2, 1) := by decide +kernel
theorem dL_law_610 : decode cL_law 610 = .ok (.iadd, 1) := by decide +kernel
theorem dL_law_611 : decode cL_law 611 = .ok (.iaload, 1) := by decide +kernel
theorem dL_law_612 : decode cL_law 612 = .ok (.aload_n 0, 1) := by decide +kernel
theorem dL_law_613 : decode cL_law 613 = .ok (.iload_n 3, 1) := by decide +kernel
theorem dL_law_614 : decode cL_law 614 = .ok (.iconst 3, 1) := by decide +kernel
theorem dL_law_615 : decode cL_law 615 = .ok (.iadd, 1) := by decide +kernel
theorem dL_law_616 : decode cL_law 616 = .ok (.iaload, 1) := by decide +kernel
theorem dL_law_617 : decode cL_law 617 = .ok (.invokevirtual 73, 3) := by decide +kernel
theorem dL_law_620 : decode cL_law 620 = .ok (.aload_n 2, 1) := by decide +kernel
theorem dL_law_621 : decode cL_law 621 = .ok (.aload_n 0, 1) := by decide +kernel
theorem dL_law_622 : decode cL_law 622 = .ok (.iload_n 3, 1) := by decide +kernel
theorem dL_law_623 : decode cL_law 623 = .ok (.iconst 1, 1) := by decide +kernel
theorem dL_law_624 : decode cL_law 624 = .ok (.iadd, 1) := by decide +kernel
theorem dL_law_625 : decode cL_law 625 = .ok (.iaload, 1) := by decide +kernel
theorem dL_law_626 : decode cL_law 626 = .ok (.aload_n 0, 1) := by decide +kernel
theorem dL_law_627 : decode cL_law 627 = .ok (.iload_n 3, 1) := by decide +kernel
theorem dL_law_628 : decode cL_law 628 = .ok (.iconst 2, 1) := by decide +kernel
theorem dL_law_629 : decode cL_law 629 = .ok (.iadd, 1) := by decide +kernel
theorem dL_law_630 : decode cL_law 630 = .ok (.iaload, 1) := by decide +kernel
theorem dL_law_631 : decode cL_law 631 = .ok (.aload_n 0, 1) := by decide +kernel
theorem dL_law_632 : decode cL_law 632 = .ok (.iload_n 3, 1) := by decide +kernel
theorem dL_law_633 : decode cL_law 633 = .ok (.iconst 3, 1) := by decide +kernel
theorem dL_law_634 : decode cL_law 634 = .ok (.iadd, 1) := by decide +kernel
theorem dL_law_635 : decode cL_law 635 = .ok (.iaload, 1) := by decide +kernel
theorem dL_law_636 : decode cL_law 636 = .ok (.invokevirtual 76, 3) := by decide +kernel
theorem dL_law_639 : decode cL_law 639 = .ok (.if_icmp .eq 304, 3) := by decide +kernel
theorem dL_law_642 : decode cL_law 642 = .ok (.iconst 0, 1) := by decide +kernel
theorem dL_law_643 : decode cL_law 643 = .ok (.ireturn, 1) := by decide +kernel
theorem dL_law_644 : decode cL_law 644 = .ok (.aload_n 1, 1) := by decide +kernel
theorem dL_law_645 : decode cL_law 645 = .ok (.aload_n 0, 1) := by decide +kernel
theorem dL_law_646 : decode cL_law 646 = .ok (.iload_n 3, 1) := by decide +kernel
theorem dL_law_647 : decode cL_law 647 = .ok (.iconst 1, 1) := by decide +kernel
theorem dL_law_648 : decode cL_law 648 = .ok (.iadd, 1) := by decide +kernel
theorem dL_law_649 : decode cL_law 649 = .ok (.iaload, 1) := by decide +kernel
theorem dL_law_650 : decode cL_law 650 = .ok (.aload_n 0, 1) := by decide +kernel
theorem dL_law_651 : decode cL_law 651 = .ok (.iload_n 3, 1) := by decide +kernel
theorem dL_law_652 : decode cL_law 652 = .ok (.iconst 2, 1) := by decide +kernel
theorem dL_law_653 : decode cL_law 653 = .ok (.iadd, 1) := by decide +kernel
theorem dL_law_654 : decode cL_law 654 = .ok (.iaload, 1) := by decide +kernel
theorem dL_law_655 : decode cL_law 655 = .ok (.aload_n 0, 1) := by decide +kernel
theorem dL_law_656 : decode cL_law 656 = .ok (.iload_n 3, 1) := by decide +kernel
theorem dL_law_657 : decode cL_law 657 = .ok (.iconst 3, 1) := by decide +kernel
theorem dL_law_658 : decode cL_law 658 = .ok (.iadd, 1) := by decide +kernel
theorem dL_law_659 : decode cL_law 659 = .ok (.iaload, 1) := by decide +kernel
theorem dL_law_660 : decode cL_law 660 = .ok (.aload_n 0, 1) := by decide +kernel
theorem dL_law_661 : decode cL_law 661 = .ok (.iload_n 3, 1) := by decide +kernel
theorem dL_law_662 : decode cL_law 662 = .ok (.iconst 4, 1) := by decide +kernel
theorem dL_law_663 : decode cL_law 663 = .ok (.iadd, 1) := by decide +kernel
theorem dL_law_664 : decode cL_law 664 = .ok (.iaload, 1) := by decide +kernel
theorem dL_law_665 : decode cL_law 665 = .ok (.aload_n 0, 1) := by decide +kernel
theorem dL_law_666 : decode cL_law 666 = .ok (.iload_n 3, 1) := by decide +kernel
theorem dL_law_667 : decode cL_law 667 = .ok (.iconst 5, 1) := by decide +kernel
theorem dL_law_668 : decode cL_law 668 = .ok (.iadd, 1) := by decide +kernel
theorem dL_law_669 : decode cL_law 669 = .ok (.iaload, 1) := by decide +kernel
theorem dL_law_670 : decode cL_law 670 = .ok (.aload_n 0, 1) := by decide +kernel
theorem dL_law_671 : decode cL_law 671 = .ok (.iload_n 3, 1) := by decide +kernel
theorem dL_law_672 : decode cL_law 672 = .ok (.bipush 6, 2) := by decide +kernel
theorem dL_law_674 : decode cL_law 674 = .ok (.iadd, 1) := by decide +kernel
theorem dL_law_675 : decode cL_law 675 = .ok (.iaload, 1) := by decide +kernel
theorem dL_law_676 : decode cL_law 676 = .ok (.ifCond .eq 7, 3) := by decide +kernel
theorem dL_law_679 : decode cL_law 679 = .ok (.iconst 1, 1) := by decide +kernel
theorem dL_law_680 : decode cL_law 680 = .ok (.goto 4, 3) := by decide +kernel
theorem dL_law_683 : decode cL_law 683 = .ok (.iconst 0, 1) := by decide +kernel
theorem dL_law_684 : decode cL_law 684 = .ok (.invokevirtual 77, 3) := by decide +kernel
theorem dL_law_687 : decode cL_law 687 = .ok (.aload_n 2, 1) := by decide +kernel
theorem dL_law_688 : decode cL_law 688 = .ok (.aload_n 0, 1) := by decide +kernel
theorem dL_law_689 : decode cL_law 689 = .ok (.iload_n 3, 1) := by decide +kernel
theorem dL_law_690 : decode cL_law 690 = .ok (.iconst 1, 1) := by decide +kernel
theorem dL_law_691 : decode cL_law 691 = .ok (.iadd, 1) := by decide +kernel
theorem dL_law_692 : decode cL_law 692 = .ok (.iaload, 1) := by decide +kernel
theorem dL_law_693 : decode cL_law 693 = .ok (.aload_n 0, 1) := by decide +kernel
theorem dL_law_694 : decode cL_law 694 = .ok (.iload_n 3, 1) := by decide +kernel
theorem dL_law_695 : decode cL_law 695 = .ok (.iconst 2, 1) := by decide +kernel
theorem dL_law_696 : decode cL_law 696 = .ok (.iadd, 1) := by decide +kernel
theorem dL_law_697 : decode cL_law 697 = .ok (.iaload, 1) := by decide +kernel
theorem dL_law_698 : decode cL_law 698 = .ok (.aload_n 0, 1) := by decide +kernel
theorem dL_law_699 : decode cL_law 699 = .ok (.iload_n 3, 1) := by decide +kernel
theorem dL_law_700 : decode cL_law 700 = .ok (.iconst 3, 1) := by decide +kernel
theorem dL_law_701 : decode cL_law 701 = .ok (.iadd, 1) := by decide +kernel
theorem dL_law_702 : decode cL_law 702 = .ok (.iaload, 1) := by decide +kernel
theorem dL_law_703 : decode cL_law 703 = .ok (.aload_n 0, 1) := by decide +kernel
theorem dL_law_704 : decode cL_law 704 = .ok (.iload_n 3, 1) := by decide +kernel
theorem dL_law_705 : decode cL_law 705 = .ok (.iconst 4, 1) := by decide +kernel
theorem dL_law_706 : decode cL_law 706 = .ok (.iadd, 1) := by decide +kernel
theorem dL_law_707 : decode cL_law 707 = .ok (.iaload, 1) := by decide +kernel
theorem dL_law_708 : decode cL_law 708 = .ok (.aload_n 0, 1) := by decide +kernel
theorem dL_law_709 : decode cL_law 709 = .ok (.iload_n 3, 1) := by decide +kernel
theorem dL_law_710 : decode cL_law 710 = .ok (.iconst 5, 1) := by decide +kernel
theorem dL_law_711 : decode cL_law 711 = .ok (.iadd, 1) := by decide +kernel
theorem dL_law_712 : decode cL_law 712 = .ok (.iaload, 1) := by decide +kernel
theorem dL_law_713 : decode cL_law 713 = .ok (.aload_n 0, 1) := by decide +kernel
theorem dL_law_714 : decode cL_law 714 = .ok (.iload_n 3, 1) := by decide +kernel
theorem dL_law_715 : decode cL_law 715 = .ok (.bipush 6, 2) := by decide +kernel
theorem dL_law_717 : decode cL_law 717 = .ok (.iadd, 1) := by decide +kernel
theorem dL_law_718 : decode cL_law 718 = .ok (.iaload, 1) := by decide +kernel
theorem dL_law_719 : decode cL_law 719 = .ok (.ifCond .eq 7, 3) := by decide +kernel
theorem dL_law_722 : decode cL_law 722 = .ok (.iconst 1, 1) := by decide +kernel
theorem dL_law_723 : decode cL_law 723 = .ok (.goto 4, 3) := by decide +kernel
theorem dL_law_726 : decode cL_law 726 = .ok (.iconst 0, 1) := by decide +kernel
theorem dL_law_727 : decode cL_law 727 = .ok (.invokevirtual 81, 3) := by decide +kernel
theorem dL_law_730 : decode cL_law 730 = .ok (.if_icmp .eq 213, 3) := by decide +kernel
theorem dL_law_733 : decode cL_law 733 = .ok (.iconst 0, 1) := by decide +kernel
theorem dL_law_734 : decode cL_law 734 = .ok (.ireturn, 1) := by decide +kernel
theorem dL_law_735 : decode cL_law 735 = .ok (.aload_n 1, 1) := by decide +kernel
theorem dL_law_736 : decode cL_law 736 = .ok (.aload_n 0, 1) := by decide +kernel
theorem dL_law_737 : decode cL_law 737 = .ok (.iload_n 3, 1) := by decide +kernel
theorem dL_law_738 : decode cL_law 738 = .ok (.iconst 1, 1) := by decide +kernel
theorem dL_law_739 : decode cL_law 739 = .ok (.iadd, 1) := by decide +kernel
theorem dL_law_740 : decode cL_law 740 = .ok (.iaload, 1) := by decide +kernel
theorem dL_law_741 : decode cL_law 741 = .ok (.aload_n 0, 1) := by decide +kernel
theorem dL_law_742 : decode cL_law 742 = .ok (.iload_n 3, 1) := by decide +kernel
theorem dL_law_743 : decode cL_law 743 = .ok (.iconst 2, 1) := by decide +kernel
theorem dL_law_744 : decode cL_law 744 = .ok (.iadd, 1) := by decide +kernel
theorem dL_law_745 : decode cL_law 745 = .ok (.iaload, 1) := by decide +kernel
theorem dL_law_746 : decode cL_law 746 = .ok (.invokevirtual 82, 3) := by decide +kernel
theorem dL_law_749 : decode cL_law 749 = .ok (.aload_n 2, 1) := by decide +kernel
theorem dL_law_750 : decode cL_law 750 = .ok (.aload_n 0, 1) := by decide +kernel
theorem dL_law_751 : decode cL_law 751 = .ok (.iload_n 3, 1) := by decide +kernel
theorem dL_law_752 : decode cL_law 752 = .ok (.iconst 1, 1) := by decide +kernel
theorem dL_law_753 : decode cL_law 753 = .ok (.iadd, 1) := by decide +kernel
theorem dL_law_754 : decode cL_law 754 = .ok (.iaload, 1) := by decide +kernel
theorem dL_law_755 : decode cL_law 755 = .ok (.aload_n 0, 1) := by decide +kernel
theorem dL_law_756 : decode cL_law 756 = .ok (.iload_n 3, 1) := by decide +kernel
theorem dL_law_757 : decode cL_law 757 = .ok (.iconst 2, 1) := by decide +kernel
theorem dL_law_758 : decode cL_law 758 = .ok (.iadd, 1) := by decide +kernel
theorem dL_law_759 : decode cL_law 759 = .ok (.iaload, 1) := by decide +kernel
theorem dL_law_760 : decode cL_law 760 = .ok (.invokevirtual 85, 3) := by decide +kernel
theorem dL_law_763 : decode cL_law 763 = .ok (.if_icmp .eq 180, 3) := by decide +kernel
theorem dL_law_766 : decode cL_law 766 = .ok (.iconst 0, 1) := by decide +kernel
theorem dL_law_767 : decode cL_law 767 = .ok (.ireturn, 1) := by decide +kernel
theorem dL_law_768 : decode cL_law 768 = .ok (.aload_n 1, 1) := by decide +kernel
theorem dL_law_769 : decode cL_law 769 = .ok (.aload_n 0, 1) := by decide +kernel
theorem dL_law_770 : decode cL_law 770 = .ok (.iload_n 3, 1) := by decide +kernel
theorem dL_law_771 : decode cL_law 771 = .ok (.iconst 1, 1) := by decide +kernel
theorem dL_law_772 : decode cL_law 772 = .ok (.iadd, 1) := by decide +kernel
theorem dL_law_773 : decode cL_law 773 = .ok (.iaload, 1) := by decide +kernel
theorem dL_law_774 : decode cL_law 774 = .ok (.aload_n 0, 1) := by decide +kernel
theorem dL_law_775 : decode cL_law 775 = .ok (.iload_n 3, 1) := by decide +kernel
theorem dL_law_776 : decode cL_law 776 = .ok (.iconst 2, 1) := by decide +kernel
theorem dL_law_777 : decode cL_law 777 = .ok (.iadd, 1) := by decide +kernel
theorem dL_law_778 : decode cL_law 778 = .ok (.iaload, 1) := by decide +kernel
theorem dL_law_779 : decode cL_law 779 = .ok (.aload_n 0, 1) := by decide +kernel
theorem dL_law_780 : decode cL_law 780 = .ok (.iload_n 3, 1) := by decide +kernel
theorem dL_law_781 : decode cL_law 781 = .ok (.iconst 3, 1) := by decide +kernel
theorem dL_law_782 : decode cL_law 782 = .ok (.iadd, 1) := by decide +kernel
theorem dL_law_783 : decode cL_law 783 = .ok (.iaload, 1) := by decide +kernel
theorem dL_law_784 : decode cL_law 784 = .ok (.aload_n 0, 1) := by decide +kernel
theorem dL_law_785 : decode cL_law 785 = .ok (.iload_n 3, 1) := by decide +kernel
theorem dL_law_786 : decode cL_law 786 = .ok (.iconst 4, 1) := by decide +kernel
theorem dL_law_787 : decode cL_law 787 = .ok (.iadd, 1) := by decide +kernel
theorem dL_law_788 : decode cL_law 788 = .ok (.iaload, 1) := by decide +kernel
theorem dL_law_789 : decode cL_law 789 = .ok (.invokevirtual 86, 3) := by decide +kernel
theorem dL_law_792 : decode cL_law 792 = .ok (.aload_n 2, 1) := by decide +kernel
theorem dL_law_793 : decode cL_law 793 = .ok (.aload_n 0, 1) := by decide +kernel
theorem dL_law_794 : decode cL_law 794 = .ok (.iload_n 3, 1) := by decide +kernel
theorem dL_law_795 : decode cL_law 795 = .ok (.iconst 1, 1) := by decide +kernel
theorem dL_law_796 : decode cL_law 796 = .ok (.iadd, 1) := by decide +kernel
theorem dL_law_797 : decode cL_law 797 = .ok (.iaload, 1) := by decide +kernel
theorem dL_law_798 : decode cL_law 798 = .ok (.aload_n 0, 1) := by decide +kernel
theorem dL_law_799 : decode cL_law 799 = .ok (.iload_n 3, 1) := by decide +kernel
theorem dL_law_800 : decode cL_law 800 = .ok (.iconst 2, 1) := by decide +kernel
theorem dL_law_801 : decode cL_law 801 = .ok (.iadd, 1) := by decide +kernel
theorem dL_law_802 : decode cL_law 802 = .ok (.iaload, 1) := by decide +kernel
theorem dL_law_803 : decode cL_law 803 = .ok (.aload_n 0, 1) := by decide +kernel
theorem dL_law_804 : decode cL_law 804 = .ok (.iload_n 3, 1) := by decide +kernel
theorem dL_law_805 : decode cL_law 805 = .ok (.iconst 3, 1) := by decide +kernel
theorem dL_law_806 : decode cL_law 806 = .ok (.iadd, 1) := by decide +kernel
theorem dL_law_807 : decode cL_law 807 = .ok (.iaload, 1) := by decide +kernel
theorem dL_law_808 : decode cL_law 808 = .ok (.aload_n 0, 1) := by decide +kernel
theorem dL_law_809 : decode cL_law 809 = .ok (.iload_n 3, 1) := by decide +kernel
theorem dL_law_810 : decode cL_law 810 = .ok (.iconst 4, 1) := by decide +kernel
theorem dL_law_811 : decode cL_law 811 = .ok (.iadd, 1) := by decide +kernel
theorem dL_law_812 : decode cL_law 812 = .ok (.iaload, 1) := by decide +kernel
theorem dL_law_813 : decode cL_law 813 = .ok (.invokevirtual 90, 3) := by decide +kernel
theorem dL_law_816 : decode cL_law 816 = .ok (.if_icmp .eq 127, 3) := by decide +kernel
theorem dL_law_819 : decode cL_law 819 = .ok (.iconst 0, 1) := by decide +kernel
theorem dL_law_820 : decode cL_law 820 = .ok (.ireturn, 1) := by decide +kernel
theorem dL_law_821 : decode cL_law 821 = .ok (.aload_n 1, 1) := by decide +kernel
theorem dL_law_822 : decode cL_law 822 = .ok (.aload_n 0, 1) := by decide +kernel
theorem dL_law_823 : decode cL_law 823 = .ok (.iload_n 3, 1) := by decide +kernel
theorem dL_law_824 : decode cL_law 824 = .ok (.iconst 1, 1) := by decide +kernel
theorem dL_law_825 : decode cL_law 825 = .ok (.iadd, 1) := by decide +kernel
theorem dL_law_826 : decode cL_law 826 = .ok (.iaload, 1) := by decide +kernel
theorem dL_law_827 : decode cL_law 827 = .ok (.aload_n 0, 1) := by decide +kernel
theorem dL_law_828 : decode cL_law 828 = .ok (.iload_n 3, 1) := by decide +kernel
theorem dL_law_829 : decode cL_law 829 = .ok (.iconst 2, 1) := by decide +kernel
theorem dL_law_830 : decode cL_law 830 = .ok (.iadd, 1) := by decide +kernel
theorem dL_law_831 : decode cL_law 831 = .ok (.iaload, 1) := by decide +kernel
theorem dL_law_832 : decode cL_law 832 = .ok (.aload_n 0, 1) := by decide +kernel
theorem dL_law_833 : decode cL_law 833 = .ok (.iload_n 3, 1) := by decide +kernel
theorem dL_law_834 : decode cL_law 834 = .ok (.iconst 3, 1) := by decide +kernel
theorem dL_law_835 : decode cL_law 835 = .ok (.iadd, 1) := by decide +kernel
theorem dL_law_836 : decode cL_law 836 = .ok (.iaload, 1) := by decide +kernel
theorem dL_law_837 : decode cL_law 837 = .ok (.invokevirtual 91, 3) := by decide +kernel
theorem dL_law_840 : decode cL_law 840 = .ok (.aload_n 2, 1) := by decide +kernel
theorem dL_law_841 : decode cL_law 841 = .ok (.aload_n 0, 1) := by decide +kernel
theorem dL_law_842 : decode cL_law 842 = .ok (.iload_n 3, 1) := by decide +kernel
theorem dL_law_843 : decode cL_law 843 = .ok (.iconst 1, 1) := by decide +kernel
theorem dL_law_844 : decode cL_law 844 = .ok (.iadd, 1) := by decide +kernel
theorem dL_law_845 : decode cL_law 845 = .ok (.iaload, 1) := by decide +kernel
theorem dL_law_846 : decode cL_law 846 = .ok (.aload_n 0, 1) := by decide +kernel
theorem dL_law_847 : decode cL_law 847 = .ok (.iload_n 3, 1) := by decide +kernel
theorem dL_law_848 : decode cL_law 848 = .ok (.iconst 2, 1) := by decide +kernel
theorem dL_law_849 : decode cL_law 849 = .ok (.iadd, 1) := by decide +kernel
theorem dL_law_850 : decode cL_law 850 = .ok (.iaload, 1) := by decide +kernel
theorem dL_law_851 : decode cL_law 851 = .ok (.aload_n 0, 1) := by decide +kernel
theorem dL_law_852 : decode cL_law 852 = .ok (.iload_n 3, 1) := by decide +kernel
theorem dL_law_853 : decode cL_law 853 = .ok (.iconst 3, 1) := by decide +kernel
theorem dL_law_854 : decode cL_law 854 = .ok (.iadd, 1) := by decide +kernel
theorem dL_law_855 : decode cL_law 855 = .ok (.iaload, 1) := by decide +kernel
theorem dL_law_856 : decode cL_law 856 = .ok (.invokevirtual 94, 3) := by decide +kernel
theorem dL_law_859 : decode cL_law 859 = .ok (.if_icmp .eq 84, 3) := by decide +kernel
theorem dL_law_862 : decode cL_law 862 = .ok (.iconst 0, 1) := by decide +kernel
theorem dL_law_863 : decode cL_law 863 = .ok (.ireturn, 1) := by decide +kernel
theorem dL_law_864 : decode cL_law 864 = .ok (.aload_n 1, 1) := by decide +kernel
theorem dL_law_865 : decode cL_law 865 = .ok (.aload_n 0, 1) := by decide +kernel
theorem dL_law_866 : decode cL_law 866 = .ok (.iload_n 3, 1) := by decide +kernel
theorem dL_law_867 : decode cL_law 867 = .ok (.iconst 1, 1) := by decide +kernel
theorem dL_law_868 : decode cL_law 868 = .ok (.iadd, 1) := by decide +kernel
theorem dL_law_869 : decode cL_law 869 = .ok (.iaload, 1) := by decide +kernel
theorem dL_law_870 : decode cL_law 870 = .ok (.invokevirtual 95, 3) := by decide +kernel
theorem dL_law_873 : decode cL_law 873 = .ok (.aload_n 2, 1) := by decide +kernel
theorem dL_law_874 : decode cL_law 874 = .ok (.aload_n 0, 1) := by decide +kernel
theorem dL_law_875 : decode cL_law 875 = .ok (.iload_n 3, 1) := by decide +kernel
theorem dL_law_876 : decode cL_law 876 = .ok (.iconst 1, 1) := by decide +kernel
theorem dL_law_877 : decode cL_law 877 = .ok (.iadd, 1) := by decide +kernel
theorem dL_law_878 : decode cL_law 878 = .ok (.iaload, 1) := by decide +kernel
theorem dL_law_879 : decode cL_law 879 = .ok (.invokevirtual 98, 3) := by decide +kernel
theorem dL_law_882 : decode cL_law 882 = .ok (.if_icmp .eq 61, 3) := by decide +kernel
theorem dL_law_885 : decode cL_law 885 = .ok (.iconst 0, 1) := by decide +kernel
theorem dL_law_886 : decode cL_law 886 = .ok (.ireturn, 1) := by decide +kernel
theorem dL_law_887 : decode cL_law 887 = .ok (.aload_n 1, 1) := by decide +kernel
theorem dL_law_888 : decode cL_law 888 = .ok (.aload_n 0, 1) := by decide +kernel
theorem dL_law_889 : decode cL_law 889 = .ok (.iload_n 3, 1) := by decide +kernel
theorem dL_law_890 : decode cL_law 890 = .ok (.iconst 1, 1) := by decide +kernel
theorem dL_law_891 : decode cL_law 891 = .ok (.iadd, 1) := by decide +kernel
theorem dL_law_892 : decode cL_law 892 = .ok (.iaload, 1) := by decide +kernel
theorem dL_law_893 : decode cL_law 893 = .ok (.invokevirtual 99, 3) := by decide +kernel
theorem dL_law_896 : decode cL_law 896 = .ok (.aload_n 2, 1) := by decide +kernel
theorem dL_law_897 : decode cL_law 897 = .ok (.aload_n 0, 1) := by decide +kernel
theorem dL_law_898 : decode cL_law 898 = .ok (.iload_n 3, 1) := by decide +kernel
theorem dL_law_899 : decode cL_law 899 = .ok (.iconst 1, 1) := by decide +kernel
theorem dL_law_900 : decode cL_law 900 = .ok (.iadd, 1) := by decide +kernel
theorem dL_law_901 : decode cL_law 901 = .ok (.iaload, 1) := by decide +kernel
theorem dL_law_902 : decode cL_law 902 = .ok (.invokevirtual 102, 3) := by decide +kernel
theorem dL_law_905 : decode cL_law 905 = .ok (.if_icmp .eq 38, 3) := by decide +kernel
theorem dL_law_908 : decode cL_law 908 = .ok (.iconst 0, 1) := by decide +kernel
theorem dL_law_909 : decode cL_law 909 = .ok (.ireturn, 1) := by decide +kernel
theorem dL_law_910 : decode cL_law 910 = .ok (.aload_n 1, 1) := by decide +kernel
theorem dL_law_911 : decode cL_law 911 = .ok (.aload_n 0, 1) := by decide +kernel
theorem dL_law_912 : decode cL_law 912 = .ok (.iload_n 3, 1) := by decide +kernel
theorem dL_law_913 : decode cL_law 913 = .ok (.iconst 1, 1) := by decide +kernel
theorem dL_law_914 : decode cL_law 914 = .ok (.iadd, 1) := by decide +kernel
theorem dL_law_915 : decode cL_law 915 = .ok (.iaload, 1) := by decide +kernel
theorem dL_law_916 : decode cL_law 916 = .ok (.aload_n 0, 1) := by decide +kernel
theorem dL_law_917 : decode cL_law 917 = .ok (.iload_n 3, 1) := by decide +kernel
theorem dL_law_918 : decode cL_law 918 = .ok (.iconst 2, 1) := by decide +kernel
theorem dL_law_919 : decode cL_law 919 = .ok (.iadd, 1) := by decide +kernel
theorem dL_law_920 : decode cL_law 920 = .ok (.iaload, 1) := by decide +kernel
theorem dL_law_921 : decode cL_law 921 = .ok (.invokevirtual 103, 3) := by decide +kernel
theorem dL_law_924 : decode cL_law 924 = .ok (.aload_n 2, 1) := by decide +kernel
theorem dL_law_925 : decode cL_law 925 = .ok (.aload_n 0, 1) := by decide +kernel
theorem dL_law_926 : decode cL_law 926 = .ok (.iload_n 3, 1) := by decide +kernel
theorem dL_law_927 : decode cL_law 927 = .ok (.iconst 1, 1) := by decide +kernel
theorem dL_law_928 : decode cL_law 928 = .ok (.iadd, 1) := by decide +kernel
theorem dL_law_929 : decode cL_law 929 = .ok (.iaload, 1) := by decide +kernel
theorem dL_law_930 : decode cL_law 930 = .ok (.aload_n 0, 1) := by decide +kernel
theorem dL_law_931 : decode cL_law 931 = .ok (.iload_n 3, 1) := by decide +kernel
theorem dL_law_932 : decode cL_law 932 = .ok (.iconst 2, 1) := by decide +kernel
theorem dL_law_933 : decode cL_law 933 = .ok (.iadd, 1) := by decide +kernel
theorem dL_law_934 : decode cL_law 934 = .ok (.iaload, 1) := by decide +kernel
theorem dL_law_935 : decode cL_law 935 = .ok (.invokevirtual 106, 3) := by decide +kernel
theorem dL_law_938 : decode cL_law 938 = .ok (.if_icmp .eq 5, 3) := by decide +kernel
theorem dL_law_941 : decode cL_law 941 = .ok (.iconst 0, 1) := by decide +kernel
theorem dL_law_942 : decode cL_law 942 = .ok (.ireturn, 1) := by decide +kernel
theorem dL_law_943 : decode cL_law 943 = .ok (.iinc 3 7, 3) := by decide +kernel
theorem dL_law_946 : decode cL_law 946 = .ok (.goto (-928), 3) := by decide +kernel
theorem dL_law_949 : decode cL_law 949 = .ok (.iconst 1, 1) := by decide +kernel
theorem dL_law_950 : decode cL_law 950 = .ok (.ireturn, 1) := by decide +kernel
end
section
abbrev vwCl : List vw_C := [(RX0, TX0, 8), (RX1, TX1, 4), (RX2, TX2, 8), (RX3, TX3, 19), (RX4, TX4, 6), (RX5, TX5, 6), (RX6, TX6, 36)]
end
section
/-! A LAYER OVER THE KIT: one kind of contract that only reads, one that writes, their call rows, and rows over numbers that are nI of a Nat -/
abbrev mx_G : Type := va_G × ClassId × ClassId × ClassId
def mx_nest : List (String × Nat × MethodName × String) := [("MixDesk", 21, ⟨"MixDesk$Strokes", "<init>", "()V"⟩, "MixDesk"), ("MixDesk", 35, ⟨"MixDesk$Meeting", "<init>", "()V"⟩, "MixDesk"), ("MixDesk", 42, ⟨"MixDesk$Nights", "<init>", "()V"⟩, "MixDesk"), ("MixDesk$Song", 79, ⟨"MixDesk", "within", "(III)Z"⟩, "MixDesk"), ("MixDesk$Strokes", 32, ⟨"MixDesk", "within", "(III)Z"⟩, "MixDesk"), ("MixDesk$Joins", 59, ⟨"MixDesk", "blend", "(IIII)I"⟩, "MixDesk"), ("MixDesk$Joins", 69, ⟨"MixDesk", "bendOf", "(III)I"⟩, "MixDesk"), ("MixDesk$Meeting", 30, ⟨"MixDesk", "blend", "(IIII)I"⟩, "MixDesk"), ("MixDesk$Meeting", 34, ⟨"MixDesk", "bendOf", "(III)I"⟩, "MixDesk"), ("MixDesk$Meeting", 38, ⟨"MixDesk", "within", "(III)Z"⟩, "MixDesk")]
def mx_nw (U : State) : Prop := ∀ q ∈ mx_nest, va_Nw (.methodLinkNest q.1 q.2.1 q.2.2.1 q.2.2.2) U
abbrev mx_tys (G : mx_G) : List (ClassId × FieldType) := [(G.2.1, .int), (G.2.2.1, .boolean), (G.2.2.2, .object "MixDesk$Song")]
def mx_K (G : mx_G) (U : State) : Prop := va_K G.1 vwCl (mx_tys G) U ∧ mx_nw U
theorem mx_K.moved {G : mx_G} {s U : State} (hW : s.WarmedH U.vm) (h : mx_K G s) : mx_K G U := ⟨va_K.moved hW.alike h.1, fun q hq => va_Nw.warmM hW (h.2 q hq)⟩
theorem mx_K.same {G : mx_G} {s U : State} (hv : s.vm = U.vm) (h : mx_K G s) : mx_K G U := ⟨va_K.moved (by rw [← hv]; exact Vm.Alike.refl s.vm) h.1, fun q hq => va_Nw.same rfl hv (h.2 q hq)⟩
def mx_Pre (G : mx_G) (av : List Value) (B : Heap → Prop) : Array Value → State → Prop := va_Pc av (fun U => B U.heap ∧ mx_K G U)
theorem mx_blind {G : mx_G} {av : List Value} {B : Heap → Prop} : FrameBlind (mx_Pre G av B) := fun _ _ _ _ q => ⟨q.1, q.2.1, mx_K.same rfl q.2.2⟩
theorem mx_preS {G : mx_G} {av : List Value} {B : Heap → Prop} {s : State} {H : Heap} (hK : mx_K G s) (hB : B H) : PreS s H (mx_Pre G av B) av := ⟨mx_blind, fun U hU hW => ⟨rfl, by rw [hU]; exact hB, hK.moved hW⟩⟩
theorem mx_preV {G : mx_G} {As : List Value} {b : Nat} {C : String} {B : Heap → Prop} {s : State} {H : Heap} (hK : mx_K G s) (hB : B H) (hr : ∃ cellB : Cell, H[b]? = some cellB ∧ cellB.vm.isStatics = false ∧ s.vm.findClass C = some cellB.cls) : PreV s H C b (mx_Pre G (.ref b :: As) B) As := ⟨mx_blind, hr, fun U hU hW => ⟨rfl, by rw [hU]; exact hB, hK.moved hW⟩⟩
/-- a method that only reads: its answer, and the heap as it was -/
def mx_Ro (v : Value) : Array Value → State → Outcome → State → Prop := fun _ st o t => o = .returned (some v) ∧ t.heap = st.heap
abbrev mx_RO (l : Launch) (y : MethodName) (ws : List Cond) (fr lo : Nat) (G : mx_G) (av : List Value) (B : Heap → Prop) (v : Value) : Prop := Met l y ws ({ frames := fr, cells := 0, slots := 0, locals := lo }) (mx_Pre G av B) (mx_Ro v) 0 0 (fun _ => False)
/-- a method that writes: from the cells W0 to the cells W1 u, for some u of which 'post' holds -/
def mx_Ef {S : Type} (G : mx_G) (W0 : va_W) (sz : Nat) (v : S → Option Value) (post : S → Prop) (W1 : S → va_W) : Array Value → State → Outcome → State → Prop := fun _ st o t => (∃ u : S, o = .returned (v u) ∧ post u ∧ va_P G.1 vwCl (W1 u) t.heap ∧ va_D (va_A W0 sz) (W1 u)) ∧ va_F (va_A W0 sz) st t
abbrev mx_B (G : mx_G) (sz : Nat) (W0 : va_W) : Heap → Prop := fun H => H.size = sz ∧ va_P G.1 vwCl W0 H ∧ va_D (fun _ => True) W0
abbrev mx_EF {S : Type} (l : Launch) (y : MethodName) (ws : List Cond) (fr lo mc ms : Nat) (G : mx_G) (av : List Value) (sz : Nat) (W0 : va_W) (v : S → Option Value) (post : S → Prop) (W1 : S → va_W) : Prop := Met l y ws ({ frames := fr, cells := mc, slots := ms, locals := lo }) (mx_Pre G av (mx_B G sz W0)) (mx_Ef G W0 sz v post W1) mc ms (va_A W0 sz)
/-- cells of a list, whatever their order -/
theorem mx_mem {ws : va_W} {q : Nat × va_E} (h : q ∈ ws) : ∃ k : Nat, ws[k]? = some q := List.getElem?_of_mem h
theorem mx_Psub {D : va_G} {cl : List vw_C} {ws ws' : va_W} {H : Heap} (h : va_P D cl ws H) (hs : ∀ q ∈ ws', q ∈ ws) : va_P D cl ws' H := fun k q hk => by
  obtain ⟨j, hj⟩ := mx_mem (hs q (List.mem_of_getElem? hk))
  exact h j q hj
theorem mx_nd {A : Nat → Prop} {ws : va_W} : va_D A ws ↔ (ws.map (fun q => q.1)).Nodup ∧ ∀ q ∈ ws, A q.1 := by
  constructor
  · intro h
    refine ⟨List.pairwise_iff_getElem.mpr (fun i j hi hj hij e => ?_), fun q hq => ?_⟩
    · rw [List.getElem_map, List.getElem_map] at e
      rw [List.length_map] at hi hj
      have := h.1 i j _ _ (List.getElem?_eq_getElem hi) (List.getElem?_eq_getElem hj) e
      omega
    · obtain ⟨k, hk⟩ := mx_mem hq
      exact h.2 k q hk
  · rintro ⟨hn, hA⟩
    have key : ∀ (i j : Nat) (p q : Nat × va_E), ws[i]? = some p → ws[j]? = some q → p.1 = q.1 → ¬ i < j := fun i j p q hi hj e c => by
      obtain ⟨h1, e1⟩ := List.getElem?_eq_some_iff.mp hi
      obtain ⟨h2, e2⟩ := List.getElem?_eq_some_iff.mp hj
      refine List.pairwise_iff_getElem.mp hn i j (by rw [List.length_map]; exact h1) (by rw [List.length_map]; exact h2) c ?_
      rw [List.getElem_map, List.getElem_map, e1, e2]
      exact e
    refine ⟨fun i j p q hi hj e => ?_, fun k q hk => hA q (List.mem_of_getElem? hk)⟩
    have h1 := key i j p q hi hj e
    have h2 := key j i q p hj hi e.symm
    omega
theorem mx_Dperm {A : Nat → Prop} {ws ws' : va_W} (h : va_D A ws) (hp : ws.Perm ws') : va_D A ws' := by
  rw [mx_nd] at h ⊢
  exact ⟨(hp.map _).nodup_iff.mp h.1, fun q hq => h.2 q (hp.mem_iff.mpr hq)⟩
theorem mx_Pperm {D : va_G} {cl : List vw_C} {ws ws' : va_W} {H : Heap} (h : va_P D cl ws H) (hp : ws.Perm ws') : va_P D cl ws' H := mx_Psub h (fun _ hq => hp.mem_iff.mpr hq)
theorem mx_DL {A : Nat → Prop} {a b : va_W} (h : va_D A (a ++ b)) : va_D A a := by
  rw [mx_nd] at h ⊢
  rw [List.map_append, List.nodup_append] at h
  exact ⟨h.1.1, fun q hq => h.2 q (List.mem_append_left _ hq)⟩
theorem mx_any {A B : Nat → Prop} {a : va_W} (h : va_D A a) (hB : ∀ q ∈ a, B q.1) : va_D B a := by
  rw [mx_nd] at h ⊢
  exact ⟨h.1, hB⟩
theorem mx_Ain {ws : va_W} {sz q : Nat} : va_A ws sz q ↔ q ∈ ws.map (fun q => q.1) ∨ sz ≤ q := by
  unfold va_A
  constructor
  · rintro (⟨k, e, h⟩ | h)
    · exact Or.inl (List.mem_map.mpr ⟨_, List.mem_of_getElem? h, rfl⟩)
    · exact Or.inr h
  · rintro (h | h)
    · obtain ⟨x, hx, rfl⟩ := List.mem_map.mp h
      obtain ⟨k, hk⟩ := mx_mem hx
      exact Or.inl ⟨k, x.2, hk⟩
    · exact Or.inr h
theorem mx_lt {D : va_G} {cl : List vw_C} {ws : va_W} {H : Heap} (h : va_P D cl ws H) {q : Nat × va_E} (hq : q ∈ ws) : q.1 < H.size := by
  obtain ⟨k, hk⟩ := mx_mem hq
  exact (h k q hk).lt
/-- THE FRAME RULE: what came back beside the rest, which is as it was -/
theorem mx_frame {A0 : Nat → Prop} {D : va_G} {cl : List vw_C} {W0 wr w1 : va_W} {H H1 : Heap} (hP : va_P D cl (W0 ++ wr) H) (hD : va_D A0 (W0 ++ wr)) (hA : ∀ q, H.size ≤ q → A0 q)
    (hk : ∀ q : Nat, q < H.size → ¬ va_A W0 H.size q → H1[q]? = H[q]?) (hP1 : va_P D cl w1 H1) (hD1 : va_D (va_A W0 H.size) w1) : va_P D cl (w1 ++ wr) H1 ∧ va_D A0 (w1 ++ wr) := by
  rw [mx_nd] at hD hD1
  rw [List.map_append, List.nodup_append] at hD
  have hout : ∀ q ∈ wr, ¬ va_A W0 H.size q.1 := fun q hq c => by
    rcases mx_Ain.mp c with c | c
    · exact hD.1.2.2 _ c _ (List.mem_map.mpr ⟨q, hq, rfl⟩) rfl
    · exact absurd (mx_lt hP (List.mem_append_right _ hq)) (Nat.not_lt.mpr c)
  constructor
  · refine va_P.app hP1 ?_
    intro k q hq
    have hm := List.mem_of_getElem? hq
    obtain ⟨j, hj⟩ := mx_mem (List.mem_append_right W0 hm)
    exact (hP j q hj).kept (hk _ (mx_lt hP (List.mem_append_right _ hm)) (hout q hm))
  · rw [mx_nd, List.map_append, List.nodup_append]
    refine ⟨⟨hD1.1, hD.1.2.1, fun a ha b hb e => ?_⟩, fun q hq => ?_⟩
    · obtain ⟨x, hx, rfl⟩ := List.mem_map.mp ha
      obtain ⟨y, hy, rfl⟩ := List.mem_map.mp hb
      exact hout y hy (e ▸ hD1.2 x hx)
    · rcases List.mem_append.mp hq with h | h
      · rcases mx_Ain.mp (hD1.2 q h) with c | c
        · obtain ⟨x, hx, e⟩ := List.mem_map.mp c
          exact e ▸ hD.2 x (List.mem_append_left _ hx)
        · exact hA _ c
      · exact hD.2 q (List.mem_append_right _ h)
section MXC
variable {p : Program} {l : Launch} {e : Env} {R : Room} {s : State} {m : MethodId} {args : Array Value} {below : List Frame} {meth : Method} {c : Code} {H : Heap} {locs : List Loc} {cells slots : Nat} {Q : State → Prop}
variable {pc : Nat} {ls : Array Slot} {rest st0 : List Value} {a : Array Value} {A : Nat → Prop} {H0 : Heap} {mc ms : Nat}
/-- a call that only reads -/
theorem mx_callRO {v : Value} (hr : va_Run p l e R s m args below meth c H locs cells slots 0 0 (F0 m pc ls st0) rest (mx_Ro v a) (fun _ => False))
    (kk : W p l e R s m args below meth c H locs cells slots Q (F0 m (pc + 3) ls (v :: rest))) : W p l e R s m args below meth c H locs cells slots Q (F0 m pc ls st0) := by
  intro T hT X
  obtain ⟨v', st₀, t, T', L, h0, X', hL, e1, e2, ⟨hv, hh⟩, st⟩ := hr T hT X
  cases hv
  obtain ⟨t2, a1, b1⟩ := kk T' (by rw [e1, hh, h0]) (Stand.forget X' (fun q h => (hL q h).elim))
  exact ⟨t2, st t2 a1, b1⟩
theorem mx_callE0 {S : Type} {G : mx_G} {v : S → Option Value} {post : S → Prop} {W0 wr ws : va_W} {W1 : S → va_W} (hr : va_Run p l e R s m args below meth c H locs cells slots mc ms (F0 m pc ls st0) rest (mx_Ef G W0 H.size v post W1 a) (va_A W0 H.size)) (hP : va_P G.1 vwCl ws H) (hD : va_D A ws) (hS : va_S A H0 H locs) (hA : ∀ q, H0.size ≤ q → A q) (hp : ws.Perm (W0 ++ wr))
    (kk : ∀ (u : S) (H1 : Heap) (locs1 : List Loc), post u → va_P G.1 vwCl (W1 u ++ wr) H1 → va_D A (W1 u ++ wr) → va_S A H0 H1 locs1 → W p l e R s m args below meth c H1 locs1 (cells + mc) (slots + ms) Q (F0 m (pc + 3) ls ((v u).toList ++ rest))) : W p l e R s m args below meth c H locs cells slots Q (F0 m pc ls st0) := by
  have hP' := mx_Pperm hP hp
  have hD' := mx_Dperm hD hp
  have hAin : ∀ q, va_A W0 H.size q → A q := fun q hq => by
    rcases mx_Ain.mp hq with c | c
    · obtain ⟨x, hx, e⟩ := List.mem_map.mp c
      exact e ▸ (mx_nd.mp hD').2 x (List.mem_append_left _ hx)
    · exact hA q (Nat.le_trans hS.1 c)
  intro T hT X
  obtain ⟨v', st₀, t, T', L, h0, X', hL, e1, e2, ⟨⟨u, hv, hp1, hb, hd⟩, hz, hk⟩, st⟩ := hr T hT X
  cases hv
  rw [h0] at hz hk
  rw [← e1] at hz hk hb
  obtain ⟨f1, f2⟩ := mx_frame hP' hD' (fun q h => hA q (Nat.le_trans hS.1 h)) hk hb hd
  obtain ⟨t2, a1, b1⟩ := kk u T'.heap (locs ++ L) hp1 f1 f2
    ⟨Nat.le_trans hS.1 hz, fun q h1 h2 => by rw [hk q (Nat.lt_of_lt_of_le h1 hS.1) (fun z => h2 (hAin q z))]; exact hS.2.1 q h1 h2, fun q hq => by
      rcases List.mem_append.mp hq with h | h
      · exact hS.2.2 q h
      · exact hAin _ (hL q h)⟩ T' rfl X'
  exact ⟨t2, st t2 a1, b1⟩
theorem mx_callEv {S : Type} {G : mx_G} {post : S → Prop} {W0 wr ws : va_W} {W1 : S → va_W} (hr : va_Run p l e R s m args below meth c H locs cells slots mc ms (F0 m pc ls st0) rest (mx_Ef G W0 H.size (fun _ => none) post W1 a) (va_A W0 H.size)) (hP : va_P G.1 vwCl ws H) (hD : va_D A ws) (hS : va_S A H0 H locs) (hA : ∀ q, H0.size ≤ q → A q) (hp : ws.Perm (W0 ++ wr))
    (kk : ∀ (u : S) (H1 : Heap) (locs1 : List Loc), post u → va_P G.1 vwCl (W1 u ++ wr) H1 → va_D A (W1 u ++ wr) → va_S A H0 H1 locs1 → W p l e R s m args below meth c H1 locs1 (cells + mc) (slots + ms) Q (F0 m (pc + 3) ls rest)) : W p l e R s m args below meth c H locs cells slots Q (F0 m pc ls st0) := mx_callE0 hr hP hD hS hA hp kk
theorem mx_callEi {S : Type} {G : mx_G} {r : S → Int32} {post : S → Prop} {W0 wr ws : va_W} {W1 : S → va_W} (hr : va_Run p l e R s m args below meth c H locs cells slots mc ms (F0 m pc ls st0) rest (mx_Ef G W0 H.size (fun u => some (.int (r u))) post W1 a) (va_A W0 H.size)) (hP : va_P G.1 vwCl ws H) (hD : va_D A ws) (hS : va_S A H0 H locs) (hA : ∀ q, H0.size ≤ q → A q) (hp : ws.Perm (W0 ++ wr))
    (kk : ∀ (u : S) (H1 : Heap) (locs1 : List Loc), post u → va_P G.1 vwCl (W1 u ++ wr) H1 → va_D A (W1 u ++ wr) → va_S A H0 H1 locs1 → W p l e R s m args below meth c H1 locs1 (cells + mc) (slots + ms) Q (F0 m (pc + 3) ls (.int (r u) :: rest))) : W p l e R s m args below meth c H locs cells slots Q (F0 m pc ls st0) := mx_callE0 hr hP hD hS hA hp kk
end MXC
section MXR
variable {p : Program} {l : Launch} {e : Env} {R : Room} {s : State} {m : MethodId} {args : Array Value} {below : List Frame} {meth : Method} {c : Code} {H : Heap} {locs : List Loc} {cells slots : Nat} {Q : State → Prop}
variable {cc : ByteArray} {pc : Nat} {ls : Array Slot} {rest : List Value} {D : va_G} {cl : List vw_C} {A : Nat → Prop} {a : Nat} {tys : List (ClassId × FieldType)} {ws : va_W} {H0 : Heap}
theorem x_top {x y : Int32} (h : x = y) (k : W p l e R s m args below meth c H locs cells slots Q (F0 m pc ls (.int y :: rest))) : W p l e R s m args below meth c H locs cells slots Q (F0 m pc ls (.int x :: rest)) := h ▸ k
theorem x_top2 {x y : Int32} {v : Value} (h : x = y) (k : W p l e R s m args below meth c H locs cells slots Q (F0 m pc ls (v :: .int y :: rest))) : W p l e R s m args below meth c H locs cells slots Q (F0 m pc ls (v :: .int x :: rest)) := h ▸ k
theorem x_iadd (hx : p.tables.exec = Jvm.exec) (hb : c.code = cc) {x y r : Nat} (hdg : decode cc pc = .ok (.iadd, 1)) (hr : x + y = r)
    (k : W p l e R s m args below meth c H locs cells slots Q (F0 m (pc + 1) ls (.int (nI r) :: rest))) : W p l e R s m args below meth c H locs cells slots Q (F0 m pc ls (.int (nI y) :: .int (nI x) :: rest)) := lv_iadd hx hb hdg (x_top (by rw [nI_add, hr]) k)
theorem x_imul (hx : p.tables.exec = Jvm.exec) (hb : c.code = cc) {x y r : Nat} (hdg : decode cc pc = .ok (.imul, 1)) (hr : x * y = r)
    (k : W p l e R s m args below meth c H locs cells slots Q (F0 m (pc + 1) ls (.int (nI r) :: rest))) : W p l e R s m args below meth c H locs cells slots Q (F0 m pc ls (.int (nI y) :: .int (nI x) :: rest)) := lv_imul hx hb hdg (x_top (by rw [pk_mul, hr]) k)
theorem x_isub (hx : p.tables.exec = Jvm.exec) (hb : c.code = cc) {x y r : Nat} (hdg : decode cc pc = .ok (.isub, 1)) (hr : r + y = x)
    (k : W p l e R s m args below meth c H locs cells slots Q (F0 m (pc + 1) ls (.int (nI r) :: rest))) : W p l e R s m args below meth c H locs cells slots Q (F0 m pc ls (.int (nI y) :: .int (nI x) :: rest)) := lv_isub hx hb hdg (x_top (by rw [pk_sub (by omega), show x - y = r by omega]) k)
theorem x_idiv (hx : p.tables.exec = Jvm.exec) (hb : c.code = cc) {x y r : Nat} (hdg : decode cc pc = .ok (.idiv, 1)) (h0 : x < 2 ^ 31) (h1 : 0 < y) (h2 : y < 2 ^ 31) (hr : x / y = r)
    (k : W p l e R s m args below meth c H locs cells slots Q (F0 m (pc + 1) ls (.int (nI r) :: rest))) : W p l e R s m args below meth c H locs cells slots Q (F0 m pc ls (.int (nI y) :: .int (nI x) :: rest)) := lv_idiv hx hb hdg (nI_ne0 h1 h2) (x_top (by rw [pk_div h0 h1 h2, hr]) k)
theorem x_irem (hx : p.tables.exec = Jvm.exec) (hb : c.code = cc) {x y r : Nat} (hdg : decode cc pc = .ok (.irem, 1)) (h0 : x < 2 ^ 31) (h1 : 0 < y) (h2 : y < 2 ^ 31) (hr : x % y = r)
    (k : W p l e R s m args below meth c H locs cells slots Q (F0 m (pc + 1) ls (.int (nI r) :: rest))) : W p l e R s m args below meth c H locs cells slots Q (F0 m pc ls (.int (nI y) :: .int (nI x) :: rest)) := lv_irem hx hb hdg (nI_ne0 h1 h2) (x_top (by rw [pk_rem h0 h1 h2, hr]) k)
theorem x_icmp_eq (hx : p.tables.exec = Jvm.exec) (hb : c.code = cc) {x y : Nat} (h0 : x < 2 ^ 31) (h1 : y < 2 ^ 31) {off : Int} {tgt : Nat} (hdg : decode cc pc = .ok (.if_icmp .eq off, 3)) (ht : (pc : Int) + off = (tgt : Int)) (kt : x = y → W p l e R s m args below meth c H locs cells slots Q (F0 m tgt ls rest)) (kf : ¬ x = y → W p l e R s m args below meth c H locs cells slots Q (F0 m (pc + 3) ls rest)) : W p l e R s m args below meth c H locs cells slots Q (F0 m pc ls (.int (nI y) :: .int (nI x) :: rest)) := lv_icmp_eq hx hb hdg ht (fun h => kt ((nI_eq h0 h1).mp h)) (fun h => kf (fun q => h ((nI_eq h0 h1).mpr q)))
theorem x_icmp_ne (hx : p.tables.exec = Jvm.exec) (hb : c.code = cc) {x y : Nat} (h0 : x < 2 ^ 31) (h1 : y < 2 ^ 31) {off : Int} {tgt : Nat} (hdg : decode cc pc = .ok (.if_icmp .ne off, 3)) (ht : (pc : Int) + off = (tgt : Int)) (kt : ¬ x = y → W p l e R s m args below meth c H locs cells slots Q (F0 m tgt ls rest)) (kf : x = y → W p l e R s m args below meth c H locs cells slots Q (F0 m (pc + 3) ls rest)) : W p l e R s m args below meth c H locs cells slots Q (F0 m pc ls (.int (nI y) :: .int (nI x) :: rest)) := lv_icmp_ne hx hb hdg ht (fun h => kt (fun q => h ((nI_eq h0 h1).mpr q))) (fun h => kf ((nI_eq h0 h1).mp h))
theorem x_icmp_lt (hx : p.tables.exec = Jvm.exec) (hb : c.code = cc) {x y : Nat} (h0 : x < 2 ^ 31) (h1 : y < 2 ^ 31) {off : Int} {tgt : Nat} (hdg : decode cc pc = .ok (.if_icmp .lt off, 3)) (ht : (pc : Int) + off = (tgt : Int)) (kt : x < y → W p l e R s m args below meth c H locs cells slots Q (F0 m tgt ls rest)) (kf : ¬ x < y → W p l e R s m args below meth c H locs cells slots Q (F0 m (pc + 3) ls rest)) : W p l e R s m args below meth c H locs cells slots Q (F0 m pc ls (.int (nI y) :: .int (nI x) :: rest)) := lv_icmp_lt hx hb hdg ht (fun h => kt ((nI_ltI h0 h1).mp h)) (fun h => kf (fun q => h ((nI_ltI h0 h1).mpr q)))
theorem x_icmp_ge (hx : p.tables.exec = Jvm.exec) (hb : c.code = cc) {x y : Nat} (h0 : x < 2 ^ 31) (h1 : y < 2 ^ 31) {off : Int} {tgt : Nat} (hdg : decode cc pc = .ok (.if_icmp .ge off, 3)) (ht : (pc : Int) + off = (tgt : Int)) (kt : y ≤ x → W p l e R s m args below meth c H locs cells slots Q (F0 m tgt ls rest)) (kf : ¬ y ≤ x → W p l e R s m args below meth c H locs cells slots Q (F0 m (pc + 3) ls rest)) : W p l e R s m args below meth c H locs cells slots Q (F0 m pc ls (.int (nI y) :: .int (nI x) :: rest)) := lv_icmp_ge hx hb hdg ht (fun h => kt ((nI_leI h1 h0).mp h)) (fun h => kf (fun q => h ((nI_leI h1 h0).mpr q)))
theorem x_icmp_gt (hx : p.tables.exec = Jvm.exec) (hb : c.code = cc) {x y : Nat} (h0 : x < 2 ^ 31) (h1 : y < 2 ^ 31) {off : Int} {tgt : Nat} (hdg : decode cc pc = .ok (.if_icmp .gt off, 3)) (ht : (pc : Int) + off = (tgt : Int)) (kt : y < x → W p l e R s m args below meth c H locs cells slots Q (F0 m tgt ls rest)) (kf : ¬ y < x → W p l e R s m args below meth c H locs cells slots Q (F0 m (pc + 3) ls rest)) : W p l e R s m args below meth c H locs cells slots Q (F0 m pc ls (.int (nI y) :: .int (nI x) :: rest)) := lv_icmp_gt hx hb hdg ht (fun h => kt ((nI_ltI h1 h0).mp h)) (fun h => kf (fun q => h ((nI_ltI h1 h0).mpr q)))
theorem x_icmp_le (hx : p.tables.exec = Jvm.exec) (hb : c.code = cc) {x y : Nat} (h0 : x < 2 ^ 31) (h1 : y < 2 ^ 31) {off : Int} {tgt : Nat} (hdg : decode cc pc = .ok (.if_icmp .le off, 3)) (ht : (pc : Int) + off = (tgt : Int)) (kt : x ≤ y → W p l e R s m args below meth c H locs cells slots Q (F0 m tgt ls rest)) (kf : ¬ x ≤ y → W p l e R s m args below meth c H locs cells slots Q (F0 m (pc + 3) ls rest)) : W p l e R s m args below meth c H locs cells slots Q (F0 m pc ls (.int (nI y) :: .int (nI x) :: rest)) := lv_icmp_le hx hb hdg ht (fun h => kt ((nI_leI h0 h1).mp h)) (fun h => kf (fun q => h ((nI_leI h0 h1).mpr q)))
theorem x_if_eq (hx : p.tables.exec = Jvm.exec) (hb : c.code = cc) {x : Nat} (h0 : x < 2 ^ 31) {off : Int} {tgt : Nat} (hdg : decode cc pc = .ok (.ifCond .eq off, 3)) (ht : (pc : Int) + off = (tgt : Int)) (kt : x = 0 → W p l e R s m args below meth c H locs cells slots Q (F0 m tgt ls rest)) (kf : ¬ x = 0 → W p l e R s m args below meth c H locs cells slots Q (F0 m (pc + 3) ls rest)) : W p l e R s m args below meth c H locs cells slots Q (F0 m pc ls (.int (nI x) :: rest)) := lv_if_eq hx hb hdg ht (fun h => kt ((nI_eq (b := 0) h0 (by omega)).mp h)) (fun h => kf (fun q => h ((nI_eq (b := 0) h0 (by omega)).mpr q)))
theorem x_if_ne (hx : p.tables.exec = Jvm.exec) (hb : c.code = cc) {x : Nat} (h0 : x < 2 ^ 31) {off : Int} {tgt : Nat} (hdg : decode cc pc = .ok (.ifCond .ne off, 3)) (ht : (pc : Int) + off = (tgt : Int)) (kt : ¬ x = 0 → W p l e R s m args below meth c H locs cells slots Q (F0 m tgt ls rest)) (kf : x = 0 → W p l e R s m args below meth c H locs cells slots Q (F0 m (pc + 3) ls rest)) : W p l e R s m args below meth c H locs cells slots Q (F0 m pc ls (.int (nI x) :: rest)) := lv_if_ne hx hb hdg ht (fun h => kt (fun q => h ((nI_eq (b := 0) h0 (by omega)).mpr q))) (fun h => kf ((nI_eq (b := 0) h0 (by omega)).mp h))
theorem x_if_lt (hx : p.tables.exec = Jvm.exec) (hb : c.code = cc) {x : Nat} (h0 : x < 2 ^ 31) {off : Int} {tgt : Nat} (hdg : decode cc pc = .ok (.ifCond .lt off, 3)) (ht : (pc : Int) + off = (tgt : Int)) (kf : W p l e R s m args below meth c H locs cells slots Q (F0 m (pc + 3) ls rest)) : W p l e R s m args below meth c H locs cells slots Q (F0 m pc ls (.int (nI x) :: rest)) := lv_if_lt hx hb hdg ht (fun h => absurd h (nI_pos h0)) (fun _ => kf)
theorem x_if_ge (hx : p.tables.exec = Jvm.exec) (hb : c.code = cc) {x : Nat} (h0 : x < 2 ^ 31) {off : Int} {tgt : Nat} (hdg : decode cc pc = .ok (.ifCond .ge off, 3)) (ht : (pc : Int) + off = (tgt : Int)) (kt : W p l e R s m args below meth c H locs cells slots Q (F0 m tgt ls rest)) : W p l e R s m args below meth c H locs cells slots Q (F0 m pc ls (.int (nI x) :: rest)) := lv_if_ge hx hb hdg ht (fun _ => kt) (fun h => absurd (nI_pos' h0) h)
theorem x_if_gt (hx : p.tables.exec = Jvm.exec) (hb : c.code = cc) {x : Nat} (h0 : x < 2 ^ 31) {off : Int} {tgt : Nat} (hdg : decode cc pc = .ok (.ifCond .gt off, 3)) (ht : (pc : Int) + off = (tgt : Int)) (kt : 0 < x → W p l e R s m args below meth c H locs cells slots Q (F0 m tgt ls rest)) (kf : ¬ 0 < x → W p l e R s m args below meth c H locs cells slots Q (F0 m (pc + 3) ls rest)) : W p l e R s m args below meth c H locs cells slots Q (F0 m pc ls (.int (nI x) :: rest)) := lv_if_gt hx hb hdg ht (fun h => kt ((nI_ltI (a := 0) (by omega) h0).mp h)) (fun h => kf (fun q => h ((nI_ltI (a := 0) (by omega) h0).mpr q)))
theorem x_if_le (hx : p.tables.exec = Jvm.exec) (hb : c.code = cc) {x : Nat} (h0 : x < 2 ^ 31) {off : Int} {tgt : Nat} (hdg : decode cc pc = .ok (.ifCond .le off, 3)) (ht : (pc : Int) + off = (tgt : Int)) (kt : x = 0 → W p l e R s m args below meth c H locs cells slots Q (F0 m tgt ls rest)) (kf : ¬ x = 0 → W p l e R s m args below meth c H locs cells slots Q (F0 m (pc + 3) ls rest)) : W p l e R s m args below meth c H locs cells slots Q (F0 m pc ls (.int (nI x) :: rest)) := lv_if_le hx hb hdg ht (fun h => kt (by have := (nI_leI (b := 0) h0 (by omega)).mp h; omega)) (fun h => kf (fun q => h ((nI_leI (b := 0) h0 (by omega)).mpr (by omega))))
theorem x_iald (hx : p.tables.exec = Jvm.exec) (hb : c.code = cc) (hK : va_K D cl tys s) (hP : va_P D cl ws H) (q0 t0 : Nat) {cA : ClassId} {n : Nat} {f : Nat → Int32} (ha : ws[q0]? = some (a, .inl (cA, n, .inl f))) (ht : tys[t0]? = some (cA, .int)) {k : Nat} (hk : k < n) (hn : n < 2 ^ 31) (hdg : decode cc pc = .ok (.iaload, 1)) (kk : W p l e R s m args below meth c H locs cells slots Q (F0 m (pc + 1) ls (.int (f k) :: rest))) : W p l e R s m args below meth c H locs cells slots Q (F0 m pc ls (.int (nI k) :: .ref a :: rest)) := va_iald hx hb hK hP q0 t0 ha ht (vp_in_nI hk hn) hdg (by rw [nI_clamp (Nat.lt_trans hk hn)]; exact kk)
theorem x_zald (hx : p.tables.exec = Jvm.exec) (hb : c.code = cc) (hK : va_K D cl tys s) (hP : va_P D cl ws H) (q0 t0 : Nat) {cA : ClassId} {n : Nat} {f : Nat → Int32} (ha : ws[q0]? = some (a, .inl (cA, n, .inl f))) (ht : tys[t0]? = some (cA, .boolean)) {k : Nat} (hk : k < n) (hn : n < 2 ^ 31) (hdg : decode cc pc = .ok (.baload, 1)) (kk : W p l e R s m args below meth c H locs cells slots Q (F0 m (pc + 1) ls (.int (f k) :: rest))) : W p l e R s m args below meth c H locs cells slots Q (F0 m pc ls (.int (nI k) :: .ref a :: rest)) := va_zald hx hb hK hP q0 t0 ha ht (vp_in_nI hk hn) hdg (by rw [nI_clamp (Nat.lt_trans hk hn)]; exact kk)
theorem x_iast (hx : p.tables.exec = Jvm.exec) (hb : c.code = cc) (hK : va_K D cl tys s) (hP : va_P D cl ws H) (hD : va_D A ws) (hS : va_S A H0 H locs) (q0 t0 : Nat) {cA : ClassId} {n : Nat} {f : Nat → Int32} (ha : ws[q0]? = some (a, .inl (cA, n, .inl f))) (ht : tys[t0]? = some (cA, .int)) {k : Nat} {x : Int32} (hk : k < n) (hn : n < 2 ^ 31) (hdg : decode cc pc = .ok (.iastore, 1)) (ws' : va_W) (hw : ws.set q0 (a, .inl (cA, n, .inl (upd f k x))) = ws') (kk : ∀ (H1 : Heap) (locs1 : List Loc), va_P D cl ws' H1 → va_D A ws' → va_S A H0 H1 locs1 → W p l e R s m args below meth c H1 locs1 cells slots Q (F0 m (pc + 1) ls rest)) : W p l e R s m args below meth c H locs cells slots Q (F0 m pc ls (.int x :: .int (nI k) :: .ref a :: rest)) := va_iast hx hb hK hP hD hS q0 t0 ha ht (vp_in_nI hk hn) hdg (by rw [nI_clamp (Nat.lt_trans hk hn), hw]; exact kk)
theorem x_zast (hx : p.tables.exec = Jvm.exec) (hb : c.code = cc) (hK : va_K D cl tys s) (hP : va_P D cl ws H) (hD : va_D A ws) (hS : va_S A H0 H locs) (q0 t0 : Nat) {cA : ClassId} {n : Nat} {f : Nat → Int32} (ha : ws[q0]? = some (a, .inl (cA, n, .inl f))) (ht : tys[t0]? = some (cA, .boolean)) {k : Nat} {x : Int32} (hk : k < n) (hn : n < 2 ^ 31) (hdg : decode cc pc = .ok (.bastore, 1)) (ws' : va_W) (hw : ws.set q0 (a, .inl (cA, n, .inl (upd f k (vp_nar .boolean x)))) = ws') (kk : ∀ (H1 : Heap) (locs1 : List Loc), va_P D cl ws' H1 → va_D A ws' → va_S A H0 H1 locs1 → W p l e R s m args below meth c H1 locs1 cells slots Q (F0 m (pc + 1) ls rest)) : W p l e R s m args below meth c H locs cells slots Q (F0 m pc ls (.int x :: .int (nI k) :: .ref a :: rest)) := va_zast hx hb hK hP hD hS q0 t0 ha ht (vp_in_nI hk hn) hdg (by rw [nI_clamp (Nat.lt_trans hk hn), hw]; exact kk)
theorem x_aald (hx : p.tables.exec = Jvm.exec) (hb : c.code = cc) (hK : va_K D cl tys s) (hP : va_P D cl ws H) (q0 t0 : Nat) {cA : ClassId} {C : String} {n : Nat} {f : Nat → Option Nat} (ha : ws[q0]? = some (a, .inl (cA, n, .inr (.inr (.inr (.inr f)))))) (ht : tys[t0]? = some (cA, .object C)) {k : Nat} (hk : k < n) (hn : n < 2 ^ 31) (hdg : decode cc pc = .ok (.aaload, 1)) (kk : W p l e R s m args below meth c H locs cells slots Q (F0 m (pc + 1) ls (va_rf (f k) :: rest))) : W p l e R s m args below meth c H locs cells slots Q (F0 m pc ls (.int (nI k) :: .ref a :: rest)) := va_aldq hx hb hK hP q0 t0 ha ht (vp_in_nI hk hn) hdg (by rw [nI_clamp (Nat.lt_trans hk hn)]; exact kk)
theorem x_iinc (hx : p.tables.exec = Jvm.exec) (hb : c.code = cc) {i nL k x : Nat} {n : Int} {y : Nat} {lv lv' : List (Nat × Value)} (hdg : decode cc pc = .ok (.iinc i n, 3)) (h : lv_has ls nL lv) (hk : lv[k]? = some (i, .int (nI x))) (hv : nI x + Int32.ofInt n = nI y) (hn : i < nL) (hl : (i, Value.int (nI y)) :: lv.filter (fun q => !(q.1 == i) && !(q.1 + 1 == i && q.2.category == 2)) = lv') (kk : ∀ ls' : Array Slot, lv_has ls' nL lv' → W p l e R s m args below meth c H locs cells slots Q (F0 m (pc + 3) ls' rest)) : W p l e R s m args below meth c H locs cells slots Q (F0 m pc ls rest) := lv_iinc hx hb hdg h hk hv hn hl kk
theorem x_inc1 (x : Nat) : nI x + Int32.ofInt 1 = nI (x + 1) := nI_1 x
theorem x_dec1 (x : Nat) : nI (x + 1) + Int32.ofInt (-1) = nI x := pk_m1 x
end MXR
abbrev mx_WR (l : Launch) (ws : List Cond) (fr lo : Nat) (p : Program) (e : Env) (s : State) (m : MethodId) (args : Array Value) (below : List Frame) (meth : Method) (c : Code) (v : Value) (g : JFrame) : Prop := W p l e (headSpec ws ({ frames := fr, cells := 0, slots := 0, locals := lo })).room s m args below meth c s.heap [] 0 0 (MQ below (mx_Ro v) args s 0 0 (fun _ => False)) g
abbrev mx_WE {S : Type} (l : Launch) (ws : List Cond) (fr lo mc ms : Nat) (G : mx_G) (p : Program) (e : Env) (s : State) (m : MethodId) (args : Array Value) (below : List Frame) (meth : Method) (c : Code) (W0 : va_W) (v : S → Option Value) (post : S → Prop) (W1 : S → va_W) (H : Heap) (locs : List Loc) (cells slots : Nat) (g : JFrame) : Prop := W p l e (headSpec ws ({ frames := fr, cells := mc, slots := ms, locals := lo })).room s m args below meth c H locs cells slots (MQ below (mx_Ef G W0 s.heap.size v post W1) args s mc ms (va_A W0 s.heap.size)) g
/-- a truth as the machine has it -/
def b2i (P : Prop) [Decidable P] : Int32 := if P then nI 1 else nI 0
theorem b2i_t {P : Prop} [Decidable P] (h : P) : nI 1 = b2i P := (if_pos h).symm
theorem b2i_f {P : Prop} [Decidable P] (h : ¬ P) : nI 0 = b2i P := (if_neg h).symm
theorem b2i_n (P : Prop) [Decidable P] : narrow .boolean (.int (b2i P)) = .int (b2i P) := by
  unfold b2i; split <;> decide
def mabs (x : Int32) : Int32 := if 0 ≤ x then x else 0 - x
end
section
/-- the cells of MixDeskModel: the object at ad 0, the array of field k at ad (k + 1); F and R: what the int fields and the arrays hold, by the field -/
def MW (G : mx_G) (ad : Nat → Nat) (F : Nat → Int32) (R : Nat → Nat → Int32) : va_W := [(ad 0, .inr (6, [.ref (ad 1), .ref (ad 2), .ref (ad 3), .ref (ad 4), .ref (ad 5), .ref (ad 6), .ref (ad 7), .ref (ad 8), .ref (ad 9), .ref (ad 10), .ref (ad 11), .ref (ad 12), .ref (ad 13), .int (F 13), .ref (ad 15), .ref (ad 16), .int (F 16), .ref (ad 18), .int (F 18), .int (F 19), .int (F 20), .ref (ad 22), .ref (ad 23), .ref (ad 24), .ref (ad 25), .ref (ad 26), .ref (ad 27), .int (F 27), .ref (ad 29), .ref (ad 30), .int (F 30), .int (F 31), .ref (ad 33), .ref (ad 34), .int (F 34), .ref (ad 36)])), (ad 1, .inl (G.2.2.1, 12, .inl (R 0))), (ad 2, .inl (G.2.1, 12, .inl (R 1))), (ad 3, .inl (G.2.1, 12, .inl (R 2))), (ad 4, .inl (G.2.1, 12, .inl (R 3))), (ad 5, .inl (G.2.1, 12, .inl (R 4))), (ad 6, .inl (G.2.1, 12, .inl (R 5))), (ad 7, .inl (G.2.1, 12, .inl (R 6))), (ad 8, .inl (G.2.1, 12, .inl (R 7))), (ad 9, .inl (G.2.1, 768, .inl (R 8))), (ad 10, .inl (G.2.1, 12, .inl (R 9))), (ad 11, .inl (G.2.1, 12, .inl (R 10))), (ad 12, .inl (G.2.1, 12, .inl (R 11))), (ad 13, .inl (G.2.1, 144, .inl (R 12))), (ad 15, .inl (G.2.1, 60, .inl (R 14))), (ad 16, .inl (G.2.1, 61, .inl (R 15))), (ad 18, .inl (G.2.1, 60, .inl (R 17))), (ad 22, .inl (G.2.1, 256, .inl (R 21))), (ad 23, .inl (G.2.1, 256, .inl (R 22))), (ad 24, .inl (G.2.2.1, 64, .inl (R 23))), (ad 25, .inl (G.2.2.1, 64, .inl (R 24))), (ad 26, .inl (G.2.2.1, 64, .inl (R 25))), (ad 27, .inl (G.2.2.1, 64, .inl (R 26))), (ad 29, .inl (G.2.1, 32, .inl (R 28))), (ad 30, .inl (G.2.1, 32, .inl (R 29))), (ad 33, .inl (G.2.1, 144, .inl (R 32))), (ad 34, .inl (G.2.1, 49152, .inl (R 33))), (ad 36, .inl (G.2.1, 12, .inl (R 35)))]
/-- the cells of MixDesk$Song: the object at ad 0, the array of field k at ad (k + 1); F and R: what the int fields and the arrays hold, by the field -/
def SW (G : mx_G) (ad : Nat → Nat) (F : Nat → Int32) (R : Nat → Nat → Int32) : va_W := [(ad 0, .inr (3, [.int (F 0), .int (F 1), .int (F 2), .int (F 3), .int (F 4), .int (F 5), .int (F 6), .int (F 7), .int (F 8), .int (F 9), .int (F 10), .int (F 11), .ref (ad 13), .ref (ad 14), .ref (ad 15), .ref (ad 16), .ref (ad 17), .ref (ad 18), .ref (ad 19)])), (ad 13, .inl (G.2.1, 64, .inl (R 12))), (ad 14, .inl (G.2.1, 65, .inl (R 13))), (ad 15, .inl (G.2.1, 257, .inl (R 14))), (ad 16, .inl (G.2.1, 64, .inl (R 15))), (ad 17, .inl (G.2.1, 65, .inl (R 16))), (ad 18, .inl (G.2.1, 65, .inl (R 17))), (ad 19, .inl (G.2.1, 256, .inl (R 18)))]
/-- the cells of MixDesk$Strokes: the object at ad 0, the array of field k at ad (k + 1); F and R: what the int fields and the arrays hold, by the field -/
def KW (G : mx_G) (ad : Nat → Nat) (F : Nat → Int32) (R : Nat → Nat → Int32) : va_W := [(ad 0, .inr (4, [.ref (ad 1), .int (F 1), .ref (ad 3), .ref (ad 4), .ref (ad 5), .int (F 5)])), (ad 1, .inl (G.2.1, 60, .inl (R 0))), (ad 3, .inl (G.2.1, 60, .inl (R 2))), (ad 4, .inl (G.2.1, 60, .inl (R 3))), (ad 5, .inl (G.2.1, 60, .inl (R 4)))]
/-- the cells of MixDesk$Joins: the object at ad 0, the array of field k at ad (k + 1); F and R: what the int fields and the arrays hold, by the field -/
def JW (G : mx_G) (ad : Nat → Nat) (F : Nat → Int32) (R : Nat → Nat → Int32) : va_W := [(ad 0, .inr (0, [.int (F 0), .int (F 1), .int (F 2), .ref (ad 4), .ref (ad 5), .ref (ad 6), .ref (ad 7), .ref (ad 8)])), (ad 4, .inl (G.2.1, 1152, .inl (R 3))), (ad 5, .inl (G.2.1, 1152, .inl (R 4))), (ad 6, .inl (G.2.1, 1152, .inl (R 5))), (ad 7, .inl (G.2.1, 64, .inl (R 6))), (ad 8, .inl (G.2.1, 64, .inl (R 7)))]
/-- the cells of MixDesk$Meeting: the object at ad 0, the array of field k at ad (k + 1); F and R: what the int fields and the arrays hold, by the field -/
def TW (G : mx_G) (ad : Nat → Nat) (F : Nat → Int32) (R : Nat → Nat → Int32) : va_W := [(ad 0, .inr (1, [.int (F 0), .ref (ad 2), .ref (ad 3), .ref (ad 4)])), (ad 2, .inl (G.2.1, 33, .inl (R 1))), (ad 3, .inl (G.2.1, 32, .inl (R 2))), (ad 4, .inl (G.2.1, 32, .inl (R 3)))]
end
section
/-! A SONG as numbers, and what is read off it -/
abbrev Sg : Type := (Nat → Nat) × (Nat → Int32) × (Nat → Nat)
def gB (σ : Sg) : Nat := σ.1 0
def gA (σ : Sg) : Nat := σ.1 1
def gE (σ : Sg) : Nat := σ.1 2
def gT (σ : Sg) : Nat := σ.1 3
def gPh (σ : Sg) : Nat := σ.1 4
def gKind (σ : Sg) : Int32 := σ.2.1 0
def gStep (σ : Sg) : Int32 := σ.2.1 1
def gMore (σ : Sg) : Int32 := σ.2.1 2
def gKey (σ : Sg) : Int32 := σ.2.1 3
def gHeat (σ : Sg) : Int32 := σ.2.1 4
def gC (σ : Sg) : Nat → Nat := σ.2.2
def nsum (f : Nat → Nat) : Nat → Nat | 0 => 0 | n + 1 => nsum f n + f n
def isum (f : Nat → Int32) : Nat → Int32 | 0 => nI 0 | n + 1 => isum f n + f n
def gPB (σ : Sg) : Nat := gB σ + (gT σ - 1) * (gE σ - gA σ + 1)
def gBar (σ : Sg) (p : Nat) : Nat := if p ≤ gE σ then p else if p - gA σ < (gE σ - gA σ + 1) * gT σ then gA σ + (p - gA σ) % (gE σ - gA σ + 1) else p - (gE σ - gA σ + 1) * (gT σ - 1)
def gFst (σ : Sg) (b : Nat) : Nat := nsum (gC σ) b
def mfloor (a b : Int32) : Int32 := if a < 0 then -((b - nI 1 - a) / b) else a / b
def clampT (v : Int32) : Int32 := if v < nI 20 then nI 20 else if nI 400 < v then nI 400 else v
def gLast (σ : Sg) (k : Nat) : Int32 := if gKind σ = 0 then gStep σ else if gKind σ = nI 1 then (if k % 2 = 0 then gStep σ + gMore σ else gStep σ - gMore σ) else clampT (gStep σ + mfloor (nI k * gMore σ) (nI 16))
def gTick (σ : Sg) (k : Nat) : Int32 := isum (gLast σ) k
def gLong (σ : Sg) (b : Nat) : Int32 := isum (fun i => gLast σ (gFst σ b + i)) (gC σ b)
def gBeg (σ : Sg) (p : Nat) : Int32 := isum (fun q => gLong σ (gBar σ q)) p
/-- what is known of every song that is there -/
def sgOk (σ : Sg) : Prop := 2 ≤ gB σ ∧ gB σ ≤ 64 ∧ gA σ ≤ gE σ ∧ gE σ < gB σ ∧ 1 ≤ gT σ ∧ gT σ ≤ 4 ∧ gB σ + (gT σ - 1) * (gE σ - gA σ + 1) ≤ 64 ∧ 1 ≤ gPh σ ∧ gPh σ ≤ 16 ∧ (∀ b, 1 ≤ gC σ b ∧ gC σ b ≤ 4) ∧ (20 ≤ (gStep σ).toInt ∧ (gStep σ).toInt ≤ 400) ∧ (gKind σ = 0 ∨ gKind σ = nI 1 ∧ 0 ≤ (gMore σ).toInt ∧ (gMore σ).toInt ≤ (gStep σ).toInt - 10 ∨ gKind σ = nI 2 ∧ -20 ≤ (gMore σ).toInt ∧ (gMore σ).toInt ≤ 20)
/-- song s of the model's arrays -/
def moSg (R : Nat → Nat → Int32) (s : Nat) (σ : Sg) : Prop := R 1 s = gKind σ ∧ R 2 s = nI (gB σ) ∧ R 3 s = gStep σ ∧ R 4 s = gMore σ ∧ R 5 s = gKey σ ∧ R 6 s = gHeat σ ∧ R 7 s = nI (gPh σ) ∧ (∀ b, b < 64 → R 8 (64 * s + b) = nI (gC σ b)) ∧ R 9 s = nI (gA σ) ∧ R 10 s = nI (gE σ) ∧ R 11 s = nI (gT σ)
theorem nsum_le {f : Nat → Nat} {c : Nat} (h : ∀ k, f k ≤ c) : ∀ n, nsum f n ≤ c * n
  | 0 => Nat.zero_le _
  | n + 1 => by
    have := nsum_le h n
    have := h n
    rw [Nat.mul_succ]
    show nsum f n + f n ≤ _
    omega
theorem gFst_le {σ : Sg} (h : sgOk σ) (b : Nat) : gFst σ b ≤ 4 * b := nsum_le (fun k => (h.2.2.2.2.2.2.2.2.2.1 k).2) b
theorem gPB_le {σ : Sg} (h : sgOk σ) : gPB σ ≤ 64 := h.2.2.2.2.2.2.1
def isSongV (R : Nat → Nat → Int32) (s : Int32) : Int32 := if s < 0 then nI 0 else if nI 12 ≤ s then nI 0 else if R 0 s.toNatClampNeg = 0 then nI 0 else nI 1
def msize (v : Int32) : Int32 := if v < 0 then -v else v
theorem in_of {s : Int32} {n : Nat} (hn : n < 2 ^ 31) (h1 : ¬ s < 0) (h2 : ¬ nI n ≤ s) : vp_in s n := by
  obtain ⟨j, hj, rfl⟩ := nI_of h1
  have h3 : ¬ n ≤ j := fun q => h2 ((nI_leI hn hj).mpr q)
  exact vp_in_nI (by omega) hn
theorem isSongV_n {R : Nat → Nat → Int32} {s : Int32} : narrow .boolean (.int (isSongV R s)) = .int (isSongV R s) := by
  unfold isSongV; split
  · decide
  · split
    · decide
    · split <;> decide

theorem gBar_lt {σ : Sg} (h : sgOk σ) {p : Nat} (hp : p < gPB σ) : gBar σ p < gB σ := by
  obtain ⟨-, -, h1, h2, h3, -, -⟩ := h
  have hz : (gE σ - gA σ + 1) * gT σ = (gE σ - gA σ + 1) * (gT σ - 1) + (gE σ - gA σ + 1) := by rw [← Nat.mul_succ]; congr 1; omega
  have hp : p < gB σ + (gT σ - 1) * (gE σ - gA σ + 1) := hp
  rw [Nat.mul_comm (gT σ - 1)] at hp
  unfold gBar
  split
  · omega
  · split
    · have := Nat.mod_lt (p - gA σ) (show 0 < gE σ - gA σ + 1 by omega)
      omega
    · omega
/-- the songs that are there -/
abbrev So : Type := Nat → Option Sg
def moAll (R : Nat → Nat → Int32) (so : So) : Prop := ∀ j, j < 12 → (so j = none ∧ R 0 j = nI 0) ∨ ∃ σ, so j = some σ ∧ R 0 j = nI 1 ∧ moSg R j σ ∧ sgOk σ
def sAt (so : So) (x : Int32) : Option Sg := if x < 0 then none else if nI 12 ≤ x then none else so x.toNatClampNeg
theorem sAt_nI {so : So} {j : Nat} (hj : j < 12) : sAt so (nI j) = so j := by
  unfold sAt
  rw [if_neg (nI_pos (by omega)), if_neg (fun h => absurd ((nI_leI (by omega) (by omega)).mp h) (by omega)), nI_clamp (by omega)]
theorem song_of {R : Nat → Nat → Int32} {so : So} {x : Int32} (h : moAll R so) (hx : ¬ isSongV R x = 0) : ∃ (j : Nat) (σ : Sg), x = nI j ∧ j < 12 ∧ so j = some σ ∧ sAt so (nI j) = some σ ∧ R 0 j = nI 1 ∧ moSg R j σ ∧ sgOk σ := by
  unfold isSongV at hx
  by_cases h1 : x < 0
  · rw [if_pos h1] at hx; exact absurd rfl hx
  rw [if_neg h1] at hx
  by_cases h2 : nI 12 ≤ x
  · rw [if_pos h2] at hx; exact absurd rfl hx
  rw [if_neg h2] at hx
  obtain ⟨j, hj, rfl⟩ := nI_of h1
  have h3 : ¬ 12 ≤ j := fun q => h2 ((nI_leI (by omega) hj).mpr q)
  rw [nI_clamp hj] at hx
  have h4 : j < 12 := by omega
  rcases h j h4 with ⟨-, q⟩ | ⟨σ, q1, q2, q3, q4⟩
  · rw [q] at hx; exact absurd rfl hx
  · exact ⟨j, σ, rfl, h4, q1, (sAt_nI h4).trans q1, q2, q3, q4⟩
theorem song_no {R : Nat → Nat → Int32} {so : So} {x : Int32} (h : moAll R so) (hx : isSongV R x = 0) : sAt so x = none := by
  unfold isSongV at hx
  unfold sAt
  by_cases h1 : x < 0
  · rw [if_pos h1]
  rw [if_neg h1] at hx ⊢
  by_cases h2 : nI 12 ≤ x
  · rw [if_pos h2]
  rw [if_neg h2] at hx ⊢
  obtain ⟨j, hj, rfl⟩ := nI_of h1
  have h3 : ¬ 12 ≤ j := fun q => h2 ((nI_leI (by omega) hj).mpr q)
  rw [nI_clamp hj] at hx ⊢
  have h4 : j < 12 := by omega
  rcases h j h4 with ⟨q, -⟩ | ⟨σ, -, q2, -, -⟩
  · exact q
  · rw [q2] at hx; exact absurd hx (by decide)
theorem sw_of (n : Nat) (hn : n < 2 ^ 31) (x : Int32) : (∃ k : Nat, k < n ∧ x = nI k) ∨ (x.toInt < 0 ∨ (n : Int) - 1 < x.toInt) := by
  by_cases h : x < 0
  · exact Or.inr (Or.inl (by have := Int32.lt_iff_toInt_lt.mp h; simpa using this))
  · obtain ⟨j, hj, rfl⟩ := nI_of h
    by_cases h2 : j < n
    · exact Or.inl ⟨j, h2, rfl⟩
    · exact Or.inr (Or.inr (by rw [nI_toInt hj]; omega))
def aOf (so : So) (x w : Int32) : Int32 := match sAt so x with
  | none => (-1000)
  | some σ => if w = nI 0 then gKind σ else if w = nI 1 then nI (gB σ) else if w = nI 2 then gStep σ else if w = nI 3 then gMore σ else if w = nI 4 then gKey σ else if w = nI 5 then gHeat σ else if w = nI 6 then nI (gPh σ) else if w = nI 7 then nI (gPB σ) else if w = nI 8 then nI (gFst σ (gB σ)) else if w = nI 9 then nI (nsum (fun b => if gC σ b < 4 then 1 else 0) (gB σ)) else (-1000)
def aBeat (so : So) (x k : Int32) : Int32 := match sAt so x with
  | none => (-1)
  | some σ => if k < 0 then (-1) else if nI (gFst σ (gB σ)) < k then (-1) else gTick σ k.toNatClampNeg
def aPlayed (so : So) (x y w : Int32) : Int32 := match sAt so x with
  | none => (-1)
  | some σ => if y < 0 then (-1) else if nI (gPB σ) ≤ y then (-1) else if w = 0 then nI (gBar σ y.toNatClampNeg) else if w = nI 1 then gBeg σ y.toNatClampNeg else if w = nI 2 then nI (gC σ (gBar σ y.toNatClampNeg)) else (-1)
def aLength (so : So) (x : Int32) : Int32 := match sAt so x with
  | none => (-1)
  | some σ => gBeg σ (gPB σ)
end
section
/-! What the methods that only read answer -/
theorem le_of {x : Int32} {n : Nat} (hn : n < 2 ^ 31) (h1 : ¬ x < 0) (h2 : ¬ nI n < x) : ∃ i : Nat, i ≤ n ∧ x = nI i := by
  obtain ⟨j, hj, rfl⟩ := nI_of h1
  exact ⟨j, Nat.le_of_not_lt (fun q => h2 ((nI_ltI hn hj).mpr q)), rfl⟩
theorem lt_of {x : Int32} {n : Nat} (hn : n < 2 ^ 31) (h1 : ¬ x < 0) (h2 : ¬ nI n ≤ x) : ∃ i : Nat, i < n ∧ x = nI i := by
  obtain ⟨j, hj, rfl⟩ := nI_of h1
  exact ⟨j, Nat.lt_of_not_le (fun q => h2 ((nI_leI hn hj).mpr q)), rfl⟩
theorem in_le {x : Int32} {n N : Nat} (hn : n ≤ N) (hN : N < 2 ^ 31) (h1 : ¬ x < 0) (h2 : ¬ nI n ≤ x) : vp_in x N := by
  obtain ⟨i, hi, rfl⟩ := lt_of (by omega) h1 h2
  exact vp_in_nI (by omega) hN
def krem (k : Int32) : Int32 := k - k / nI 12 * nI 12
def kdist (d : Int32) : Int32 := if d < nI 12 - d then d else nI 12 - d
def mkeys (a b : Int32) : Int32 := kdist (msize (krem a - krem b)) + (if a / nI 12 = b / nI 12 then nI 0 else nI 1)
def malways (kc hc : Int32) (σ τ : Sg) : Int32 := kc * mkeys (gKey σ) (gKey τ) + hc * msize (gHeat σ - gHeat τ)
def mjoin (x y : Int32) (j n : Nat) : Int32 := x + mfloor ((y - x) * nI j + nI (2 * n)) (nI (4 * n))
def mbendh (c x : Int32) : Int32 := msize (c - x) * nI 1000 / x
def mbend (c x y : Int32) : Int32 := if mbendh c x ≤ mbendh c y then mbendh c y else mbendh c x
def wholeV (f : Nat → Int32) (many q n : Nat) : Int32 := if many < q + n then nI 0 else if ∀ k, k < n → f (q + k) = 0 then nI 1 else nI 0
theorem wholeV_n {f : Nat → Int32} {many q n : Nat} : narrow .boolean (.int (wholeV f many q n)) = .int (wholeV f many q n) := by
  unfold wholeV; split
  · decide
  · split <;> decide
def mlast (x y : Nat → Int32) (n j : Nat) : Int32 := mjoin (x j) (y j) j n
def mone (x y : Nat → Int32) (n j : Nat) : Int32 := msize (mlast x y n j - x j) + msize (mlast x y n j - y j)
def mcost (bd : Int32) (x y : Nat → Int32) (n : Nat) : Int32 := if ∀ j, j < 4 * n → mbend (mlast x y n j) (x j) (y j) ≤ bd then isum (mone x y n) (4 * n) else nI 1000000000
def aMeets (M : Nat) (L Bd : Nat → Int32) (x w : Int32) : Int32 := if x < 0 then (-1) else if M = 0 then (-1) else if nI M < x then (-1) else if x = nI M ∧ ¬ w = 0 then (-1) else if w < 0 then (-1) else if nI 2 < w then (-1) else if w = nI 1 then L x.toNatClampNeg else if w = nI 2 then Bd x.toNatClampNeg else isum L x.toNatClampNeg
def aRow (n : Nat) (f : Nat → Int32) (x : Int32) : Int32 := if x < 0 then (-1) else if nI n ≤ x then (-1) else f x.toNatClampNeg
def mby (bd st : Int32) : Int32 := st * bd / nI 1000
def aMend (bd x st : Int32) : Int32 := if x < (-100000) then (-1) else if nI 100000 < x then (-1) else if st < nI 20 then (-1) else if nI 400 < st then (-1) else if x = 0 then nI 0 else if mby bd st = 0 then (-1) else ((msize x + mby bd st - nI 1) / mby bd st + nI 3) / nI 4
def mq0 (d gap : Nat) : Nat := if 2 * (d - d / gap * gap) ≤ gap then d / gap else d / gap + 1
def mq (d gap : Nat) : Nat := if 1 ≤ mq0 d gap then mq0 d gap else 1
def gapV (d gap miss : Nat) : Int32 := msize (nI d - nI (mq d gap * gap)) + nI ((mq d gap - 1) * miss)
def bIx (j : Nat) (first : Int32) (k : Nat) : Nat := if first = 0 then 12 * j + k else 12 * k + j
def boundN (f : Nat → Int32) (n : Nat) : Int32 := if ∀ k, k < n → ¬ f k = nI 1 then nI 0 else nI 1
def boundV (f : Nat → Int32) (j : Nat) (first : Int32) : Int32 := boundN (fun k => f (bIx j first k)) 12
theorem boundV_n {f : Nat → Int32} {j : Nat} {first : Int32} : narrow .boolean (.int (boundV f j first)) = .int (boundV f j first) := by
  unfold boundV boundN; split <;> decide
theorem sw_ne {n : Nat} {x : Int32} (i : Nat) (h : x.toInt < 0 ∨ (n : Int) - 1 < x.toInt) (hi : i < n := by omega) (hn : n < 2 ^ 31 := by omega) : ¬ x = nI i := by
  rintro rfl
  rw [nI_toInt (by omega)] at h
  omega
end
section
set_option maxHeartbeats 4000000 in
set_option maxRecDepth 100000 in
theorem c_X6_floor (l : Launch) (G : mx_G) (a b : Int32) (hb0 : ¬ b = 0) : mx_RO l yX6_floor wsX6_floor 0 0 G [.int a, .int b] (fun _ => True) (.int (mfloor a b)) := by
  refine Met.ofW (cc := cX6_floor) (maxL := 2) (ret := (some .int)) (by decide) rfl ?_
  intro p e s m args below meth c s₁ BB hml hv
  obtain ⟨rfl, -, hK⟩ := hv
  have hx := BB.exec
  have hb := BB.bytes
  have hr := BB.returns
  have hts := atoms_spec (ws := wsX6_floor) BB.pre
  have hown : s.vm.findClass RX6 = some m.cls := findClass_of_methodNamed BB.named
  have hlocks := BB.notSynchronized
  have hl := lv_entry ([.int a, .int b]) (n := 2) (Nat.le_of_ble_eq_true rfl)
  rw [lg_entry_eq]
  generalize (lg_sl ([.int a, .int b]) ++ List.replicate (2 - (lg_sl ([.int a, .int b])).length) Slot.unset).toArray = ls at hl ⊢
  have hl : lv_has ls 2 [(0, .int a), (1, .int b)] := hl
  show mx_WR l wsX6_floor 0 0 p e s m (([.int a, .int b] : List Value).toArray) below meth c (.int (mfloor a b)) (F0 m 0 ls [])
  refine lv_iload_n hx hb dX6_floor_0 rfl (lv_at hl 0 rfl) ?_
  refine lv_if_lt (tgt := 10) hx hb dX6_floor_1 (by decide) (fun c_1 => ?_) (fun c_1 => ?_)
  · refine lv_iload_n hx hb dX6_floor_10 rfl (lv_at hl 1 rfl) ?_
    refine lv_iconst (v := nI 1) hx hb dX6_floor_11 (by decide) ?_
    refine lv_isub hx hb dX6_floor_12 ?_
    refine lv_iload_n hx hb dX6_floor_13 rfl (lv_at hl 0 rfl) ?_
    refine lv_isub hx hb dX6_floor_14 ?_
    refine lv_iload_n hx hb dX6_floor_15 rfl (lv_at hl 1 rfl) ?_
    refine lv_idiv hx hb dX6_floor_16 (hb0) ?_
    refine lv_ineg hx hb dX6_floor_17 ?_
    refine x_top (y := mfloor a b) (by unfold mfloor; simp [c_1]) ?_
    exact W.iret (v := mfloor a b) hx hb hr (fun t ht hW => ⟨rfl, ht⟩) (fun _ h => by cases h) dX6_floor_18
  · refine lv_iload_n hx hb dX6_floor_4 rfl (lv_at hl 0 rfl) ?_
    refine lv_iload_n hx hb dX6_floor_5 rfl (lv_at hl 1 rfl) ?_
    refine lv_idiv hx hb dX6_floor_6 (hb0) ?_
    refine lv_goto (tgt := 18) hx hb dX6_floor_7 (by decide) ?_
    refine x_top (y := mfloor a b) (by unfold mfloor; simp [c_1]) ?_
    exact W.iret (v := mfloor a b) hx hb hr (fun t ht hW => ⟨rfl, ht⟩) (fun _ h => by cases h) dX6_floor_18

set_option maxHeartbeats 4000000 in
set_option maxRecDepth 100000 in
theorem c_X6_size (l : Launch) (G : mx_G) (v : Int32) : mx_RO l yX6_size wsX6_size 0 0 G [.int v] (fun _ => True) (.int (msize v)) := by
  refine Met.ofW (cc := cX6_size) (maxL := 1) (ret := (some .int)) (by decide) rfl ?_
  intro p e s m args below meth c s₁ BB hml hv
  obtain ⟨rfl, -, hK⟩ := hv
  have hx := BB.exec
  have hb := BB.bytes
  have hr := BB.returns
  have hts := atoms_spec (ws := wsX6_size) BB.pre
  have hown : s.vm.findClass RX6 = some m.cls := findClass_of_methodNamed BB.named
  have hlocks := BB.notSynchronized
  have hl := lv_entry ([.int v]) (n := 1) (Nat.le_of_ble_eq_true rfl)
  rw [lg_entry_eq]
  generalize (lg_sl ([.int v]) ++ List.replicate (1 - (lg_sl ([.int v])).length) Slot.unset).toArray = ls at hl ⊢
  have hl : lv_has ls 1 [(0, .int v)] := hl
  show mx_WR l wsX6_size 0 0 p e s m (([.int v] : List Value).toArray) below meth c (.int (msize v)) (F0 m 0 ls [])
  refine lv_iload_n hx hb dX6_size_0 rfl (lv_at hl 0 rfl) ?_
  refine lv_if_ge (tgt := 9) hx hb dX6_size_1 (by decide) (fun c_1 => ?_) (fun c_1 => ?_)
  · refine lv_iload_n hx hb dX6_size_9 rfl (lv_at hl 0 rfl) ?_
    refine x_top (y := msize v) (by unfold msize; rw [if_neg (Int32.not_lt.mpr c_1)]) ?_
    exact W.iret (v := msize v) hx hb hr (fun t ht hW => ⟨rfl, ht⟩) (fun _ h => by cases h) dX6_size_10
  · refine lv_iload_n hx hb dX6_size_4 rfl (lv_at hl 0 rfl) ?_
    refine lv_ineg hx hb dX6_size_5 ?_
    refine lv_goto (tgt := 10) hx hb dX6_size_6 (by decide) ?_
    refine x_top (y := msize v) (by unfold msize; rw [if_pos (Int32.not_le.mp c_1)]) ?_
    exact W.iret (v := msize v) hx hb hr (fun t ht hW => ⟨rfl, ht⟩) (fun _ h => by cases h) dX6_size_10

set_option maxHeartbeats 4000000 in
set_option maxRecDepth 100000 in
theorem c_X6_isSong (l : Launch) (G : mx_G) (ad : Nat → Nat) (F : Nat → Int32) (R : Nat → Nat → Int32) (x : Int32) : mx_RO l yX6_isSong wsX6_isSong 0 0 G [.ref (ad 0), .int x] (fun H => va_P G.1 vwCl (MW G ad F R) H) (.int (isSongV R x)) := by
  refine Met.ofW (cc := cX6_isSong) (maxL := 2) (ret := (some .boolean)) (by decide) rfl ?_
  intro p e s m args below meth c s₁ BB hml hv
  obtain ⟨rfl, hP, hK⟩ := hv
  have hx := BB.exec
  have hb := BB.bytes
  have hr := BB.returns
  have hts := atoms_spec (ws := wsX6_isSong) BB.pre
  have hown : s.vm.findClass RX6 = some m.cls := findClass_of_methodNamed BB.named
  have hlocks := BB.notSynchronized
  have hP : va_P G.1 vwCl (MW G ad F R) s.heap := hP
  have fl7 := hts (.fieldLink RX6 7 "MixDeskModel" "isThere" "[Z") (by decide +kernel)
  have inX6 : ∀ w ∈ wsX60, w ∈ wsX6_isSong := by decide +kernel
  have hl := lv_entry ([.ref (ad 0), .int x]) (n := 2) (Nat.le_of_ble_eq_true rfl)
  rw [lg_entry_eq]
  generalize (lg_sl ([.ref (ad 0), .int x]) ++ List.replicate (2 - (lg_sl ([.ref (ad 0), .int x])).length) Slot.unset).toArray = ls at hl ⊢
  have hl : lv_has ls 2 [(0, .ref (ad 0)), (1, .int x)] := hl
  show mx_WR l wsX6_isSong 0 0 p e s m (([.ref (ad 0), .int x] : List Value).toArray) below meth c (.int (isSongV R x)) (F0 m 0 ls [])
  refine lv_iload_n hx hb dX6_isSong_0 rfl (lv_at hl 1 rfl) ?_
  refine lv_if_lt (tgt := 23) hx hb dX6_isSong_1 (by decide) (fun c_1 => ?_) (fun c_1 => ?_)
  · refine lv_iconst (v := nI 0) hx hb dX6_isSong_23 (by decide) ?_
    refine x_top (y := isSongV R x) (by unfold isSongV; simp only [c_1, if_true, if_false, if_pos, if_neg, not_false_eq_true]) ?_
    exact W.zret (v := isSongV R x) hx hb hr (isSongV_n) (fun t ht hW => ⟨rfl, ht⟩) (fun _ h => by cases h) dX6_isSong_24
  · refine lv_iload_n hx hb dX6_isSong_4 rfl (lv_at hl 1 rfl) ?_
    refine lv_bipush (v := nI 12) hx hb dX6_isSong_5 (by decide) ?_
    refine lv_icmp_ge (tgt := 23) hx hb dX6_isSong_7 (by decide) (fun c_7 => ?_) (fun c_7 => ?_)
    · refine lv_iconst (v := nI 0) hx hb dX6_isSong_23 (by decide) ?_
      refine x_top (y := isSongV R x) (by unfold isSongV; simp only [c_1, c_7, if_true, if_false, if_pos, if_neg, not_false_eq_true]) ?_
      exact W.zret (v := isSongV R x) hx hb hr (isSongV_n) (fun t ht hW => ⟨rfl, ht⟩) (fun _ h => by cases h) dX6_isSong_24
    · refine lv_aload_n hx hb dX6_isSong_10 rfl (lv_at hl 0 rfl) ?_
      refine va_get (D := G.1) (ci := 6) (v := .ref (ad 1)) (C := RX6) (T := TX6) (N := 36) hx hb hts inX6 hown hK.1 hP 0 rfl rfl 0 (by decide) fl7 (fun _ h9 => h9) rfl dX6_isSong_11 ?_
      refine lv_iload_n hx hb dX6_isSong_14 rfl (lv_at hl 1 rfl) ?_
      refine va_zald hx hb hK.1 hP 1 1 (n := 12) (f := R 0) rfl rfl (in_of (n := 12) (by omega) c_1 c_7) dX6_isSong_15 ?_
      refine lv_if_eq (tgt := 23) hx hb dX6_isSong_16 (by decide) (fun c_16 => ?_) (fun c_16 => ?_)
      · refine lv_iconst (v := nI 0) hx hb dX6_isSong_23 (by decide) ?_
        refine x_top (y := isSongV R x) (by unfold isSongV; simp only [c_1, c_7, c_16, if_true, if_false, if_pos, if_neg, not_false_eq_true]) ?_
        exact W.zret (v := isSongV R x) hx hb hr (isSongV_n) (fun t ht hW => ⟨rfl, ht⟩) (fun _ h => by cases h) dX6_isSong_24
      · refine lv_iconst (v := nI 1) hx hb dX6_isSong_19 (by decide) ?_
        refine lv_goto (tgt := 24) hx hb dX6_isSong_20 (by decide) ?_
        refine x_top (y := isSongV R x) (by unfold isSongV; simp only [c_1, c_7, c_16, if_true, if_false, if_pos, if_neg, not_false_eq_true]) ?_
        exact W.zret (v := isSongV R x) hx hb hr (isSongV_n) (fun t ht hW => ⟨rfl, ht⟩) (fun _ h => by cases h) dX6_isSong_24

set_option maxHeartbeats 4000000 in
set_option maxRecDepth 100000 in
theorem c_X6_playedBars (l : Launch) (G : mx_G) (ad : Nat → Nat) (F : Nat → Int32) (R : Nat → Nat → Int32) (j : Nat) (σ : Sg) (hs : j < 12) (hm : moSg R j σ) (ok : sgOk σ) : mx_RO l yX6_playedBars wsX6_playedBars 0 0 G [.ref (ad 0), .int (nI j)] (fun H => va_P G.1 vwCl (MW G ad F R) H) (.int (nI (gPB σ))) := by
  refine Met.ofW (cc := cX6_playedBars) (maxL := 2) (ret := (some .int)) (by decide) rfl ?_
  intro p e s m args below meth c s₁ BB hml hv
  obtain ⟨rfl, hP, hK⟩ := hv
  have hx := BB.exec
  have hb := BB.bytes
  have hr := BB.returns
  have hts := atoms_spec (ws := wsX6_playedBars) BB.pre
  have hown : s.vm.findClass RX6 = some m.cls := findClass_of_methodNamed BB.named
  have hlocks := BB.notSynchronized
  have hP : va_P G.1 vwCl (MW G ad F R) s.heap := hP
  obtain ⟨m1, m2, m3, m4, m5, m6, m7, m8, m9, m10, m11⟩ := id hm
  obtain ⟨hB2, hB64, hAE, hEB, hT1, hT4, hPB, hP1, hP16, hC, hst, hmo⟩ := id ok
  have fl17 := hts (.fieldLink RX6 17 "MixDeskModel" "bars" "[I") (by decide +kernel)
  have fl38 := hts (.fieldLink RX6 38 "MixDeskModel" "loopFrom" "[I") (by decide +kernel)
  have fl41 := hts (.fieldLink RX6 41 "MixDeskModel" "loopTo" "[I") (by decide +kernel)
  have fl44 := hts (.fieldLink RX6 44 "MixDeskModel" "loops" "[I") (by decide +kernel)
  have inX6 : ∀ w ∈ wsX60, w ∈ wsX6_playedBars := by decide +kernel
  have hl := lv_entry ([.ref (ad 0), .int (nI j)]) (n := 2) (Nat.le_of_ble_eq_true rfl)
  rw [lg_entry_eq]
  generalize (lg_sl ([.ref (ad 0), .int (nI j)]) ++ List.replicate (2 - (lg_sl ([.ref (ad 0), .int (nI j)])).length) Slot.unset).toArray = ls at hl ⊢
  have hl : lv_has ls 2 [(0, .ref (ad 0)), (1, .int (nI j))] := hl
  show mx_WR l wsX6_playedBars 0 0 p e s m (([.ref (ad 0), .int (nI j)] : List Value).toArray) below meth c (.int (nI (gPB σ))) (F0 m 0 ls [])
  refine lv_aload_n hx hb dX6_playedBars_0 rfl (lv_at hl 0 rfl) ?_
  refine va_get (D := G.1) (ci := 6) (v := .ref (ad 3)) (C := RX6) (T := TX6) (N := 36) hx hb hts inX6 hown hK.1 hP 0 rfl rfl 2 (by decide) fl17 (fun _ h9 => h9) rfl dX6_playedBars_1 ?_
  refine lv_iload_n hx hb dX6_playedBars_4 rfl (lv_at hl 1 rfl) ?_
  refine x_iald hx hb hK.1 hP 3 0 (n := 12) (f := R 2) rfl rfl (k := j) (by omega) (by omega) dX6_playedBars_5 ?_
  refine x_top (y := nI (gB σ)) (m2) ?_
  refine lv_aload_n hx hb dX6_playedBars_6 rfl (lv_at hl 0 rfl) ?_
  refine va_get (D := G.1) (ci := 6) (v := .ref (ad 12)) (C := RX6) (T := TX6) (N := 36) hx hb hts inX6 hown hK.1 hP 0 rfl rfl 11 (by decide) fl44 (fun _ h9 => h9) rfl dX6_playedBars_7 ?_
  refine lv_iload_n hx hb dX6_playedBars_10 rfl (lv_at hl 1 rfl) ?_
  refine x_iald hx hb hK.1 hP 12 0 (n := 12) (f := R 11) rfl rfl (k := j) (by omega) (by omega) dX6_playedBars_11 ?_
  refine x_top (y := nI (gT σ)) (m11) ?_
  refine lv_iconst (v := nI 1) hx hb dX6_playedBars_12 (by decide) ?_
  refine x_isub (r := gT σ - 1) hx hb dX6_playedBars_13 (by omega) ?_
  refine lv_aload_n hx hb dX6_playedBars_14 rfl (lv_at hl 0 rfl) ?_
  refine va_get (D := G.1) (ci := 6) (v := .ref (ad 11)) (C := RX6) (T := TX6) (N := 36) hx hb hts inX6 hown hK.1 hP 0 rfl rfl 10 (by decide) fl41 (fun _ h9 => h9) rfl dX6_playedBars_15 ?_
  refine lv_iload_n hx hb dX6_playedBars_18 rfl (lv_at hl 1 rfl) ?_
  refine x_iald hx hb hK.1 hP 11 0 (n := 12) (f := R 10) rfl rfl (k := j) (by omega) (by omega) dX6_playedBars_19 ?_
  refine x_top (y := nI (gE σ)) (m10) ?_
  refine lv_aload_n hx hb dX6_playedBars_20 rfl (lv_at hl 0 rfl) ?_
  refine va_get (D := G.1) (ci := 6) (v := .ref (ad 10)) (C := RX6) (T := TX6) (N := 36) hx hb hts inX6 hown hK.1 hP 0 rfl rfl 9 (by decide) fl38 (fun _ h9 => h9) rfl dX6_playedBars_21 ?_
  refine lv_iload_n hx hb dX6_playedBars_24 rfl (lv_at hl 1 rfl) ?_
  refine x_iald hx hb hK.1 hP 10 0 (n := 12) (f := R 9) rfl rfl (k := j) (by omega) (by omega) dX6_playedBars_25 ?_
  refine x_top (y := nI (gA σ)) (m9) ?_
  refine x_isub (r := gE σ - gA σ) hx hb dX6_playedBars_26 (by omega) ?_
  refine lv_iconst (v := nI 1) hx hb dX6_playedBars_27 (by decide) ?_
  refine x_iadd (r := gE σ - gA σ + 1) hx hb dX6_playedBars_28 (rfl) ?_
  refine x_imul (r := (gT σ - 1) * (gE σ - gA σ + 1)) hx hb dX6_playedBars_29 (rfl) ?_
  refine x_iadd (r := gB σ + ((gT σ - 1) * (gE σ - gA σ + 1))) hx hb dX6_playedBars_30 (rfl) ?_
  refine x_top (y := nI (gPB σ)) (by rfl) ?_
  exact W.iret (v := nI (gPB σ)) hx hb hr (fun t ht hW => ⟨rfl, ht⟩) (fun _ h => by cases h) dX6_playedBars_31

set_option maxHeartbeats 4000000 in
set_option maxRecDepth 100000 in
theorem c_X6_barOf (l : Launch) (G : mx_G) (ad : Nat → Nat) (F : Nat → Int32) (R : Nat → Nat → Int32) (j : Nat) (σ : Sg) (q : Nat) (hs : j < 12) (hm : moSg R j σ) (ok : sgOk σ) (hq : q < gPB σ) : mx_RO l yX6_barOf wsX6_barOf 0 0 G [.ref (ad 0), .int (nI j), .int (nI q)] (fun H => va_P G.1 vwCl (MW G ad F R) H) (.int (nI (gBar σ q))) := by
  refine Met.ofW (cc := cX6_barOf) (maxL := 5) (ret := (some .int)) (by decide) rfl ?_
  intro p e s m args below meth c s₁ BB hml hv
  obtain ⟨rfl, hP, hK⟩ := hv
  have hx := BB.exec
  have hb := BB.bytes
  have hr := BB.returns
  have hts := atoms_spec (ws := wsX6_barOf) BB.pre
  have hown : s.vm.findClass RX6 = some m.cls := findClass_of_methodNamed BB.named
  have hlocks := BB.notSynchronized
  have hP : va_P G.1 vwCl (MW G ad F R) s.heap := hP
  obtain ⟨m1, m2, m3, m4, m5, m6, m7, m8, m9, m10, m11⟩ := id hm
  obtain ⟨hB2, hB64, hAE, hEB, hT1, hT4, hPB, hP1, hP16, hC, hst, hmo⟩ := id ok
  have hpb := gPB_le ok
  have hLT : (gE σ - gA σ + 1) * gT σ ≤ 64 * 4 := Nat.mul_le_mul (by omega) (by omega)
  have hz : (gE σ - gA σ + 1) * gT σ = (gE σ - gA σ + 1) * (gT σ - 1) + (gE σ - gA σ + 1) := by rw [← Nat.mul_succ]; congr 1; omega
  have fl38 := hts (.fieldLink RX6 38 "MixDeskModel" "loopFrom" "[I") (by decide +kernel)
  have fl41 := hts (.fieldLink RX6 41 "MixDeskModel" "loopTo" "[I") (by decide +kernel)
  have fl44 := hts (.fieldLink RX6 44 "MixDeskModel" "loops" "[I") (by decide +kernel)
  have inX6 : ∀ w ∈ wsX60, w ∈ wsX6_barOf := by decide +kernel
  have hl := lv_entry ([.ref (ad 0), .int (nI j), .int (nI q)]) (n := 5) (Nat.le_of_ble_eq_true rfl)
  rw [lg_entry_eq]
  generalize (lg_sl ([.ref (ad 0), .int (nI j), .int (nI q)]) ++ List.replicate (5 - (lg_sl ([.ref (ad 0), .int (nI j), .int (nI q)])).length) Slot.unset).toArray = ls at hl ⊢
  have hl : lv_has ls 5 [(0, .ref (ad 0)), (1, .int (nI j)), (2, .int (nI q))] := hl
  show mx_WR l wsX6_barOf 0 0 p e s m (([.ref (ad 0), .int (nI j), .int (nI q)] : List Value).toArray) below meth c (.int (nI (gBar σ q))) (F0 m 0 ls [])
  refine lv_aload_n hx hb dX6_barOf_0 rfl (lv_at hl 0 rfl) ?_
  refine va_get (D := G.1) (ci := 6) (v := .ref (ad 11)) (C := RX6) (T := TX6) (N := 36) hx hb hts inX6 hown hK.1 hP 0 rfl rfl 10 (by decide) fl41 (fun _ h9 => h9) rfl dX6_barOf_1 ?_
  refine lv_iload_n hx hb dX6_barOf_4 rfl (lv_at hl 1 rfl) ?_
  refine x_iald hx hb hK.1 hP 11 0 (n := 12) (f := R 10) rfl rfl (k := j) (by omega) (by omega) dX6_barOf_5 ?_
  refine x_top (y := nI (gE σ)) (m10) ?_
  refine lv_aload_n hx hb dX6_barOf_6 rfl (lv_at hl 0 rfl) ?_
  refine va_get (D := G.1) (ci := 6) (v := .ref (ad 10)) (C := RX6) (T := TX6) (N := 36) hx hb hts inX6 hown hK.1 hP 0 rfl rfl 9 (by decide) fl38 (fun _ h9 => h9) rfl dX6_barOf_7 ?_
  refine lv_iload_n hx hb dX6_barOf_10 rfl (lv_at hl 1 rfl) ?_
  refine x_iald hx hb hK.1 hP 10 0 (n := 12) (f := R 9) rfl rfl (k := j) (by omega) (by omega) dX6_barOf_11 ?_
  refine x_top (y := nI (gA σ)) (m9) ?_
  refine x_isub (r := gE σ - gA σ) hx hb dX6_barOf_12 (by omega) ?_
  refine lv_iconst (v := nI 1) hx hb dX6_barOf_13 (by decide) ?_
  refine x_iadd (r := gE σ - gA σ + 1) hx hb dX6_barOf_14 (rfl) ?_
  refine lv_istore_n (lv' := [(3, .int (nI (gE σ - gA σ + 1))), (0, .ref (ad 0)), (1, .int (nI j)), (2, .int (nI q))]) hx hb dX6_barOf_15 rfl hl (by decide) rfl (fun ls hl => ?_)
  refine lv_iload_n hx hb dX6_barOf_16 rfl (lv_at hl 3 rfl) ?_
  refine lv_aload_n hx hb dX6_barOf_17 rfl (lv_at hl 1 rfl) ?_
  refine va_get (D := G.1) (ci := 6) (v := .ref (ad 11)) (C := RX6) (T := TX6) (N := 36) hx hb hts inX6 hown hK.1 hP 0 rfl rfl 10 (by decide) fl41 (fun _ h9 => h9) rfl dX6_barOf_18 ?_
  refine lv_iload_n hx hb dX6_barOf_21 rfl (lv_at hl 2 rfl) ?_
  refine x_iald hx hb hK.1 hP 11 0 (n := 12) (f := R 10) rfl rfl (k := j) (by omega) (by omega) dX6_barOf_22 ?_
  refine x_top (y := nI (gE σ)) (m10) ?_
  refine x_icmp_gt (tgt := 28) hx hb (by omega) (by omega) dX6_barOf_23 (by decide) (fun c_23 => ?_) (fun c_23 => ?_)
  · refine lv_iload_n hx hb dX6_barOf_28 rfl (lv_at hl 3 rfl) ?_
    refine lv_aload_n hx hb dX6_barOf_29 rfl (lv_at hl 1 rfl) ?_
    refine va_get (D := G.1) (ci := 6) (v := .ref (ad 10)) (C := RX6) (T := TX6) (N := 36) hx hb hts inX6 hown hK.1 hP 0 rfl rfl 9 (by decide) fl38 (fun _ h9 => h9) rfl dX6_barOf_30 ?_
    refine lv_iload_n hx hb dX6_barOf_33 rfl (lv_at hl 2 rfl) ?_
    refine x_iald hx hb hK.1 hP 10 0 (n := 12) (f := R 9) rfl rfl (k := j) (by omega) (by omega) dX6_barOf_34 ?_
    refine x_top (y := nI (gA σ)) (m9) ?_
    refine x_isub (r := q - gA σ) hx hb dX6_barOf_35 (by omega) ?_
    refine lv_istore (lv' := [(4, .int (nI (q - gA σ))), (3, .int (nI (gE σ - gA σ + 1))), (0, .ref (ad 0)), (1, .int (nI j)), (2, .int (nI q))]) hx hb dX6_barOf_36 hl (by decide) rfl (fun ls hl => ?_)
    refine lv_iload hx hb dX6_barOf_38 (lv_at hl 0 rfl) ?_
    refine lv_iload_n hx hb dX6_barOf_40 rfl (lv_at hl 1 rfl) ?_
    refine lv_aload_n hx hb dX6_barOf_41 rfl (lv_at hl 2 rfl) ?_
    refine va_get (D := G.1) (ci := 6) (v := .ref (ad 12)) (C := RX6) (T := TX6) (N := 36) hx hb hts inX6 hown hK.1 hP 0 rfl rfl 11 (by decide) fl44 (fun _ h9 => h9) rfl dX6_barOf_42 ?_
    refine lv_iload_n hx hb dX6_barOf_45 rfl (lv_at hl 3 rfl) ?_
    refine x_iald hx hb hK.1 hP 12 0 (n := 12) (f := R 11) rfl rfl (k := j) (by omega) (by omega) dX6_barOf_46 ?_
    refine x_top (y := nI (gT σ)) (m11) ?_
    refine x_imul (r := (gE σ - gA σ + 1) * gT σ) hx hb dX6_barOf_47 (rfl) ?_
    refine x_icmp_ge (tgt := 65) hx hb (by omega) (by omega) dX6_barOf_48 (by decide) (fun c_48 => ?_) (fun c_48 => ?_)
    · refine lv_iload_n hx hb dX6_barOf_65 rfl (lv_at hl 4 rfl) ?_
      refine lv_iload_n hx hb dX6_barOf_66 rfl (lv_at hl 1 rfl) ?_
      refine lv_aload_n hx hb dX6_barOf_67 rfl (lv_at hl 2 rfl) ?_
      refine va_get (D := G.1) (ci := 6) (v := .ref (ad 12)) (C := RX6) (T := TX6) (N := 36) hx hb hts inX6 hown hK.1 hP 0 rfl rfl 11 (by decide) fl44 (fun _ h9 => h9) rfl dX6_barOf_68 ?_
      refine lv_iload_n hx hb dX6_barOf_71 rfl (lv_at hl 3 rfl) ?_
      refine x_iald hx hb hK.1 hP 12 0 (n := 12) (f := R 11) rfl rfl (k := j) (by omega) (by omega) dX6_barOf_72 ?_
      refine x_top (y := nI (gT σ)) (m11) ?_
      refine lv_iconst (v := nI 1) hx hb dX6_barOf_73 (by decide) ?_
      refine x_isub (r := gT σ - 1) hx hb dX6_barOf_74 (by omega) ?_
      refine x_imul (r := (gE σ - gA σ + 1) * (gT σ - 1)) hx hb dX6_barOf_75 (rfl) ?_
      refine x_isub (r := q - (gE σ - gA σ + 1) * (gT σ - 1)) hx hb dX6_barOf_76 (by omega) ?_
      refine x_top (y := nI (gBar σ q)) (congrArg nI (by unfold gBar; rw [if_neg (by omega), if_neg (by omega)])) ?_
      exact W.iret (v := nI (gBar σ q)) hx hb hr (fun t ht hW => ⟨rfl, ht⟩) (fun _ h => by cases h) dX6_barOf_77
    · refine lv_aload_n hx hb dX6_barOf_51 rfl (lv_at hl 2 rfl) ?_
      refine va_get (D := G.1) (ci := 6) (v := .ref (ad 10)) (C := RX6) (T := TX6) (N := 36) hx hb hts inX6 hown hK.1 hP 0 rfl rfl 9 (by decide) fl38 (fun _ h9 => h9) rfl dX6_barOf_52 ?_
      refine lv_iload_n hx hb dX6_barOf_55 rfl (lv_at hl 3 rfl) ?_
      refine x_iald hx hb hK.1 hP 10 0 (n := 12) (f := R 9) rfl rfl (k := j) (by omega) (by omega) dX6_barOf_56 ?_
      refine x_top (y := nI (gA σ)) (m9) ?_
      refine lv_iload hx hb dX6_barOf_57 (lv_at hl 0 rfl) ?_
      refine lv_iload_n hx hb dX6_barOf_59 rfl (lv_at hl 1 rfl) ?_
      refine x_irem (r := (q - gA σ) % (gE σ - gA σ + 1)) hx hb dX6_barOf_60 (by omega) (by omega) (by omega) (rfl) ?_
      refine x_iadd (r := gA σ + ((q - gA σ) % (gE σ - gA σ + 1))) hx hb dX6_barOf_61 (rfl) ?_
      refine lv_goto (tgt := 77) hx hb dX6_barOf_62 (by decide) ?_
      refine x_top (y := nI (gBar σ q)) (congrArg nI (by unfold gBar; rw [if_neg (by omega), if_pos (by omega)])) ?_
      exact W.iret (v := nI (gBar σ q)) hx hb hr (fun t ht hW => ⟨rfl, ht⟩) (fun _ h => by cases h) dX6_barOf_77
  · refine lv_iload_n hx hb dX6_barOf_26 rfl (lv_at hl 3 rfl) ?_
    refine x_top (y := nI (gBar σ q)) (congrArg nI (by unfold gBar; rw [if_pos (by omega)])) ?_
    exact W.iret (v := nI (gBar σ q)) hx hb hr (fun t ht hW => ⟨rfl, ht⟩) (fun _ h => by cases h) dX6_barOf_27

set_option maxHeartbeats 4000000 in
set_option maxRecDepth 100000 in
theorem c_X6_beatsOf (l : Launch) (G : mx_G) (ad : Nat → Nat) (F : Nat → Int32) (R : Nat → Nat → Int32) (j : Nat) (σ : Sg) (hs : j < 12) (hm : moSg R j σ) (ok : sgOk σ) : mx_RO l yX6_beatsOf wsX6_beatsOf 0 0 G [.ref (ad 0), .int (nI j)] (fun H => va_P G.1 vwCl (MW G ad F R) H) (.int (nI (gFst σ (gB σ)))) := by
  refine Met.ofW (cc := cX6_beatsOf) (maxL := 4) (ret := (some .int)) (by decide) rfl ?_
  intro p e s m args below meth c s₁ BB hml hv
  obtain ⟨rfl, hP, hK⟩ := hv
  have hx := BB.exec
  have hb := BB.bytes
  have hr := BB.returns
  have hts := atoms_spec (ws := wsX6_beatsOf) BB.pre
  have hown : s.vm.findClass RX6 = some m.cls := findClass_of_methodNamed BB.named
  have hlocks := BB.notSynchronized
  have hP : va_P G.1 vwCl (MW G ad F R) s.heap := hP
  obtain ⟨m1, m2, m3, m4, m5, m6, m7, m8, m9, m10, m11⟩ := id hm
  obtain ⟨hB2, hB64, hAE, hEB, hT1, hT4, hPB, hP1, hP16, hC, hst, hmo⟩ := id ok
  have fl17 := hts (.fieldLink RX6 17 "MixDeskModel" "bars" "[I") (by decide +kernel)
  have fl35 := hts (.fieldLink RX6 35 "MixDeskModel" "beats" "[I") (by decide +kernel)
  have inX6 : ∀ w ∈ wsX60, w ∈ wsX6_beatsOf := by decide +kernel
  have hl := lv_entry ([.ref (ad 0), .int (nI j)]) (n := 4) (Nat.le_of_ble_eq_true rfl)
  rw [lg_entry_eq]
  generalize (lg_sl ([.ref (ad 0), .int (nI j)]) ++ List.replicate (4 - (lg_sl ([.ref (ad 0), .int (nI j)])).length) Slot.unset).toArray = ls at hl ⊢
  have hl : lv_has ls 4 [(0, .ref (ad 0)), (1, .int (nI j))] := hl
  show mx_WR l wsX6_beatsOf 0 0 p e s m (([.ref (ad 0), .int (nI j)] : List Value).toArray) below meth c (.int (nI (gFst σ (gB σ)))) (F0 m 0 ls [])
  refine lv_iconst (v := nI 0) hx hb dX6_beatsOf_0 (by decide) ?_
  refine lv_istore_n (lv' := [(2, .int (nI 0)), (0, .ref (ad 0)), (1, .int (nI j))]) hx hb dX6_beatsOf_1 rfl hl (by decide) rfl (fun ls hl => ?_)
  refine lv_iconst (v := nI 0) hx hb dX6_beatsOf_2 (by decide) ?_
  refine lv_istore_n (lv' := [(3, .int (nI 0)), (2, .int (nI 0)), (0, .ref (ad 0)), (1, .int (nI j))]) hx hb dX6_beatsOf_3 rfl hl (by decide) rfl (fun ls hl => ?_)
  have lp4 : ∀ (nn : Nat) (i : Nat), gB σ - i < nn → i ≤ gB σ → ∀ ls : Array Slot, lv_has ls 4 [(0, .ref (ad 0)), (1, .int (nI j)), (2, .int (nI (gFst σ i))), (3, .int (nI i))] → mx_WR l wsX6_beatsOf 0 0 p e s m (([.ref (ad 0), .int (nI j)] : List Value).toArray) below meth c (.int (nI (gFst σ (gB σ)))) (F0 m 4 ls []) := by
    intro nn
    induction nn with
    | zero => intro i hmu; exact absurd hmu (Nat.not_lt_zero _)
    | succ nn ih4 =>
      intro i hmu hi ls hl
      refine lv_iload_n hx hb dX6_beatsOf_4 rfl (lv_at hl 3 rfl) ?_
      refine lv_aload_n hx hb dX6_beatsOf_5 rfl (lv_at hl 0 rfl) ?_
      refine va_get (D := G.1) (ci := 6) (v := .ref (ad 3)) (C := RX6) (T := TX6) (N := 36) hx hb hts inX6 hown hK.1 hP 0 rfl rfl 2 (by decide) fl17 (fun _ h9 => h9) rfl dX6_beatsOf_6 ?_
      refine lv_iload_n hx hb dX6_beatsOf_9 rfl (lv_at hl 1 rfl) ?_
      refine x_iald hx hb hK.1 hP 3 0 (n := 12) (f := R 2) rfl rfl (k := j) (by omega) (by omega) dX6_beatsOf_10 ?_
      refine x_top (y := nI (gB σ)) (m2) ?_
      refine x_icmp_ge (tgt := 34) hx hb (by omega) (by omega) dX6_beatsOf_11 (by decide) (fun c_11 => ?_) (fun c_11 => ?_)
      · refine lv_iload_n hx hb dX6_beatsOf_34 rfl (lv_at hl 2 rfl) ?_
        refine x_top (y := nI (gFst σ (gB σ))) (by rw [show i = gB σ by omega]) ?_
        exact W.iret (v := nI (gFst σ (gB σ))) hx hb hr (fun t ht hW => ⟨rfl, ht⟩) (fun _ h => by cases h) dX6_beatsOf_35
      · refine lv_iload_n hx hb dX6_beatsOf_14 rfl (lv_at hl 2 rfl) ?_
        refine lv_aload_n hx hb dX6_beatsOf_15 rfl (lv_at hl 0 rfl) ?_
        refine va_get (D := G.1) (ci := 6) (v := .ref (ad 9)) (C := RX6) (T := TX6) (N := 36) hx hb hts inX6 hown hK.1 hP 0 rfl rfl 8 (by decide) fl35 (fun _ h9 => h9) rfl dX6_beatsOf_16 ?_
        refine lv_bipush (v := nI 64) hx hb dX6_beatsOf_19 (by decide) ?_
        refine lv_iload_n hx hb dX6_beatsOf_21 rfl (lv_at hl 1 rfl) ?_
        refine x_imul (r := 64 * j) hx hb dX6_beatsOf_22 (rfl) ?_
        refine lv_iload_n hx hb dX6_beatsOf_23 rfl (lv_at hl 3 rfl) ?_
        refine x_iadd (r := 64 * j + i) hx hb dX6_beatsOf_24 (rfl) ?_
        refine x_iald hx hb hK.1 hP 9 0 (n := 768) (f := R 8) rfl rfl (k := 64 * j + i) (by omega) (by omega) dX6_beatsOf_25 ?_
        refine x_top (y := nI (gC σ i)) (m8 i (by omega)) ?_
        refine x_iadd (r := gFst σ i + gC σ i) hx hb dX6_beatsOf_26 (rfl) ?_
        refine lv_istore_n (lv' := [(2, .int (nI (gFst σ i + gC σ i))), (0, .ref (ad 0)), (1, .int (nI j)), (3, .int (nI i))]) hx hb dX6_beatsOf_27 rfl hl (by decide) rfl (fun ls hl => ?_)
        refine x_iinc (lv' := [(3, .int (nI (i + 1))), (2, .int (nI (gFst σ i + gC σ i))), (0, .ref (ad 0)), (1, .int (nI j))]) hx hb dX6_beatsOf_28 hl (k := 3) rfl (x_inc1 _) (by decide) rfl (fun ls hl => ?_)
        refine lv_goto (tgt := 4) hx hb dX6_beatsOf_31 (by decide) ?_
        exact ih4 (i + 1) (by omega) (by omega) _ (lv_sub hl [2, 3, 1, 0] rfl)
  exact lp4 (gB σ - 0 + 1) 0 (Nat.lt_succ_self _) (by omega) _ (lv_sub hl [2, 3, 1, 0] rfl)

set_option maxHeartbeats 4000000 in
set_option maxRecDepth 100000 in
theorem c_X6_firstBeat (l : Launch) (G : mx_G) (ad : Nat → Nat) (F : Nat → Int32) (R : Nat → Nat → Int32) (j : Nat) (σ : Sg) (b : Nat) (hs : j < 12) (hm : moSg R j σ) (ok : sgOk σ) (hb9 : b ≤ 64) : mx_RO l yX6_firstBeat wsX6_firstBeat 0 0 G [.ref (ad 0), .int (nI j), .int (nI b)] (fun H => va_P G.1 vwCl (MW G ad F R) H) (.int (nI (gFst σ b))) := by
  refine Met.ofW (cc := cX6_firstBeat) (maxL := 5) (ret := (some .int)) (by decide) rfl ?_
  intro p e s m args below meth c s₁ BB hml hv
  obtain ⟨rfl, hP, hK⟩ := hv
  have hx := BB.exec
  have hb := BB.bytes
  have hr := BB.returns
  have hts := atoms_spec (ws := wsX6_firstBeat) BB.pre
  have hown : s.vm.findClass RX6 = some m.cls := findClass_of_methodNamed BB.named
  have hlocks := BB.notSynchronized
  have hP : va_P G.1 vwCl (MW G ad F R) s.heap := hP
  obtain ⟨m1, m2, m3, m4, m5, m6, m7, m8, m9, m10, m11⟩ := id hm
  obtain ⟨hB2, hB64, hAE, hEB, hT1, hT4, hPB, hP1, hP16, hC, hst, hmo⟩ := id ok
  have fl35 := hts (.fieldLink RX6 35 "MixDeskModel" "beats" "[I") (by decide +kernel)
  have inX6 : ∀ w ∈ wsX60, w ∈ wsX6_firstBeat := by decide +kernel
  have hl := lv_entry ([.ref (ad 0), .int (nI j), .int (nI b)]) (n := 5) (Nat.le_of_ble_eq_true rfl)
  rw [lg_entry_eq]
  generalize (lg_sl ([.ref (ad 0), .int (nI j), .int (nI b)]) ++ List.replicate (5 - (lg_sl ([.ref (ad 0), .int (nI j), .int (nI b)])).length) Slot.unset).toArray = ls at hl ⊢
  have hl : lv_has ls 5 [(0, .ref (ad 0)), (1, .int (nI j)), (2, .int (nI b))] := hl
  show mx_WR l wsX6_firstBeat 0 0 p e s m (([.ref (ad 0), .int (nI j), .int (nI b)] : List Value).toArray) below meth c (.int (nI (gFst σ b))) (F0 m 0 ls [])
  refine lv_iconst (v := nI 0) hx hb dX6_firstBeat_0 (by decide) ?_
  refine lv_istore_n (lv' := [(3, .int (nI 0)), (0, .ref (ad 0)), (1, .int (nI j)), (2, .int (nI b))]) hx hb dX6_firstBeat_1 rfl hl (by decide) rfl (fun ls hl => ?_)
  refine lv_iconst (v := nI 0) hx hb dX6_firstBeat_2 (by decide) ?_
  refine lv_istore (lv' := [(4, .int (nI 0)), (3, .int (nI 0)), (0, .ref (ad 0)), (1, .int (nI j)), (2, .int (nI b))]) hx hb dX6_firstBeat_3 hl (by decide) rfl (fun ls hl => ?_)
  have lp5 : ∀ (nn : Nat) (i : Nat), b - i < nn → i ≤ b → ∀ ls : Array Slot, lv_has ls 5 [(0, .ref (ad 0)), (1, .int (nI j)), (2, .int (nI b)), (3, .int (nI (gFst σ i))), (4, .int (nI i))] → mx_WR l wsX6_firstBeat 0 0 p e s m (([.ref (ad 0), .int (nI j), .int (nI b)] : List Value).toArray) below meth c (.int (nI (gFst σ b))) (F0 m 5 ls []) := by
    intro nn
    induction nn with
    | zero => intro i hmu; exact absurd hmu (Nat.not_lt_zero _)
    | succ nn ih5 =>
      intro i hmu hi ls hl
      refine lv_iload hx hb dX6_firstBeat_5 (lv_at hl 4 rfl) ?_
      refine lv_iload_n hx hb dX6_firstBeat_7 rfl (lv_at hl 2 rfl) ?_
      refine x_icmp_ge (tgt := 32) hx hb (by omega) (by omega) dX6_firstBeat_8 (by decide) (fun c_8 => ?_) (fun c_8 => ?_)
      · refine lv_iload_n hx hb dX6_firstBeat_32 rfl (lv_at hl 3 rfl) ?_
        refine x_top (y := nI (gFst σ b)) (by rw [show i = b by omega]) ?_
        exact W.iret (v := nI (gFst σ b)) hx hb hr (fun t ht hW => ⟨rfl, ht⟩) (fun _ h => by cases h) dX6_firstBeat_33
      · refine lv_iload_n hx hb dX6_firstBeat_11 rfl (lv_at hl 3 rfl) ?_
        refine lv_aload_n hx hb dX6_firstBeat_12 rfl (lv_at hl 0 rfl) ?_
        refine va_get (D := G.1) (ci := 6) (v := .ref (ad 9)) (C := RX6) (T := TX6) (N := 36) hx hb hts inX6 hown hK.1 hP 0 rfl rfl 8 (by decide) fl35 (fun _ h9 => h9) rfl dX6_firstBeat_13 ?_
        refine lv_bipush (v := nI 64) hx hb dX6_firstBeat_16 (by decide) ?_
        refine lv_iload_n hx hb dX6_firstBeat_18 rfl (lv_at hl 1 rfl) ?_
        refine x_imul (r := 64 * j) hx hb dX6_firstBeat_19 (rfl) ?_
        refine lv_iload hx hb dX6_firstBeat_20 (lv_at hl 4 rfl) ?_
        refine x_iadd (r := 64 * j + i) hx hb dX6_firstBeat_22 (rfl) ?_
        refine x_iald hx hb hK.1 hP 9 0 (n := 768) (f := R 8) rfl rfl (k := 64 * j + i) (by omega) (by omega) dX6_firstBeat_23 ?_
        refine x_top (y := nI (gC σ i)) (m8 i (by omega)) ?_
        refine x_iadd (r := gFst σ i + gC σ i) hx hb dX6_firstBeat_24 (rfl) ?_
        refine lv_istore_n (lv' := [(3, .int (nI (gFst σ i + gC σ i))), (0, .ref (ad 0)), (1, .int (nI j)), (2, .int (nI b)), (4, .int (nI i))]) hx hb dX6_firstBeat_25 rfl hl (by decide) rfl (fun ls hl => ?_)
        refine x_iinc (lv' := [(4, .int (nI (i + 1))), (3, .int (nI (gFst σ i + gC σ i))), (0, .ref (ad 0)), (1, .int (nI j)), (2, .int (nI b))]) hx hb dX6_firstBeat_26 hl (k := 4) rfl (x_inc1 _) (by decide) rfl (fun ls hl => ?_)
        refine lv_goto (tgt := 5) hx hb dX6_firstBeat_29 (by decide) ?_
        exact ih5 (i + 1) (by omega) (by omega) _ (lv_sub hl [2, 3, 4, 1, 0] rfl)
  exact lp5 (b - 0 + 1) 0 (Nat.lt_succ_self _) (by omega) _ (lv_sub hl [2, 3, 4, 1, 0] rfl)
end
section
set_option maxHeartbeats 4000000 in
set_option maxRecDepth 100000 in
theorem c_X6_lasts (l : Launch) (G : mx_G) (ad : Nat → Nat) (F : Nat → Int32) (R : Nat → Nat → Int32) (j : Nat) (σ : Sg) (k : Nat) (hs : j < 12) (hm : moSg R j σ) (ok : sgOk σ) (hk : k < 2 ^ 31) : mx_RO l yX6_lasts wsX6_lasts 1 21 G [.ref (ad 0), .int (nI j), .int (nI k)] (fun H => va_P G.1 vwCl (MW G ad F R) H) (.int (gLast σ k)) := by
  refine Met.ofW (cc := cX6_lasts) (maxL := 4) (ret := (some .int)) (by decide) rfl ?_
  intro p e s m args below meth c s₁ BB hml hv
  obtain ⟨rfl, hP, hK⟩ := hv
  have hx := BB.exec
  have hb := BB.bytes
  have hr := BB.returns
  have hts := atoms_spec (ws := wsX6_lasts) BB.pre
  have hown : s.vm.findClass RX6 = some m.cls := findClass_of_methodNamed BB.named
  have hlocks := BB.notSynchronized
  have hP : va_P G.1 vwCl (MW G ad F R) s.heap := hP
  obtain ⟨m1, m2, m3, m4, m5, m6, m7, m8, m9, m10, m11⟩ := id hm
  obtain ⟨hB2, hB64, hAE, hEB, hT1, hT4, hPB, hP1, hP16, hC, hst, hmo⟩ := id ok
  have fl13 := hts (.fieldLink RX6 13 "MixDeskModel" "kind" "[I") (by decide +kernel)
  have fl20 := hts (.fieldLink RX6 20 "MixDeskModel" "step" "[I") (by decide +kernel)
  have fl23 := hts (.fieldLink RX6 23 "MixDeskModel" "more" "[I") (by decide +kernel)
  have inX6 : ∀ w ∈ wsX60, w ∈ wsX6_lasts := by decide +kernel
  have hl := lv_entry ([.ref (ad 0), .int (nI j), .int (nI k)]) (n := 4) (Nat.le_of_ble_eq_true rfl)
  rw [lg_entry_eq]
  generalize (lg_sl ([.ref (ad 0), .int (nI j), .int (nI k)]) ++ List.replicate (4 - (lg_sl ([.ref (ad 0), .int (nI j), .int (nI k)])).length) Slot.unset).toArray = ls at hl ⊢
  have hl : lv_has ls 4 [(0, .ref (ad 0)), (1, .int (nI j)), (2, .int (nI k))] := hl
  show mx_WR l wsX6_lasts 1 21 p e s m (([.ref (ad 0), .int (nI j), .int (nI k)] : List Value).toArray) below meth c (.int (gLast σ k)) (F0 m 0 ls [])
  refine lv_aload_n hx hb dX6_lasts_0 rfl (lv_at hl 0 rfl) ?_
  refine va_get (D := G.1) (ci := 6) (v := .ref (ad 2)) (C := RX6) (T := TX6) (N := 36) hx hb hts inX6 hown hK.1 hP 0 rfl rfl 1 (by decide) fl13 (fun _ h9 => h9) rfl dX6_lasts_1 ?_
  refine lv_iload_n hx hb dX6_lasts_4 rfl (lv_at hl 1 rfl) ?_
  refine x_iald hx hb hK.1 hP 2 0 (n := 12) (f := R 1) rfl rfl (k := j) (by omega) (by omega) dX6_lasts_5 ?_
  refine x_top (y := gKind σ) (m1) ?_
  refine lv_if_ne (tgt := 16) hx hb dX6_lasts_6 (by decide) (fun c_6 => ?_) (fun c_6 => ?_)
  · refine lv_aload_n hx hb dX6_lasts_16 rfl (lv_at hl 0 rfl) ?_
    refine va_get (D := G.1) (ci := 6) (v := .ref (ad 2)) (C := RX6) (T := TX6) (N := 36) hx hb hts inX6 hown hK.1 hP 0 rfl rfl 1 (by decide) fl13 (fun _ h9 => h9) rfl dX6_lasts_17 ?_
    refine lv_iload_n hx hb dX6_lasts_20 rfl (lv_at hl 1 rfl) ?_
    refine x_iald hx hb hK.1 hP 2 0 (n := 12) (f := R 1) rfl rfl (k := j) (by omega) (by omega) dX6_lasts_21 ?_
    refine x_top (y := gKind σ) (m1) ?_
    refine lv_iconst (v := nI 1) hx hb dX6_lasts_22 (by decide) ?_
    refine lv_icmp_ne (tgt := 62) hx hb dX6_lasts_23 (by decide) (fun c_23 => ?_) (fun c_23 => ?_)
    · refine lv_aload_n hx hb dX6_lasts_62 rfl (lv_at hl 0 rfl) ?_
      refine va_get (D := G.1) (ci := 6) (v := .ref (ad 4)) (C := RX6) (T := TX6) (N := 36) hx hb hts inX6 hown hK.1 hP 0 rfl rfl 3 (by decide) fl20 (fun _ h9 => h9) rfl dX6_lasts_63 ?_
      refine lv_iload_n hx hb dX6_lasts_66 rfl (lv_at hl 1 rfl) ?_
      refine x_iald hx hb hK.1 hP 4 0 (n := 12) (f := R 3) rfl rfl (k := j) (by omega) (by omega) dX6_lasts_67 ?_
      refine x_top (y := gStep σ) (m3) ?_
      refine lv_iload_n hx hb dX6_lasts_68 rfl (lv_at hl 2 rfl) ?_
      refine lv_aload_n hx hb dX6_lasts_69 rfl (lv_at hl 0 rfl) ?_
      refine va_get (D := G.1) (ci := 6) (v := .ref (ad 5)) (C := RX6) (T := TX6) (N := 36) hx hb hts inX6 hown hK.1 hP 0 rfl rfl 4 (by decide) fl23 (fun _ h9 => h9) rfl dX6_lasts_70 ?_
      refine lv_iload_n hx hb dX6_lasts_73 rfl (lv_at hl 1 rfl) ?_
      refine x_iald hx hb hK.1 hP 5 0 (n := 12) (f := R 4) rfl rfl (k := j) (by omega) (by omega) dX6_lasts_74 ?_
      refine x_top (y := gMore σ) (m4) ?_
      refine lv_imul hx hb dX6_lasts_75 ?_
      refine lv_bipush (v := nI 16) hx hb dX6_lasts_76 (by decide) ?_
      refine mx_callRO (v := .int (mfloor ((nI k) * (gMore σ)) (nI 16))) (va_runS (As := [.int ((nI k) * (gMore σ)), .int (nI 16)]) (rest := [.int (gStep σ)]) ⟨hx, hb, hml, hown, hts⟩ (c_X6_floor l G ((nI k) * (gMore σ)) (nI 16) (by decide)) (va_cwS 2 hts gX6_lasts_X6_floor rfl rfl rfl (by decide +kernel) ⟨Nat.le_of_ble_eq_true rfl, Nat.le_of_ble_eq_true rfl⟩) (mx_preS hK trivial) rfl rfl hl.1 rfl (lv_room (Nat.le_of_ble_eq_true rfl)) dX6_lasts_78 ⟨Nat.zero_le _, Nat.zero_le _⟩) ?_
      refine lv_iadd hx hb dX6_lasts_81 ?_
      refine lv_istore_n (lv' := [(3, .int ((gStep σ) + (mfloor ((nI k) * (gMore σ)) (nI 16)))), (0, .ref (ad 0)), (1, .int (nI j)), (2, .int (nI k))]) hx hb dX6_lasts_82 rfl hl (by decide) rfl (fun ls hl => ?_)
      refine lv_iload_n hx hb dX6_lasts_83 rfl (lv_at hl 0 rfl) ?_
      refine lv_bipush (v := nI 20) hx hb dX6_lasts_84 (by decide) ?_
      refine lv_icmp_ge (tgt := 94) hx hb dX6_lasts_86 (by decide) (fun c_86 => ?_) (fun c_86 => ?_)
      · refine lv_iload_n hx hb dX6_lasts_94 rfl (lv_at hl 0 rfl) ?_
        refine lv_sipush (v := nI 400) hx hb dX6_lasts_95 (by decide) ?_
        refine lv_icmp_le (tgt := 107) hx hb dX6_lasts_98 (by decide) (fun c_98 => ?_) (fun c_98 => ?_)
        · refine lv_iload_n hx hb dX6_lasts_107 rfl (lv_at hl 0 rfl) ?_
          refine x_top (y := gLast σ k) (by unfold gLast; rw [if_neg c_6, if_neg c_23]; unfold clampT; rw [if_neg (Int32.not_lt.mpr c_86), if_neg (Int32.not_lt.mpr c_98)]) ?_
          exact W.iret (v := gLast σ k) hx hb hr (fun t ht hW => ⟨rfl, ht⟩) (fun _ h => by cases h) dX6_lasts_108
        · refine lv_sipush (v := nI 400) hx hb dX6_lasts_101 (by decide) ?_
          refine lv_goto (tgt := 108) hx hb dX6_lasts_104 (by decide) ?_
          refine x_top (y := gLast σ k) (by unfold gLast; rw [if_neg c_6, if_neg c_23]; unfold clampT; rw [if_neg (Int32.not_lt.mpr c_86), if_pos (Int32.not_le.mp c_98)]) ?_
          exact W.iret (v := gLast σ k) hx hb hr (fun t ht hW => ⟨rfl, ht⟩) (fun _ h => by cases h) dX6_lasts_108
      · refine lv_bipush (v := nI 20) hx hb dX6_lasts_89 (by decide) ?_
        refine lv_goto (tgt := 108) hx hb dX6_lasts_91 (by decide) ?_
        refine x_top (y := gLast σ k) (by unfold gLast; rw [if_neg c_6, if_neg c_23]; unfold clampT; rw [if_pos (Int32.not_le.mp c_86)]) ?_
        exact W.iret (v := gLast σ k) hx hb hr (fun t ht hW => ⟨rfl, ht⟩) (fun _ h => by cases h) dX6_lasts_108
    · refine lv_iload_n hx hb dX6_lasts_26 rfl (lv_at hl 2 rfl) ?_
      refine lv_iconst (v := nI 2) hx hb dX6_lasts_27 (by decide) ?_
      refine x_irem (r := k % 2) hx hb dX6_lasts_28 (by omega) (by omega) (by omega) (rfl) ?_
      refine x_if_ne (tgt := 48) hx hb (by omega) dX6_lasts_29 (by decide) (fun c_29 => ?_) (fun c_29 => ?_)
      · refine lv_aload_n hx hb dX6_lasts_48 rfl (lv_at hl 0 rfl) ?_
        refine va_get (D := G.1) (ci := 6) (v := .ref (ad 4)) (C := RX6) (T := TX6) (N := 36) hx hb hts inX6 hown hK.1 hP 0 rfl rfl 3 (by decide) fl20 (fun _ h9 => h9) rfl dX6_lasts_49 ?_
        refine lv_iload_n hx hb dX6_lasts_52 rfl (lv_at hl 1 rfl) ?_
        refine x_iald hx hb hK.1 hP 4 0 (n := 12) (f := R 3) rfl rfl (k := j) (by omega) (by omega) dX6_lasts_53 ?_
        refine x_top (y := gStep σ) (m3) ?_
        refine lv_aload_n hx hb dX6_lasts_54 rfl (lv_at hl 0 rfl) ?_
        refine va_get (D := G.1) (ci := 6) (v := .ref (ad 5)) (C := RX6) (T := TX6) (N := 36) hx hb hts inX6 hown hK.1 hP 0 rfl rfl 4 (by decide) fl23 (fun _ h9 => h9) rfl dX6_lasts_55 ?_
        refine lv_iload_n hx hb dX6_lasts_58 rfl (lv_at hl 1 rfl) ?_
        refine x_iald hx hb hK.1 hP 5 0 (n := 12) (f := R 4) rfl rfl (k := j) (by omega) (by omega) dX6_lasts_59 ?_
        refine x_top (y := gMore σ) (m4) ?_
        refine lv_isub hx hb dX6_lasts_60 ?_
        refine x_top (y := gLast σ k) (by unfold gLast; rw [if_neg c_6, if_pos c_23, if_neg c_29]) ?_
        exact W.iret (v := gLast σ k) hx hb hr (fun t ht hW => ⟨rfl, ht⟩) (fun _ h => by cases h) dX6_lasts_61
      · refine lv_aload_n hx hb dX6_lasts_32 rfl (lv_at hl 0 rfl) ?_
        refine va_get (D := G.1) (ci := 6) (v := .ref (ad 4)) (C := RX6) (T := TX6) (N := 36) hx hb hts inX6 hown hK.1 hP 0 rfl rfl 3 (by decide) fl20 (fun _ h9 => h9) rfl dX6_lasts_33 ?_
        refine lv_iload_n hx hb dX6_lasts_36 rfl (lv_at hl 1 rfl) ?_
        refine x_iald hx hb hK.1 hP 4 0 (n := 12) (f := R 3) rfl rfl (k := j) (by omega) (by omega) dX6_lasts_37 ?_
        refine x_top (y := gStep σ) (m3) ?_
        refine lv_aload_n hx hb dX6_lasts_38 rfl (lv_at hl 0 rfl) ?_
        refine va_get (D := G.1) (ci := 6) (v := .ref (ad 5)) (C := RX6) (T := TX6) (N := 36) hx hb hts inX6 hown hK.1 hP 0 rfl rfl 4 (by decide) fl23 (fun _ h9 => h9) rfl dX6_lasts_39 ?_
        refine lv_iload_n hx hb dX6_lasts_42 rfl (lv_at hl 1 rfl) ?_
        refine x_iald hx hb hK.1 hP 5 0 (n := 12) (f := R 4) rfl rfl (k := j) (by omega) (by omega) dX6_lasts_43 ?_
        refine x_top (y := gMore σ) (m4) ?_
        refine lv_iadd hx hb dX6_lasts_44 ?_
        refine lv_goto (tgt := 61) hx hb dX6_lasts_45 (by decide) ?_
        refine x_top (y := gLast σ k) (by unfold gLast; rw [if_neg c_6, if_pos c_23, if_pos c_29]) ?_
        exact W.iret (v := gLast σ k) hx hb hr (fun t ht hW => ⟨rfl, ht⟩) (fun _ h => by cases h) dX6_lasts_61
  · refine lv_aload_n hx hb dX6_lasts_9 rfl (lv_at hl 0 rfl) ?_
    refine va_get (D := G.1) (ci := 6) (v := .ref (ad 4)) (C := RX6) (T := TX6) (N := 36) hx hb hts inX6 hown hK.1 hP 0 rfl rfl 3 (by decide) fl20 (fun _ h9 => h9) rfl dX6_lasts_10 ?_
    refine lv_iload_n hx hb dX6_lasts_13 rfl (lv_at hl 1 rfl) ?_
    refine x_iald hx hb hK.1 hP 4 0 (n := 12) (f := R 3) rfl rfl (k := j) (by omega) (by omega) dX6_lasts_14 ?_
    refine x_top (y := gStep σ) (m3) ?_
    refine x_top (y := gLast σ k) (by unfold gLast; rw [if_pos c_6]) ?_
    exact W.iret (v := gLast σ k) hx hb hr (fun t ht hW => ⟨rfl, ht⟩) (fun _ h => by cases h) dX6_lasts_15

set_option maxHeartbeats 4000000 in
set_option maxRecDepth 100000 in
theorem c_X6_tick (l : Launch) (G : mx_G) (ad : Nat → Nat) (F : Nat → Int32) (R : Nat → Nat → Int32) (j : Nat) (σ : Sg) (k : Nat) (hs : j < 12) (hm : moSg R j σ) (ok : sgOk σ) (hk : k ≤ 256) : mx_RO l yX6_tick wsX6_tick 2 44 G [.ref (ad 0), .int (nI j), .int (nI k)] (fun H => va_P G.1 vwCl (MW G ad F R) H) (.int (gTick σ k)) := by
  refine Met.ofW (cc := cX6_tick) (maxL := 5) (ret := (some .int)) (by decide) rfl ?_
  intro p e s m args below meth c s₁ BB hml hv
  obtain ⟨rfl, hP, hK⟩ := hv
  have hx := BB.exec
  have hb := BB.bytes
  have hr := BB.returns
  have hts := atoms_spec (ws := wsX6_tick) BB.pre
  have hown : s.vm.findClass RX6 = some m.cls := findClass_of_methodNamed BB.named
  have hlocks := BB.notSynchronized
  have hP : va_P G.1 vwCl (MW G ad F R) s.heap := hP
  have hl := lv_entry ([.ref (ad 0), .int (nI j), .int (nI k)]) (n := 5) (Nat.le_of_ble_eq_true rfl)
  rw [lg_entry_eq]
  generalize (lg_sl ([.ref (ad 0), .int (nI j), .int (nI k)]) ++ List.replicate (5 - (lg_sl ([.ref (ad 0), .int (nI j), .int (nI k)])).length) Slot.unset).toArray = ls at hl ⊢
  have hl : lv_has ls 5 [(0, .ref (ad 0)), (1, .int (nI j)), (2, .int (nI k))] := hl
  show mx_WR l wsX6_tick 2 44 p e s m (([.ref (ad 0), .int (nI j), .int (nI k)] : List Value).toArray) below meth c (.int (gTick σ k)) (F0 m 0 ls [])
  refine lv_iconst (v := nI 0) hx hb dX6_tick_0 (by decide) ?_
  refine lv_istore_n (lv' := [(3, .int (nI 0)), (0, .ref (ad 0)), (1, .int (nI j)), (2, .int (nI k))]) hx hb dX6_tick_1 rfl hl (by decide) rfl (fun ls hl => ?_)
  refine lv_iconst (v := nI 0) hx hb dX6_tick_2 (by decide) ?_
  refine lv_istore (lv' := [(4, .int (nI 0)), (3, .int (nI 0)), (0, .ref (ad 0)), (1, .int (nI j)), (2, .int (nI k))]) hx hb dX6_tick_3 hl (by decide) rfl (fun ls hl => ?_)
  have lp5 : ∀ (nn : Nat) (i : Nat), k - i < nn → i ≤ k → ∀ ls : Array Slot, lv_has ls 5 [(0, .ref (ad 0)), (1, .int (nI j)), (2, .int (nI k)), (3, .int (gTick σ i)), (4, .int (nI i))] → mx_WR l wsX6_tick 2 44 p e s m (([.ref (ad 0), .int (nI j), .int (nI k)] : List Value).toArray) below meth c (.int (gTick σ k)) (F0 m 5 ls []) := by
    intro nn
    induction nn with
    | zero => intro i hmu; exact absurd hmu (Nat.not_lt_zero _)
    | succ nn ih5 =>
      intro i hmu hi ls hl
      refine lv_iload hx hb dX6_tick_5 (lv_at hl 4 rfl) ?_
      refine lv_iload_n hx hb dX6_tick_7 rfl (lv_at hl 2 rfl) ?_
      refine x_icmp_ge (tgt := 27) hx hb (by omega) (by omega) dX6_tick_8 (by decide) (fun c_8 => ?_) (fun c_8 => ?_)
      · refine lv_iload_n hx hb dX6_tick_27 rfl (lv_at hl 3 rfl) ?_
        refine x_top (y := gTick σ k) (by rw [show i = k by omega]) ?_
        exact W.iret (v := gTick σ k) hx hb hr (fun t ht hW => ⟨rfl, ht⟩) (fun _ h => by cases h) dX6_tick_28
      · refine lv_iload_n hx hb dX6_tick_11 rfl (lv_at hl 3 rfl) ?_
        refine lv_aload_n hx hb dX6_tick_12 rfl (lv_at hl 0 rfl) ?_
        refine lv_iload_n hx hb dX6_tick_13 rfl (lv_at hl 1 rfl) ?_
        refine lv_iload hx hb dX6_tick_14 (lv_at hl 4 rfl) ?_
        refine mx_callRO (v := .int (gLast σ i)) (va_runV (As := [.int (nI j), .int (nI i)]) (rest := [.int (gTick σ i)]) ⟨hx, hb, hml, hown, hts⟩ (c_X6_lasts l G ad F R j σ i hs hm ok (by omega)) (cwV 2 hts gX6_tick_X6_lasts rfl rfl rfl (by decide +kernel) ⟨Nat.le_of_ble_eq_true rfl, Nat.le_of_ble_eq_true rfl⟩) (mx_preV hK hP (va_recv hK.1 hP (ci := 6) (q0 := 0) rfl rfl)) rfl rfl hl.1 rfl (lv_room (Nat.le_of_ble_eq_true rfl)) dX6_tick_16 ⟨Nat.zero_le _, Nat.zero_le _⟩) ?_
        refine lv_iadd hx hb dX6_tick_19 ?_
        refine x_top (y := gTick σ (i + 1)) (rfl) ?_
        refine lv_istore_n (lv' := [(3, .int (gTick σ (i + 1))), (0, .ref (ad 0)), (1, .int (nI j)), (2, .int (nI k)), (4, .int (nI i))]) hx hb dX6_tick_20 rfl hl (by decide) rfl (fun ls hl => ?_)
        refine x_iinc (lv' := [(4, .int (nI (i + 1))), (3, .int (gTick σ (i + 1))), (0, .ref (ad 0)), (1, .int (nI j)), (2, .int (nI k))]) hx hb dX6_tick_21 hl (k := 4) rfl (x_inc1 _) (by decide) rfl (fun ls hl => ?_)
        refine lv_goto (tgt := 5) hx hb dX6_tick_24 (by decide) ?_
        exact ih5 (i + 1) (by omega) (by omega) _ (lv_sub hl [2, 3, 4, 1, 0] rfl)
  exact lp5 (k - 0 + 1) 0 (Nat.lt_succ_self _) (by omega) _ (lv_sub hl [2, 3, 4, 1, 0] rfl)

set_option maxHeartbeats 4000000 in
set_option maxRecDepth 100000 in
theorem c_X6_barLong (l : Launch) (G : mx_G) (ad : Nat → Nat) (F : Nat → Int32) (R : Nat → Nat → Int32) (j : Nat) (σ : Sg) (b : Nat) (hs : j < 12) (hm : moSg R j σ) (ok : sgOk σ) (hb9 : b < 64) : mx_RO l yX6_barLong wsX6_barLong 2 44 G [.ref (ad 0), .int (nI j), .int (nI b)] (fun H => va_P G.1 vwCl (MW G ad F R) H) (.int (gLong σ b)) := by
  refine Met.ofW (cc := cX6_barLong) (maxL := 6) (ret := (some .int)) (by decide) rfl ?_
  intro p e s m args below meth c s₁ BB hml hv
  obtain ⟨rfl, hP, hK⟩ := hv
  have hx := BB.exec
  have hb := BB.bytes
  have hr := BB.returns
  have hts := atoms_spec (ws := wsX6_barLong) BB.pre
  have hown : s.vm.findClass RX6 = some m.cls := findClass_of_methodNamed BB.named
  have hlocks := BB.notSynchronized
  have hP : va_P G.1 vwCl (MW G ad F R) s.heap := hP
  obtain ⟨m1, m2, m3, m4, m5, m6, m7, m8, m9, m10, m11⟩ := id hm
  obtain ⟨hB2, hB64, hAE, hEB, hT1, hT4, hPB, hP1, hP16, hC, hst, hmo⟩ := id ok
  have hF := gFst_le ok b
  have hCb := hC b
  have fl35 := hts (.fieldLink RX6 35 "MixDeskModel" "beats" "[I") (by decide +kernel)
  have inX6 : ∀ w ∈ wsX60, w ∈ wsX6_barLong := by decide +kernel
  have hl := lv_entry ([.ref (ad 0), .int (nI j), .int (nI b)]) (n := 6) (Nat.le_of_ble_eq_true rfl)
  rw [lg_entry_eq]
  generalize (lg_sl ([.ref (ad 0), .int (nI j), .int (nI b)]) ++ List.replicate (6 - (lg_sl ([.ref (ad 0), .int (nI j), .int (nI b)])).length) Slot.unset).toArray = ls at hl ⊢
  have hl : lv_has ls 6 [(0, .ref (ad 0)), (1, .int (nI j)), (2, .int (nI b))] := hl
  show mx_WR l wsX6_barLong 2 44 p e s m (([.ref (ad 0), .int (nI j), .int (nI b)] : List Value).toArray) below meth c (.int (gLong σ b)) (F0 m 0 ls [])
  refine lv_aload_n hx hb dX6_barLong_0 rfl (lv_at hl 0 rfl) ?_
  refine lv_iload_n hx hb dX6_barLong_1 rfl (lv_at hl 1 rfl) ?_
  refine lv_iload_n hx hb dX6_barLong_2 rfl (lv_at hl 2 rfl) ?_
  refine mx_callRO (v := .int (nI (gFst σ b))) (va_runV (As := [.int (nI j), .int (nI b)]) (rest := []) ⟨hx, hb, hml, hown, hts⟩ (c_X6_firstBeat l G ad F R j σ b hs hm ok (by omega)) (cwV 2 hts gX6_barLong_X6_firstBeat rfl rfl rfl (by decide +kernel) ⟨Nat.le_of_ble_eq_true rfl, Nat.le_of_ble_eq_true rfl⟩) (mx_preV hK hP (va_recv hK.1 hP (ci := 6) (q0 := 0) rfl rfl)) rfl rfl hl.1 rfl (lv_room (Nat.le_of_ble_eq_true rfl)) dX6_barLong_3 ⟨Nat.zero_le _, Nat.zero_le _⟩) ?_
  refine lv_istore_n (lv' := [(3, .int (nI (gFst σ b))), (0, .ref (ad 0)), (1, .int (nI j)), (2, .int (nI b))]) hx hb dX6_barLong_6 rfl hl (by decide) rfl (fun ls hl => ?_)
  refine lv_iconst (v := nI 0) hx hb dX6_barLong_7 (by decide) ?_
  refine lv_istore (lv' := [(4, .int (nI 0)), (3, .int (nI (gFst σ b))), (0, .ref (ad 0)), (1, .int (nI j)), (2, .int (nI b))]) hx hb dX6_barLong_8 hl (by decide) rfl (fun ls hl => ?_)
  refine lv_iconst (v := nI 0) hx hb dX6_barLong_10 (by decide) ?_
  refine lv_istore (lv' := [(5, .int (nI 0)), (4, .int (nI 0)), (3, .int (nI (gFst σ b))), (0, .ref (ad 0)), (1, .int (nI j)), (2, .int (nI b))]) hx hb dX6_barLong_11 hl (by decide) rfl (fun ls hl => ?_)
  have lp13 : ∀ (nn : Nat) (i : Nat), gC σ b - i < nn → i ≤ gC σ b → ∀ ls : Array Slot, lv_has ls 6 [(0, .ref (ad 0)), (1, .int (nI j)), (2, .int (nI b)), (3, .int (nI (gFst σ b))), (4, .int (isum (fun i => gLast σ (gFst σ b + i)) i)), (5, .int (nI i))] → mx_WR l wsX6_barLong 2 44 p e s m (([.ref (ad 0), .int (nI j), .int (nI b)] : List Value).toArray) below meth c (.int (gLong σ b)) (F0 m 13 ls []) := by
    intro nn
    induction nn with
    | zero => intro i hmu; exact absurd hmu (Nat.not_lt_zero _)
    | succ nn ih13 =>
      intro i hmu hi ls hl
      refine lv_iload hx hb dX6_barLong_13 (lv_at hl 5 rfl) ?_
      refine lv_aload_n hx hb dX6_barLong_15 rfl (lv_at hl 0 rfl) ?_
      refine va_get (D := G.1) (ci := 6) (v := .ref (ad 9)) (C := RX6) (T := TX6) (N := 36) hx hb hts inX6 hown hK.1 hP 0 rfl rfl 8 (by decide) fl35 (fun _ h9 => h9) rfl dX6_barLong_16 ?_
      refine lv_bipush (v := nI 64) hx hb dX6_barLong_19 (by decide) ?_
      refine lv_iload_n hx hb dX6_barLong_21 rfl (lv_at hl 1 rfl) ?_
      refine x_imul (r := 64 * j) hx hb dX6_barLong_22 (rfl) ?_
      refine lv_iload_n hx hb dX6_barLong_23 rfl (lv_at hl 2 rfl) ?_
      refine x_iadd (r := 64 * j + b) hx hb dX6_barLong_24 (rfl) ?_
      refine x_iald hx hb hK.1 hP 9 0 (n := 768) (f := R 8) rfl rfl (k := 64 * j + b) (by omega) (by omega) dX6_barLong_25 ?_
      refine x_top (y := nI (gC σ b)) (m8 b (by omega)) ?_
      refine x_icmp_ge (tgt := 49) hx hb (by omega) (by omega) dX6_barLong_26 (by decide) (fun c_26 => ?_) (fun c_26 => ?_)
      · refine lv_iload hx hb dX6_barLong_49 (lv_at hl 4 rfl) ?_
        refine x_top (y := gLong σ b) (by rw [show i = gC σ b by omega]; rfl) ?_
        exact W.iret (v := gLong σ b) hx hb hr (fun t ht hW => ⟨rfl, ht⟩) (fun _ h => by cases h) dX6_barLong_51
      · refine lv_iload hx hb dX6_barLong_29 (lv_at hl 4 rfl) ?_
        refine lv_aload_n hx hb dX6_barLong_31 rfl (lv_at hl 0 rfl) ?_
        refine lv_iload_n hx hb dX6_barLong_32 rfl (lv_at hl 1 rfl) ?_
        refine lv_iload_n hx hb dX6_barLong_33 rfl (lv_at hl 3 rfl) ?_
        refine lv_iload hx hb dX6_barLong_34 (lv_at hl 5 rfl) ?_
        refine x_iadd (r := gFst σ b + i) hx hb dX6_barLong_36 (rfl) ?_
        refine mx_callRO (v := .int (gLast σ (gFst σ b + i))) (va_runV (As := [.int (nI j), .int (nI (gFst σ b + i))]) (rest := [.int (isum (fun i => gLast σ (gFst σ b + i)) i)]) ⟨hx, hb, hml, hown, hts⟩ (c_X6_lasts l G ad F R j σ (gFst σ b + i) hs hm ok (by omega)) (cwV 2 hts gX6_barLong_X6_lasts rfl rfl rfl (by decide +kernel) ⟨Nat.le_of_ble_eq_true rfl, Nat.le_of_ble_eq_true rfl⟩) (mx_preV hK hP (va_recv hK.1 hP (ci := 6) (q0 := 0) rfl rfl)) rfl rfl hl.1 rfl (lv_room (Nat.le_of_ble_eq_true rfl)) dX6_barLong_37 ⟨Nat.zero_le _, Nat.zero_le _⟩) ?_
        refine lv_iadd hx hb dX6_barLong_40 ?_
        refine x_top (y := isum (fun i => gLast σ (gFst σ b + i)) (i + 1)) (rfl) ?_
        refine lv_istore (lv' := [(4, .int (isum (fun i => gLast σ (gFst σ b + i)) (i + 1))), (0, .ref (ad 0)), (1, .int (nI j)), (2, .int (nI b)), (3, .int (nI (gFst σ b))), (5, .int (nI i))]) hx hb dX6_barLong_41 hl (by decide) rfl (fun ls hl => ?_)
        refine x_iinc (lv' := [(5, .int (nI (i + 1))), (4, .int (isum (fun i => gLast σ (gFst σ b + i)) (i + 1))), (0, .ref (ad 0)), (1, .int (nI j)), (2, .int (nI b)), (3, .int (nI (gFst σ b)))]) hx hb dX6_barLong_43 hl (k := 5) rfl (x_inc1 _) (by decide) rfl (fun ls hl => ?_)
        refine lv_goto (tgt := 13) hx hb dX6_barLong_46 (by decide) ?_
        exact ih13 (i + 1) (by omega) (by omega) _ (lv_sub hl [2, 3, 4, 5, 1, 0] rfl)
  exact lp13 (gC σ b - 0 + 1) 0 (Nat.lt_succ_self _) (by omega) _ (lv_sub hl [3, 4, 5, 2, 1, 0] rfl)

set_option maxHeartbeats 4000000 in
set_option maxRecDepth 100000 in
theorem c_X6_begins (l : Launch) (G : mx_G) (ad : Nat → Nat) (F : Nat → Int32) (R : Nat → Nat → Int32) (j : Nat) (σ : Sg) (q : Nat) (hs : j < 12) (hm : moSg R j σ) (ok : sgOk σ) (hq : q ≤ gPB σ) : mx_RO l yX6_begins wsX6_begins 3 69 G [.ref (ad 0), .int (nI j), .int (nI q)] (fun H => va_P G.1 vwCl (MW G ad F R) H) (.int (gBeg σ q)) := by
  refine Met.ofW (cc := cX6_begins) (maxL := 5) (ret := (some .int)) (by decide) rfl ?_
  intro p e s m args below meth c s₁ BB hml hv
  obtain ⟨rfl, hP, hK⟩ := hv
  have hx := BB.exec
  have hb := BB.bytes
  have hr := BB.returns
  have hts := atoms_spec (ws := wsX6_begins) BB.pre
  have hown : s.vm.findClass RX6 = some m.cls := findClass_of_methodNamed BB.named
  have hlocks := BB.notSynchronized
  have hP : va_P G.1 vwCl (MW G ad F R) s.heap := hP
  have hpb := gPB_le ok
  have hl := lv_entry ([.ref (ad 0), .int (nI j), .int (nI q)]) (n := 5) (Nat.le_of_ble_eq_true rfl)
  rw [lg_entry_eq]
  generalize (lg_sl ([.ref (ad 0), .int (nI j), .int (nI q)]) ++ List.replicate (5 - (lg_sl ([.ref (ad 0), .int (nI j), .int (nI q)])).length) Slot.unset).toArray = ls at hl ⊢
  have hl : lv_has ls 5 [(0, .ref (ad 0)), (1, .int (nI j)), (2, .int (nI q))] := hl
  show mx_WR l wsX6_begins 3 69 p e s m (([.ref (ad 0), .int (nI j), .int (nI q)] : List Value).toArray) below meth c (.int (gBeg σ q)) (F0 m 0 ls [])
  refine lv_iconst (v := nI 0) hx hb dX6_begins_0 (by decide) ?_
  refine lv_istore_n (lv' := [(3, .int (nI 0)), (0, .ref (ad 0)), (1, .int (nI j)), (2, .int (nI q))]) hx hb dX6_begins_1 rfl hl (by decide) rfl (fun ls hl => ?_)
  refine lv_iconst (v := nI 0) hx hb dX6_begins_2 (by decide) ?_
  refine lv_istore (lv' := [(4, .int (nI 0)), (3, .int (nI 0)), (0, .ref (ad 0)), (1, .int (nI j)), (2, .int (nI q))]) hx hb dX6_begins_3 hl (by decide) rfl (fun ls hl => ?_)
  have lp5 : ∀ (nn : Nat) (i : Nat), q - i < nn → i ≤ q → ∀ ls : Array Slot, lv_has ls 5 [(0, .ref (ad 0)), (1, .int (nI j)), (2, .int (nI q)), (3, .int (gBeg σ i)), (4, .int (nI i))] → mx_WR l wsX6_begins 3 69 p e s m (([.ref (ad 0), .int (nI j), .int (nI q)] : List Value).toArray) below meth c (.int (gBeg σ q)) (F0 m 5 ls []) := by
    intro nn
    induction nn with
    | zero => intro i hmu; exact absurd hmu (Nat.not_lt_zero _)
    | succ nn ih5 =>
      intro i hmu hi ls hl
      refine lv_iload hx hb dX6_begins_5 (lv_at hl 4 rfl) ?_
      refine lv_iload_n hx hb dX6_begins_7 rfl (lv_at hl 2 rfl) ?_
      refine x_icmp_ge (tgt := 32) hx hb (by omega) (by omega) dX6_begins_8 (by decide) (fun c_8 => ?_) (fun c_8 => ?_)
      · refine lv_iload_n hx hb dX6_begins_32 rfl (lv_at hl 3 rfl) ?_
        refine x_top (y := gBeg σ q) (by rw [show i = q by omega]) ?_
        exact W.iret (v := gBeg σ q) hx hb hr (fun t ht hW => ⟨rfl, ht⟩) (fun _ h => by cases h) dX6_begins_33
      · refine lv_iload_n hx hb dX6_begins_11 rfl (lv_at hl 3 rfl) ?_
        refine lv_aload_n hx hb dX6_begins_12 rfl (lv_at hl 0 rfl) ?_
        refine lv_iload_n hx hb dX6_begins_13 rfl (lv_at hl 1 rfl) ?_
        refine lv_aload_n hx hb dX6_begins_14 rfl (lv_at hl 0 rfl) ?_
        refine lv_iload_n hx hb dX6_begins_15 rfl (lv_at hl 1 rfl) ?_
        refine lv_iload hx hb dX6_begins_16 (lv_at hl 4 rfl) ?_
        refine mx_callRO (v := .int (nI (gBar σ i))) (va_runV (As := [.int (nI j), .int (nI i)]) (rest := [.int (nI j), .ref (ad 0), .int (gBeg σ i)]) ⟨hx, hb, hml, hown, hts⟩ (c_X6_barOf l G ad F R j σ i hs hm ok (by omega)) (cwV 2 hts gX6_begins_X6_barOf rfl rfl rfl (by decide +kernel) ⟨Nat.le_of_ble_eq_true rfl, Nat.le_of_ble_eq_true rfl⟩) (mx_preV hK hP (va_recv hK.1 hP (ci := 6) (q0 := 0) rfl rfl)) rfl rfl hl.1 rfl (lv_room (Nat.le_of_ble_eq_true rfl)) dX6_begins_18 ⟨Nat.zero_le _, Nat.zero_le _⟩) ?_
        refine mx_callRO (v := .int (gLong σ (gBar σ i))) (va_runV (As := [.int (nI j), .int (nI (gBar σ i))]) (rest := [.int (gBeg σ i)]) ⟨hx, hb, hml, hown, hts⟩ (c_X6_barLong l G ad F R j σ (gBar σ i) hs hm ok (by have := gBar_lt ok (show i < gPB σ by omega); have := ok.2.1; omega)) (cwV 2 hts gX6_begins_X6_barLong rfl rfl rfl (by decide +kernel) ⟨Nat.le_of_ble_eq_true rfl, Nat.le_of_ble_eq_true rfl⟩) (mx_preV hK hP (va_recv hK.1 hP (ci := 6) (q0 := 0) rfl rfl)) rfl rfl hl.1 rfl (lv_room (Nat.le_of_ble_eq_true rfl)) dX6_begins_21 ⟨Nat.zero_le _, Nat.zero_le _⟩) ?_
        refine lv_iadd hx hb dX6_begins_24 ?_
        refine x_top (y := gBeg σ (i + 1)) (rfl) ?_
        refine lv_istore_n (lv' := [(3, .int (gBeg σ (i + 1))), (0, .ref (ad 0)), (1, .int (nI j)), (2, .int (nI q)), (4, .int (nI i))]) hx hb dX6_begins_25 rfl hl (by decide) rfl (fun ls hl => ?_)
        refine x_iinc (lv' := [(4, .int (nI (i + 1))), (3, .int (gBeg σ (i + 1))), (0, .ref (ad 0)), (1, .int (nI j)), (2, .int (nI q))]) hx hb dX6_begins_26 hl (k := 4) rfl (x_inc1 _) (by decide) rfl (fun ls hl => ?_)
        refine lv_goto (tgt := 5) hx hb dX6_begins_29 (by decide) ?_
        exact ih5 (i + 1) (by omega) (by omega) _ (lv_sub hl [2, 3, 4, 1, 0] rfl)
  exact lp5 (q - 0 + 1) 0 (Nat.lt_succ_self _) (by omega) _ (lv_sub hl [2, 3, 4, 1, 0] rfl)
end
section
set_option maxHeartbeats 4000000 in
set_option maxRecDepth 100000 in
theorem c_X6_beat (l : Launch) (G : mx_G) (ad : Nat → Nat) (F : Nat → Int32) (R : Nat → Nat → Int32) (so : So) (x k : Int32) (hall : moAll R so) : mx_RO l yX6_beat wsX6_beat 3 68 G [.ref (ad 0), .int x, .int k] (fun H => va_P G.1 vwCl (MW G ad F R) H) (.int (aBeat so x k)) := by
  refine Met.ofW (cc := cX6_beat) (maxL := 3) (ret := (some .int)) (by decide) rfl ?_
  intro p e s m args below meth c s₁ BB hml hv
  obtain ⟨rfl, hP, hK⟩ := hv
  have hx := BB.exec
  have hb := BB.bytes
  have hr := BB.returns
  have hts := atoms_spec (ws := wsX6_beat) BB.pre
  have hown : s.vm.findClass RX6 = some m.cls := findClass_of_methodNamed BB.named
  have hlocks := BB.notSynchronized
  have hP : va_P G.1 vwCl (MW G ad F R) s.heap := hP
  have hl := lv_entry ([.ref (ad 0), .int x, .int k]) (n := 3) (Nat.le_of_ble_eq_true rfl)
  rw [lg_entry_eq]
  generalize (lg_sl ([.ref (ad 0), .int x, .int k]) ++ List.replicate (3 - (lg_sl ([.ref (ad 0), .int x, .int k])).length) Slot.unset).toArray = ls at hl ⊢
  have hl : lv_has ls 3 [(0, .ref (ad 0)), (1, .int x), (2, .int k)] := hl
  show mx_WR l wsX6_beat 3 68 p e s m (([.ref (ad 0), .int x, .int k] : List Value).toArray) below meth c (.int (aBeat so x k)) (F0 m 0 ls [])
  refine lv_aload_n hx hb dX6_beat_0 rfl (lv_at hl 0 rfl) ?_
  refine lv_iload_n hx hb dX6_beat_1 rfl (lv_at hl 1 rfl) ?_
  refine mx_callRO (v := .int (isSongV R x)) (va_runV (As := [.int x]) (rest := []) ⟨hx, hb, hml, hown, hts⟩ (c_X6_isSong l G ad F R x) (cwV 1 hts gX6_beat_X6_isSong rfl rfl rfl (by decide +kernel) ⟨Nat.le_of_ble_eq_true rfl, Nat.le_of_ble_eq_true rfl⟩) (mx_preV hK hP (va_recv hK.1 hP (ci := 6) (q0 := 0) rfl rfl)) rfl rfl hl.1 rfl (lv_room (Nat.le_of_ble_eq_true rfl)) dX6_beat_2 ⟨Nat.zero_le _, Nat.zero_le _⟩) ?_
  refine lv_if_eq (tgt := 30) hx hb dX6_beat_5 (by decide) (fun c_5 => ?_) (fun c_5 => ?_)
  · refine lv_iconst (v := (-1)) hx hb dX6_beat_30 (by decide) ?_
    refine x_top (y := aBeat so x k) (by simp only [aBeat, song_no hall c_5]) ?_
    exact W.iret (v := aBeat so x k) hx hb hr (fun t ht hW => ⟨rfl, ht⟩) (fun _ h => by cases h) dX6_beat_31
  · obtain ⟨j, σ, rfl, hs, hso, hσ, hth, hm, ok⟩ := song_of hall c_5
    obtain ⟨m1, m2, m3, m4, m5, m6, m7, m8, m9, m10, m11⟩ := id hm
    obtain ⟨hB2, hB64, hAE, hEB, hT1, hT4, hPB, hP1, hP16, hC, hst, hmo⟩ := id ok
    refine lv_iload_n hx hb dX6_beat_8 rfl (lv_at hl 2 rfl) ?_
    refine lv_if_lt (tgt := 30) hx hb dX6_beat_9 (by decide) (fun c_9 => ?_) (fun c_9 => ?_)
    · refine lv_iconst (v := (-1)) hx hb dX6_beat_30 (by decide) ?_
      refine x_top (y := aBeat so (nI j) k) (by simp only [aBeat, hσ]; rw [if_pos c_9]) ?_
      exact W.iret (v := aBeat so (nI j) k) hx hb hr (fun t ht hW => ⟨rfl, ht⟩) (fun _ h => by cases h) dX6_beat_31
    · refine lv_iload_n hx hb dX6_beat_12 rfl (lv_at hl 2 rfl) ?_
      refine lv_aload_n hx hb dX6_beat_13 rfl (lv_at hl 0 rfl) ?_
      refine lv_iload_n hx hb dX6_beat_14 rfl (lv_at hl 1 rfl) ?_
      refine mx_callRO (v := .int (nI (gFst σ (gB σ)))) (va_runV (As := [.int (nI j)]) (rest := [.int k]) ⟨hx, hb, hml, hown, hts⟩ (c_X6_beatsOf l G ad F R j σ  hs hm ok ) (cwV 1 hts gX6_beat_X6_beatsOf rfl rfl rfl (by decide +kernel) ⟨Nat.le_of_ble_eq_true rfl, Nat.le_of_ble_eq_true rfl⟩) (mx_preV hK hP (va_recv hK.1 hP (ci := 6) (q0 := 0) rfl rfl)) rfl rfl hl.1 rfl (lv_room (Nat.le_of_ble_eq_true rfl)) dX6_beat_15 ⟨Nat.zero_le _, Nat.zero_le _⟩) ?_
      refine lv_icmp_gt (tgt := 30) hx hb dX6_beat_18 (by decide) (fun c_18 => ?_) (fun c_18 => ?_)
      · refine lv_iconst (v := (-1)) hx hb dX6_beat_30 (by decide) ?_
        refine x_top (y := aBeat so (nI j) k) (by simp only [aBeat, hσ]; rw [if_neg c_9, if_pos c_18]) ?_
        exact W.iret (v := aBeat so (nI j) k) hx hb hr (fun t ht hW => ⟨rfl, ht⟩) (fun _ h => by cases h) dX6_beat_31
      · have hF := gFst_le ok (gB σ)
        obtain ⟨i, hi, rfl⟩ := le_of (by omega) c_9 c_18
        refine lv_aload_n hx hb dX6_beat_21 rfl (lv_at hl 0 rfl) ?_
        refine lv_iload_n hx hb dX6_beat_22 rfl (lv_at hl 1 rfl) ?_
        refine lv_iload_n hx hb dX6_beat_23 rfl (lv_at hl 2 rfl) ?_
        refine mx_callRO (v := .int (gTick σ i)) (va_runV (As := [.int (nI j), .int (nI i)]) (rest := []) ⟨hx, hb, hml, hown, hts⟩ (c_X6_tick l G ad F R j σ i hs hm ok (by omega)) (cwV 2 hts gX6_beat_X6_tick rfl rfl rfl (by decide +kernel) ⟨Nat.le_of_ble_eq_true rfl, Nat.le_of_ble_eq_true rfl⟩) (mx_preV hK hP (va_recv hK.1 hP (ci := 6) (q0 := 0) rfl rfl)) rfl rfl hl.1 rfl (lv_room (Nat.le_of_ble_eq_true rfl)) dX6_beat_24 ⟨Nat.zero_le _, Nat.zero_le _⟩) ?_
        refine lv_goto (tgt := 31) hx hb dX6_beat_27 (by decide) ?_
        refine x_top (y := aBeat so (nI j) (nI i)) (by simp only [aBeat, hσ]; rw [if_neg c_9, if_neg c_18, nI_clamp (by omega)]) ?_
        exact W.iret (v := aBeat so (nI j) (nI i)) hx hb hr (fun t ht hW => ⟨rfl, ht⟩) (fun _ h => by cases h) dX6_beat_31

set_option maxHeartbeats 4000000 in
set_option maxRecDepth 100000 in
theorem c_X6_played (l : Launch) (G : mx_G) (ad : Nat → Nat) (F : Nat → Int32) (R : Nat → Nat → Int32) (so : So) (x y w : Int32) (hall : moAll R so) : mx_RO l yX6_played wsX6_played 4 93 G [.ref (ad 0), .int x, .int y, .int w] (fun H => va_P G.1 vwCl (MW G ad F R) H) (.int (aPlayed so x y w)) := by
  refine Met.ofW (cc := cX6_played) (maxL := 5) (ret := (some .int)) (by decide) rfl ?_
  intro p e s m args below meth c s₁ BB hml hv
  obtain ⟨rfl, hP, hK⟩ := hv
  have hx := BB.exec
  have hb := BB.bytes
  have hr := BB.returns
  have hts := atoms_spec (ws := wsX6_played) BB.pre
  have hown : s.vm.findClass RX6 = some m.cls := findClass_of_methodNamed BB.named
  have hlocks := BB.notSynchronized
  have hP : va_P G.1 vwCl (MW G ad F R) s.heap := hP
  have fl35 := hts (.fieldLink RX6 35 "MixDeskModel" "beats" "[I") (by decide +kernel)
  have inX6 : ∀ w ∈ wsX60, w ∈ wsX6_played := by decide +kernel
  have hl := lv_entry ([.ref (ad 0), .int x, .int y, .int w]) (n := 5) (Nat.le_of_ble_eq_true rfl)
  rw [lg_entry_eq]
  generalize (lg_sl ([.ref (ad 0), .int x, .int y, .int w]) ++ List.replicate (5 - (lg_sl ([.ref (ad 0), .int x, .int y, .int w])).length) Slot.unset).toArray = ls at hl ⊢
  have hl : lv_has ls 5 [(0, .ref (ad 0)), (1, .int x), (2, .int y), (3, .int w)] := hl
  show mx_WR l wsX6_played 4 93 p e s m (([.ref (ad 0), .int x, .int y, .int w] : List Value).toArray) below meth c (.int (aPlayed so x y w)) (F0 m 0 ls [])
  refine lv_aload_n hx hb dX6_played_0 rfl (lv_at hl 0 rfl) ?_
  refine lv_iload_n hx hb dX6_played_1 rfl (lv_at hl 1 rfl) ?_
  refine mx_callRO (v := .int (isSongV R x)) (va_runV (As := [.int x]) (rest := []) ⟨hx, hb, hml, hown, hts⟩ (c_X6_isSong l G ad F R x) (cwV 1 hts gX6_played_X6_isSong rfl rfl rfl (by decide +kernel) ⟨Nat.le_of_ble_eq_true rfl, Nat.le_of_ble_eq_true rfl⟩) (mx_preV hK hP (va_recv hK.1 hP (ci := 6) (q0 := 0) rfl rfl)) rfl rfl hl.1 rfl (lv_room (Nat.le_of_ble_eq_true rfl)) dX6_played_2 ⟨Nat.zero_le _, Nat.zero_le _⟩) ?_
  refine lv_if_eq (tgt := 21) hx hb dX6_played_5 (by decide) (fun c_5 => ?_) (fun c_5 => ?_)
  · refine lv_iconst (v := (-1)) hx hb dX6_played_21 (by decide) ?_
    refine x_top (y := aPlayed so x y w) (by simp only [aPlayed, song_no hall c_5]) ?_
    exact W.iret (v := aPlayed so x y w) hx hb hr (fun t ht hW => ⟨rfl, ht⟩) (fun _ h => by cases h) dX6_played_22
  · obtain ⟨j, σ, rfl, hs, hso, hσ, hth, hm, ok⟩ := song_of hall c_5
    obtain ⟨m1, m2, m3, m4, m5, m6, m7, m8, m9, m10, m11⟩ := id hm
    obtain ⟨hB2, hB64, hAE, hEB, hT1, hT4, hPB, hP1, hP16, hC, hst, hmo⟩ := id ok
    refine lv_iload_n hx hb dX6_played_8 rfl (lv_at hl 2 rfl) ?_
    refine lv_if_lt (tgt := 21) hx hb dX6_played_9 (by decide) (fun c_9 => ?_) (fun c_9 => ?_)
    · refine lv_iconst (v := (-1)) hx hb dX6_played_21 (by decide) ?_
      refine x_top (y := aPlayed so (nI j) y w) (by simp only [aPlayed, hσ]; rw [if_pos c_9]) ?_
      exact W.iret (v := aPlayed so (nI j) y w) hx hb hr (fun t ht hW => ⟨rfl, ht⟩) (fun _ h => by cases h) dX6_played_22
    · refine lv_iload_n hx hb dX6_played_12 rfl (lv_at hl 2 rfl) ?_
      refine lv_aload_n hx hb dX6_played_13 rfl (lv_at hl 0 rfl) ?_
      refine lv_iload_n hx hb dX6_played_14 rfl (lv_at hl 1 rfl) ?_
      refine mx_callRO (v := .int (nI (gPB σ))) (va_runV (As := [.int (nI j)]) (rest := [.int y]) ⟨hx, hb, hml, hown, hts⟩ (c_X6_playedBars l G ad F R j σ  hs hm ok ) (cwV 1 hts gX6_played_X6_playedBars rfl rfl rfl (by decide +kernel) ⟨Nat.le_of_ble_eq_true rfl, Nat.le_of_ble_eq_true rfl⟩) (mx_preV hK hP (va_recv hK.1 hP (ci := 6) (q0 := 0) rfl rfl)) rfl rfl hl.1 rfl (lv_room (Nat.le_of_ble_eq_true rfl)) dX6_played_15 ⟨Nat.zero_le _, Nat.zero_le _⟩) ?_
      refine lv_icmp_lt (tgt := 23) hx hb dX6_played_18 (by decide) (fun c_18 => ?_) (fun c_18 => ?_)
      · have hpb := gPB_le ok
        obtain ⟨i, hi, rfl⟩ := lt_of (by omega) c_9 (Int32.not_le.mpr c_18)
        have hbl := gBar_lt ok hi
        refine lv_aload_n hx hb dX6_played_23 rfl (lv_at hl 0 rfl) ?_
        refine lv_iload_n hx hb dX6_played_24 rfl (lv_at hl 1 rfl) ?_
        refine lv_iload_n hx hb dX6_played_25 rfl (lv_at hl 2 rfl) ?_
        refine mx_callRO (v := .int (nI (gBar σ i))) (va_runV (As := [.int (nI j), .int (nI i)]) (rest := []) ⟨hx, hb, hml, hown, hts⟩ (c_X6_barOf l G ad F R j σ i hs hm ok (by omega)) (cwV 2 hts gX6_played_X6_barOf rfl rfl rfl (by decide +kernel) ⟨Nat.le_of_ble_eq_true rfl, Nat.le_of_ble_eq_true rfl⟩) (mx_preV hK hP (va_recv hK.1 hP (ci := 6) (q0 := 0) rfl rfl)) rfl rfl hl.1 rfl (lv_room (Nat.le_of_ble_eq_true rfl)) dX6_played_26 ⟨Nat.zero_le _, Nat.zero_le _⟩) ?_
        refine lv_istore (lv' := [(4, .int (nI (gBar σ i))), (0, .ref (ad 0)), (1, .int (nI j)), (2, .int (nI i)), (3, .int w)]) hx hb dX6_played_29 hl (by decide) rfl (fun ls hl => ?_)
        refine lv_iload_n hx hb dX6_played_31 rfl (lv_at hl 4 rfl) ?_
        refine lv_if_ne (tgt := 40) hx hb dX6_played_32 (by decide) (fun c_32 => ?_) (fun c_32 => ?_)
        · refine lv_iload_n hx hb dX6_played_40 rfl (lv_at hl 4 rfl) ?_
          refine lv_iconst (v := nI 1) hx hb dX6_played_41 (by decide) ?_
          refine lv_icmp_ne (tgt := 54) hx hb dX6_played_42 (by decide) (fun c_42 => ?_) (fun c_42 => ?_)
          · refine lv_iload_n hx hb dX6_played_54 rfl (lv_at hl 4 rfl) ?_
            refine lv_iconst (v := nI 2) hx hb dX6_played_55 (by decide) ?_
            refine lv_icmp_ne (tgt := 74) hx hb dX6_played_56 (by decide) (fun c_56 => ?_) (fun c_56 => ?_)
            · refine lv_iconst (v := (-1)) hx hb dX6_played_74 (by decide) ?_
              refine x_top (y := aPlayed so (nI j) (nI i) w) (by simp only [aPlayed, hσ]; rw [if_neg c_9, if_neg (Int32.not_le.mpr c_18), if_neg c_32, if_neg c_42, if_neg c_56]) ?_
              exact W.iret (v := aPlayed so (nI j) (nI i) w) hx hb hr (fun t ht hW => ⟨rfl, ht⟩) (fun _ h => by cases h) dX6_played_75
            · refine lv_aload_n hx hb dX6_played_59 rfl (lv_at hl 1 rfl) ?_
              refine va_get (D := G.1) (ci := 6) (v := .ref (ad 9)) (C := RX6) (T := TX6) (N := 36) hx hb hts inX6 hown hK.1 hP 0 rfl rfl 8 (by decide) fl35 (fun _ h9 => h9) rfl dX6_played_60 ?_
              refine lv_bipush (v := nI 64) hx hb dX6_played_63 (by decide) ?_
              refine lv_iload_n hx hb dX6_played_65 rfl (lv_at hl 2 rfl) ?_
              refine x_imul (r := 64 * j) hx hb dX6_played_66 (rfl) ?_
              refine lv_iload hx hb dX6_played_67 (lv_at hl 0 rfl) ?_
              refine x_iadd (r := 64 * j + gBar σ i) hx hb dX6_played_69 (rfl) ?_
              refine x_iald hx hb hK.1 hP 9 0 (n := 768) (f := R 8) rfl rfl (k := 64 * j + gBar σ i) (by omega) (by omega) dX6_played_70 ?_
              refine x_top (y := nI (gC σ (gBar σ i))) (m8 (gBar σ i) (by omega)) ?_
              refine lv_goto (tgt := 75) hx hb dX6_played_71 (by decide) ?_
              refine x_top (y := aPlayed so (nI j) (nI i) w) (by simp only [aPlayed, hσ]; rw [if_neg c_9, if_neg (Int32.not_le.mpr c_18), if_neg c_32, if_neg c_42, if_pos c_56, nI_clamp (by omega)]) ?_
              exact W.iret (v := aPlayed so (nI j) (nI i) w) hx hb hr (fun t ht hW => ⟨rfl, ht⟩) (fun _ h => by cases h) dX6_played_75
          · refine lv_aload_n hx hb dX6_played_45 rfl (lv_at hl 1 rfl) ?_
            refine lv_iload_n hx hb dX6_played_46 rfl (lv_at hl 2 rfl) ?_
            refine lv_iload_n hx hb dX6_played_47 rfl (lv_at hl 3 rfl) ?_
            refine mx_callRO (v := .int (gBeg σ i)) (va_runV (As := [.int (nI j), .int (nI i)]) (rest := []) ⟨hx, hb, hml, hown, hts⟩ (c_X6_begins l G ad F R j σ i hs hm ok (by omega)) (cwV 2 hts gX6_played_X6_begins rfl rfl rfl (by decide +kernel) ⟨Nat.le_of_ble_eq_true rfl, Nat.le_of_ble_eq_true rfl⟩) (mx_preV hK hP (va_recv hK.1 hP (ci := 6) (q0 := 0) rfl rfl)) rfl rfl hl.1 rfl (lv_room (Nat.le_of_ble_eq_true rfl)) dX6_played_48 ⟨Nat.zero_le _, Nat.zero_le _⟩) ?_
            refine lv_goto (tgt := 75) hx hb dX6_played_51 (by decide) ?_
            refine x_top (y := aPlayed so (nI j) (nI i) w) (by simp only [aPlayed, hσ]; rw [if_neg c_9, if_neg (Int32.not_le.mpr c_18), if_neg c_32, if_pos c_42, nI_clamp (by omega)]) ?_
            exact W.iret (v := aPlayed so (nI j) (nI i) w) hx hb hr (fun t ht hW => ⟨rfl, ht⟩) (fun _ h => by cases h) dX6_played_75
        · refine lv_iload hx hb dX6_played_35 (lv_at hl 0 rfl) ?_
          refine lv_goto (tgt := 75) hx hb dX6_played_37 (by decide) ?_
          refine x_top (y := aPlayed so (nI j) (nI i) w) (by simp only [aPlayed, hσ]; rw [if_neg c_9, if_neg (Int32.not_le.mpr c_18), if_pos c_32, nI_clamp (by omega)]) ?_
          exact W.iret (v := aPlayed so (nI j) (nI i) w) hx hb hr (fun t ht hW => ⟨rfl, ht⟩) (fun _ h => by cases h) dX6_played_75
      · refine lv_iconst (v := (-1)) hx hb dX6_played_21 (by decide) ?_
        refine x_top (y := aPlayed so (nI j) y w) (by simp only [aPlayed, hσ]; rw [if_neg c_9, if_pos (Int32.not_lt.mp c_18)]) ?_
        exact W.iret (v := aPlayed so (nI j) y w) hx hb hr (fun t ht hW => ⟨rfl, ht⟩) (fun _ h => by cases h) dX6_played_22

set_option maxHeartbeats 4000000 in
set_option maxRecDepth 100000 in
theorem c_X6_length (l : Launch) (G : mx_G) (ad : Nat → Nat) (F : Nat → Int32) (R : Nat → Nat → Int32) (so : So) (x : Int32) (hall : moAll R so) : mx_RO l yX6_length wsX6_length 4 93 G [.ref (ad 0), .int x] (fun H => va_P G.1 vwCl (MW G ad F R) H) (.int (aLength so x)) := by
  refine Met.ofW (cc := cX6_length) (maxL := 2) (ret := (some .int)) (by decide) rfl ?_
  intro p e s m args below meth c s₁ BB hml hv
  obtain ⟨rfl, hP, hK⟩ := hv
  have hx := BB.exec
  have hb := BB.bytes
  have hr := BB.returns
  have hts := atoms_spec (ws := wsX6_length) BB.pre
  have hown : s.vm.findClass RX6 = some m.cls := findClass_of_methodNamed BB.named
  have hlocks := BB.notSynchronized
  have hP : va_P G.1 vwCl (MW G ad F R) s.heap := hP
  have hl := lv_entry ([.ref (ad 0), .int x]) (n := 2) (Nat.le_of_ble_eq_true rfl)
  rw [lg_entry_eq]
  generalize (lg_sl ([.ref (ad 0), .int x]) ++ List.replicate (2 - (lg_sl ([.ref (ad 0), .int x])).length) Slot.unset).toArray = ls at hl ⊢
  have hl : lv_has ls 2 [(0, .ref (ad 0)), (1, .int x)] := hl
  show mx_WR l wsX6_length 4 93 p e s m (([.ref (ad 0), .int x] : List Value).toArray) below meth c (.int (aLength so x)) (F0 m 0 ls [])
  refine lv_aload_n hx hb dX6_length_0 rfl (lv_at hl 0 rfl) ?_
  refine lv_iload_n hx hb dX6_length_1 rfl (lv_at hl 1 rfl) ?_
  refine mx_callRO (v := .int (isSongV R x)) (va_runV (As := [.int x]) (rest := []) ⟨hx, hb, hml, hown, hts⟩ (c_X6_isSong l G ad F R x) (cwV 1 hts gX6_length_X6_isSong rfl rfl rfl (by decide +kernel) ⟨Nat.le_of_ble_eq_true rfl, Nat.le_of_ble_eq_true rfl⟩) (mx_preV hK hP (va_recv hK.1 hP (ci := 6) (q0 := 0) rfl rfl)) rfl rfl hl.1 rfl (lv_room (Nat.le_of_ble_eq_true rfl)) dX6_length_2 ⟨Nat.zero_le _, Nat.zero_le _⟩) ?_
  refine lv_if_eq (tgt := 21) hx hb dX6_length_5 (by decide) (fun c_5 => ?_) (fun c_5 => ?_)
  · refine lv_iconst (v := (-1)) hx hb dX6_length_21 (by decide) ?_
    refine x_top (y := aLength so x) (by simp only [aLength, song_no hall c_5]) ?_
    exact W.iret (v := aLength so x) hx hb hr (fun t ht hW => ⟨rfl, ht⟩) (fun _ h => by cases h) dX6_length_22
  · obtain ⟨j, σ, rfl, hs, hso, hσ, hth, hm, ok⟩ := song_of hall c_5
    obtain ⟨m1, m2, m3, m4, m5, m6, m7, m8, m9, m10, m11⟩ := id hm
    obtain ⟨hB2, hB64, hAE, hEB, hT1, hT4, hPB, hP1, hP16, hC, hst, hmo⟩ := id ok
    refine lv_aload_n hx hb dX6_length_8 rfl (lv_at hl 0 rfl) ?_
    refine lv_iload_n hx hb dX6_length_9 rfl (lv_at hl 1 rfl) ?_
    refine lv_aload_n hx hb dX6_length_10 rfl (lv_at hl 0 rfl) ?_
    refine lv_iload_n hx hb dX6_length_11 rfl (lv_at hl 1 rfl) ?_
    refine mx_callRO (v := .int (nI (gPB σ))) (va_runV (As := [.int (nI j)]) (rest := [.int (nI j), .ref (ad 0)]) ⟨hx, hb, hml, hown, hts⟩ (c_X6_playedBars l G ad F R j σ  hs hm ok ) (cwV 1 hts gX6_length_X6_playedBars rfl rfl rfl (by decide +kernel) ⟨Nat.le_of_ble_eq_true rfl, Nat.le_of_ble_eq_true rfl⟩) (mx_preV hK hP (va_recv hK.1 hP (ci := 6) (q0 := 0) rfl rfl)) rfl rfl hl.1 rfl (lv_room (Nat.le_of_ble_eq_true rfl)) dX6_length_12 ⟨Nat.zero_le _, Nat.zero_le _⟩) ?_
    refine mx_callRO (v := .int (gBeg σ (gPB σ))) (va_runV (As := [.int (nI j), .int (nI (gPB σ))]) (rest := []) ⟨hx, hb, hml, hown, hts⟩ (c_X6_begins l G ad F R j σ (gPB σ) hs hm ok (Nat.le_refl _)) (cwV 2 hts gX6_length_X6_begins rfl rfl rfl (by decide +kernel) ⟨Nat.le_of_ble_eq_true rfl, Nat.le_of_ble_eq_true rfl⟩) (mx_preV hK hP (va_recv hK.1 hP (ci := 6) (q0 := 0) rfl rfl)) rfl rfl hl.1 rfl (lv_room (Nat.le_of_ble_eq_true rfl)) dX6_length_15 ⟨Nat.zero_le _, Nat.zero_le _⟩) ?_
    refine lv_goto (tgt := 22) hx hb dX6_length_18 (by decide) ?_
    refine x_top (y := aLength so (nI j)) (by simp only [aLength, hσ]) ?_
    exact W.iret (v := aLength so (nI j)) hx hb hr (fun t ht hW => ⟨rfl, ht⟩) (fun _ h => by cases h) dX6_length_22

set_option maxHeartbeats 4000000 in
set_option maxRecDepth 100000 in
theorem c_X6_of (l : Launch) (G : mx_G) (ad : Nat → Nat) (F : Nat → Int32) (R : Nat → Nat → Int32) (so : So) (x w : Int32) (hall : moAll R so) : mx_RO l yX6_of wsX6_of 1 23 G [.ref (ad 0), .int x, .int w] (fun H => va_P G.1 vwCl (MW G ad F R) H) (.int (aOf so x w)) := by
  refine Met.ofW (cc := cX6_of) (maxL := 5) (ret := (some .int)) (by decide) rfl ?_
  intro p e s m args below meth c s₁ BB hml hv
  obtain ⟨rfl, hP, hK⟩ := hv
  have hx := BB.exec
  have hb := BB.bytes
  have hr := BB.returns
  have hts := atoms_spec (ws := wsX6_of) BB.pre
  have hown : s.vm.findClass RX6 = some m.cls := findClass_of_methodNamed BB.named
  have hlocks := BB.notSynchronized
  have hP : va_P G.1 vwCl (MW G ad F R) s.heap := hP
  have fl13 := hts (.fieldLink RX6 13 "MixDeskModel" "kind" "[I") (by decide +kernel)
  have fl17 := hts (.fieldLink RX6 17 "MixDeskModel" "bars" "[I") (by decide +kernel)
  have fl20 := hts (.fieldLink RX6 20 "MixDeskModel" "step" "[I") (by decide +kernel)
  have fl23 := hts (.fieldLink RX6 23 "MixDeskModel" "more" "[I") (by decide +kernel)
  have fl26 := hts (.fieldLink RX6 26 "MixDeskModel" "key" "[I") (by decide +kernel)
  have fl29 := hts (.fieldLink RX6 29 "MixDeskModel" "heat" "[I") (by decide +kernel)
  have fl32 := hts (.fieldLink RX6 32 "MixDeskModel" "phrase" "[I") (by decide +kernel)
  have fl35 := hts (.fieldLink RX6 35 "MixDeskModel" "beats" "[I") (by decide +kernel)
  have inX6 : ∀ w ∈ wsX60, w ∈ wsX6_of := by decide +kernel
  have hl := lv_entry ([.ref (ad 0), .int x, .int w]) (n := 5) (Nat.le_of_ble_eq_true rfl)
  rw [lg_entry_eq]
  generalize (lg_sl ([.ref (ad 0), .int x, .int w]) ++ List.replicate (5 - (lg_sl ([.ref (ad 0), .int x, .int w])).length) Slot.unset).toArray = ls at hl ⊢
  have hl : lv_has ls 5 [(0, .ref (ad 0)), (1, .int x), (2, .int w)] := hl
  show mx_WR l wsX6_of 1 23 p e s m (([.ref (ad 0), .int x, .int w] : List Value).toArray) below meth c (.int (aOf so x w)) (F0 m 0 ls [])
  refine lv_aload_n hx hb dX6_of_0 rfl (lv_at hl 0 rfl) ?_
  refine lv_iload_n hx hb dX6_of_1 rfl (lv_at hl 1 rfl) ?_
  refine mx_callRO (v := .int (isSongV R x)) (va_runV (As := [.int x]) (rest := []) ⟨hx, hb, hml, hown, hts⟩ (c_X6_isSong l G ad F R x) (cwV 1 hts gX6_of_X6_isSong rfl rfl rfl (by decide +kernel) ⟨Nat.le_of_ble_eq_true rfl, Nat.le_of_ble_eq_true rfl⟩) (mx_preV hK hP (va_recv hK.1 hP (ci := 6) (q0 := 0) rfl rfl)) rfl rfl hl.1 rfl (lv_room (Nat.le_of_ble_eq_true rfl)) dX6_of_2 ⟨Nat.zero_le _, Nat.zero_le _⟩) ?_
  refine lv_if_ne (tgt := 12) hx hb dX6_of_5 (by decide) (fun c_5 => ?_) (fun c_5 => ?_)
  · obtain ⟨j, σ, rfl, hs, hso, hσ, hth, hm, ok⟩ := song_of hall c_5
    obtain ⟨m1, m2, m3, m4, m5, m6, m7, m8, m9, m10, m11⟩ := id hm
    obtain ⟨hB2, hB64, hAE, hEB, hT1, hT4, hPB, hP1, hP16, hC, hst, hmo⟩ := id ok
    refine lv_iload_n hx hb dX6_of_12 rfl (lv_at hl 2 rfl) ?_
    rcases sw_of 10 (by omega) w with ⟨kk, hkk, e_13⟩ | h_13
    · rcases (show kk = 0 ∨ kk = 1 ∨ kk = 2 ∨ kk = 3 ∨ kk = 4 ∨ kk = 5 ∨ kk = 6 ∨ kk = 7 ∨ kk = 8 ∨ kk = 9 by omega) with rfl | rfl | rfl | rfl | rfl | rfl | rfl | rfl | rfl | rfl
      · subst e_13
        refine lv_tableIn (x := nI 0) hx hb dX6_of_13 (by decide) (by decide) (off := 55) (by decide) (tgt := 68) (by decide) ?_
        refine lv_aload_n hx hb dX6_of_68 rfl (lv_at hl 0 rfl) ?_
        refine va_get (D := G.1) (ci := 6) (v := .ref (ad 2)) (C := RX6) (T := TX6) (N := 36) hx hb hts inX6 hown hK.1 hP 0 rfl rfl 1 (by decide) fl13 (fun _ h9 => h9) rfl dX6_of_69 ?_
        refine lv_iload_n hx hb dX6_of_72 rfl (lv_at hl 1 rfl) ?_
        refine x_iald hx hb hK.1 hP 2 0 (n := 12) (f := R 1) rfl rfl (k := j) (by omega) (by omega) dX6_of_73 ?_
        refine x_top (y := gKind σ) (m1) ?_
        refine x_top (y := aOf so (nI j) (nI 0)) (by simp only [aOf, hσ]; rfl) ?_
        exact W.iret (v := aOf so (nI j) (nI 0)) hx hb hr (fun t ht hW => ⟨rfl, ht⟩) (fun _ h => by cases h) dX6_of_74
      · subst e_13
        refine lv_tableIn (x := nI 1) hx hb dX6_of_13 (by decide) (by decide) (off := 62) (by decide) (tgt := 75) (by decide) ?_
        refine lv_aload_n hx hb dX6_of_75 rfl (lv_at hl 0 rfl) ?_
        refine va_get (D := G.1) (ci := 6) (v := .ref (ad 3)) (C := RX6) (T := TX6) (N := 36) hx hb hts inX6 hown hK.1 hP 0 rfl rfl 2 (by decide) fl17 (fun _ h9 => h9) rfl dX6_of_76 ?_
        refine lv_iload_n hx hb dX6_of_79 rfl (lv_at hl 1 rfl) ?_
        refine x_iald hx hb hK.1 hP 3 0 (n := 12) (f := R 2) rfl rfl (k := j) (by omega) (by omega) dX6_of_80 ?_
        refine x_top (y := nI (gB σ)) (m2) ?_
        refine x_top (y := aOf so (nI j) (nI 1)) (by simp only [aOf, hσ]; rfl) ?_
        exact W.iret (v := aOf so (nI j) (nI 1)) hx hb hr (fun t ht hW => ⟨rfl, ht⟩) (fun _ h => by cases h) dX6_of_81
      · subst e_13
        refine lv_tableIn (x := nI 2) hx hb dX6_of_13 (by decide) (by decide) (off := 69) (by decide) (tgt := 82) (by decide) ?_
        refine lv_aload_n hx hb dX6_of_82 rfl (lv_at hl 0 rfl) ?_
        refine va_get (D := G.1) (ci := 6) (v := .ref (ad 4)) (C := RX6) (T := TX6) (N := 36) hx hb hts inX6 hown hK.1 hP 0 rfl rfl 3 (by decide) fl20 (fun _ h9 => h9) rfl dX6_of_83 ?_
        refine lv_iload_n hx hb dX6_of_86 rfl (lv_at hl 1 rfl) ?_
        refine x_iald hx hb hK.1 hP 4 0 (n := 12) (f := R 3) rfl rfl (k := j) (by omega) (by omega) dX6_of_87 ?_
        refine x_top (y := gStep σ) (m3) ?_
        refine x_top (y := aOf so (nI j) (nI 2)) (by simp only [aOf, hσ]; rfl) ?_
        exact W.iret (v := aOf so (nI j) (nI 2)) hx hb hr (fun t ht hW => ⟨rfl, ht⟩) (fun _ h => by cases h) dX6_of_88
      · subst e_13
        refine lv_tableIn (x := nI 3) hx hb dX6_of_13 (by decide) (by decide) (off := 76) (by decide) (tgt := 89) (by decide) ?_
        refine lv_aload_n hx hb dX6_of_89 rfl (lv_at hl 0 rfl) ?_
        refine va_get (D := G.1) (ci := 6) (v := .ref (ad 5)) (C := RX6) (T := TX6) (N := 36) hx hb hts inX6 hown hK.1 hP 0 rfl rfl 4 (by decide) fl23 (fun _ h9 => h9) rfl dX6_of_90 ?_
        refine lv_iload_n hx hb dX6_of_93 rfl (lv_at hl 1 rfl) ?_
        refine x_iald hx hb hK.1 hP 5 0 (n := 12) (f := R 4) rfl rfl (k := j) (by omega) (by omega) dX6_of_94 ?_
        refine x_top (y := gMore σ) (m4) ?_
        refine x_top (y := aOf so (nI j) (nI 3)) (by simp only [aOf, hσ]; rfl) ?_
        exact W.iret (v := aOf so (nI j) (nI 3)) hx hb hr (fun t ht hW => ⟨rfl, ht⟩) (fun _ h => by cases h) dX6_of_95
      · subst e_13
        refine lv_tableIn (x := nI 4) hx hb dX6_of_13 (by decide) (by decide) (off := 83) (by decide) (tgt := 96) (by decide) ?_
        refine lv_aload_n hx hb dX6_of_96 rfl (lv_at hl 0 rfl) ?_
        refine va_get (D := G.1) (ci := 6) (v := .ref (ad 6)) (C := RX6) (T := TX6) (N := 36) hx hb hts inX6 hown hK.1 hP 0 rfl rfl 5 (by decide) fl26 (fun _ h9 => h9) rfl dX6_of_97 ?_
        refine lv_iload_n hx hb dX6_of_100 rfl (lv_at hl 1 rfl) ?_
        refine x_iald hx hb hK.1 hP 6 0 (n := 12) (f := R 5) rfl rfl (k := j) (by omega) (by omega) dX6_of_101 ?_
        refine x_top (y := gKey σ) (m5) ?_
        refine x_top (y := aOf so (nI j) (nI 4)) (by simp only [aOf, hσ]; rfl) ?_
        exact W.iret (v := aOf so (nI j) (nI 4)) hx hb hr (fun t ht hW => ⟨rfl, ht⟩) (fun _ h => by cases h) dX6_of_102
      · subst e_13
        refine lv_tableIn (x := nI 5) hx hb dX6_of_13 (by decide) (by decide) (off := 90) (by decide) (tgt := 103) (by decide) ?_
        refine lv_aload_n hx hb dX6_of_103 rfl (lv_at hl 0 rfl) ?_
        refine va_get (D := G.1) (ci := 6) (v := .ref (ad 7)) (C := RX6) (T := TX6) (N := 36) hx hb hts inX6 hown hK.1 hP 0 rfl rfl 6 (by decide) fl29 (fun _ h9 => h9) rfl dX6_of_104 ?_
        refine lv_iload_n hx hb dX6_of_107 rfl (lv_at hl 1 rfl) ?_
        refine x_iald hx hb hK.1 hP 7 0 (n := 12) (f := R 6) rfl rfl (k := j) (by omega) (by omega) dX6_of_108 ?_
        refine x_top (y := gHeat σ) (m6) ?_
        refine x_top (y := aOf so (nI j) (nI 5)) (by simp only [aOf, hσ]; rfl) ?_
        exact W.iret (v := aOf so (nI j) (nI 5)) hx hb hr (fun t ht hW => ⟨rfl, ht⟩) (fun _ h => by cases h) dX6_of_109
      · subst e_13
        refine lv_tableIn (x := nI 6) hx hb dX6_of_13 (by decide) (by decide) (off := 97) (by decide) (tgt := 110) (by decide) ?_
        refine lv_aload_n hx hb dX6_of_110 rfl (lv_at hl 0 rfl) ?_
        refine va_get (D := G.1) (ci := 6) (v := .ref (ad 8)) (C := RX6) (T := TX6) (N := 36) hx hb hts inX6 hown hK.1 hP 0 rfl rfl 7 (by decide) fl32 (fun _ h9 => h9) rfl dX6_of_111 ?_
        refine lv_iload_n hx hb dX6_of_114 rfl (lv_at hl 1 rfl) ?_
        refine x_iald hx hb hK.1 hP 8 0 (n := 12) (f := R 7) rfl rfl (k := j) (by omega) (by omega) dX6_of_115 ?_
        refine x_top (y := nI (gPh σ)) (m7) ?_
        refine x_top (y := aOf so (nI j) (nI 6)) (by simp only [aOf, hσ]; rfl) ?_
        exact W.iret (v := aOf so (nI j) (nI 6)) hx hb hr (fun t ht hW => ⟨rfl, ht⟩) (fun _ h => by cases h) dX6_of_116
      · subst e_13
        refine lv_tableIn (x := nI 7) hx hb dX6_of_13 (by decide) (by decide) (off := 104) (by decide) (tgt := 117) (by decide) ?_
        refine lv_aload_n hx hb dX6_of_117 rfl (lv_at hl 0 rfl) ?_
        refine lv_iload_n hx hb dX6_of_118 rfl (lv_at hl 1 rfl) ?_
        refine mx_callRO (v := .int (nI (gPB σ))) (va_runV (As := [.int (nI j)]) (rest := []) ⟨hx, hb, hml, hown, hts⟩ (c_X6_playedBars l G ad F R j σ  hs hm ok ) (cwV 1 hts gX6_of_X6_playedBars rfl rfl rfl (by decide +kernel) ⟨Nat.le_of_ble_eq_true rfl, Nat.le_of_ble_eq_true rfl⟩) (mx_preV hK hP (va_recv hK.1 hP (ci := 6) (q0 := 0) rfl rfl)) rfl rfl hl.1 rfl (lv_room (Nat.le_of_ble_eq_true rfl)) dX6_of_119 ⟨Nat.zero_le _, Nat.zero_le _⟩) ?_
        refine x_top (y := aOf so (nI j) (nI 7)) (by simp only [aOf, hσ]; rfl) ?_
        exact W.iret (v := aOf so (nI j) (nI 7)) hx hb hr (fun t ht hW => ⟨rfl, ht⟩) (fun _ h => by cases h) dX6_of_122
      · subst e_13
        refine lv_tableIn (x := nI 8) hx hb dX6_of_13 (by decide) (by decide) (off := 110) (by decide) (tgt := 123) (by decide) ?_
        refine lv_aload_n hx hb dX6_of_123 rfl (lv_at hl 0 rfl) ?_
        refine lv_iload_n hx hb dX6_of_124 rfl (lv_at hl 1 rfl) ?_
        refine mx_callRO (v := .int (nI (gFst σ (gB σ)))) (va_runV (As := [.int (nI j)]) (rest := []) ⟨hx, hb, hml, hown, hts⟩ (c_X6_beatsOf l G ad F R j σ  hs hm ok ) (cwV 1 hts gX6_of_X6_beatsOf rfl rfl rfl (by decide +kernel) ⟨Nat.le_of_ble_eq_true rfl, Nat.le_of_ble_eq_true rfl⟩) (mx_preV hK hP (va_recv hK.1 hP (ci := 6) (q0 := 0) rfl rfl)) rfl rfl hl.1 rfl (lv_room (Nat.le_of_ble_eq_true rfl)) dX6_of_125 ⟨Nat.zero_le _, Nat.zero_le _⟩) ?_
        refine x_top (y := aOf so (nI j) (nI 8)) (by simp only [aOf, hσ]; rfl) ?_
        exact W.iret (v := aOf so (nI j) (nI 8)) hx hb hr (fun t ht hW => ⟨rfl, ht⟩) (fun _ h => by cases h) dX6_of_128
      · subst e_13
        refine lv_tableIn (x := nI 9) hx hb dX6_of_13 (by decide) (by decide) (off := 116) (by decide) (tgt := 129) (by decide) ?_
        refine lv_iconst (v := nI 0) hx hb dX6_of_129 (by decide) ?_
        refine lv_istore_n (lv' := [(3, .int (nI 0)), (0, .ref (ad 0)), (1, .int (nI j)), (2, .int (nI 9))]) hx hb dX6_of_130 rfl hl (by decide) rfl (fun ls hl => ?_)
        refine lv_iconst (v := nI 0) hx hb dX6_of_131 (by decide) ?_
        refine lv_istore (lv' := [(4, .int (nI 0)), (3, .int (nI 0)), (0, .ref (ad 0)), (1, .int (nI j)), (2, .int (nI 9))]) hx hb dX6_of_132 hl (by decide) rfl (fun ls hl => ?_)
        have lp134 : ∀ (nn : Nat) (i : Nat), gB σ - i < nn → (i ≤ gB σ) → ∀ ls : Array Slot, lv_has ls 5 [(0, .ref (ad 0)), (1, .int (nI j)), (3, .int (nI (nsum (fun b => if gC σ b < 4 then 1 else 0) i))), (4, .int (nI i))] → mx_WR l wsX6_of 1 23 p e s m (([.ref (ad 0), .int (nI j), .int (nI 9)] : List Value).toArray) below meth c (.int (aOf so (nI j) (nI 9))) (F0 m 134 ls []) := by
          intro nn
          induction nn with
          | zero => intro i hmu; exact absurd hmu (Nat.not_lt_zero _)
          | succ nn ih134 =>
            intro i hmu hi ls hl
            refine lv_iload hx hb dX6_of_134 (lv_at hl 3 rfl) ?_
            refine lv_aload_n hx hb dX6_of_136 rfl (lv_at hl 0 rfl) ?_
            refine va_get (D := G.1) (ci := 6) (v := .ref (ad 3)) (C := RX6) (T := TX6) (N := 36) hx hb hts inX6 hown hK.1 hP 0 rfl rfl 2 (by decide) fl17 (fun _ h9 => h9) rfl dX6_of_137 ?_
            refine lv_iload_n hx hb dX6_of_140 rfl (lv_at hl 1 rfl) ?_
            refine x_iald hx hb hK.1 hP 3 0 (n := 12) (f := R 2) rfl rfl (k := j) (by omega) (by omega) dX6_of_141 ?_
            refine x_top (y := nI (gB σ)) (m2) ?_
            refine x_icmp_ge (tgt := 170) hx hb (by omega) (by omega) dX6_of_142 (by decide) (fun c_142 => ?_) (fun c_142 => ?_)
            · refine lv_iload_n hx hb dX6_of_170 rfl (lv_at hl 2 rfl) ?_
              refine x_top (y := aOf so (nI j) (nI 9)) (by simp only [aOf, hσ]; rw [show i = gB σ by omega]; rfl) ?_
              exact W.iret (v := aOf so (nI j) (nI 9)) hx hb hr (fun t ht hW => ⟨rfl, ht⟩) (fun _ h => by cases h) dX6_of_171
            · refine lv_aload_n hx hb dX6_of_145 rfl (lv_at hl 0 rfl) ?_
              refine va_get (D := G.1) (ci := 6) (v := .ref (ad 9)) (C := RX6) (T := TX6) (N := 36) hx hb hts inX6 hown hK.1 hP 0 rfl rfl 8 (by decide) fl35 (fun _ h9 => h9) rfl dX6_of_146 ?_
              refine lv_bipush (v := nI 64) hx hb dX6_of_149 (by decide) ?_
              refine lv_iload_n hx hb dX6_of_151 rfl (lv_at hl 1 rfl) ?_
              refine x_imul (r := 64 * j) hx hb dX6_of_152 (rfl) ?_
              refine lv_iload hx hb dX6_of_153 (lv_at hl 3 rfl) ?_
              refine x_iadd (r := 64 * j + i) hx hb dX6_of_155 (rfl) ?_
              refine x_iald hx hb hK.1 hP 9 0 (n := 768) (f := R 8) rfl rfl (k := 64 * j + i) (by omega) (by omega) dX6_of_156 ?_
              refine x_top (y := nI (gC σ i)) (m8 i (by omega)) ?_
              refine lv_iconst (v := nI 4) hx hb dX6_of_157 (by decide) ?_
              have hCi := hC i
              refine x_icmp_ge (tgt := 164) hx hb (by omega) (by omega) dX6_of_158 (by decide) (fun c_158 => ?_) (fun c_158 => ?_)
              · have hl : lv_has ls 5 [(0, .ref (ad 0)), (1, .int (nI j)), (3, .int (nI (nsum (fun b => if gC σ b < 4 then 1 else 0) (i + 1)))), (4, .int (nI i))] := by
                  have e9 : nI (nsum (fun b => if gC σ b < 4 then 1 else 0) i) = nI (nsum (fun b => if gC σ b < 4 then 1 else 0) (i + 1)) := by show nI _ = nI (nsum (fun b => if gC σ b < 4 then 1 else 0) i + (if gC σ i < 4 then 1 else 0)); rw [if_neg (by omega)]; rfl
                  rw [e9] at hl; exact hl
                refine x_iinc (lv' := [(4, .int (nI (i + 1))), (0, .ref (ad 0)), (1, .int (nI j)), (3, .int (nI (nsum (fun b => if gC σ b < 4 then 1 else 0) (i + 1))))]) hx hb dX6_of_164 hl (k := 3) rfl (x_inc1 _) (by decide) rfl (fun ls hl => ?_)
                refine lv_goto (tgt := 134) hx hb dX6_of_167 (by decide) ?_
                exact ih134 (i + 1) (by omega) (by omega) _ (lv_sub hl [1, 2, 3, 0] rfl)
              · refine x_iinc (lv' := [(3, .int (nI (nsum (fun b => if gC σ b < 4 then 1 else 0) i + 1))), (0, .ref (ad 0)), (1, .int (nI j)), (4, .int (nI i))]) hx hb dX6_of_161 hl (k := 2) rfl (x_inc1 _) (by decide) rfl (fun ls hl => ?_)
                have hl : lv_has ls 5 [(3, .int (nI (nsum (fun b => if gC σ b < 4 then 1 else 0) (i + 1)))), (0, .ref (ad 0)), (1, .int (nI j)), (4, .int (nI i))] := by
                  have e9 : nI (nsum (fun b => if gC σ b < 4 then 1 else 0) i + 1) = nI (nsum (fun b => if gC σ b < 4 then 1 else 0) (i + 1)) := by show nI _ = nI (nsum (fun b => if gC σ b < 4 then 1 else 0) i + (if gC σ i < 4 then 1 else 0)); rw [if_pos (by omega)]
                  rw [e9] at hl; exact hl
                refine x_iinc (lv' := [(4, .int (nI (i + 1))), (3, .int (nI (nsum (fun b => if gC σ b < 4 then 1 else 0) (i + 1)))), (0, .ref (ad 0)), (1, .int (nI j))]) hx hb dX6_of_164 hl (k := 3) rfl (x_inc1 _) (by decide) rfl (fun ls hl => ?_)
                refine lv_goto (tgt := 134) hx hb dX6_of_167 (by decide) ?_
                exact ih134 (i + 1) (by omega) (by omega) _ (lv_sub hl [2, 3, 1, 0] rfl)
        exact lp134 (gB σ - 0 + 1) 0 (Nat.lt_succ_self _) (by omega) _ (lv_sub hl [2, 3, 1, 0] rfl)
    · refine lv_tableOut (tgt := 172) hx hb dX6_of_13 h_13 (by decide) ?_
      refine lv_sipush (v := (-1000)) hx hb dX6_of_172 (by decide) ?_
      refine x_top (y := aOf so (nI j) w) (by simp only [aOf, hσ]; rw [if_neg (sw_ne 0 h_13), if_neg (sw_ne 1 h_13), if_neg (sw_ne 2 h_13), if_neg (sw_ne 3 h_13), if_neg (sw_ne 4 h_13), if_neg (sw_ne 5 h_13), if_neg (sw_ne 6 h_13), if_neg (sw_ne 7 h_13), if_neg (sw_ne 8 h_13), if_neg (sw_ne 9 h_13)]) ?_
      exact W.iret (v := aOf so (nI j) w) hx hb hr (fun t ht hW => ⟨rfl, ht⟩) (fun _ h => by cases h) dX6_of_175
  · refine lv_sipush (v := (-1000)) hx hb dX6_of_8 (by decide) ?_
    refine x_top (y := aOf so x w) (by simp only [aOf, song_no hall c_5]) ?_
    exact W.iret (v := aOf so x w) hx hb hr (fun t ht hW => ⟨rfl, ht⟩) (fun _ h => by cases h) dX6_of_11

set_option maxHeartbeats 4000000 in
set_option maxRecDepth 100000 in
theorem c_X6_keysApart (l : Launch) (G : mx_G) (ad : Nat → Nat) (F : Nat → Int32) (R : Nat → Nat → Int32) (j k : Nat) (σ τ : Sg) (hs : j < 12) (ks : k < 12) (hm : moSg R j σ) (km : moSg R k τ) : mx_RO l yX6_keysApart wsX6_keysApart 1 20 G [.ref (ad 0), .int (nI j), .int (nI k)] (fun H => va_P G.1 vwCl (MW G ad F R) H) (.int (mkeys (gKey σ) (gKey τ))) := by
  refine Met.ofW (cc := cX6_keysApart) (maxL := 4) (ret := (some .int)) (by decide) rfl ?_
  intro p e s m args below meth c s₁ BB hml hv
  obtain ⟨rfl, hP, hK⟩ := hv
  have hx := BB.exec
  have hb := BB.bytes
  have hr := BB.returns
  have hts := atoms_spec (ws := wsX6_keysApart) BB.pre
  have hown : s.vm.findClass RX6 = some m.cls := findClass_of_methodNamed BB.named
  have hlocks := BB.notSynchronized
  have hP : va_P G.1 vwCl (MW G ad F R) s.heap := hP
  obtain ⟨m1, m2, m3, m4, m5, m6, m7, m8, m9, m10, m11⟩ := id hm
  obtain ⟨n1, n2, n3, n4, n5, n6, n7, n8, n9, n10, n11⟩ := id km
  have fl26 := hts (.fieldLink RX6 26 "MixDeskModel" "key" "[I") (by decide +kernel)
  have inX6 : ∀ w ∈ wsX60, w ∈ wsX6_keysApart := by decide +kernel
  have hl := lv_entry ([.ref (ad 0), .int (nI j), .int (nI k)]) (n := 4) (Nat.le_of_ble_eq_true rfl)
  rw [lg_entry_eq]
  generalize (lg_sl ([.ref (ad 0), .int (nI j), .int (nI k)]) ++ List.replicate (4 - (lg_sl ([.ref (ad 0), .int (nI j), .int (nI k)])).length) Slot.unset).toArray = ls at hl ⊢
  have hl : lv_has ls 4 [(0, .ref (ad 0)), (1, .int (nI j)), (2, .int (nI k))] := hl
  show mx_WR l wsX6_keysApart 1 20 p e s m (([.ref (ad 0), .int (nI j), .int (nI k)] : List Value).toArray) below meth c (.int (mkeys (gKey σ) (gKey τ))) (F0 m 0 ls [])
  refine lv_aload_n hx hb dX6_keysApart_0 rfl (lv_at hl 0 rfl) ?_
  refine va_get (D := G.1) (ci := 6) (v := .ref (ad 6)) (C := RX6) (T := TX6) (N := 36) hx hb hts inX6 hown hK.1 hP 0 rfl rfl 5 (by decide) fl26 (fun _ h9 => h9) rfl dX6_keysApart_1 ?_
  refine lv_iload_n hx hb dX6_keysApart_4 rfl (lv_at hl 1 rfl) ?_
  refine x_iald hx hb hK.1 hP 6 0 (n := 12) (f := R 5) rfl rfl (k := j) (by omega) (by omega) dX6_keysApart_5 ?_
  refine x_top (y := gKey σ) (m5) ?_
  refine lv_bipush (v := nI 12) hx hb dX6_keysApart_6 (by decide) ?_
  refine lv_irem hx hb dX6_keysApart_8 (by decide) ?_
  refine lv_aload_n hx hb dX6_keysApart_9 rfl (lv_at hl 0 rfl) ?_
  refine va_get (D := G.1) (ci := 6) (v := .ref (ad 6)) (C := RX6) (T := TX6) (N := 36) hx hb hts inX6 hown hK.1 hP 0 rfl rfl 5 (by decide) fl26 (fun _ h9 => h9) rfl dX6_keysApart_10 ?_
  refine lv_iload_n hx hb dX6_keysApart_13 rfl (lv_at hl 2 rfl) ?_
  refine x_iald hx hb hK.1 hP 6 0 (n := 12) (f := R 5) rfl rfl (k := k) (by omega) (by omega) dX6_keysApart_14 ?_
  refine x_top (y := gKey τ) (n5) ?_
  refine lv_bipush (v := nI 12) hx hb dX6_keysApart_15 (by decide) ?_
  refine lv_irem hx hb dX6_keysApart_17 (by decide) ?_
  refine lv_isub hx hb dX6_keysApart_18 ?_
  refine mx_callRO (v := .int (msize (((gKey σ) - (gKey σ) / (nI 12) * (nI 12)) - ((gKey τ) - (gKey τ) / (nI 12) * (nI 12))))) (va_runS (As := [.int (((gKey σ) - (gKey σ) / (nI 12) * (nI 12)) - ((gKey τ) - (gKey τ) / (nI 12) * (nI 12)))]) (rest := []) ⟨hx, hb, hml, hown, hts⟩ (c_X6_size l G (((gKey σ) - (gKey σ) / (nI 12) * (nI 12)) - ((gKey τ) - (gKey τ) / (nI 12) * (nI 12)))) (va_cwS 1 hts gX6_keysApart_X6_size rfl rfl rfl (by decide +kernel) ⟨Nat.le_of_ble_eq_true rfl, Nat.le_of_ble_eq_true rfl⟩) (mx_preS hK trivial) rfl rfl hl.1 rfl (lv_room (Nat.le_of_ble_eq_true rfl)) dX6_keysApart_19 ⟨Nat.zero_le _, Nat.zero_le _⟩) ?_
  refine lv_istore_n (lv' := [(3, .int (msize (((gKey σ) - (gKey σ) / (nI 12) * (nI 12)) - ((gKey τ) - (gKey τ) / (nI 12) * (nI 12))))), (0, .ref (ad 0)), (1, .int (nI j)), (2, .int (nI k))]) hx hb dX6_keysApart_22 rfl hl (by decide) rfl (fun ls hl => ?_)
  refine lv_iload_n hx hb dX6_keysApart_23 rfl (lv_at hl 0 rfl) ?_
  refine lv_bipush (v := nI 12) hx hb dX6_keysApart_24 (by decide) ?_
  refine lv_iload_n hx hb dX6_keysApart_26 rfl (lv_at hl 0 rfl) ?_
  refine lv_isub hx hb dX6_keysApart_27 ?_
  refine lv_icmp_ge (tgt := 35) hx hb dX6_keysApart_28 (by decide) (fun c_28 => ?_) (fun c_28 => ?_)
  · refine lv_bipush (v := nI 12) hx hb dX6_keysApart_35 (by decide) ?_
    refine lv_iload_n hx hb dX6_keysApart_37 rfl (lv_at hl 0 rfl) ?_
    refine lv_isub hx hb dX6_keysApart_38 ?_
    refine lv_aload_n hx hb dX6_keysApart_39 rfl (lv_at hl 1 rfl) ?_
    refine va_get (D := G.1) (ci := 6) (v := .ref (ad 6)) (C := RX6) (T := TX6) (N := 36) hx hb hts inX6 hown hK.1 hP 0 rfl rfl 5 (by decide) fl26 (fun _ h9 => h9) rfl dX6_keysApart_40 ?_
    refine lv_iload_n hx hb dX6_keysApart_43 rfl (lv_at hl 2 rfl) ?_
    refine x_iald hx hb hK.1 hP 6 0 (n := 12) (f := R 5) rfl rfl (k := j) (by omega) (by omega) dX6_keysApart_44 ?_
    refine x_top (y := gKey σ) (m5) ?_
    refine lv_bipush (v := nI 12) hx hb dX6_keysApart_45 (by decide) ?_
    refine lv_idiv hx hb dX6_keysApart_47 (by decide) ?_
    refine lv_aload_n hx hb dX6_keysApart_48 rfl (lv_at hl 1 rfl) ?_
    refine va_get (D := G.1) (ci := 6) (v := .ref (ad 6)) (C := RX6) (T := TX6) (N := 36) hx hb hts inX6 hown hK.1 hP 0 rfl rfl 5 (by decide) fl26 (fun _ h9 => h9) rfl dX6_keysApart_49 ?_
    refine lv_iload_n hx hb dX6_keysApart_52 rfl (lv_at hl 3 rfl) ?_
    refine x_iald hx hb hK.1 hP 6 0 (n := 12) (f := R 5) rfl rfl (k := k) (by omega) (by omega) dX6_keysApart_53 ?_
    refine x_top (y := gKey τ) (n5) ?_
    refine lv_bipush (v := nI 12) hx hb dX6_keysApart_54 (by decide) ?_
    refine lv_idiv hx hb dX6_keysApart_56 (by decide) ?_
    refine lv_icmp_ne (tgt := 64) hx hb dX6_keysApart_57 (by decide) (fun c_57 => ?_) (fun c_57 => ?_)
    · refine lv_iconst (v := nI 1) hx hb dX6_keysApart_64 (by decide) ?_
      refine lv_iadd hx hb dX6_keysApart_65 ?_
      refine x_top (y := mkeys (gKey σ) (gKey τ)) (by unfold mkeys kdist krem; rw [if_neg (Int32.not_lt.mpr c_28), if_neg c_57]) ?_
      exact W.iret (v := mkeys (gKey σ) (gKey τ)) hx hb hr (fun t ht hW => ⟨rfl, ht⟩) (fun _ h => by cases h) dX6_keysApart_66
    · refine lv_iconst (v := nI 0) hx hb dX6_keysApart_60 (by decide) ?_
      refine lv_goto (tgt := 65) hx hb dX6_keysApart_61 (by decide) ?_
      refine lv_iadd hx hb dX6_keysApart_65 ?_
      refine x_top (y := mkeys (gKey σ) (gKey τ)) (by unfold mkeys kdist krem; rw [if_neg (Int32.not_lt.mpr c_28), if_pos c_57]) ?_
      exact W.iret (v := mkeys (gKey σ) (gKey τ)) hx hb hr (fun t ht hW => ⟨rfl, ht⟩) (fun _ h => by cases h) dX6_keysApart_66
  · refine lv_iload_n hx hb dX6_keysApart_31 rfl (lv_at hl 0 rfl) ?_
    refine lv_goto (tgt := 39) hx hb dX6_keysApart_32 (by decide) ?_
    refine lv_aload_n hx hb dX6_keysApart_39 rfl (lv_at hl 1 rfl) ?_
    refine va_get (D := G.1) (ci := 6) (v := .ref (ad 6)) (C := RX6) (T := TX6) (N := 36) hx hb hts inX6 hown hK.1 hP 0 rfl rfl 5 (by decide) fl26 (fun _ h9 => h9) rfl dX6_keysApart_40 ?_
    refine lv_iload_n hx hb dX6_keysApart_43 rfl (lv_at hl 2 rfl) ?_
    refine x_iald hx hb hK.1 hP 6 0 (n := 12) (f := R 5) rfl rfl (k := j) (by omega) (by omega) dX6_keysApart_44 ?_
    refine x_top (y := gKey σ) (m5) ?_
    refine lv_bipush (v := nI 12) hx hb dX6_keysApart_45 (by decide) ?_
    refine lv_idiv hx hb dX6_keysApart_47 (by decide) ?_
    refine lv_aload_n hx hb dX6_keysApart_48 rfl (lv_at hl 1 rfl) ?_
    refine va_get (D := G.1) (ci := 6) (v := .ref (ad 6)) (C := RX6) (T := TX6) (N := 36) hx hb hts inX6 hown hK.1 hP 0 rfl rfl 5 (by decide) fl26 (fun _ h9 => h9) rfl dX6_keysApart_49 ?_
    refine lv_iload_n hx hb dX6_keysApart_52 rfl (lv_at hl 3 rfl) ?_
    refine x_iald hx hb hK.1 hP 6 0 (n := 12) (f := R 5) rfl rfl (k := k) (by omega) (by omega) dX6_keysApart_53 ?_
    refine x_top (y := gKey τ) (n5) ?_
    refine lv_bipush (v := nI 12) hx hb dX6_keysApart_54 (by decide) ?_
    refine lv_idiv hx hb dX6_keysApart_56 (by decide) ?_
    refine lv_icmp_ne (tgt := 64) hx hb dX6_keysApart_57 (by decide) (fun c_57 => ?_) (fun c_57 => ?_)
    · refine lv_iconst (v := nI 1) hx hb dX6_keysApart_64 (by decide) ?_
      refine lv_iadd hx hb dX6_keysApart_65 ?_
      refine x_top (y := mkeys (gKey σ) (gKey τ)) (by unfold mkeys kdist krem; rw [if_pos (Int32.not_le.mp c_28), if_neg c_57]) ?_
      exact W.iret (v := mkeys (gKey σ) (gKey τ)) hx hb hr (fun t ht hW => ⟨rfl, ht⟩) (fun _ h => by cases h) dX6_keysApart_66
    · refine lv_iconst (v := nI 0) hx hb dX6_keysApart_60 (by decide) ?_
      refine lv_goto (tgt := 65) hx hb dX6_keysApart_61 (by decide) ?_
      refine lv_iadd hx hb dX6_keysApart_65 ?_
      refine x_top (y := mkeys (gKey σ) (gKey τ)) (by unfold mkeys kdist krem; rw [if_pos (Int32.not_le.mp c_28), if_pos c_57]) ?_
      exact W.iret (v := mkeys (gKey σ) (gKey τ)) hx hb hr (fun t ht hW => ⟨rfl, ht⟩) (fun _ h => by cases h) dX6_keysApart_66

set_option maxHeartbeats 4000000 in
set_option maxRecDepth 100000 in
theorem c_X6_always (l : Launch) (G : mx_G) (ad : Nat → Nat) (F : Nat → Int32) (R : Nat → Nat → Int32) (j k : Nat) (σ τ : Sg) (hs : j < 12) (ks : k < 12) (hm : moSg R j σ) (km : moSg R k τ) : mx_RO l yX6_always wsX6_always 2 43 G [.ref (ad 0), .int (nI j), .int (nI k)] (fun H => va_P G.1 vwCl (MW G ad F R) H) (.int (malways (F 19) (F 20) σ τ)) := by
  refine Met.ofW (cc := cX6_always) (maxL := 3) (ret := (some .int)) (by decide) rfl ?_
  intro p e s m args below meth c s₁ BB hml hv
  obtain ⟨rfl, hP, hK⟩ := hv
  have hx := BB.exec
  have hb := BB.bytes
  have hr := BB.returns
  have hts := atoms_spec (ws := wsX6_always) BB.pre
  have hown : s.vm.findClass RX6 = some m.cls := findClass_of_methodNamed BB.named
  have hlocks := BB.notSynchronized
  have hP : va_P G.1 vwCl (MW G ad F R) s.heap := hP
  obtain ⟨m1, m2, m3, m4, m5, m6, m7, m8, m9, m10, m11⟩ := id hm
  obtain ⟨n1, n2, n3, n4, n5, n6, n7, n8, n9, n10, n11⟩ := id km
  have fl29 := hts (.fieldLink RX6 29 "MixDeskModel" "heat" "[I") (by decide +kernel)
  have fl63 := hts (.fieldLink RX6 63 "MixDeskModel" "keyCost" "I") (by decide +kernel)
  have fl66 := hts (.fieldLink RX6 66 "MixDeskModel" "heatCost" "I") (by decide +kernel)
  have inX6 : ∀ w ∈ wsX60, w ∈ wsX6_always := by decide +kernel
  have hl := lv_entry ([.ref (ad 0), .int (nI j), .int (nI k)]) (n := 3) (Nat.le_of_ble_eq_true rfl)
  rw [lg_entry_eq]
  generalize (lg_sl ([.ref (ad 0), .int (nI j), .int (nI k)]) ++ List.replicate (3 - (lg_sl ([.ref (ad 0), .int (nI j), .int (nI k)])).length) Slot.unset).toArray = ls at hl ⊢
  have hl : lv_has ls 3 [(0, .ref (ad 0)), (1, .int (nI j)), (2, .int (nI k))] := hl
  show mx_WR l wsX6_always 2 43 p e s m (([.ref (ad 0), .int (nI j), .int (nI k)] : List Value).toArray) below meth c (.int (malways (F 19) (F 20) σ τ)) (F0 m 0 ls [])
  refine lv_aload_n hx hb dX6_always_0 rfl (lv_at hl 0 rfl) ?_
  refine va_get (D := G.1) (ci := 6) (v := .int (F 19)) (C := RX6) (T := TX6) (N := 36) hx hb hts inX6 hown hK.1 hP 0 rfl rfl 19 (by decide) fl63 (fun _ h9 => h9) rfl dX6_always_1 ?_
  refine lv_aload_n hx hb dX6_always_4 rfl (lv_at hl 0 rfl) ?_
  refine lv_iload_n hx hb dX6_always_5 rfl (lv_at hl 1 rfl) ?_
  refine lv_iload_n hx hb dX6_always_6 rfl (lv_at hl 2 rfl) ?_
  refine mx_callRO (v := .int (mkeys (gKey σ) (gKey τ))) (va_runV (As := [.int (nI j), .int (nI k)]) (rest := [.int (F 19)]) ⟨hx, hb, hml, hown, hts⟩ (c_X6_keysApart l G ad F R j k σ τ hs ks hm km) (cwV 2 hts gX6_always_X6_keysApart rfl rfl rfl (by decide +kernel) ⟨Nat.le_of_ble_eq_true rfl, Nat.le_of_ble_eq_true rfl⟩) (mx_preV hK hP (va_recv hK.1 hP (ci := 6) (q0 := 0) rfl rfl)) rfl rfl hl.1 rfl (lv_room (Nat.le_of_ble_eq_true rfl)) dX6_always_7 ⟨Nat.zero_le _, Nat.zero_le _⟩) ?_
  refine lv_imul hx hb dX6_always_10 ?_
  refine lv_aload_n hx hb dX6_always_11 rfl (lv_at hl 0 rfl) ?_
  refine va_get (D := G.1) (ci := 6) (v := .int (F 20)) (C := RX6) (T := TX6) (N := 36) hx hb hts inX6 hown hK.1 hP 0 rfl rfl 20 (by decide) fl66 (fun _ h9 => h9) rfl dX6_always_12 ?_
  refine lv_aload_n hx hb dX6_always_15 rfl (lv_at hl 0 rfl) ?_
  refine va_get (D := G.1) (ci := 6) (v := .ref (ad 7)) (C := RX6) (T := TX6) (N := 36) hx hb hts inX6 hown hK.1 hP 0 rfl rfl 6 (by decide) fl29 (fun _ h9 => h9) rfl dX6_always_16 ?_
  refine lv_iload_n hx hb dX6_always_19 rfl (lv_at hl 1 rfl) ?_
  refine x_iald hx hb hK.1 hP 7 0 (n := 12) (f := R 6) rfl rfl (k := j) (by omega) (by omega) dX6_always_20 ?_
  refine x_top (y := gHeat σ) (m6) ?_
  refine lv_aload_n hx hb dX6_always_21 rfl (lv_at hl 0 rfl) ?_
  refine va_get (D := G.1) (ci := 6) (v := .ref (ad 7)) (C := RX6) (T := TX6) (N := 36) hx hb hts inX6 hown hK.1 hP 0 rfl rfl 6 (by decide) fl29 (fun _ h9 => h9) rfl dX6_always_22 ?_
  refine lv_iload_n hx hb dX6_always_25 rfl (lv_at hl 2 rfl) ?_
  refine x_iald hx hb hK.1 hP 7 0 (n := 12) (f := R 6) rfl rfl (k := k) (by omega) (by omega) dX6_always_26 ?_
  refine x_top (y := gHeat τ) (n6) ?_
  refine lv_isub hx hb dX6_always_27 ?_
  refine mx_callRO (v := .int (msize ((gHeat σ) - (gHeat τ)))) (va_runS (As := [.int ((gHeat σ) - (gHeat τ))]) (rest := [.int (F 20), .int ((F 19) * (mkeys (gKey σ) (gKey τ)))]) ⟨hx, hb, hml, hown, hts⟩ (c_X6_size l G ((gHeat σ) - (gHeat τ))) (va_cwS 1 hts gX6_always_X6_size rfl rfl rfl (by decide +kernel) ⟨Nat.le_of_ble_eq_true rfl, Nat.le_of_ble_eq_true rfl⟩) (mx_preS hK trivial) rfl rfl hl.1 rfl (lv_room (Nat.le_of_ble_eq_true rfl)) dX6_always_28 ⟨Nat.zero_le _, Nat.zero_le _⟩) ?_
  refine lv_imul hx hb dX6_always_31 ?_
  refine lv_iadd hx hb dX6_always_32 ?_
  refine x_top (y := malways (F 19) (F 20) σ τ) (by rfl) ?_
  exact W.iret (v := malways (F 19) (F 20) σ τ) hx hb hr (fun t ht hW => ⟨rfl, ht⟩) (fun _ h => by cases h) dX6_always_33

set_option maxHeartbeats 4000000 in
set_option maxRecDepth 100000 in
theorem c_X6_joined (l : Launch) (G : mx_G) (x y : Int32) (j n : Nat) (hn0 : 0 < n) (hn : n < 1000) : mx_RO l yX6_joined wsX6_joined 1 21 G [.int x, .int y, .int (nI j), .int (nI n)] (fun _ => True) (.int (mjoin x y j n)) := by
  refine Met.ofW (cc := cX6_joined) (maxL := 4) (ret := (some .int)) (by decide) rfl ?_
  intro p e s m args below meth c s₁ BB hml hv
  obtain ⟨rfl, -, hK⟩ := hv
  have hx := BB.exec
  have hb := BB.bytes
  have hr := BB.returns
  have hts := atoms_spec (ws := wsX6_joined) BB.pre
  have hown : s.vm.findClass RX6 = some m.cls := findClass_of_methodNamed BB.named
  have hlocks := BB.notSynchronized
  have hl := lv_entry ([.int x, .int y, .int (nI j), .int (nI n)]) (n := 4) (Nat.le_of_ble_eq_true rfl)
  rw [lg_entry_eq]
  generalize (lg_sl ([.int x, .int y, .int (nI j), .int (nI n)]) ++ List.replicate (4 - (lg_sl ([.int x, .int y, .int (nI j), .int (nI n)])).length) Slot.unset).toArray = ls at hl ⊢
  have hl : lv_has ls 4 [(0, .int x), (1, .int y), (2, .int (nI j)), (3, .int (nI n))] := hl
  show mx_WR l wsX6_joined 1 21 p e s m (([.int x, .int y, .int (nI j), .int (nI n)] : List Value).toArray) below meth c (.int (mjoin x y j n)) (F0 m 0 ls [])
  refine lv_iload_n hx hb dX6_joined_0 rfl (lv_at hl 0 rfl) ?_
  refine lv_iload_n hx hb dX6_joined_1 rfl (lv_at hl 1 rfl) ?_
  refine lv_iload_n hx hb dX6_joined_2 rfl (lv_at hl 0 rfl) ?_
  refine lv_isub hx hb dX6_joined_3 ?_
  refine lv_iload_n hx hb dX6_joined_4 rfl (lv_at hl 2 rfl) ?_
  refine lv_imul hx hb dX6_joined_5 ?_
  refine lv_iconst (v := nI 2) hx hb dX6_joined_6 (by decide) ?_
  refine lv_iload_n hx hb dX6_joined_7 rfl (lv_at hl 3 rfl) ?_
  refine x_imul (r := 2 * n) hx hb dX6_joined_8 (rfl) ?_
  refine lv_iadd hx hb dX6_joined_9 ?_
  refine lv_iconst (v := nI 4) hx hb dX6_joined_10 (by decide) ?_
  refine lv_iload_n hx hb dX6_joined_11 rfl (lv_at hl 3 rfl) ?_
  refine x_imul (r := 4 * n) hx hb dX6_joined_12 (rfl) ?_
  refine mx_callRO (v := .int (mfloor (((y - x) * (nI j)) + (nI (2 * n))) (nI (4 * n)))) (va_runS (As := [.int (((y - x) * (nI j)) + (nI (2 * n))), .int (nI (4 * n))]) (rest := [.int x]) ⟨hx, hb, hml, hown, hts⟩ (c_X6_floor l G (((y - x) * (nI j)) + (nI (2 * n))) (nI (4 * n)) (nI_ne0 (by omega) (by omega))) (va_cwS 2 hts gX6_joined_X6_floor rfl rfl rfl (by decide +kernel) ⟨Nat.le_of_ble_eq_true rfl, Nat.le_of_ble_eq_true rfl⟩) (mx_preS hK trivial) rfl rfl hl.1 rfl (lv_room (Nat.le_of_ble_eq_true rfl)) dX6_joined_13 ⟨Nat.zero_le _, Nat.zero_le _⟩) ?_
  refine lv_iadd hx hb dX6_joined_16 ?_
  refine x_top (y := mjoin x y j n) (by rfl) ?_
  exact W.iret (v := mjoin x y j n) hx hb hr (fun t ht hW => ⟨rfl, ht⟩) (fun _ h => by cases h) dX6_joined_17

set_option maxHeartbeats 4000000 in
set_option maxRecDepth 100000 in
theorem c_X6_bend (l : Launch) (G : mx_G) (z x y : Int32) (hx0 : ¬ x = 0) (hy0 : ¬ y = 0) : mx_RO l yX6_bend wsX6_bend 1 20 G [.int z, .int x, .int y] (fun _ => True) (.int (mbend z x y)) := by
  refine Met.ofW (cc := cX6_bend) (maxL := 5) (ret := (some .int)) (by decide) rfl ?_
  intro p e s m args below meth c s₁ BB hml hv
  obtain ⟨rfl, -, hK⟩ := hv
  have hx := BB.exec
  have hb := BB.bytes
  have hr := BB.returns
  have hts := atoms_spec (ws := wsX6_bend) BB.pre
  have hown : s.vm.findClass RX6 = some m.cls := findClass_of_methodNamed BB.named
  have hlocks := BB.notSynchronized
  have hl := lv_entry ([.int z, .int x, .int y]) (n := 5) (Nat.le_of_ble_eq_true rfl)
  rw [lg_entry_eq]
  generalize (lg_sl ([.int z, .int x, .int y]) ++ List.replicate (5 - (lg_sl ([.int z, .int x, .int y])).length) Slot.unset).toArray = ls at hl ⊢
  have hl : lv_has ls 5 [(0, .int z), (1, .int x), (2, .int y)] := hl
  show mx_WR l wsX6_bend 1 20 p e s m (([.int z, .int x, .int y] : List Value).toArray) below meth c (.int (mbend z x y)) (F0 m 0 ls [])
  refine lv_iload_n hx hb dX6_bend_0 rfl (lv_at hl 0 rfl) ?_
  refine lv_iload_n hx hb dX6_bend_1 rfl (lv_at hl 1 rfl) ?_
  refine lv_isub hx hb dX6_bend_2 ?_
  refine mx_callRO (v := .int (msize (z - x))) (va_runS (As := [.int (z - x)]) (rest := []) ⟨hx, hb, hml, hown, hts⟩ (c_X6_size l G (z - x)) (va_cwS 1 hts gX6_bend_X6_size rfl rfl rfl (by decide +kernel) ⟨Nat.le_of_ble_eq_true rfl, Nat.le_of_ble_eq_true rfl⟩) (mx_preS hK trivial) rfl rfl hl.1 rfl (lv_room (Nat.le_of_ble_eq_true rfl)) dX6_bend_3 ⟨Nat.zero_le _, Nat.zero_le _⟩) ?_
  refine lv_sipush (v := nI 1000) hx hb dX6_bend_6 (by decide) ?_
  refine lv_imul hx hb dX6_bend_9 ?_
  refine lv_iload_n hx hb dX6_bend_10 rfl (lv_at hl 1 rfl) ?_
  refine lv_idiv hx hb dX6_bend_11 (hx0) ?_
  refine lv_istore_n (lv' := [(3, .int (((msize (z - x)) * (nI 1000)) / x)), (0, .int z), (1, .int x), (2, .int y)]) hx hb dX6_bend_12 rfl hl (by decide) rfl (fun ls hl => ?_)
  refine lv_iload_n hx hb dX6_bend_13 rfl (lv_at hl 1 rfl) ?_
  refine lv_iload_n hx hb dX6_bend_14 rfl (lv_at hl 3 rfl) ?_
  refine lv_isub hx hb dX6_bend_15 ?_
  refine mx_callRO (v := .int (msize (z - y))) (va_runS (As := [.int (z - y)]) (rest := []) ⟨hx, hb, hml, hown, hts⟩ (c_X6_size l G (z - y)) (va_cwS 1 hts gX6_bend_X6_size rfl rfl rfl (by decide +kernel) ⟨Nat.le_of_ble_eq_true rfl, Nat.le_of_ble_eq_true rfl⟩) (mx_preS hK trivial) rfl rfl hl.1 rfl (lv_room (Nat.le_of_ble_eq_true rfl)) dX6_bend_16 ⟨Nat.zero_le _, Nat.zero_le _⟩) ?_
  refine lv_sipush (v := nI 1000) hx hb dX6_bend_19 (by decide) ?_
  refine lv_imul hx hb dX6_bend_22 ?_
  refine lv_iload_n hx hb dX6_bend_23 rfl (lv_at hl 3 rfl) ?_
  refine lv_idiv hx hb dX6_bend_24 (hy0) ?_
  refine lv_istore (lv' := [(4, .int (((msize (z - y)) * (nI 1000)) / y)), (3, .int (((msize (z - x)) * (nI 1000)) / x)), (0, .int z), (1, .int x), (2, .int y)]) hx hb dX6_bend_25 hl (by decide) rfl (fun ls hl => ?_)
  refine lv_iload_n hx hb dX6_bend_27 rfl (lv_at hl 1 rfl) ?_
  refine lv_iload hx hb dX6_bend_28 (lv_at hl 0 rfl) ?_
  refine lv_icmp_le (tgt := 37) hx hb dX6_bend_30 (by decide) (fun c_30 => ?_) (fun c_30 => ?_)
  · refine lv_iload hx hb dX6_bend_37 (lv_at hl 0 rfl) ?_
    refine x_top (y := mbend z x y) (by unfold mbend; exact (if_pos c_30).symm) ?_
    exact W.iret (v := mbend z x y) hx hb hr (fun t ht hW => ⟨rfl, ht⟩) (fun _ h => by cases h) dX6_bend_39
  · refine lv_iload_n hx hb dX6_bend_33 rfl (lv_at hl 1 rfl) ?_
    refine lv_goto (tgt := 39) hx hb dX6_bend_34 (by decide) ?_
    refine x_top (y := mbend z x y) (by unfold mbend; exact (if_neg c_30).symm) ?_
    exact W.iret (v := mbend z x y) hx hb hr (fun t ht hW => ⟨rfl, ht⟩) (fun _ h => by cases h) dX6_bend_39

set_option maxHeartbeats 4000000 in
set_option maxRecDepth 100000 in
theorem c_X6_isWhole (l : Launch) (G : mx_G) (a0 : Nat) (f : Nat → Int32) (many q n : Nat) (hmany : many ≤ 64) (hq : q < 1000) (hn : n < 1000) : mx_RO l yX6_isWhole wsX6_isWhole 0 0 G [.ref a0, .int (nI many), .int (nI q), .int (nI n)] (fun H => va_P G.1 vwCl ([(a0, .inl (G.2.2.1, 64, .inl f))]) H) (.int (wholeV f many q n)) := by
  refine Met.ofW (cc := cX6_isWhole) (maxL := 5) (ret := (some .boolean)) (by decide) rfl ?_
  intro p e s m args below meth c s₁ BB hml hv
  obtain ⟨rfl, hP, hK⟩ := hv
  have hx := BB.exec
  have hb := BB.bytes
  have hr := BB.returns
  have hts := atoms_spec (ws := wsX6_isWhole) BB.pre
  have hown : s.vm.findClass RX6 = some m.cls := findClass_of_methodNamed BB.named
  have hlocks := BB.notSynchronized
  have hP : va_P G.1 vwCl ([(a0, .inl (G.2.2.1, 64, .inl f))]) s.heap := hP
  have hl := lv_entry ([.ref a0, .int (nI many), .int (nI q), .int (nI n)]) (n := 5) (Nat.le_of_ble_eq_true rfl)
  rw [lg_entry_eq]
  generalize (lg_sl ([.ref a0, .int (nI many), .int (nI q), .int (nI n)]) ++ List.replicate (5 - (lg_sl ([.ref a0, .int (nI many), .int (nI q), .int (nI n)])).length) Slot.unset).toArray = ls at hl ⊢
  have hl : lv_has ls 5 [(0, .ref a0), (1, .int (nI many)), (2, .int (nI q)), (3, .int (nI n))] := hl
  show mx_WR l wsX6_isWhole 0 0 p e s m (([.ref a0, .int (nI many), .int (nI q), .int (nI n)] : List Value).toArray) below meth c (.int (wholeV f many q n)) (F0 m 0 ls [])
  refine lv_iload_n hx hb dX6_isWhole_0 rfl (lv_at hl 2 rfl) ?_
  refine lv_iload_n hx hb dX6_isWhole_1 rfl (lv_at hl 3 rfl) ?_
  refine x_iadd (r := q + n) hx hb dX6_isWhole_2 (rfl) ?_
  refine lv_iload_n hx hb dX6_isWhole_3 rfl (lv_at hl 1 rfl) ?_
  refine x_icmp_le (tgt := 9) hx hb (by omega) (by omega) dX6_isWhole_4 (by decide) (fun c_4 => ?_) (fun c_4 => ?_)
  · refine lv_iconst (v := nI 0) hx hb dX6_isWhole_9 (by decide) ?_
    refine lv_istore (lv' := [(4, .int (nI 0)), (0, .ref a0), (1, .int (nI many)), (2, .int (nI q)), (3, .int (nI n))]) hx hb dX6_isWhole_10 hl (by decide) rfl (fun ls hl => ?_)
    have lp12 : ∀ (nn : Nat) (i : Nat), n - i < nn → (i ≤ n) → (∀ k, k < i → f (q + k) = 0) → ∀ ls : Array Slot, lv_has ls 5 [(0, .ref a0), (1, .int (nI many)), (2, .int (nI q)), (3, .int (nI n)), (4, .int (nI i))] → mx_WR l wsX6_isWhole 0 0 p e s m (([.ref a0, .int (nI many), .int (nI q), .int (nI n)] : List Value).toArray) below meth c (.int (wholeV f many q n)) (F0 m 12 ls []) := by
      intro nn
      induction nn with
      | zero => intro i hmu; exact absurd hmu (Nat.not_lt_zero _)
      | succ nn ih12 =>
        intro i hmu hi hall ls hl
        refine lv_iload hx hb dX6_isWhole_12 (lv_at hl 4 rfl) ?_
        refine lv_iload_n hx hb dX6_isWhole_14 rfl (lv_at hl 3 rfl) ?_
        refine x_icmp_ge (tgt := 35) hx hb (by omega) (by omega) dX6_isWhole_15 (by decide) (fun c_15 => ?_) (fun c_15 => ?_)
        · refine lv_iconst (v := nI 1) hx hb dX6_isWhole_35 (by decide) ?_
          refine x_top (y := wholeV f many q n) (by unfold wholeV; rw [if_neg (by omega), if_pos (fun k hk => hall k (by omega))]) ?_
          exact W.zret (v := wholeV f many q n) hx hb hr (wholeV_n) (fun t ht hW => ⟨rfl, ht⟩) (fun _ h => by cases h) dX6_isWhole_36
        · refine lv_aload_n hx hb dX6_isWhole_18 rfl (lv_at hl 0 rfl) ?_
          refine lv_iload_n hx hb dX6_isWhole_19 rfl (lv_at hl 2 rfl) ?_
          refine lv_iload hx hb dX6_isWhole_20 (lv_at hl 4 rfl) ?_
          refine x_iadd (r := q + i) hx hb dX6_isWhole_22 (rfl) ?_
          refine x_zald hx hb hK.1 hP 0 1 (n := 64) (f := f) rfl rfl (k := q + i) (by omega) (by omega) dX6_isWhole_23 ?_
          refine lv_if_eq (tgt := 29) hx hb dX6_isWhole_24 (by decide) (fun c_24 => ?_) (fun c_24 => ?_)
          · refine x_iinc (lv' := [(4, .int (nI (i + 1))), (0, .ref a0), (1, .int (nI many)), (2, .int (nI q)), (3, .int (nI n))]) hx hb dX6_isWhole_29 hl (k := 4) rfl (x_inc1 _) (by decide) rfl (fun ls hl => ?_)
            refine lv_goto (tgt := 12) hx hb dX6_isWhole_32 (by decide) ?_
            exact ih12 (i + 1) (by omega) (by omega) (lt_s hall c_24) _ (lv_sub hl [1, 2, 3, 4, 0] rfl)
          · refine lv_iconst (v := nI 0) hx hb dX6_isWhole_27 (by decide) ?_
            refine x_top (y := wholeV f many q n) (by unfold wholeV; rw [if_neg (by omega), if_neg (fun h => c_24 (h i (by omega)))]) ?_
            exact W.zret (v := wholeV f many q n) hx hb hr (wholeV_n) (fun t ht hW => ⟨rfl, ht⟩) (fun _ h => by cases h) dX6_isWhole_28
    exact lp12 (n - 0 + 1) 0 (Nat.lt_succ_self _) (by omega) (lt_0) _ (lv_sub hl [1, 2, 3, 4, 0] rfl)
  · refine lv_iconst (v := nI 0) hx hb dX6_isWhole_7 (by decide) ?_
    refine x_top (y := wholeV f many q n) (by unfold wholeV; rw [if_pos (by omega)]) ?_
    exact W.zret (v := wholeV f many q n) hx hb hr (wholeV_n) (fun t ht hW => ⟨rfl, ht⟩) (fun _ h => by cases h) dX6_isWhole_8
end
section
theorem zz_ok : True := trivial
end
