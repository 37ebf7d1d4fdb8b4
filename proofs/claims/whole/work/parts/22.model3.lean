set_option maxHeartbeats 4000000 in
set_option maxRecDepth 100000 in
theorem c_X6_beat (l : Launch) (G : mx_G) (ad : Nat → Nat) (F : Nat → Int32) (R : Nat → Nat → Int32) (so : So) (x k : Int32) (hall : moAll R so) : mx_RO l yX6_beat wsX6_beat 3 68 G [.ref (ad 0), .int x, .int k] (fun H => va_P G.1 vwCl (MW G ad F R) H) (.int (aBeat so x k)) := by
  refine Met.ofW (cc := cX6_beat) (maxL := 3) (ret := (some .int)) (by decide) rfl ?_
  intro p e s m args below meth c s₁ BB hml hv
  obtain ⟨rfl, hP, hK⟩ := hv
  have hx := BB.exec
  have hb := BB.bytes
  have hr := BB.returns
  have hts := atoms_spec (ws := wsX6_beat) BB.pre
  have hown : s.vm.findClass RX6 = some m.cls := findClass_of_methodNamed BB.named
  have hlocks := BB.notSynchronized
  have hP : va_P G.1 vwCl (MW G ad F R) s.heap := hP
  have hl := lv_entry ([.ref (ad 0), .int x, .int k]) (n := 3) (Nat.le_of_ble_eq_true rfl)
  rw [lg_entry_eq]
  generalize (lg_sl ([.ref (ad 0), .int x, .int k]) ++ List.replicate (3 - (lg_sl ([.ref (ad 0), .int x, .int k])).length) Slot.unset).toArray = ls at hl ⊢
  have hl : lv_has ls 3 [(0, .ref (ad 0)), (1, .int x), (2, .int k)] := hl
  show mx_WR l wsX6_beat 3 68 p e s m (([.ref (ad 0), .int x, .int k] : List Value).toArray) below meth c (.int (aBeat so x k)) (F0 m 0 ls [])
  refine lv_aload_n hx hb dX6_beat_0 rfl (lv_at hl 0 rfl) ?_
  refine lv_iload_n hx hb dX6_beat_1 rfl (lv_at hl 1 rfl) ?_
  refine mx_callRO (v := .int (isSongV R x)) (va_runV (As := [.int x]) (rest := []) ⟨hx, hb, hml, hown, hts⟩ (c_X6_isSong l G ad F R x) (cwV 1 hts gX6_beat_X6_isSong rfl rfl rfl (by decide +kernel) ⟨Nat.le_of_ble_eq_true rfl, Nat.le_of_ble_eq_true rfl⟩) (mx_preV hK hP (va_recv hK.1 hP (ci := 6) (q0 := 0) rfl rfl)) rfl rfl hl.1 rfl (lv_room (Nat.le_of_ble_eq_true rfl)) dX6_beat_2 ⟨Nat.zero_le _, Nat.zero_le _⟩) ?_
  refine lv_if_eq (tgt := 30) hx hb dX6_beat_5 (by decide) (fun c_5 => ?_) (fun c_5 => ?_)
  · refine lv_iconst (v := (-1)) hx hb dX6_beat_30 (by decide) ?_
    refine x_top (y := aBeat so x k) (by simp only [aBeat, song_no hall c_5]) ?_
    exact W.iret (v := aBeat so x k) hx hb hr (fun t9 ht9 hW9 => ⟨rfl, ht9⟩) (fun _ h => by cases h) dX6_beat_31
  · obtain ⟨j, σ, rfl, hs, hso, hσ, hth, hm, ok⟩ := song_of hall c_5
    obtain ⟨m1, m2, m3, m4, m5, m6, m7, m8, m9, m10, m11⟩ := id hm
    obtain ⟨hB2, hB64, hAE, hEB, hT1, hT4, hPB, hP1, hP16, hC, hst, hmo⟩ := id ok
    refine lv_iload_n hx hb dX6_beat_8 rfl (lv_at hl 2 rfl) ?_
    refine lv_if_lt (tgt := 30) hx hb dX6_beat_9 (by decide) (fun c_9 => ?_) (fun c_9 => ?_)
    · refine lv_iconst (v := (-1)) hx hb dX6_beat_30 (by decide) ?_
      refine x_top (y := aBeat so (nI j) k) (by simp only [aBeat, hσ]; rw [if_pos c_9]) ?_
      exact W.iret (v := aBeat so (nI j) k) hx hb hr (fun t9 ht9 hW9 => ⟨rfl, ht9⟩) (fun _ h => by cases h) dX6_beat_31
    · refine lv_iload_n hx hb dX6_beat_12 rfl (lv_at hl 2 rfl) ?_
      refine lv_aload_n hx hb dX6_beat_13 rfl (lv_at hl 0 rfl) ?_
      refine lv_iload_n hx hb dX6_beat_14 rfl (lv_at hl 1 rfl) ?_
      refine mx_callRO (v := .int (nI (gFst σ (gB σ)))) (va_runV (As := [.int (nI j)]) (rest := [.int k]) ⟨hx, hb, hml, hown, hts⟩ (c_X6_beatsOf l G ad F R j σ  hs hm ok ) (cwV 1 hts gX6_beat_X6_beatsOf rfl rfl rfl (by decide +kernel) ⟨Nat.le_of_ble_eq_true rfl, Nat.le_of_ble_eq_true rfl⟩) (mx_preV hK hP (va_recv hK.1 hP (ci := 6) (q0 := 0) rfl rfl)) rfl rfl hl.1 rfl (lv_room (Nat.le_of_ble_eq_true rfl)) dX6_beat_15 ⟨Nat.zero_le _, Nat.zero_le _⟩) ?_
      refine lv_icmp_gt (tgt := 30) hx hb dX6_beat_18 (by decide) (fun c_18 => ?_) (fun c_18 => ?_)
      · refine lv_iconst (v := (-1)) hx hb dX6_beat_30 (by decide) ?_
        refine x_top (y := aBeat so (nI j) k) (by simp only [aBeat, hσ]; rw [if_neg c_9, if_pos c_18]) ?_
        exact W.iret (v := aBeat so (nI j) k) hx hb hr (fun t9 ht9 hW9 => ⟨rfl, ht9⟩) (fun _ h => by cases h) dX6_beat_31
      · have hF := gFst_le ok (gB σ)
        obtain ⟨i, hi, rfl⟩ := le_of (by omega) c_9 c_18
        refine lv_aload_n hx hb dX6_beat_21 rfl (lv_at hl 0 rfl) ?_
        refine lv_iload_n hx hb dX6_beat_22 rfl (lv_at hl 1 rfl) ?_
        refine lv_iload_n hx hb dX6_beat_23 rfl (lv_at hl 2 rfl) ?_
        refine mx_callRO (v := .int (gTick σ i)) (va_runV (As := [.int (nI j), .int (nI i)]) (rest := []) ⟨hx, hb, hml, hown, hts⟩ (c_X6_tick l G ad F R j σ i hs hm ok (by omega)) (cwV 2 hts gX6_beat_X6_tick rfl rfl rfl (by decide +kernel) ⟨Nat.le_of_ble_eq_true rfl, Nat.le_of_ble_eq_true rfl⟩) (mx_preV hK hP (va_recv hK.1 hP (ci := 6) (q0 := 0) rfl rfl)) rfl rfl hl.1 rfl (lv_room (Nat.le_of_ble_eq_true rfl)) dX6_beat_24 ⟨Nat.zero_le _, Nat.zero_le _⟩) ?_
        refine lv_goto (tgt := 31) hx hb dX6_beat_27 (by decide) ?_
        refine x_top (y := aBeat so (nI j) (nI i)) (by simp only [aBeat, hσ]; rw [if_neg c_9, if_neg c_18, nI_clamp (by omega)]) ?_
        exact W.iret (v := aBeat so (nI j) (nI i)) hx hb hr (fun t9 ht9 hW9 => ⟨rfl, ht9⟩) (fun _ h => by cases h) dX6_beat_31

set_option maxHeartbeats 4000000 in
set_option maxRecDepth 100000 in
theorem c_X6_played (l : Launch) (G : mx_G) (ad : Nat → Nat) (F : Nat → Int32) (R : Nat → Nat → Int32) (so : So) (x y w : Int32) (hall : moAll R so) : mx_RO l yX6_played wsX6_played 4 93 G [.ref (ad 0), .int x, .int y, .int w] (fun H => va_P G.1 vwCl (MW G ad F R) H) (.int (aPlayed so x y w)) := by
  refine Met.ofW (cc := cX6_played) (maxL := 5) (ret := (some .int)) (by decide) rfl ?_
  intro p e s m args below meth c s₁ BB hml hv
  obtain ⟨rfl, hP, hK⟩ := hv
  have hx := BB.exec
  have hb := BB.bytes
  have hr := BB.returns
  have hts := atoms_spec (ws := wsX6_played) BB.pre
  have hown : s.vm.findClass RX6 = some m.cls := findClass_of_methodNamed BB.named
  have hlocks := BB.notSynchronized
  have hP : va_P G.1 vwCl (MW G ad F R) s.heap := hP
  have fl35 := hts (.fieldLink RX6 35 "MixDeskModel" "beats" "[I") (by decide +kernel)
  have inX6 : ∀ w ∈ wsX60, w ∈ wsX6_played := by decide +kernel
  have hl := lv_entry ([.ref (ad 0), .int x, .int y, .int w]) (n := 5) (Nat.le_of_ble_eq_true rfl)
  rw [lg_entry_eq]
  generalize (lg_sl ([.ref (ad 0), .int x, .int y, .int w]) ++ List.replicate (5 - (lg_sl ([.ref (ad 0), .int x, .int y, .int w])).length) Slot.unset).toArray = ls at hl ⊢
  have hl : lv_has ls 5 [(0, .ref (ad 0)), (1, .int x), (2, .int y), (3, .int w)] := hl
  show mx_WR l wsX6_played 4 93 p e s m (([.ref (ad 0), .int x, .int y, .int w] : List Value).toArray) below meth c (.int (aPlayed so x y w)) (F0 m 0 ls [])
  refine lv_aload_n hx hb dX6_played_0 rfl (lv_at hl 0 rfl) ?_
  refine lv_iload_n hx hb dX6_played_1 rfl (lv_at hl 1 rfl) ?_
  refine mx_callRO (v := .int (isSongV R x)) (va_runV (As := [.int x]) (rest := []) ⟨hx, hb, hml, hown, hts⟩ (c_X6_isSong l G ad F R x) (cwV 1 hts gX6_played_X6_isSong rfl rfl rfl (by decide +kernel) ⟨Nat.le_of_ble_eq_true rfl, Nat.le_of_ble_eq_true rfl⟩) (mx_preV hK hP (va_recv hK.1 hP (ci := 6) (q0 := 0) rfl rfl)) rfl rfl hl.1 rfl (lv_room (Nat.le_of_ble_eq_true rfl)) dX6_played_2 ⟨Nat.zero_le _, Nat.zero_le _⟩) ?_
  refine lv_if_eq (tgt := 21) hx hb dX6_played_5 (by decide) (fun c_5 => ?_) (fun c_5 => ?_)
  · refine lv_iconst (v := (-1)) hx hb dX6_played_21 (by decide) ?_
    refine x_top (y := aPlayed so x y w) (by simp only [aPlayed, song_no hall c_5]) ?_
    exact W.iret (v := aPlayed so x y w) hx hb hr (fun t9 ht9 hW9 => ⟨rfl, ht9⟩) (fun _ h => by cases h) dX6_played_22
  · obtain ⟨j, σ, rfl, hs, hso, hσ, hth, hm, ok⟩ := song_of hall c_5
    obtain ⟨m1, m2, m3, m4, m5, m6, m7, m8, m9, m10, m11⟩ := id hm
    obtain ⟨hB2, hB64, hAE, hEB, hT1, hT4, hPB, hP1, hP16, hC, hst, hmo⟩ := id ok
    refine lv_iload_n hx hb dX6_played_8 rfl (lv_at hl 2 rfl) ?_
    refine lv_if_lt (tgt := 21) hx hb dX6_played_9 (by decide) (fun c_9 => ?_) (fun c_9 => ?_)
    · refine lv_iconst (v := (-1)) hx hb dX6_played_21 (by decide) ?_
      refine x_top (y := aPlayed so (nI j) y w) (by simp only [aPlayed, hσ]; rw [if_pos c_9]) ?_
      exact W.iret (v := aPlayed so (nI j) y w) hx hb hr (fun t9 ht9 hW9 => ⟨rfl, ht9⟩) (fun _ h => by cases h) dX6_played_22
    · refine lv_iload_n hx hb dX6_played_12 rfl (lv_at hl 2 rfl) ?_
      refine lv_aload_n hx hb dX6_played_13 rfl (lv_at hl 0 rfl) ?_
      refine lv_iload_n hx hb dX6_played_14 rfl (lv_at hl 1 rfl) ?_
      refine mx_callRO (v := .int (nI (gPB σ))) (va_runV (As := [.int (nI j)]) (rest := [.int y]) ⟨hx, hb, hml, hown, hts⟩ (c_X6_playedBars l G ad F R j σ  hs hm ok ) (cwV 1 hts gX6_played_X6_playedBars rfl rfl rfl (by decide +kernel) ⟨Nat.le_of_ble_eq_true rfl, Nat.le_of_ble_eq_true rfl⟩) (mx_preV hK hP (va_recv hK.1 hP (ci := 6) (q0 := 0) rfl rfl)) rfl rfl hl.1 rfl (lv_room (Nat.le_of_ble_eq_true rfl)) dX6_played_15 ⟨Nat.zero_le _, Nat.zero_le _⟩) ?_
      refine lv_icmp_lt (tgt := 23) hx hb dX6_played_18 (by decide) (fun c_18 => ?_) (fun c_18 => ?_)
      · have hpb := gPB_le ok
        obtain ⟨i, hi, rfl⟩ := lt_of (by omega) c_9 (Int32.not_le.mpr c_18)
        have hbl := gBar_lt ok hi
        refine lv_aload_n hx hb dX6_played_23 rfl (lv_at hl 0 rfl) ?_
        refine lv_iload_n hx hb dX6_played_24 rfl (lv_at hl 1 rfl) ?_
        refine lv_iload_n hx hb dX6_played_25 rfl (lv_at hl 2 rfl) ?_
        refine mx_callRO (v := .int (nI (gBar σ i))) (va_runV (As := [.int (nI j), .int (nI i)]) (rest := []) ⟨hx, hb, hml, hown, hts⟩ (c_X6_barOf l G ad F R j σ i hs hm ok (by omega)) (cwV 2 hts gX6_played_X6_barOf rfl rfl rfl (by decide +kernel) ⟨Nat.le_of_ble_eq_true rfl, Nat.le_of_ble_eq_true rfl⟩) (mx_preV hK hP (va_recv hK.1 hP (ci := 6) (q0 := 0) rfl rfl)) rfl rfl hl.1 rfl (lv_room (Nat.le_of_ble_eq_true rfl)) dX6_played_26 ⟨Nat.zero_le _, Nat.zero_le _⟩) ?_
        refine lv_istore (lv' := [(4, .int (nI (gBar σ i))), (0, .ref (ad 0)), (1, .int (nI j)), (2, .int (nI i)), (3, .int w)]) hx hb dX6_played_29 hl (by decide) rfl (fun ls hl => ?_)
        refine lv_iload_n hx hb dX6_played_31 rfl (lv_at hl 4 rfl) ?_
        refine lv_if_ne (tgt := 40) hx hb dX6_played_32 (by decide) (fun c_32 => ?_) (fun c_32 => ?_)
        · refine lv_iload_n hx hb dX6_played_40 rfl (lv_at hl 4 rfl) ?_
          refine lv_iconst (v := nI 1) hx hb dX6_played_41 (by decide) ?_
          refine lv_icmp_ne (tgt := 54) hx hb dX6_played_42 (by decide) (fun c_42 => ?_) (fun c_42 => ?_)
          · refine lv_iload_n hx hb dX6_played_54 rfl (lv_at hl 4 rfl) ?_
            refine lv_iconst (v := nI 2) hx hb dX6_played_55 (by decide) ?_
            refine lv_icmp_ne (tgt := 74) hx hb dX6_played_56 (by decide) (fun c_56 => ?_) (fun c_56 => ?_)
            · refine lv_iconst (v := (-1)) hx hb dX6_played_74 (by decide) ?_
              refine x_top (y := aPlayed so (nI j) (nI i) w) (by simp only [aPlayed, hσ]; rw [if_neg c_9, if_neg (Int32.not_le.mpr c_18), if_neg c_32, if_neg c_42, if_neg c_56]) ?_
              exact W.iret (v := aPlayed so (nI j) (nI i) w) hx hb hr (fun t9 ht9 hW9 => ⟨rfl, ht9⟩) (fun _ h => by cases h) dX6_played_75
            · refine lv_aload_n hx hb dX6_played_59 rfl (lv_at hl 1 rfl) ?_
              refine va_get (D := G.1) (ci := 6) (v := .ref (ad 9)) (C := RX6) (T := TX6) (N := 36) hx hb hts inX6 hown hK.1 hP 0 rfl rfl 8 (by decide) fl35 (fun _ h9 => h9) rfl dX6_played_60 ?_
              refine lv_bipush (v := nI 64) hx hb dX6_played_63 (by decide) ?_
              refine lv_iload_n hx hb dX6_played_65 rfl (lv_at hl 2 rfl) ?_
              refine x_imul (r := 64 * j) hx hb dX6_played_66 (rfl) ?_
              refine lv_iload hx hb dX6_played_67 (lv_at hl 0 rfl) ?_
              refine x_iadd (r := 64 * j + gBar σ i) hx hb dX6_played_69 (rfl) ?_
              refine x_iald hx hb hK.1 hP 9 0 (n := 768) (f := R 8) rfl rfl (k := 64 * j + gBar σ i) (by omega) (by omega) dX6_played_70 ?_
              refine x_top (y := nI (gC σ (gBar σ i))) (m8 (gBar σ i) (by omega)) ?_
              refine lv_goto (tgt := 75) hx hb dX6_played_71 (by decide) ?_
              refine x_top (y := aPlayed so (nI j) (nI i) w) (by simp only [aPlayed, hσ]; rw [if_neg c_9, if_neg (Int32.not_le.mpr c_18), if_neg c_32, if_neg c_42, if_pos c_56, nI_clamp (by omega)]) ?_
              exact W.iret (v := aPlayed so (nI j) (nI i) w) hx hb hr (fun t9 ht9 hW9 => ⟨rfl, ht9⟩) (fun _ h => by cases h) dX6_played_75
          · refine lv_aload_n hx hb dX6_played_45 rfl (lv_at hl 1 rfl) ?_
            refine lv_iload_n hx hb dX6_played_46 rfl (lv_at hl 2 rfl) ?_
            refine lv_iload_n hx hb dX6_played_47 rfl (lv_at hl 3 rfl) ?_
            refine mx_callRO (v := .int (gBeg σ i)) (va_runV (As := [.int (nI j), .int (nI i)]) (rest := []) ⟨hx, hb, hml, hown, hts⟩ (c_X6_begins l G ad F R j σ i hs hm ok (by omega)) (cwV 2 hts gX6_played_X6_begins rfl rfl rfl (by decide +kernel) ⟨Nat.le_of_ble_eq_true rfl, Nat.le_of_ble_eq_true rfl⟩) (mx_preV hK hP (va_recv hK.1 hP (ci := 6) (q0 := 0) rfl rfl)) rfl rfl hl.1 rfl (lv_room (Nat.le_of_ble_eq_true rfl)) dX6_played_48 ⟨Nat.zero_le _, Nat.zero_le _⟩) ?_
            refine lv_goto (tgt := 75) hx hb dX6_played_51 (by decide) ?_
            refine x_top (y := aPlayed so (nI j) (nI i) w) (by simp only [aPlayed, hσ]; rw [if_neg c_9, if_neg (Int32.not_le.mpr c_18), if_neg c_32, if_pos c_42, nI_clamp (by omega)]) ?_
            exact W.iret (v := aPlayed so (nI j) (nI i) w) hx hb hr (fun t9 ht9 hW9 => ⟨rfl, ht9⟩) (fun _ h => by cases h) dX6_played_75
        · refine lv_iload hx hb dX6_played_35 (lv_at hl 0 rfl) ?_
          refine lv_goto (tgt := 75) hx hb dX6_played_37 (by decide) ?_
          refine x_top (y := aPlayed so (nI j) (nI i) w) (by simp only [aPlayed, hσ]; rw [if_neg c_9, if_neg (Int32.not_le.mpr c_18), if_pos c_32, nI_clamp (by omega)]) ?_
          exact W.iret (v := aPlayed so (nI j) (nI i) w) hx hb hr (fun t9 ht9 hW9 => ⟨rfl, ht9⟩) (fun _ h => by cases h) dX6_played_75
      · refine lv_iconst (v := (-1)) hx hb dX6_played_21 (by decide) ?_
        refine x_top (y := aPlayed so (nI j) y w) (by simp only [aPlayed, hσ]; rw [if_neg c_9, if_pos (Int32.not_lt.mp c_18)]) ?_
        exact W.iret (v := aPlayed so (nI j) y w) hx hb hr (fun t9 ht9 hW9 => ⟨rfl, ht9⟩) (fun _ h => by cases h) dX6_played_22

set_option maxHeartbeats 4000000 in
set_option maxRecDepth 100000 in
theorem c_X6_length (l : Launch) (G : mx_G) (ad : Nat → Nat) (F : Nat → Int32) (R : Nat → Nat → Int32) (so : So) (x : Int32) (hall : moAll R so) : mx_RO l yX6_length wsX6_length 4 93 G [.ref (ad 0), .int x] (fun H => va_P G.1 vwCl (MW G ad F R) H) (.int (aLength so x)) := by
  refine Met.ofW (cc := cX6_length) (maxL := 2) (ret := (some .int)) (by decide) rfl ?_
  intro p e s m args below meth c s₁ BB hml hv
  obtain ⟨rfl, hP, hK⟩ := hv
  have hx := BB.exec
  have hb := BB.bytes
  have hr := BB.returns
  have hts := atoms_spec (ws := wsX6_length) BB.pre
  have hown : s.vm.findClass RX6 = some m.cls := findClass_of_methodNamed BB.named
  have hlocks := BB.notSynchronized
  have hP : va_P G.1 vwCl (MW G ad F R) s.heap := hP
  have hl := lv_entry ([.ref (ad 0), .int x]) (n := 2) (Nat.le_of_ble_eq_true rfl)
  rw [lg_entry_eq]
  generalize (lg_sl ([.ref (ad 0), .int x]) ++ List.replicate (2 - (lg_sl ([.ref (ad 0), .int x])).length) Slot.unset).toArray = ls at hl ⊢
  have hl : lv_has ls 2 [(0, .ref (ad 0)), (1, .int x)] := hl
  show mx_WR l wsX6_length 4 93 p e s m (([.ref (ad 0), .int x] : List Value).toArray) below meth c (.int (aLength so x)) (F0 m 0 ls [])
  refine lv_aload_n hx hb dX6_length_0 rfl (lv_at hl 0 rfl) ?_
  refine lv_iload_n hx hb dX6_length_1 rfl (lv_at hl 1 rfl) ?_
  refine mx_callRO (v := .int (isSongV R x)) (va_runV (As := [.int x]) (rest := []) ⟨hx, hb, hml, hown, hts⟩ (c_X6_isSong l G ad F R x) (cwV 1 hts gX6_length_X6_isSong rfl rfl rfl (by decide +kernel) ⟨Nat.le_of_ble_eq_true rfl, Nat.le_of_ble_eq_true rfl⟩) (mx_preV hK hP (va_recv hK.1 hP (ci := 6) (q0 := 0) rfl rfl)) rfl rfl hl.1 rfl (lv_room (Nat.le_of_ble_eq_true rfl)) dX6_length_2 ⟨Nat.zero_le _, Nat.zero_le _⟩) ?_
  refine lv_if_eq (tgt := 21) hx hb dX6_length_5 (by decide) (fun c_5 => ?_) (fun c_5 => ?_)
  · refine lv_iconst (v := (-1)) hx hb dX6_length_21 (by decide) ?_
    refine x_top (y := aLength so x) (by simp only [aLength, song_no hall c_5]) ?_
    exact W.iret (v := aLength so x) hx hb hr (fun t9 ht9 hW9 => ⟨rfl, ht9⟩) (fun _ h => by cases h) dX6_length_22
  · obtain ⟨j, σ, rfl, hs, hso, hσ, hth, hm, ok⟩ := song_of hall c_5
    obtain ⟨m1, m2, m3, m4, m5, m6, m7, m8, m9, m10, m11⟩ := id hm
    obtain ⟨hB2, hB64, hAE, hEB, hT1, hT4, hPB, hP1, hP16, hC, hst, hmo⟩ := id ok
    refine lv_aload_n hx hb dX6_length_8 rfl (lv_at hl 0 rfl) ?_
    refine lv_iload_n hx hb dX6_length_9 rfl (lv_at hl 1 rfl) ?_
    refine lv_aload_n hx hb dX6_length_10 rfl (lv_at hl 0 rfl) ?_
    refine lv_iload_n hx hb dX6_length_11 rfl (lv_at hl 1 rfl) ?_
    refine mx_callRO (v := .int (nI (gPB σ))) (va_runV (As := [.int (nI j)]) (rest := [.int (nI j), .ref (ad 0)]) ⟨hx, hb, hml, hown, hts⟩ (c_X6_playedBars l G ad F R j σ  hs hm ok ) (cwV 1 hts gX6_length_X6_playedBars rfl rfl rfl (by decide +kernel) ⟨Nat.le_of_ble_eq_true rfl, Nat.le_of_ble_eq_true rfl⟩) (mx_preV hK hP (va_recv hK.1 hP (ci := 6) (q0 := 0) rfl rfl)) rfl rfl hl.1 rfl (lv_room (Nat.le_of_ble_eq_true rfl)) dX6_length_12 ⟨Nat.zero_le _, Nat.zero_le _⟩) ?_
    refine mx_callRO (v := .int (gBeg σ (gPB σ))) (va_runV (As := [.int (nI j), .int (nI (gPB σ))]) (rest := []) ⟨hx, hb, hml, hown, hts⟩ (c_X6_begins l G ad F R j σ (gPB σ) hs hm ok (Nat.le_refl _)) (cwV 2 hts gX6_length_X6_begins rfl rfl rfl (by decide +kernel) ⟨Nat.le_of_ble_eq_true rfl, Nat.le_of_ble_eq_true rfl⟩) (mx_preV hK hP (va_recv hK.1 hP (ci := 6) (q0 := 0) rfl rfl)) rfl rfl hl.1 rfl (lv_room (Nat.le_of_ble_eq_true rfl)) dX6_length_15 ⟨Nat.zero_le _, Nat.zero_le _⟩) ?_
    refine lv_goto (tgt := 22) hx hb dX6_length_18 (by decide) ?_
    refine x_top (y := aLength so (nI j)) (by simp only [aLength, hσ]) ?_
    exact W.iret (v := aLength so (nI j)) hx hb hr (fun t9 ht9 hW9 => ⟨rfl, ht9⟩) (fun _ h => by cases h) dX6_length_22

set_option maxHeartbeats 4000000 in
set_option maxRecDepth 100000 in
theorem c_X6_of (l : Launch) (G : mx_G) (ad : Nat → Nat) (F : Nat → Int32) (R : Nat → Nat → Int32) (so : So) (x w : Int32) (hall : moAll R so) : mx_RO l yX6_of wsX6_of 1 23 G [.ref (ad 0), .int x, .int w] (fun H => va_P G.1 vwCl (MW G ad F R) H) (.int (aOf so x w)) := by
  refine Met.ofW (cc := cX6_of) (maxL := 5) (ret := (some .int)) (by decide) rfl ?_
  intro p e s m args below meth c s₁ BB hml hv
  obtain ⟨rfl, hP, hK⟩ := hv
  have hx := BB.exec
  have hb := BB.bytes
  have hr := BB.returns
  have hts := atoms_spec (ws := wsX6_of) BB.pre
  have hown : s.vm.findClass RX6 = some m.cls := findClass_of_methodNamed BB.named
  have hlocks := BB.notSynchronized
  have hP : va_P G.1 vwCl (MW G ad F R) s.heap := hP
  have fl13 := hts (.fieldLink RX6 13 "MixDeskModel" "kind" "[I") (by decide +kernel)
  have fl17 := hts (.fieldLink RX6 17 "MixDeskModel" "bars" "[I") (by decide +kernel)
  have fl20 := hts (.fieldLink RX6 20 "MixDeskModel" "step" "[I") (by decide +kernel)
  have fl23 := hts (.fieldLink RX6 23 "MixDeskModel" "more" "[I") (by decide +kernel)
  have fl26 := hts (.fieldLink RX6 26 "MixDeskModel" "key" "[I") (by decide +kernel)
  have fl29 := hts (.fieldLink RX6 29 "MixDeskModel" "heat" "[I") (by decide +kernel)
  have fl32 := hts (.fieldLink RX6 32 "MixDeskModel" "phrase" "[I") (by decide +kernel)
  have fl35 := hts (.fieldLink RX6 35 "MixDeskModel" "beats" "[I") (by decide +kernel)
  have inX6 : ∀ w ∈ wsX60, w ∈ wsX6_of := by decide +kernel
  have hl := lv_entry ([.ref (ad 0), .int x, .int w]) (n := 5) (Nat.le_of_ble_eq_true rfl)
  rw [lg_entry_eq]
  generalize (lg_sl ([.ref (ad 0), .int x, .int w]) ++ List.replicate (5 - (lg_sl ([.ref (ad 0), .int x, .int w])).length) Slot.unset).toArray = ls at hl ⊢
  have hl : lv_has ls 5 [(0, .ref (ad 0)), (1, .int x), (2, .int w)] := hl
  show mx_WR l wsX6_of 1 23 p e s m (([.ref (ad 0), .int x, .int w] : List Value).toArray) below meth c (.int (aOf so x w)) (F0 m 0 ls [])
  refine lv_aload_n hx hb dX6_of_0 rfl (lv_at hl 0 rfl) ?_
  refine lv_iload_n hx hb dX6_of_1 rfl (lv_at hl 1 rfl) ?_
  refine mx_callRO (v := .int (isSongV R x)) (va_runV (As := [.int x]) (rest := []) ⟨hx, hb, hml, hown, hts⟩ (c_X6_isSong l G ad F R x) (cwV 1 hts gX6_of_X6_isSong rfl rfl rfl (by decide +kernel) ⟨Nat.le_of_ble_eq_true rfl, Nat.le_of_ble_eq_true rfl⟩) (mx_preV hK hP (va_recv hK.1 hP (ci := 6) (q0 := 0) rfl rfl)) rfl rfl hl.1 rfl (lv_room (Nat.le_of_ble_eq_true rfl)) dX6_of_2 ⟨Nat.zero_le _, Nat.zero_le _⟩) ?_
  refine lv_if_ne (tgt := 12) hx hb dX6_of_5 (by decide) (fun c_5 => ?_) (fun c_5 => ?_)
  · obtain ⟨j, σ, rfl, hs, hso, hσ, hth, hm, ok⟩ := song_of hall c_5
    obtain ⟨m1, m2, m3, m4, m5, m6, m7, m8, m9, m10, m11⟩ := id hm
    obtain ⟨hB2, hB64, hAE, hEB, hT1, hT4, hPB, hP1, hP16, hC, hst, hmo⟩ := id ok
    refine lv_iload_n hx hb dX6_of_12 rfl (lv_at hl 2 rfl) ?_
    rcases sw_of 10 (by omega) w with ⟨kk, hkk, e_13⟩ | h_13
    · rcases (show kk = 0 ∨ kk = 1 ∨ kk = 2 ∨ kk = 3 ∨ kk = 4 ∨ kk = 5 ∨ kk = 6 ∨ kk = 7 ∨ kk = 8 ∨ kk = 9 by omega) with rfl | rfl | rfl | rfl | rfl | rfl | rfl | rfl | rfl | rfl
      · subst e_13
        refine lv_tableIn (x := nI 0) hx hb dX6_of_13 (by decide) (by decide) (off := 55) (by decide) (tgt := 68) (by decide) ?_
        refine lv_aload_n hx hb dX6_of_68 rfl (lv_at hl 0 rfl) ?_
        refine va_get (D := G.1) (ci := 6) (v := .ref (ad 2)) (C := RX6) (T := TX6) (N := 36) hx hb hts inX6 hown hK.1 hP 0 rfl rfl 1 (by decide) fl13 (fun _ h9 => h9) rfl dX6_of_69 ?_
        refine lv_iload_n hx hb dX6_of_72 rfl (lv_at hl 1 rfl) ?_
        refine x_iald hx hb hK.1 hP 2 0 (n := 12) (f := R 1) rfl rfl (k := j) (by omega) (by omega) dX6_of_73 ?_
        refine x_top (y := gKind σ) (m1) ?_
        refine x_top (y := aOf so (nI j) (nI 0)) (by simp only [aOf, hσ]; rfl) ?_
        exact W.iret (v := aOf so (nI j) (nI 0)) hx hb hr (fun t9 ht9 hW9 => ⟨rfl, ht9⟩) (fun _ h => by cases h) dX6_of_74
      · subst e_13
        refine lv_tableIn (x := nI 1) hx hb dX6_of_13 (by decide) (by decide) (off := 62) (by decide) (tgt := 75) (by decide) ?_
        refine lv_aload_n hx hb dX6_of_75 rfl (lv_at hl 0 rfl) ?_
        refine va_get (D := G.1) (ci := 6) (v := .ref (ad 3)) (C := RX6) (T := TX6) (N := 36) hx hb hts inX6 hown hK.1 hP 0 rfl rfl 2 (by decide) fl17 (fun _ h9 => h9) rfl dX6_of_76 ?_
        refine lv_iload_n hx hb dX6_of_79 rfl (lv_at hl 1 rfl) ?_
        refine x_iald hx hb hK.1 hP 3 0 (n := 12) (f := R 2) rfl rfl (k := j) (by omega) (by omega) dX6_of_80 ?_
        refine x_top (y := nI (gB σ)) (m2) ?_
        refine x_top (y := aOf so (nI j) (nI 1)) (by simp only [aOf, hσ]; rfl) ?_
        exact W.iret (v := aOf so (nI j) (nI 1)) hx hb hr (fun t9 ht9 hW9 => ⟨rfl, ht9⟩) (fun _ h => by cases h) dX6_of_81
      · subst e_13
        refine lv_tableIn (x := nI 2) hx hb dX6_of_13 (by decide) (by decide) (off := 69) (by decide) (tgt := 82) (by decide) ?_
        refine lv_aload_n hx hb dX6_of_82 rfl (lv_at hl 0 rfl) ?_
        refine va_get (D := G.1) (ci := 6) (v := .ref (ad 4)) (C := RX6) (T := TX6) (N := 36) hx hb hts inX6 hown hK.1 hP 0 rfl rfl 3 (by decide) fl20 (fun _ h9 => h9) rfl dX6_of_83 ?_
        refine lv_iload_n hx hb dX6_of_86 rfl (lv_at hl 1 rfl) ?_
        refine x_iald hx hb hK.1 hP 4 0 (n := 12) (f := R 3) rfl rfl (k := j) (by omega) (by omega) dX6_of_87 ?_
        refine x_top (y := gStep σ) (m3) ?_
        refine x_top (y := aOf so (nI j) (nI 2)) (by simp only [aOf, hσ]; rfl) ?_
        exact W.iret (v := aOf so (nI j) (nI 2)) hx hb hr (fun t9 ht9 hW9 => ⟨rfl, ht9⟩) (fun _ h => by cases h) dX6_of_88
      · subst e_13
        refine lv_tableIn (x := nI 3) hx hb dX6_of_13 (by decide) (by decide) (off := 76) (by decide) (tgt := 89) (by decide) ?_
        refine lv_aload_n hx hb dX6_of_89 rfl (lv_at hl 0 rfl) ?_
        refine va_get (D := G.1) (ci := 6) (v := .ref (ad 5)) (C := RX6) (T := TX6) (N := 36) hx hb hts inX6 hown hK.1 hP 0 rfl rfl 4 (by decide) fl23 (fun _ h9 => h9) rfl dX6_of_90 ?_
        refine lv_iload_n hx hb dX6_of_93 rfl (lv_at hl 1 rfl) ?_
        refine x_iald hx hb hK.1 hP 5 0 (n := 12) (f := R 4) rfl rfl (k := j) (by omega) (by omega) dX6_of_94 ?_
        refine x_top (y := gMore σ) (m4) ?_
        refine x_top (y := aOf so (nI j) (nI 3)) (by simp only [aOf, hσ]; rfl) ?_
        exact W.iret (v := aOf so (nI j) (nI 3)) hx hb hr (fun t9 ht9 hW9 => ⟨rfl, ht9⟩) (fun _ h => by cases h) dX6_of_95
      · subst e_13
        refine lv_tableIn (x := nI 4) hx hb dX6_of_13 (by decide) (by decide) (off := 83) (by decide) (tgt := 96) (by decide) ?_
        refine lv_aload_n hx hb dX6_of_96 rfl (lv_at hl 0 rfl) ?_
        refine va_get (D := G.1) (ci := 6) (v := .ref (ad 6)) (C := RX6) (T := TX6) (N := 36) hx hb hts inX6 hown hK.1 hP 0 rfl rfl 5 (by decide) fl26 (fun _ h9 => h9) rfl dX6_of_97 ?_
        refine lv_iload_n hx hb dX6_of_100 rfl (lv_at hl 1 rfl) ?_
        refine x_iald hx hb hK.1 hP 6 0 (n := 12) (f := R 5) rfl rfl (k := j) (by omega) (by omega) dX6_of_101 ?_
        refine x_top (y := gKey σ) (m5) ?_
        refine x_top (y := aOf so (nI j) (nI 4)) (by simp only [aOf, hσ]; rfl) ?_
        exact W.iret (v := aOf so (nI j) (nI 4)) hx hb hr (fun t9 ht9 hW9 => ⟨rfl, ht9⟩) (fun _ h => by cases h) dX6_of_102
      · subst e_13
        refine lv_tableIn (x := nI 5) hx hb dX6_of_13 (by decide) (by decide) (off := 90) (by decide) (tgt := 103) (by decide) ?_
        refine lv_aload_n hx hb dX6_of_103 rfl (lv_at hl 0 rfl) ?_
        refine va_get (D := G.1) (ci := 6) (v := .ref (ad 7)) (C := RX6) (T := TX6) (N := 36) hx hb hts inX6 hown hK.1 hP 0 rfl rfl 6 (by decide) fl29 (fun _ h9 => h9) rfl dX6_of_104 ?_
        refine lv_iload_n hx hb dX6_of_107 rfl (lv_at hl 1 rfl) ?_
        refine x_iald hx hb hK.1 hP 7 0 (n := 12) (f := R 6) rfl rfl (k := j) (by omega) (by omega) dX6_of_108 ?_
        refine x_top (y := gHeat σ) (m6) ?_
        refine x_top (y := aOf so (nI j) (nI 5)) (by simp only [aOf, hσ]; rfl) ?_
        exact W.iret (v := aOf so (nI j) (nI 5)) hx hb hr (fun t9 ht9 hW9 => ⟨rfl, ht9⟩) (fun _ h => by cases h) dX6_of_109
      · subst e_13
        refine lv_tableIn (x := nI 6) hx hb dX6_of_13 (by decide) (by decide) (off := 97) (by decide) (tgt := 110) (by decide) ?_
        refine lv_aload_n hx hb dX6_of_110 rfl (lv_at hl 0 rfl) ?_
        refine va_get (D := G.1) (ci := 6) (v := .ref (ad 8)) (C := RX6) (T := TX6) (N := 36) hx hb hts inX6 hown hK.1 hP 0 rfl rfl 7 (by decide) fl32 (fun _ h9 => h9) rfl dX6_of_111 ?_
        refine lv_iload_n hx hb dX6_of_114 rfl (lv_at hl 1 rfl) ?_
        refine x_iald hx hb hK.1 hP 8 0 (n := 12) (f := R 7) rfl rfl (k := j) (by omega) (by omega) dX6_of_115 ?_
        refine x_top (y := nI (gPh σ)) (m7) ?_
        refine x_top (y := aOf so (nI j) (nI 6)) (by simp only [aOf, hσ]; rfl) ?_
        exact W.iret (v := aOf so (nI j) (nI 6)) hx hb hr (fun t9 ht9 hW9 => ⟨rfl, ht9⟩) (fun _ h => by cases h) dX6_of_116
      · subst e_13
        refine lv_tableIn (x := nI 7) hx hb dX6_of_13 (by decide) (by decide) (off := 104) (by decide) (tgt := 117) (by decide) ?_
        refine lv_aload_n hx hb dX6_of_117 rfl (lv_at hl 0 rfl) ?_
        refine lv_iload_n hx hb dX6_of_118 rfl (lv_at hl 1 rfl) ?_
        refine mx_callRO (v := .int (nI (gPB σ))) (va_runV (As := [.int (nI j)]) (rest := []) ⟨hx, hb, hml, hown, hts⟩ (c_X6_playedBars l G ad F R j σ  hs hm ok ) (cwV 1 hts gX6_of_X6_playedBars rfl rfl rfl (by decide +kernel) ⟨Nat.le_of_ble_eq_true rfl, Nat.le_of_ble_eq_true rfl⟩) (mx_preV hK hP (va_recv hK.1 hP (ci := 6) (q0 := 0) rfl rfl)) rfl rfl hl.1 rfl (lv_room (Nat.le_of_ble_eq_true rfl)) dX6_of_119 ⟨Nat.zero_le _, Nat.zero_le _⟩) ?_
        refine x_top (y := aOf so (nI j) (nI 7)) (by simp only [aOf, hσ]; rfl) ?_
        exact W.iret (v := aOf so (nI j) (nI 7)) hx hb hr (fun t9 ht9 hW9 => ⟨rfl, ht9⟩) (fun _ h => by cases h) dX6_of_122
      · subst e_13
        refine lv_tableIn (x := nI 8) hx hb dX6_of_13 (by decide) (by decide) (off := 110) (by decide) (tgt := 123) (by decide) ?_
        refine lv_aload_n hx hb dX6_of_123 rfl (lv_at hl 0 rfl) ?_
        refine lv_iload_n hx hb dX6_of_124 rfl (lv_at hl 1 rfl) ?_
        refine mx_callRO (v := .int (nI (gFst σ (gB σ)))) (va_runV (As := [.int (nI j)]) (rest := []) ⟨hx, hb, hml, hown, hts⟩ (c_X6_beatsOf l G ad F R j σ  hs hm ok ) (cwV 1 hts gX6_of_X6_beatsOf rfl rfl rfl (by decide +kernel) ⟨Nat.le_of_ble_eq_true rfl, Nat.le_of_ble_eq_true rfl⟩) (mx_preV hK hP (va_recv hK.1 hP (ci := 6) (q0 := 0) rfl rfl)) rfl rfl hl.1 rfl (lv_room (Nat.le_of_ble_eq_true rfl)) dX6_of_125 ⟨Nat.zero_le _, Nat.zero_le _⟩) ?_
        refine x_top (y := aOf so (nI j) (nI 8)) (by simp only [aOf, hσ]; rfl) ?_
        exact W.iret (v := aOf so (nI j) (nI 8)) hx hb hr (fun t9 ht9 hW9 => ⟨rfl, ht9⟩) (fun _ h => by cases h) dX6_of_128
      · subst e_13
        refine lv_tableIn (x := nI 9) hx hb dX6_of_13 (by decide) (by decide) (off := 116) (by decide) (tgt := 129) (by decide) ?_
        refine lv_iconst (v := nI 0) hx hb dX6_of_129 (by decide) ?_
        refine lv_istore_n (lv' := [(3, .int (nI 0)), (0, .ref (ad 0)), (1, .int (nI j)), (2, .int (nI 9))]) hx hb dX6_of_130 rfl hl (by decide) rfl (fun ls hl => ?_)
        refine lv_iconst (v := nI 0) hx hb dX6_of_131 (by decide) ?_
        refine lv_istore (lv' := [(4, .int (nI 0)), (3, .int (nI 0)), (0, .ref (ad 0)), (1, .int (nI j)), (2, .int (nI 9))]) hx hb dX6_of_132 hl (by decide) rfl (fun ls hl => ?_)
        have lp134 : ∀ (nn : Nat) (i : Nat), gB σ - i < nn → (i ≤ gB σ) → ∀ ls : Array Slot, lv_has ls 5 [(0, .ref (ad 0)), (1, .int (nI j)), (3, .int (nI (nsum (fun b => if gC σ b < 4 then 1 else 0) i))), (4, .int (nI i))] → mx_WR l wsX6_of 1 23 p e s m (([.ref (ad 0), .int (nI j), .int (nI 9)] : List Value).toArray) below meth c (.int (aOf so (nI j) (nI 9))) (F0 m 134 ls []) := by
          intro nn
          induction nn with
          | zero => intro i hmu; exact absurd hmu (Nat.not_lt_zero _)
          | succ nn ih134 =>
            intro i hmu hi ls hl
            refine lv_iload hx hb dX6_of_134 (lv_at hl 3 rfl) ?_
            refine lv_aload_n hx hb dX6_of_136 rfl (lv_at hl 0 rfl) ?_
            refine va_get (D := G.1) (ci := 6) (v := .ref (ad 3)) (C := RX6) (T := TX6) (N := 36) hx hb hts inX6 hown hK.1 hP 0 rfl rfl 2 (by decide) fl17 (fun _ h9 => h9) rfl dX6_of_137 ?_
            refine lv_iload_n hx hb dX6_of_140 rfl (lv_at hl 1 rfl) ?_
            refine x_iald hx hb hK.1 hP 3 0 (n := 12) (f := R 2) rfl rfl (k := j) (by omega) (by omega) dX6_of_141 ?_
            refine x_top (y := nI (gB σ)) (m2) ?_
            refine x_icmp_ge (tgt := 170) hx hb (by omega) (by omega) dX6_of_142 (by decide) (fun c_142 => ?_) (fun c_142 => ?_)
            · refine lv_iload_n hx hb dX6_of_170 rfl (lv_at hl 2 rfl) ?_
              refine x_top (y := aOf so (nI j) (nI 9)) (by simp only [aOf, hσ]; rw [show i = gB σ by omega]; rfl) ?_
              exact W.iret (v := aOf so (nI j) (nI 9)) hx hb hr (fun t9 ht9 hW9 => ⟨rfl, ht9⟩) (fun _ h => by cases h) dX6_of_171
            · refine lv_aload_n hx hb dX6_of_145 rfl (lv_at hl 0 rfl) ?_
              refine va_get (D := G.1) (ci := 6) (v := .ref (ad 9)) (C := RX6) (T := TX6) (N := 36) hx hb hts inX6 hown hK.1 hP 0 rfl rfl 8 (by decide) fl35 (fun _ h9 => h9) rfl dX6_of_146 ?_
              refine lv_bipush (v := nI 64) hx hb dX6_of_149 (by decide) ?_
              refine lv_iload_n hx hb dX6_of_151 rfl (lv_at hl 1 rfl) ?_
              refine x_imul (r := 64 * j) hx hb dX6_of_152 (rfl) ?_
              refine lv_iload hx hb dX6_of_153 (lv_at hl 3 rfl) ?_
              refine x_iadd (r := 64 * j + i) hx hb dX6_of_155 (rfl) ?_
              refine x_iald hx hb hK.1 hP 9 0 (n := 768) (f := R 8) rfl rfl (k := 64 * j + i) (by omega) (by omega) dX6_of_156 ?_
              refine x_top (y := nI (gC σ i)) (m8 i (by omega)) ?_
              refine lv_iconst (v := nI 4) hx hb dX6_of_157 (by decide) ?_
              have hCi := hC i
              refine x_icmp_ge (tgt := 164) hx hb (by omega) (by omega) dX6_of_158 (by decide) (fun c_158 => ?_) (fun c_158 => ?_)
              · have hl : lv_has ls 5 [(0, .ref (ad 0)), (1, .int (nI j)), (3, .int (nI (nsum (fun b => if gC σ b < 4 then 1 else 0) (i + 1)))), (4, .int (nI i))] := by
                  have e9 : nI (nsum (fun b => if gC σ b < 4 then 1 else 0) i) = nI (nsum (fun b => if gC σ b < 4 then 1 else 0) (i + 1)) := by show nI _ = nI (nsum (fun b => if gC σ b < 4 then 1 else 0) i + (if gC σ i < 4 then 1 else 0)); rw [if_neg (by omega)]; rfl
                  rw [e9] at hl; exact hl
                refine x_iinc (lv' := [(4, .int (nI (i + 1))), (0, .ref (ad 0)), (1, .int (nI j)), (3, .int (nI (nsum (fun b => if gC σ b < 4 then 1 else 0) (i + 1))))]) hx hb dX6_of_164 hl (k := 3) rfl (x_inc1 _) (by decide) rfl (fun ls hl => ?_)
                refine lv_goto (tgt := 134) hx hb dX6_of_167 (by decide) ?_
                exact ih134 (i + 1) (by omega) (by omega) _ (lv_sub hl [1, 2, 3, 0] rfl)
              · refine x_iinc (lv' := [(3, .int (nI (nsum (fun b => if gC σ b < 4 then 1 else 0) i + 1))), (0, .ref (ad 0)), (1, .int (nI j)), (4, .int (nI i))]) hx hb dX6_of_161 hl (k := 2) rfl (x_inc1 _) (by decide) rfl (fun ls hl => ?_)
                have hl : lv_has ls 5 [(3, .int (nI (nsum (fun b => if gC σ b < 4 then 1 else 0) (i + 1)))), (0, .ref (ad 0)), (1, .int (nI j)), (4, .int (nI i))] := by
                  have e9 : nI (nsum (fun b => if gC σ b < 4 then 1 else 0) i + 1) = nI (nsum (fun b => if gC σ b < 4 then 1 else 0) (i + 1)) := by show nI _ = nI (nsum (fun b => if gC σ b < 4 then 1 else 0) i + (if gC σ i < 4 then 1 else 0)); rw [if_pos (by omega)]
                  rw [e9] at hl; exact hl
                refine x_iinc (lv' := [(4, .int (nI (i + 1))), (3, .int (nI (nsum (fun b => if gC σ b < 4 then 1 else 0) (i + 1)))), (0, .ref (ad 0)), (1, .int (nI j))]) hx hb dX6_of_164 hl (k := 3) rfl (x_inc1 _) (by decide) rfl (fun ls hl => ?_)
                refine lv_goto (tgt := 134) hx hb dX6_of_167 (by decide) ?_
                exact ih134 (i + 1) (by omega) (by omega) _ (lv_sub hl [2, 3, 1, 0] rfl)
        exact lp134 (gB σ - 0 + 1) 0 (Nat.lt_succ_self _) (by omega) _ (lv_sub hl [2, 3, 1, 0] rfl)
    · refine lv_tableOut (tgt := 172) hx hb dX6_of_13 h_13 (by decide) ?_
      refine lv_sipush (v := (-1000)) hx hb dX6_of_172 (by decide) ?_
      refine x_top (y := aOf so (nI j) w) (by simp only [aOf, hσ]; rw [if_neg (sw_ne 0 h_13), if_neg (sw_ne 1 h_13), if_neg (sw_ne 2 h_13), if_neg (sw_ne 3 h_13), if_neg (sw_ne 4 h_13), if_neg (sw_ne 5 h_13), if_neg (sw_ne 6 h_13), if_neg (sw_ne 7 h_13), if_neg (sw_ne 8 h_13), if_neg (sw_ne 9 h_13)]) ?_
      exact W.iret (v := aOf so (nI j) w) hx hb hr (fun t9 ht9 hW9 => ⟨rfl, ht9⟩) (fun _ h => by cases h) dX6_of_175
  · refine lv_sipush (v := (-1000)) hx hb dX6_of_8 (by decide) ?_
    refine x_top (y := aOf so x w) (by simp only [aOf, song_no hall c_5]) ?_
    exact W.iret (v := aOf so x w) hx hb hr (fun t9 ht9 hW9 => ⟨rfl, ht9⟩) (fun _ h => by cases h) dX6_of_11

set_option maxHeartbeats 4000000 in
set_option maxRecDepth 100000 in
theorem c_X6_keysApart (l : Launch) (G : mx_G) (ad : Nat → Nat) (F : Nat → Int32) (R : Nat → Nat → Int32) (j k : Nat) (σ τ : Sg) (hs : j < 12) (ks : k < 12) (hm : moSg R j σ) (km : moSg R k τ) : mx_RO l yX6_keysApart wsX6_keysApart 1 20 G [.ref (ad 0), .int (nI j), .int (nI k)] (fun H => va_P G.1 vwCl (MW G ad F R) H) (.int (mkeys (gKey σ) (gKey τ))) := by
  refine Met.ofW (cc := cX6_keysApart) (maxL := 4) (ret := (some .int)) (by decide) rfl ?_
  intro p e s m args below meth c s₁ BB hml hv
  obtain ⟨rfl, hP, hK⟩ := hv
  have hx := BB.exec
  have hb := BB.bytes
  have hr := BB.returns
  have hts := atoms_spec (ws := wsX6_keysApart) BB.pre
  have hown : s.vm.findClass RX6 = some m.cls := findClass_of_methodNamed BB.named
  have hlocks := BB.notSynchronized
  have hP : va_P G.1 vwCl (MW G ad F R) s.heap := hP
  obtain ⟨m1, m2, m3, m4, m5, m6, m7, m8, m9, m10, m11⟩ := id hm
  obtain ⟨n1, n2, n3, n4, n5, n6, n7, n8, n9, n10, n11⟩ := id km
  have fl26 := hts (.fieldLink RX6 26 "MixDeskModel" "key" "[I") (by decide +kernel)
  have inX6 : ∀ w ∈ wsX60, w ∈ wsX6_keysApart := by decide +kernel
  have hl := lv_entry ([.ref (ad 0), .int (nI j), .int (nI k)]) (n := 4) (Nat.le_of_ble_eq_true rfl)
  rw [lg_entry_eq]
  generalize (lg_sl ([.ref (ad 0), .int (nI j), .int (nI k)]) ++ List.replicate (4 - (lg_sl ([.ref (ad 0), .int (nI j), .int (nI k)])).length) Slot.unset).toArray = ls at hl ⊢
  have hl : lv_has ls 4 [(0, .ref (ad 0)), (1, .int (nI j)), (2, .int (nI k))] := hl
  show mx_WR l wsX6_keysApart 1 20 p e s m (([.ref (ad 0), .int (nI j), .int (nI k)] : List Value).toArray) below meth c (.int (mkeys (gKey σ) (gKey τ))) (F0 m 0 ls [])
  refine lv_aload_n hx hb dX6_keysApart_0 rfl (lv_at hl 0 rfl) ?_
  refine va_get (D := G.1) (ci := 6) (v := .ref (ad 6)) (C := RX6) (T := TX6) (N := 36) hx hb hts inX6 hown hK.1 hP 0 rfl rfl 5 (by decide) fl26 (fun _ h9 => h9) rfl dX6_keysApart_1 ?_
  refine lv_iload_n hx hb dX6_keysApart_4 rfl (lv_at hl 1 rfl) ?_
  refine x_iald hx hb hK.1 hP 6 0 (n := 12) (f := R 5) rfl rfl (k := j) (by omega) (by omega) dX6_keysApart_5 ?_
  refine x_top (y := gKey σ) (m5) ?_
  refine lv_bipush (v := nI 12) hx hb dX6_keysApart_6 (by decide) ?_
  refine lv_irem hx hb dX6_keysApart_8 (by decide) ?_
  refine lv_aload_n hx hb dX6_keysApart_9 rfl (lv_at hl 0 rfl) ?_
  refine va_get (D := G.1) (ci := 6) (v := .ref (ad 6)) (C := RX6) (T := TX6) (N := 36) hx hb hts inX6 hown hK.1 hP 0 rfl rfl 5 (by decide) fl26 (fun _ h9 => h9) rfl dX6_keysApart_10 ?_
  refine lv_iload_n hx hb dX6_keysApart_13 rfl (lv_at hl 2 rfl) ?_
  refine x_iald hx hb hK.1 hP 6 0 (n := 12) (f := R 5) rfl rfl (k := k) (by omega) (by omega) dX6_keysApart_14 ?_
  refine x_top (y := gKey τ) (n5) ?_
  refine lv_bipush (v := nI 12) hx hb dX6_keysApart_15 (by decide) ?_
  refine lv_irem hx hb dX6_keysApart_17 (by decide) ?_
  refine lv_isub hx hb dX6_keysApart_18 ?_
  refine mx_callRO (v := .int (msize (((gKey σ) - (gKey σ) / (nI 12) * (nI 12)) - ((gKey τ) - (gKey τ) / (nI 12) * (nI 12))))) (va_runS (As := [.int (((gKey σ) - (gKey σ) / (nI 12) * (nI 12)) - ((gKey τ) - (gKey τ) / (nI 12) * (nI 12)))]) (rest := []) ⟨hx, hb, hml, hown, hts⟩ (c_X6_size l G (((gKey σ) - (gKey σ) / (nI 12) * (nI 12)) - ((gKey τ) - (gKey τ) / (nI 12) * (nI 12)))) (va_cwS 1 hts gX6_keysApart_X6_size rfl rfl rfl (by decide +kernel) ⟨Nat.le_of_ble_eq_true rfl, Nat.le_of_ble_eq_true rfl⟩) (mx_preS hK trivial) rfl rfl hl.1 rfl (lv_room (Nat.le_of_ble_eq_true rfl)) dX6_keysApart_19 ⟨Nat.zero_le _, Nat.zero_le _⟩) ?_
  refine lv_istore_n (lv' := [(3, .int (msize (((gKey σ) - (gKey σ) / (nI 12) * (nI 12)) - ((gKey τ) - (gKey τ) / (nI 12) * (nI 12))))), (0, .ref (ad 0)), (1, .int (nI j)), (2, .int (nI k))]) hx hb dX6_keysApart_22 rfl hl (by decide) rfl (fun ls hl => ?_)
  refine lv_iload_n hx hb dX6_keysApart_23 rfl (lv_at hl 0 rfl) ?_
  refine lv_bipush (v := nI 12) hx hb dX6_keysApart_24 (by decide) ?_
  refine lv_iload_n hx hb dX6_keysApart_26 rfl (lv_at hl 0 rfl) ?_
  refine lv_isub hx hb dX6_keysApart_27 ?_
  refine lv_icmp_ge (tgt := 35) hx hb dX6_keysApart_28 (by decide) (fun c_28 => ?_) (fun c_28 => ?_)
  · refine lv_bipush (v := nI 12) hx hb dX6_keysApart_35 (by decide) ?_
    refine lv_iload_n hx hb dX6_keysApart_37 rfl (lv_at hl 0 rfl) ?_
    refine lv_isub hx hb dX6_keysApart_38 ?_
    refine lv_aload_n hx hb dX6_keysApart_39 rfl (lv_at hl 1 rfl) ?_
    refine va_get (D := G.1) (ci := 6) (v := .ref (ad 6)) (C := RX6) (T := TX6) (N := 36) hx hb hts inX6 hown hK.1 hP 0 rfl rfl 5 (by decide) fl26 (fun _ h9 => h9) rfl dX6_keysApart_40 ?_
    refine lv_iload_n hx hb dX6_keysApart_43 rfl (lv_at hl 2 rfl) ?_
    refine x_iald hx hb hK.1 hP 6 0 (n := 12) (f := R 5) rfl rfl (k := j) (by omega) (by omega) dX6_keysApart_44 ?_
    refine x_top (y := gKey σ) (m5) ?_
    refine lv_bipush (v := nI 12) hx hb dX6_keysApart_45 (by decide) ?_
    refine lv_idiv hx hb dX6_keysApart_47 (by decide) ?_
    refine lv_aload_n hx hb dX6_keysApart_48 rfl (lv_at hl 1 rfl) ?_
    refine va_get (D := G.1) (ci := 6) (v := .ref (ad 6)) (C := RX6) (T := TX6) (N := 36) hx hb hts inX6 hown hK.1 hP 0 rfl rfl 5 (by decide) fl26 (fun _ h9 => h9) rfl dX6_keysApart_49 ?_
    refine lv_iload_n hx hb dX6_keysApart_52 rfl (lv_at hl 3 rfl) ?_
    refine x_iald hx hb hK.1 hP 6 0 (n := 12) (f := R 5) rfl rfl (k := k) (by omega) (by omega) dX6_keysApart_53 ?_
    refine x_top (y := gKey τ) (n5) ?_
    refine lv_bipush (v := nI 12) hx hb dX6_keysApart_54 (by decide) ?_
    refine lv_idiv hx hb dX6_keysApart_56 (by decide) ?_
    refine lv_icmp_ne (tgt := 64) hx hb dX6_keysApart_57 (by decide) (fun c_57 => ?_) (fun c_57 => ?_)
    · refine lv_iconst (v := nI 1) hx hb dX6_keysApart_64 (by decide) ?_
      refine lv_iadd hx hb dX6_keysApart_65 ?_
      refine x_top (y := mkeys (gKey σ) (gKey τ)) (by unfold mkeys kdist krem; rw [if_neg (Int32.not_lt.mpr c_28), if_neg c_57]) ?_
      exact W.iret (v := mkeys (gKey σ) (gKey τ)) hx hb hr (fun t9 ht9 hW9 => ⟨rfl, ht9⟩) (fun _ h => by cases h) dX6_keysApart_66
    · refine lv_iconst (v := nI 0) hx hb dX6_keysApart_60 (by decide) ?_
      refine lv_goto (tgt := 65) hx hb dX6_keysApart_61 (by decide) ?_
      refine lv_iadd hx hb dX6_keysApart_65 ?_
      refine x_top (y := mkeys (gKey σ) (gKey τ)) (by unfold mkeys kdist krem; rw [if_neg (Int32.not_lt.mpr c_28), if_pos c_57]) ?_
      exact W.iret (v := mkeys (gKey σ) (gKey τ)) hx hb hr (fun t9 ht9 hW9 => ⟨rfl, ht9⟩) (fun _ h => by cases h) dX6_keysApart_66
  · refine lv_iload_n hx hb dX6_keysApart_31 rfl (lv_at hl 0 rfl) ?_
    refine lv_goto (tgt := 39) hx hb dX6_keysApart_32 (by decide) ?_
    refine lv_aload_n hx hb dX6_keysApart_39 rfl (lv_at hl 1 rfl) ?_
    refine va_get (D := G.1) (ci := 6) (v := .ref (ad 6)) (C := RX6) (T := TX6) (N := 36) hx hb hts inX6 hown hK.1 hP 0 rfl rfl 5 (by decide) fl26 (fun _ h9 => h9) rfl dX6_keysApart_40 ?_
    refine lv_iload_n hx hb dX6_keysApart_43 rfl (lv_at hl 2 rfl) ?_
    refine x_iald hx hb hK.1 hP 6 0 (n := 12) (f := R 5) rfl rfl (k := j) (by omega) (by omega) dX6_keysApart_44 ?_
    refine x_top (y := gKey σ) (m5) ?_
    refine lv_bipush (v := nI 12) hx hb dX6_keysApart_45 (by decide) ?_
    refine lv_idiv hx hb dX6_keysApart_47 (by decide) ?_
    refine lv_aload_n hx hb dX6_keysApart_48 rfl (lv_at hl 1 rfl) ?_
    refine va_get (D := G.1) (ci := 6) (v := .ref (ad 6)) (C := RX6) (T := TX6) (N := 36) hx hb hts inX6 hown hK.1 hP 0 rfl rfl 5 (by decide) fl26 (fun _ h9 => h9) rfl dX6_keysApart_49 ?_
    refine lv_iload_n hx hb dX6_keysApart_52 rfl (lv_at hl 3 rfl) ?_
    refine x_iald hx hb hK.1 hP 6 0 (n := 12) (f := R 5) rfl rfl (k := k) (by omega) (by omega) dX6_keysApart_53 ?_
    refine x_top (y := gKey τ) (n5) ?_
    refine lv_bipush (v := nI 12) hx hb dX6_keysApart_54 (by decide) ?_
    refine lv_idiv hx hb dX6_keysApart_56 (by decide) ?_
    refine lv_icmp_ne (tgt := 64) hx hb dX6_keysApart_57 (by decide) (fun c_57 => ?_) (fun c_57 => ?_)
    · refine lv_iconst (v := nI 1) hx hb dX6_keysApart_64 (by decide) ?_
      refine lv_iadd hx hb dX6_keysApart_65 ?_
      refine x_top (y := mkeys (gKey σ) (gKey τ)) (by unfold mkeys kdist krem; rw [if_pos (Int32.not_le.mp c_28), if_neg c_57]) ?_
      exact W.iret (v := mkeys (gKey σ) (gKey τ)) hx hb hr (fun t9 ht9 hW9 => ⟨rfl, ht9⟩) (fun _ h => by cases h) dX6_keysApart_66
    · refine lv_iconst (v := nI 0) hx hb dX6_keysApart_60 (by decide) ?_
      refine lv_goto (tgt := 65) hx hb dX6_keysApart_61 (by decide) ?_
      refine lv_iadd hx hb dX6_keysApart_65 ?_
      refine x_top (y := mkeys (gKey σ) (gKey τ)) (by unfold mkeys kdist krem; rw [if_pos (Int32.not_le.mp c_28), if_pos c_57]) ?_
      exact W.iret (v := mkeys (gKey σ) (gKey τ)) hx hb hr (fun t9 ht9 hW9 => ⟨rfl, ht9⟩) (fun _ h => by cases h) dX6_keysApart_66

set_option maxHeartbeats 4000000 in
set_option maxRecDepth 100000 in
theorem c_X6_always (l : Launch) (G : mx_G) (ad : Nat → Nat) (F : Nat → Int32) (R : Nat → Nat → Int32) (j k : Nat) (σ τ : Sg) (hs : j < 12) (ks : k < 12) (hm : moSg R j σ) (km : moSg R k τ) : mx_RO l yX6_always wsX6_always 2 43 G [.ref (ad 0), .int (nI j), .int (nI k)] (fun H => va_P G.1 vwCl (MW G ad F R) H) (.int (malways (F 19) (F 20) σ τ)) := by
  refine Met.ofW (cc := cX6_always) (maxL := 3) (ret := (some .int)) (by decide) rfl ?_
  intro p e s m args below meth c s₁ BB hml hv
  obtain ⟨rfl, hP, hK⟩ := hv
  have hx := BB.exec
  have hb := BB.bytes
  have hr := BB.returns
  have hts := atoms_spec (ws := wsX6_always) BB.pre
  have hown : s.vm.findClass RX6 = some m.cls := findClass_of_methodNamed BB.named
  have hlocks := BB.notSynchronized
  have hP : va_P G.1 vwCl (MW G ad F R) s.heap := hP
  obtain ⟨m1, m2, m3, m4, m5, m6, m7, m8, m9, m10, m11⟩ := id hm
  obtain ⟨n1, n2, n3, n4, n5, n6, n7, n8, n9, n10, n11⟩ := id km
  have fl29 := hts (.fieldLink RX6 29 "MixDeskModel" "heat" "[I") (by decide +kernel)
  have fl63 := hts (.fieldLink RX6 63 "MixDeskModel" "keyCost" "I") (by decide +kernel)
  have fl66 := hts (.fieldLink RX6 66 "MixDeskModel" "heatCost" "I") (by decide +kernel)
  have inX6 : ∀ w ∈ wsX60, w ∈ wsX6_always := by decide +kernel
  have hl := lv_entry ([.ref (ad 0), .int (nI j), .int (nI k)]) (n := 3) (Nat.le_of_ble_eq_true rfl)
  rw [lg_entry_eq]
  generalize (lg_sl ([.ref (ad 0), .int (nI j), .int (nI k)]) ++ List.replicate (3 - (lg_sl ([.ref (ad 0), .int (nI j), .int (nI k)])).length) Slot.unset).toArray = ls at hl ⊢
  have hl : lv_has ls 3 [(0, .ref (ad 0)), (1, .int (nI j)), (2, .int (nI k))] := hl
  show mx_WR l wsX6_always 2 43 p e s m (([.ref (ad 0), .int (nI j), .int (nI k)] : List Value).toArray) below meth c (.int (malways (F 19) (F 20) σ τ)) (F0 m 0 ls [])
  refine lv_aload_n hx hb dX6_always_0 rfl (lv_at hl 0 rfl) ?_
  refine va_get (D := G.1) (ci := 6) (v := .int (F 19)) (C := RX6) (T := TX6) (N := 36) hx hb hts inX6 hown hK.1 hP 0 rfl rfl 19 (by decide) fl63 (fun _ h9 => h9) rfl dX6_always_1 ?_
  refine lv_aload_n hx hb dX6_always_4 rfl (lv_at hl 0 rfl) ?_
  refine lv_iload_n hx hb dX6_always_5 rfl (lv_at hl 1 rfl) ?_
  refine lv_iload_n hx hb dX6_always_6 rfl (lv_at hl 2 rfl) ?_
  refine mx_callRO (v := .int (mkeys (gKey σ) (gKey τ))) (va_runV (As := [.int (nI j), .int (nI k)]) (rest := [.int (F 19)]) ⟨hx, hb, hml, hown, hts⟩ (c_X6_keysApart l G ad F R j k σ τ hs ks hm km) (cwV 2 hts gX6_always_X6_keysApart rfl rfl rfl (by decide +kernel) ⟨Nat.le_of_ble_eq_true rfl, Nat.le_of_ble_eq_true rfl⟩) (mx_preV hK hP (va_recv hK.1 hP (ci := 6) (q0 := 0) rfl rfl)) rfl rfl hl.1 rfl (lv_room (Nat.le_of_ble_eq_true rfl)) dX6_always_7 ⟨Nat.zero_le _, Nat.zero_le _⟩) ?_
  refine lv_imul hx hb dX6_always_10 ?_
  refine lv_aload_n hx hb dX6_always_11 rfl (lv_at hl 0 rfl) ?_
  refine va_get (D := G.1) (ci := 6) (v := .int (F 20)) (C := RX6) (T := TX6) (N := 36) hx hb hts inX6 hown hK.1 hP 0 rfl rfl 20 (by decide) fl66 (fun _ h9 => h9) rfl dX6_always_12 ?_
  refine lv_aload_n hx hb dX6_always_15 rfl (lv_at hl 0 rfl) ?_
  refine va_get (D := G.1) (ci := 6) (v := .ref (ad 7)) (C := RX6) (T := TX6) (N := 36) hx hb hts inX6 hown hK.1 hP 0 rfl rfl 6 (by decide) fl29 (fun _ h9 => h9) rfl dX6_always_16 ?_
  refine lv_iload_n hx hb dX6_always_19 rfl (lv_at hl 1 rfl) ?_
  refine x_iald hx hb hK.1 hP 7 0 (n := 12) (f := R 6) rfl rfl (k := j) (by omega) (by omega) dX6_always_20 ?_
  refine x_top (y := gHeat σ) (m6) ?_
  refine lv_aload_n hx hb dX6_always_21 rfl (lv_at hl 0 rfl) ?_
  refine va_get (D := G.1) (ci := 6) (v := .ref (ad 7)) (C := RX6) (T := TX6) (N := 36) hx hb hts inX6 hown hK.1 hP 0 rfl rfl 6 (by decide) fl29 (fun _ h9 => h9) rfl dX6_always_22 ?_
  refine lv_iload_n hx hb dX6_always_25 rfl (lv_at hl 2 rfl) ?_
  refine x_iald hx hb hK.1 hP 7 0 (n := 12) (f := R 6) rfl rfl (k := k) (by omega) (by omega) dX6_always_26 ?_
  refine x_top (y := gHeat τ) (n6) ?_
  refine lv_isub hx hb dX6_always_27 ?_
  refine mx_callRO (v := .int (msize ((gHeat σ) - (gHeat τ)))) (va_runS (As := [.int ((gHeat σ) - (gHeat τ))]) (rest := [.int (F 20), .int ((F 19) * (mkeys (gKey σ) (gKey τ)))]) ⟨hx, hb, hml, hown, hts⟩ (c_X6_size l G ((gHeat σ) - (gHeat τ))) (va_cwS 1 hts gX6_always_X6_size rfl rfl rfl (by decide +kernel) ⟨Nat.le_of_ble_eq_true rfl, Nat.le_of_ble_eq_true rfl⟩) (mx_preS hK trivial) rfl rfl hl.1 rfl (lv_room (Nat.le_of_ble_eq_true rfl)) dX6_always_28 ⟨Nat.zero_le _, Nat.zero_le _⟩) ?_
  refine lv_imul hx hb dX6_always_31 ?_
  refine lv_iadd hx hb dX6_always_32 ?_
  refine x_top (y := malways (F 19) (F 20) σ τ) (by rfl) ?_
  exact W.iret (v := malways (F 19) (F 20) σ τ) hx hb hr (fun t9 ht9 hW9 => ⟨rfl, ht9⟩) (fun _ h => by cases h) dX6_always_33

set_option maxHeartbeats 4000000 in
set_option maxRecDepth 100000 in
theorem c_X6_joined (l : Launch) (G : mx_G) (x y : Int32) (j n : Nat) (hn0 : 0 < n) (hn : n < 1000) : mx_RO l yX6_joined wsX6_joined 1 21 G [.int x, .int y, .int (nI j), .int (nI n)] (fun _ => True) (.int (mjoin x y j n)) := by
  refine Met.ofW (cc := cX6_joined) (maxL := 4) (ret := (some .int)) (by decide) rfl ?_
  intro p e s m args below meth c s₁ BB hml hv
  obtain ⟨rfl, -, hK⟩ := hv
  have hx := BB.exec
  have hb := BB.bytes
  have hr := BB.returns
  have hts := atoms_spec (ws := wsX6_joined) BB.pre
  have hown : s.vm.findClass RX6 = some m.cls := findClass_of_methodNamed BB.named
  have hlocks := BB.notSynchronized
  have hl := lv_entry ([.int x, .int y, .int (nI j), .int (nI n)]) (n := 4) (Nat.le_of_ble_eq_true rfl)
  rw [lg_entry_eq]
  generalize (lg_sl ([.int x, .int y, .int (nI j), .int (nI n)]) ++ List.replicate (4 - (lg_sl ([.int x, .int y, .int (nI j), .int (nI n)])).length) Slot.unset).toArray = ls at hl ⊢
  have hl : lv_has ls 4 [(0, .int x), (1, .int y), (2, .int (nI j)), (3, .int (nI n))] := hl
  show mx_WR l wsX6_joined 1 21 p e s m (([.int x, .int y, .int (nI j), .int (nI n)] : List Value).toArray) below meth c (.int (mjoin x y j n)) (F0 m 0 ls [])
  refine lv_iload_n hx hb dX6_joined_0 rfl (lv_at hl 0 rfl) ?_
  refine lv_iload_n hx hb dX6_joined_1 rfl (lv_at hl 1 rfl) ?_
  refine lv_iload_n hx hb dX6_joined_2 rfl (lv_at hl 0 rfl) ?_
  refine lv_isub hx hb dX6_joined_3 ?_
  refine lv_iload_n hx hb dX6_joined_4 rfl (lv_at hl 2 rfl) ?_
  refine lv_imul hx hb dX6_joined_5 ?_
  refine lv_iconst (v := nI 2) hx hb dX6_joined_6 (by decide) ?_
  refine lv_iload_n hx hb dX6_joined_7 rfl (lv_at hl 3 rfl) ?_
  refine x_imul (r := 2 * n) hx hb dX6_joined_8 (rfl) ?_
  refine lv_iadd hx hb dX6_joined_9 ?_
  refine lv_iconst (v := nI 4) hx hb dX6_joined_10 (by decide) ?_
  refine lv_iload_n hx hb dX6_joined_11 rfl (lv_at hl 3 rfl) ?_
  refine x_imul (r := 4 * n) hx hb dX6_joined_12 (rfl) ?_
  refine mx_callRO (v := .int (mfloor (((y - x) * (nI j)) + (nI (2 * n))) (nI (4 * n)))) (va_runS (As := [.int (((y - x) * (nI j)) + (nI (2 * n))), .int (nI (4 * n))]) (rest := [.int x]) ⟨hx, hb, hml, hown, hts⟩ (c_X6_floor l G (((y - x) * (nI j)) + (nI (2 * n))) (nI (4 * n)) (nI_ne0 (by omega) (by omega))) (va_cwS 2 hts gX6_joined_X6_floor rfl rfl rfl (by decide +kernel) ⟨Nat.le_of_ble_eq_true rfl, Nat.le_of_ble_eq_true rfl⟩) (mx_preS hK trivial) rfl rfl hl.1 rfl (lv_room (Nat.le_of_ble_eq_true rfl)) dX6_joined_13 ⟨Nat.zero_le _, Nat.zero_le _⟩) ?_
  refine lv_iadd hx hb dX6_joined_16 ?_
  refine x_top (y := mjoin x y j n) (by rfl) ?_
  exact W.iret (v := mjoin x y j n) hx hb hr (fun t9 ht9 hW9 => ⟨rfl, ht9⟩) (fun _ h => by cases h) dX6_joined_17

set_option maxHeartbeats 4000000 in
set_option maxRecDepth 100000 in
theorem c_X6_bend (l : Launch) (G : mx_G) (z x y : Int32) (hx0 : ¬ x = 0) (hy0 : ¬ y = 0) : mx_RO l yX6_bend wsX6_bend 1 20 G [.int z, .int x, .int y] (fun _ => True) (.int (mbend z x y)) := by
  refine Met.ofW (cc := cX6_bend) (maxL := 5) (ret := (some .int)) (by decide) rfl ?_
  intro p e s m args below meth c s₁ BB hml hv
  obtain ⟨rfl, -, hK⟩ := hv
  have hx := BB.exec
  have hb := BB.bytes
  have hr := BB.returns
  have hts := atoms_spec (ws := wsX6_bend) BB.pre
  have hown : s.vm.findClass RX6 = some m.cls := findClass_of_methodNamed BB.named
  have hlocks := BB.notSynchronized
  have hl := lv_entry ([.int z, .int x, .int y]) (n := 5) (Nat.le_of_ble_eq_true rfl)
  rw [lg_entry_eq]
  generalize (lg_sl ([.int z, .int x, .int y]) ++ List.replicate (5 - (lg_sl ([.int z, .int x, .int y])).length) Slot.unset).toArray = ls at hl ⊢
  have hl : lv_has ls 5 [(0, .int z), (1, .int x), (2, .int y)] := hl
  show mx_WR l wsX6_bend 1 20 p e s m (([.int z, .int x, .int y] : List Value).toArray) below meth c (.int (mbend z x y)) (F0 m 0 ls [])
  refine lv_iload_n hx hb dX6_bend_0 rfl (lv_at hl 0 rfl) ?_
  refine lv_iload_n hx hb dX6_bend_1 rfl (lv_at hl 1 rfl) ?_
  refine lv_isub hx hb dX6_bend_2 ?_
  refine mx_callRO (v := .int (msize (z - x))) (va_runS (As := [.int (z - x)]) (rest := []) ⟨hx, hb, hml, hown, hts⟩ (c_X6_size l G (z - x)) (va_cwS 1 hts gX6_bend_X6_size rfl rfl rfl (by decide +kernel) ⟨Nat.le_of_ble_eq_true rfl, Nat.le_of_ble_eq_true rfl⟩) (mx_preS hK trivial) rfl rfl hl.1 rfl (lv_room (Nat.le_of_ble_eq_true rfl)) dX6_bend_3 ⟨Nat.zero_le _, Nat.zero_le _⟩) ?_
  refine lv_sipush (v := nI 1000) hx hb dX6_bend_6 (by decide) ?_
  refine lv_imul hx hb dX6_bend_9 ?_
  refine lv_iload_n hx hb dX6_bend_10 rfl (lv_at hl 1 rfl) ?_
  refine lv_idiv hx hb dX6_bend_11 (hx0) ?_
  refine lv_istore_n (lv' := [(3, .int (((msize (z - x)) * (nI 1000)) / x)), (0, .int z), (1, .int x), (2, .int y)]) hx hb dX6_bend_12 rfl hl (by decide) rfl (fun ls hl => ?_)
  refine lv_iload_n hx hb dX6_bend_13 rfl (lv_at hl 1 rfl) ?_
  refine lv_iload_n hx hb dX6_bend_14 rfl (lv_at hl 3 rfl) ?_
  refine lv_isub hx hb dX6_bend_15 ?_
  refine mx_callRO (v := .int (msize (z - y))) (va_runS (As := [.int (z - y)]) (rest := []) ⟨hx, hb, hml, hown, hts⟩ (c_X6_size l G (z - y)) (va_cwS 1 hts gX6_bend_X6_size rfl rfl rfl (by decide +kernel) ⟨Nat.le_of_ble_eq_true rfl, Nat.le_of_ble_eq_true rfl⟩) (mx_preS hK trivial) rfl rfl hl.1 rfl (lv_room (Nat.le_of_ble_eq_true rfl)) dX6_bend_16 ⟨Nat.zero_le _, Nat.zero_le _⟩) ?_
  refine lv_sipush (v := nI 1000) hx hb dX6_bend_19 (by decide) ?_
  refine lv_imul hx hb dX6_bend_22 ?_
  refine lv_iload_n hx hb dX6_bend_23 rfl (lv_at hl 3 rfl) ?_
  refine lv_idiv hx hb dX6_bend_24 (hy0) ?_
  refine lv_istore (lv' := [(4, .int (((msize (z - y)) * (nI 1000)) / y)), (3, .int (((msize (z - x)) * (nI 1000)) / x)), (0, .int z), (1, .int x), (2, .int y)]) hx hb dX6_bend_25 hl (by decide) rfl (fun ls hl => ?_)
  refine lv_iload_n hx hb dX6_bend_27 rfl (lv_at hl 1 rfl) ?_
  refine lv_iload hx hb dX6_bend_28 (lv_at hl 0 rfl) ?_
  refine lv_icmp_le (tgt := 37) hx hb dX6_bend_30 (by decide) (fun c_30 => ?_) (fun c_30 => ?_)
  · refine lv_iload hx hb dX6_bend_37 (lv_at hl 0 rfl) ?_
    refine x_top (y := mbend z x y) (by unfold mbend; exact (if_pos c_30).symm) ?_
    exact W.iret (v := mbend z x y) hx hb hr (fun t9 ht9 hW9 => ⟨rfl, ht9⟩) (fun _ h => by cases h) dX6_bend_39
  · refine lv_iload_n hx hb dX6_bend_33 rfl (lv_at hl 1 rfl) ?_
    refine lv_goto (tgt := 39) hx hb dX6_bend_34 (by decide) ?_
    refine x_top (y := mbend z x y) (by unfold mbend; exact (if_neg c_30).symm) ?_
    exact W.iret (v := mbend z x y) hx hb hr (fun t9 ht9 hW9 => ⟨rfl, ht9⟩) (fun _ h => by cases h) dX6_bend_39

set_option maxHeartbeats 4000000 in
set_option maxRecDepth 100000 in
theorem c_X6_isWhole (l : Launch) (G : mx_G) (a0 : Nat) (f : Nat → Int32) (many q n : Nat) (hmany : many ≤ 64) (hq : q < 1000) (hn : n < 1000) : mx_RO l yX6_isWhole wsX6_isWhole 0 0 G [.ref a0, .int (nI many), .int (nI q), .int (nI n)] (fun H => va_P G.1 vwCl ([(a0, .inl (G.2.2.1, 64, .inl f))]) H) (.int (wholeV f many q n)) := by
  refine Met.ofW (cc := cX6_isWhole) (maxL := 5) (ret := (some .boolean)) (by decide) rfl ?_
  intro p e s m args below meth c s₁ BB hml hv
  obtain ⟨rfl, hP, hK⟩ := hv
  have hx := BB.exec
  have hb := BB.bytes
  have hr := BB.returns
  have hts := atoms_spec (ws := wsX6_isWhole) BB.pre
  have hown : s.vm.findClass RX6 = some m.cls := findClass_of_methodNamed BB.named
  have hlocks := BB.notSynchronized
  have hP : va_P G.1 vwCl ([(a0, .inl (G.2.2.1, 64, .inl f))]) s.heap := hP
  have hl := lv_entry ([.ref a0, .int (nI many), .int (nI q), .int (nI n)]) (n := 5) (Nat.le_of_ble_eq_true rfl)
  rw [lg_entry_eq]
  generalize (lg_sl ([.ref a0, .int (nI many), .int (nI q), .int (nI n)]) ++ List.replicate (5 - (lg_sl ([.ref a0, .int (nI many), .int (nI q), .int (nI n)])).length) Slot.unset).toArray = ls at hl ⊢
  have hl : lv_has ls 5 [(0, .ref a0), (1, .int (nI many)), (2, .int (nI q)), (3, .int (nI n))] := hl
  show mx_WR l wsX6_isWhole 0 0 p e s m (([.ref a0, .int (nI many), .int (nI q), .int (nI n)] : List Value).toArray) below meth c (.int (wholeV f many q n)) (F0 m 0 ls [])
  refine lv_iload_n hx hb dX6_isWhole_0 rfl (lv_at hl 2 rfl) ?_
  refine lv_iload_n hx hb dX6_isWhole_1 rfl (lv_at hl 3 rfl) ?_
  refine x_iadd (r := q + n) hx hb dX6_isWhole_2 (rfl) ?_
  refine lv_iload_n hx hb dX6_isWhole_3 rfl (lv_at hl 1 rfl) ?_
  refine x_icmp_le (tgt := 9) hx hb (by omega) (by omega) dX6_isWhole_4 (by decide) (fun c_4 => ?_) (fun c_4 => ?_)
  · refine lv_iconst (v := nI 0) hx hb dX6_isWhole_9 (by decide) ?_
    refine lv_istore (lv' := [(4, .int (nI 0)), (0, .ref a0), (1, .int (nI many)), (2, .int (nI q)), (3, .int (nI n))]) hx hb dX6_isWhole_10 hl (by decide) rfl (fun ls hl => ?_)
    have lp12 : ∀ (nn : Nat) (i : Nat), n - i < nn → (i ≤ n) → (∀ k, k < i → f (q + k) = 0) → ∀ ls : Array Slot, lv_has ls 5 [(0, .ref a0), (1, .int (nI many)), (2, .int (nI q)), (3, .int (nI n)), (4, .int (nI i))] → mx_WR l wsX6_isWhole 0 0 p e s m (([.ref a0, .int (nI many), .int (nI q), .int (nI n)] : List Value).toArray) below meth c (.int (wholeV f many q n)) (F0 m 12 ls []) := by
      intro nn
      induction nn with
      | zero => intro i hmu; exact absurd hmu (Nat.not_lt_zero _)
      | succ nn ih12 =>
        intro i hmu hi hall ls hl
        refine lv_iload hx hb dX6_isWhole_12 (lv_at hl 4 rfl) ?_
        refine lv_iload_n hx hb dX6_isWhole_14 rfl (lv_at hl 3 rfl) ?_
        refine x_icmp_ge (tgt := 35) hx hb (by omega) (by omega) dX6_isWhole_15 (by decide) (fun c_15 => ?_) (fun c_15 => ?_)
        · refine lv_iconst (v := nI 1) hx hb dX6_isWhole_35 (by decide) ?_
          refine x_top (y := wholeV f many q n) (by unfold wholeV; rw [if_neg (by omega), if_pos (fun k hk => hall k (by omega))]) ?_
          exact W.zret (v := wholeV f many q n) hx hb hr (wholeV_n) (fun t9 ht9 hW9 => ⟨rfl, ht9⟩) (fun _ h => by cases h) dX6_isWhole_36
        · refine lv_aload_n hx hb dX6_isWhole_18 rfl (lv_at hl 0 rfl) ?_
          refine lv_iload_n hx hb dX6_isWhole_19 rfl (lv_at hl 2 rfl) ?_
          refine lv_iload hx hb dX6_isWhole_20 (lv_at hl 4 rfl) ?_
          refine x_iadd (r := q + i) hx hb dX6_isWhole_22 (rfl) ?_
          refine x_zald hx hb hK.1 hP 0 1 (n := 64) (f := f) rfl rfl (k := q + i) (by omega) (by omega) dX6_isWhole_23 ?_
          refine lv_if_eq (tgt := 29) hx hb dX6_isWhole_24 (by decide) (fun c_24 => ?_) (fun c_24 => ?_)
          · refine x_iinc (lv' := [(4, .int (nI (i + 1))), (0, .ref a0), (1, .int (nI many)), (2, .int (nI q)), (3, .int (nI n))]) hx hb dX6_isWhole_29 hl (k := 4) rfl (x_inc1 _) (by decide) rfl (fun ls hl => ?_)
            refine lv_goto (tgt := 12) hx hb dX6_isWhole_32 (by decide) ?_
            exact ih12 (i + 1) (by omega) (by omega) (lt_s hall c_24) _ (lv_sub hl [1, 2, 3, 4, 0] rfl)
          · refine lv_iconst (v := nI 0) hx hb dX6_isWhole_27 (by decide) ?_
            refine x_top (y := wholeV f many q n) (by unfold wholeV; rw [if_neg (by omega), if_neg (fun h => c_24 (h i (by omega)))]) ?_
            exact W.zret (v := wholeV f many q n) hx hb hr (wholeV_n) (fun t9 ht9 hW9 => ⟨rfl, ht9⟩) (fun _ h => by cases h) dX6_isWhole_28
    exact lp12 (n - 0 + 1) 0 (Nat.lt_succ_self _) (by omega) (lt_0) _ (lv_sub hl [1, 2, 3, 4, 0] rfl)
  · refine lv_iconst (v := nI 0) hx hb dX6_isWhole_7 (by decide) ?_
    refine x_top (y := wholeV f many q n) (by unfold wholeV; rw [if_pos (by omega)]) ?_
    exact W.zret (v := wholeV f many q n) hx hb hr (wholeV_n) (fun t9 ht9 hW9 => ⟨rfl, ht9⟩) (fun _ h => by cases h) dX6_isWhole_8
