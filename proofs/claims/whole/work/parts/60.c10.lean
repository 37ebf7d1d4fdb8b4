set_option maxHeartbeats 4000000 in
set_option maxRecDepth 100000 in
theorem c_X5_songAt (l : Launch) (G : mx_G) (aD : Nat → Nat) (SD : Nat → Option Nat) (WI : Nat → Int32) (aK : Nat → Nat) (FK : Nat → Int32) (RK : Nat → Nat → Int32) (aJ : Nat → Nat) (FJ : Nat → Int32) (RJ : Nat → Nat → Int32) (aT : Nat → Nat) (FT : Nat → Int32) (RT : Nat → Nat → Int32) (aN : Nat → Nat) (FN : Nat → Int32) (RN : Nat → Nat → Int32) (SR : Nat → Option Nat) (ra rl m12 : Nat) (so : So) (aS : Nat → Nat → Nat) (FS : Nat → Nat → Int32) (RS : Nat → Nat → Nat → Int32) (x : Int32) (hm12 : m12 = 12) (hd : dOk so aS FS RS SD) : mx_RO l yX5_songAt wsX5_songAt 1 22 G [.ref (aD 0), .int x] (fun H => va_P G.1 vwCl (([(aD 0, .inr (5, [.ref (aD 1), .ref (aD 2), .ref (aK 0), .ref (aJ 0), .ref (aT 0), .ref (aN 0)]))]) ++ (([(aD 1, .inl (G.2.2.2, 12, .inr (.inr (.inr (.inr (SD))))))]) ++ (([(aD 2, .inl (G.2.1, 144, .inl (WI)))]) ++ ((KW G aK FK RK) ++ ((JW G aJ FJ RJ) ++ ((TW G aT FT RT) ++ ((NW G aN FN RN SR ra rl) ++ (pool G so aS FS RS m12)))))))) H) (va_rf (sRf so aS x)) := by
  refine Met.ofW (cc := cX5_songAt) (maxL := 2) (ret := (some (.object "MixDesk$Song"))) (by decide) rfl ?_
  intro p e s m args below meth c s₁ BB hml hv
  obtain ⟨rfl, hP, hK⟩ := hv
  have hx := BB.exec
  have hb := BB.bytes
  have hr := BB.returns
  have hts := atoms_spec (ws := wsX5_songAt) BB.pre
  have hown : s.vm.findClass RX5 = some m.cls := findClass_of_methodNamed BB.named
  have hlocks := BB.notSynchronized
  have hP : va_P G.1 vwCl (([(aD 0, .inr (5, [.ref (aD 1), .ref (aD 2), .ref (aK 0), .ref (aJ 0), .ref (aT 0), .ref (aN 0)]))]) ++ (([(aD 1, .inl (G.2.2.2, 12, .inr (.inr (.inr (.inr (SD))))))]) ++ (([(aD 2, .inl (G.2.1, 144, .inl (WI)))]) ++ ((KW G aK FK RK) ++ ((JW G aJ FJ RJ) ++ ((TW G aT FT RT) ++ ((NW G aN FN RN SR ra rl) ++ (pool G so aS FS RS m12)))))))) s.heap := hP
  have fl11 := hts (.fieldLink RX5 11 "MixDesk" "songs" "[LMixDesk$Song;") (by decide +kernel)
  have inX5 : ∀ w ∈ wsX50, w ∈ wsX5_songAt := by decide +kernel
  have hl := lv_entry ([.ref (aD 0), .int x]) (n := 2) (Nat.le_of_ble_eq_true rfl)
  rw [lg_entry_eq]
  generalize (lg_sl ([.ref (aD 0), .int x]) ++ List.replicate (2 - (lg_sl ([.ref (aD 0), .int x])).length) Slot.unset).toArray = ls at hl ⊢
  have hl : lv_has ls 2 [(0, .ref (aD 0)), (1, .int x)] := hl
  show mx_WR l wsX5_songAt 1 22 p e s m (([.ref (aD 0), .int x] : List Value).toArray) below meth c (va_rf (sRf so aS x)) (F0 m 0 ls [])
  refine lv_iload_n hx hb dX5_songAt_0 rfl (lv_at hl 1 rfl) ?_
  refine lv_iconst (v := nI 0) hx hb dX5_songAt_1 (by decide) ?_
  refine lv_bipush (v := nI 11) hx hb dX5_songAt_2 (by decide) ?_
  refine mx_callRO (v := .int (wi x (nI 0) (nI 11))) (va_runS (As := [.int x, .int (nI 0), .int (nI 11)]) (rest := []) ⟨hx, hb, hml, hown, hts⟩ (c_X5_within l G x (nI 0) (nI 11)) (va_cwS 3 hts gX5_songAt_X5_within rfl rfl rfl (by decide +kernel) ⟨Nat.le_of_ble_eq_true rfl, Nat.le_of_ble_eq_true rfl⟩) (mx_preS hK trivial) rfl rfl hl.1 rfl (lv_room (Nat.le_of_ble_eq_true rfl)) dX5_songAt_4 ⟨Nat.zero_le _, Nat.zero_le _⟩) ?_
  refine lv_if_eq (tgt := 19) hx hb dX5_songAt_7 (by decide) (fun c_7 => ?_) (fun c_7 => ?_)
  · refine lv_null hx hb dX5_songAt_19 ?_
    refine x_topV (y := va_rf (sRf so aS x)) (by rw [sRf_n (sAt_out c_7)]) ?_
    exact W.aret (v := va_rf (sRf so aS x)) hx hb hr (Or.inl ⟨_, rfl⟩) (rf_cases _) (fun t9 ht9 hW9 => ⟨rfl, ht9⟩) (fun _ h => by cases h) dX5_songAt_20
  · obtain ⟨i, hi, rfl⟩ := le_of (n := 11) (by omega) (wi_1 c_7).1 (wi_1 c_7).2
    refine lv_aload_n hx hb dX5_songAt_10 rfl (lv_at hl 0 rfl) ?_
    refine va_get (D := G.1) (ci := 5) (v := .ref (aD 1)) (C := RX5) (T := TX5) (N := 6) hx hb hts inX5 hown hK.1 hP 0 rfl rfl 0 (by decide) fl11 (fun _ h9 => h9) rfl dX5_songAt_11 ?_
    refine lv_iload_n hx hb dX5_songAt_14 rfl (lv_at hl 1 rfl) ?_
    refine x_aald hx hb hK.1 hP 1 2 (n := 12) (f := SD) rfl rfl (k := i) (by omega) (by omega) dX5_songAt_15 ?_
    refine lv_goto (tgt := 20) hx hb dX5_songAt_16 (by decide) ?_
    refine x_topV (y := va_rf (sRf so aS (nI i))) (sRf_SD hd (by omega)) ?_
    exact W.aret (v := va_rf (sRf so aS (nI i))) hx hb hr (Or.inl ⟨_, rfl⟩) (rf_cases _) (fun t9 ht9 hW9 => ⟨rfl, ht9⟩) (fun _ h => by cases h) dX5_songAt_20

set_option maxHeartbeats 4000000 in
set_option maxRecDepth 100000 in
theorem c_X5_canBeSong (l : Launch) (G : mx_G) (k n st x : Int32) : mx_RO l yX5_canBeSong wsX5_canBeSong 1 22 G [.int k, .int n, .int st, .int x] (fun _ => True) (.int (b2i (okSong k n st x))) := by
  refine Met.ofW (cc := cX5_canBeSong) (maxL := 4) (ret := (some .boolean)) (by decide) rfl ?_
  intro p e s m args below meth c s₁ BB hml hv
  obtain ⟨rfl, -, hK⟩ := hv
  have hx := BB.exec
  have hb := BB.bytes
  have hr := BB.returns
  have hts := atoms_spec (ws := wsX5_canBeSong) BB.pre
  have hown : s.vm.findClass RX5 = some m.cls := findClass_of_methodNamed BB.named
  have hlocks := BB.notSynchronized
  have hl := lv_entry ([.int k, .int n, .int st, .int x]) (n := 4) (Nat.le_of_ble_eq_true rfl)
  rw [lg_entry_eq]
  generalize (lg_sl ([.int k, .int n, .int st, .int x]) ++ List.replicate (4 - (lg_sl ([.int k, .int n, .int st, .int x])).length) Slot.unset).toArray = ls at hl ⊢
  have hl : lv_has ls 4 [(0, .int k), (1, .int n), (2, .int st), (3, .int x)] := hl
  show mx_WR l wsX5_canBeSong 1 22 p e s m (([.int k, .int n, .int st, .int x] : List Value).toArray) below meth c (.int (b2i (okSong k n st x))) (F0 m 0 ls [])
  refine lv_iload_n hx hb dX5_canBeSong_0 rfl (lv_at hl 1 rfl) ?_
  refine lv_iconst (v := nI 2) hx hb dX5_canBeSong_1 (by decide) ?_
  refine lv_bipush (v := nI 64) hx hb dX5_canBeSong_2 (by decide) ?_
  refine mx_callRO (v := .int (wi n (nI 2) (nI 64))) (va_runS (As := [.int n, .int (nI 2), .int (nI 64)]) (rest := []) ⟨hx, hb, hml, hown, hts⟩ (c_X5_within l G n (nI 2) (nI 64)) (va_cwS 3 hts gX5_canBeSong_X5_within rfl rfl rfl (by decide +kernel) ⟨Nat.le_of_ble_eq_true rfl, Nat.le_of_ble_eq_true rfl⟩) (mx_preS hK trivial) rfl rfl hl.1 rfl (lv_room (Nat.le_of_ble_eq_true rfl)) dX5_canBeSong_4 ⟨Nat.zero_le _, Nat.zero_le _⟩) ?_
  refine lv_if_eq (tgt := 22) hx hb dX5_canBeSong_7 (by decide) (fun c_7 => ?_) (fun c_7 => ?_)
  · refine lv_iconst (v := nI 0) hx hb dX5_canBeSong_22 (by decide) ?_
    refine x_top (y := b2i (okSong k n st x)) (b2i_f (fun q => (wi_0 c_7).elim q.1.2.1.1 q.1.2.1.2)) ?_
    exact W.zret (v := b2i (okSong k n st x)) hx hb hr (b2i_n _) (fun t9 ht9 hW9 => ⟨rfl, ht9⟩) (fun _ h => by cases h) dX5_canBeSong_23
  · refine lv_iload_n hx hb dX5_canBeSong_10 rfl (lv_at hl 2 rfl) ?_
    refine lv_bipush (v := nI 20) hx hb dX5_canBeSong_11 (by decide) ?_
    refine lv_sipush (v := nI 400) hx hb dX5_canBeSong_13 (by decide) ?_
    refine mx_callRO (v := .int (wi st (nI 20) (nI 400))) (va_runS (As := [.int st, .int (nI 20), .int (nI 400)]) (rest := []) ⟨hx, hb, hml, hown, hts⟩ (c_X5_within l G st (nI 20) (nI 400)) (va_cwS 3 hts gX5_canBeSong_X5_within rfl rfl rfl (by decide +kernel) ⟨Nat.le_of_ble_eq_true rfl, Nat.le_of_ble_eq_true rfl⟩) (mx_preS hK trivial) rfl rfl hl.1 rfl (lv_room (Nat.le_of_ble_eq_true rfl)) dX5_canBeSong_16 ⟨Nat.zero_le _, Nat.zero_le _⟩) ?_
    refine lv_if_ne (tgt := 24) hx hb dX5_canBeSong_19 (by decide) (fun c_19 => ?_) (fun c_19 => ?_)
    · refine lv_iload_n hx hb dX5_canBeSong_24 rfl (lv_at hl 0 rfl) ?_
      rcases sw_of 3 (by omega) k with ⟨kk, hkk, e_25⟩ | h_25
      · rcases (show kk = 0 ∨ kk = 1 ∨ kk = 2 by omega) with rfl | rfl | rfl
        · subst e_25
          refine lv_tableIn (x := nI 0) hx hb dX5_canBeSong_25 (by decide) (by decide) (off := 27) (by decide) (tgt := 52) (by decide) ?_
          refine lv_iconst (v := nI 1) hx hb dX5_canBeSong_52 (by decide) ?_
          refine x_top (y := b2i (okSong (nI 0) n st x)) (b2i_t ⟨⟨⟨by decide, by decide⟩, ⟨(wi_1 c_7).1, (wi_1 c_7).2⟩, (wi_1 c_19).1, (wi_1 c_19).2⟩, fun q => absurd q (by decide), fun q => absurd q (by decide)⟩) ?_
          exact W.zret (v := b2i (okSong (nI 0) n st x)) hx hb hr (b2i_n _) (fun t9 ht9 hW9 => ⟨rfl, ht9⟩) (fun _ h => by cases h) dX5_canBeSong_53
        · subst e_25
          refine lv_tableIn (x := nI 1) hx hb dX5_canBeSong_25 (by decide) (by decide) (off := 29) (by decide) (tgt := 54) (by decide) ?_
          refine lv_iload_n hx hb dX5_canBeSong_54 rfl (lv_at hl 3 rfl) ?_
          refine lv_iconst (v := nI 0) hx hb dX5_canBeSong_55 (by decide) ?_
          refine lv_iload_n hx hb dX5_canBeSong_56 rfl (lv_at hl 2 rfl) ?_
          refine lv_bipush (v := nI 10) hx hb dX5_canBeSong_57 (by decide) ?_
          refine lv_isub hx hb dX5_canBeSong_59 ?_
          refine mx_callRO (v := .int (wi x (nI 0) (st - (nI 10)))) (va_runS (As := [.int x, .int (nI 0), .int (st - (nI 10))]) (rest := []) ⟨hx, hb, hml, hown, hts⟩ (c_X5_within l G x (nI 0) (st - (nI 10))) (va_cwS 3 hts gX5_canBeSong_X5_within rfl rfl rfl (by decide +kernel) ⟨Nat.le_of_ble_eq_true rfl, Nat.le_of_ble_eq_true rfl⟩) (mx_preS hK trivial) rfl rfl hl.1 rfl (lv_room (Nat.le_of_ble_eq_true rfl)) dX5_canBeSong_60 ⟨Nat.zero_le _, Nat.zero_le _⟩) ?_
          refine x_top (y := b2i (okSong (nI 1) n st x)) (wi_b2i.trans (b2i_iff ⟨fun q => ⟨⟨⟨by decide, by decide⟩, ⟨(wi_1 c_7).1, (wi_1 c_7).2⟩, (wi_1 c_19).1, (wi_1 c_19).2⟩, fun _ => q, fun z => absurd z (by decide)⟩, fun q => q.2.1 rfl⟩)) ?_
          exact W.zret (v := b2i (okSong (nI 1) n st x)) hx hb hr (b2i_n _) (fun t9 ht9 hW9 => ⟨rfl, ht9⟩) (fun _ h => by cases h) dX5_canBeSong_63
        · subst e_25
          refine lv_tableIn (x := nI 2) hx hb dX5_canBeSong_25 (by decide) (by decide) (off := 39) (by decide) (tgt := 64) (by decide) ?_
          refine lv_iload_n hx hb dX5_canBeSong_64 rfl (lv_at hl 3 rfl) ?_
          refine lv_bipush (v := (-20)) hx hb dX5_canBeSong_65 (by decide) ?_
          refine lv_bipush (v := nI 20) hx hb dX5_canBeSong_67 (by decide) ?_
          refine mx_callRO (v := .int (wi x (-20) (nI 20))) (va_runS (As := [.int x, .int (-20), .int (nI 20)]) (rest := []) ⟨hx, hb, hml, hown, hts⟩ (c_X5_within l G x (-20) (nI 20)) (va_cwS 3 hts gX5_canBeSong_X5_within rfl rfl rfl (by decide +kernel) ⟨Nat.le_of_ble_eq_true rfl, Nat.le_of_ble_eq_true rfl⟩) (mx_preS hK trivial) rfl rfl hl.1 rfl (lv_room (Nat.le_of_ble_eq_true rfl)) dX5_canBeSong_69 ⟨Nat.zero_le _, Nat.zero_le _⟩) ?_
          refine x_top (y := b2i (okSong (nI 2) n st x)) (wi_b2i.trans (b2i_iff ⟨fun q => ⟨⟨⟨by decide, by decide⟩, ⟨(wi_1 c_7).1, (wi_1 c_7).2⟩, (wi_1 c_19).1, (wi_1 c_19).2⟩, fun z => absurd z (by decide), fun _ => q⟩, fun q => q.2.2 rfl⟩)) ?_
          exact W.zret (v := b2i (okSong (nI 2) n st x)) hx hb hr (b2i_n _) (fun t9 ht9 hW9 => ⟨rfl, ht9⟩) (fun _ h => by cases h) dX5_canBeSong_72
      · refine lv_tableOut (tgt := 73) hx hb dX5_canBeSong_25 h_25 (by decide) ?_
        refine lv_iconst (v := nI 0) hx hb dX5_canBeSong_73 (by decide) ?_
        refine x_top (y := b2i (okSong k n st x)) (b2i_f (fun q => (sw_ok h_25) ⟨q.1.1.1, q.1.1.2⟩)) ?_
        exact W.zret (v := b2i (okSong k n st x)) hx hb hr (b2i_n _) (fun t9 ht9 hW9 => ⟨rfl, ht9⟩) (fun _ h => by cases h) dX5_canBeSong_74
    · refine lv_iconst (v := nI 0) hx hb dX5_canBeSong_22 (by decide) ?_
      refine x_top (y := b2i (okSong k n st x)) (b2i_f (fun q => (wi_0 c_19).elim q.1.2.2.1 q.1.2.2.2)) ?_
      exact W.zret (v := b2i (okSong k n st x)) hx hb hr (b2i_n _) (fun t9 ht9 hW9 => ⟨rfl, ht9⟩) (fun _ h => by cases h) dX5_canBeSong_23

set_option maxHeartbeats 4000000 in
set_option maxRecDepth 100000 in
theorem c_X5_mustsInto (l : Launch) (G : mx_G) (aD : Nat → Nat) (SD : Nat → Option Nat) (WI : Nat → Int32) (aK : Nat → Nat) (FK : Nat → Int32) (RK : Nat → Nat → Int32) (aJ : Nat → Nat) (FJ : Nat → Int32) (RJ : Nat → Nat → Int32) (aT : Nat → Nat) (FT : Nat → Int32) (RT : Nat → Nat → Int32) (aN : Nat → Nat) (FN : Nat → Int32) (RN : Nat → Nat → Int32) (SR : Nat → Option Nat) (ra rl m12 : Nat) (so : So) (aS : Nat → Nat → Nat) (FS : Nat → Nat → Int32) (RS : Nat → Nat → Nat → Int32) (b : Nat) (hm12 : m12 = 12) (hb9 : b < 12) : mx_RO l yX5_mustsInto wsX5_mustsInto 0 0 G [.ref (aD 0), .int (nI b)] (fun H => va_P G.1 vwCl (([(aD 0, .inr (5, [.ref (aD 1), .ref (aD 2), .ref (aK 0), .ref (aJ 0), .ref (aT 0), .ref (aN 0)]))]) ++ (([(aD 1, .inl (G.2.2.2, 12, .inr (.inr (.inr (.inr (SD))))))]) ++ (([(aD 2, .inl (G.2.1, 144, .inl (WI)))]) ++ ((KW G aK FK RK) ++ ((JW G aJ FJ RJ) ++ ((TW G aT FT RT) ++ ((NW G aN FN RN SR ra rl) ++ (pool G so aS FS RS m12)))))))) H) (.int (nI (nMst WI b m12))) := by
  refine Met.ofW (cc := cX5_mustsInto) (maxL := 4) (ret := (some .int)) (by decide) rfl ?_
  intro p e s m args below meth c s₁ BB hml hv
  obtain ⟨rfl, hP, hK⟩ := hv
  have hx := BB.exec
  have hb := BB.bytes
  have hr := BB.returns
  have hts := atoms_spec (ws := wsX5_mustsInto) BB.pre
  have hown : s.vm.findClass RX5 = some m.cls := findClass_of_methodNamed BB.named
  have hlocks := BB.notSynchronized
  have hP : va_P G.1 vwCl (([(aD 0, .inr (5, [.ref (aD 1), .ref (aD 2), .ref (aK 0), .ref (aJ 0), .ref (aT 0), .ref (aN 0)]))]) ++ (([(aD 1, .inl (G.2.2.2, 12, .inr (.inr (.inr (.inr (SD))))))]) ++ (([(aD 2, .inl (G.2.1, 144, .inl (WI)))]) ++ ((KW G aK FK RK) ++ ((JW G aJ FJ RJ) ++ ((TW G aT FT RT) ++ ((NW G aN FN RN SR ra rl) ++ (pool G so aS FS RS m12)))))))) s.heap := hP
  have fl15 := hts (.fieldLink RX5 15 "MixDesk" "wishes" "[I") (by decide +kernel)
  have inX5 : ∀ w ∈ wsX50, w ∈ wsX5_mustsInto := by decide +kernel
  have hl := lv_entry ([.ref (aD 0), .int (nI b)]) (n := 4) (Nat.le_of_ble_eq_true rfl)
  rw [lg_entry_eq]
  generalize (lg_sl ([.ref (aD 0), .int (nI b)]) ++ List.replicate (4 - (lg_sl ([.ref (aD 0), .int (nI b)])).length) Slot.unset).toArray = ls at hl ⊢
  have hl : lv_has ls 4 [(0, .ref (aD 0)), (1, .int (nI b))] := hl
  show mx_WR l wsX5_mustsInto 0 0 p e s m (([.ref (aD 0), .int (nI b)] : List Value).toArray) below meth c (.int (nI (nMst WI b m12))) (F0 m 0 ls [])
  refine lv_iconst (v := nI 0) hx hb dX5_mustsInto_0 (by decide) ?_
  refine lv_istore_n (lv' := [(2, .int (nI 0)), (0, .ref (aD 0)), (1, .int (nI b))]) hx hb dX5_mustsInto_1 rfl hl (by decide) rfl (fun ls hl => ?_)
  refine lv_iconst (v := nI 0) hx hb dX5_mustsInto_2 (by decide) ?_
  refine lv_istore_n (lv' := [(3, .int (nI 0)), (2, .int (nI 0)), (0, .ref (aD 0)), (1, .int (nI b))]) hx hb dX5_mustsInto_3 rfl hl (by decide) rfl (fun ls hl => ?_)
  have lp4 : ∀ (nn : Nat) (i : Nat), 12 - i < nn → (i ≤ 12) → ∀ ls : Array Slot, lv_has ls 4 [(0, .ref (aD 0)), (1, .int (nI b)), (2, .int (nI (nMst WI b i))), (3, .int (nI i))] → mx_WR l wsX5_mustsInto 0 0 p e s m (([.ref (aD 0), .int (nI b)] : List Value).toArray) below meth c (.int (nI (nMst WI b m12))) (F0 m 4 ls []) := by
    intro nn
    induction nn with
    | zero => intro i hmu; exact absurd hmu (Nat.not_lt_zero _)
    | succ nn ih4 =>
      intro i hmu hi ls hl
      refine lv_iload_n hx hb dX5_mustsInto_4 rfl (lv_at hl 3 rfl) ?_
      refine lv_bipush (v := nI 12) hx hb dX5_mustsInto_5 (by decide) ?_
      refine x_icmp_ge (tgt := 39) hx hb (by omega) (by omega) dX5_mustsInto_7 (by decide) (fun c_7 => ?_) (fun c_7 => ?_)
      · refine lv_iload_n hx hb dX5_mustsInto_39 rfl (lv_at hl 2 rfl) ?_
        refine x_top (y := nI (nMst WI b m12)) (by rw [show i = m12 by omega]) ?_
        exact W.iret (v := nI (nMst WI b m12)) hx hb hr (fun t9 ht9 hW9 => ⟨rfl, ht9⟩) (fun _ h => by cases h) dX5_mustsInto_40
      · refine lv_iload_n hx hb dX5_mustsInto_10 rfl (lv_at hl 2 rfl) ?_
        refine lv_aload_n hx hb dX5_mustsInto_11 rfl (lv_at hl 0 rfl) ?_
        refine va_get (D := G.1) (ci := 5) (v := .ref (aD 2)) (C := RX5) (T := TX5) (N := 6) hx hb hts inX5 hown hK.1 hP 0 rfl rfl 1 (by decide) fl15 (fun _ h9 => h9) rfl dX5_mustsInto_12 ?_
        refine lv_iload_n hx hb dX5_mustsInto_15 rfl (lv_at hl 3 rfl) ?_
        refine lv_bipush (v := nI 12) hx hb dX5_mustsInto_16 (by decide) ?_
        refine x_imul (r := i * 12) hx hb dX5_mustsInto_18 (rfl) ?_
        refine lv_iload_n hx hb dX5_mustsInto_19 rfl (lv_at hl 1 rfl) ?_
        refine x_iadd (r := i * 12 + b) hx hb dX5_mustsInto_20 (rfl) ?_
        refine x_iald hx hb hK.1 hP 2 0 (n := 144) (f := WI) rfl rfl (k := i * 12 + b) (by omega) (by omega) dX5_mustsInto_21 ?_
        refine lv_iconst (v := nI 1) hx hb dX5_mustsInto_22 (by decide) ?_
        refine lv_icmp_ne (tgt := 30) hx hb dX5_mustsInto_23 (by decide) (fun c_23 => ?_) (fun c_23 => ?_)
        · refine lv_iconst (v := nI 0) hx hb dX5_mustsInto_30 (by decide) ?_
          refine x_iadd (r := nMst WI b (i + 1)) hx hb dX5_mustsInto_31 (by show nMst WI b i + _ = nMst WI b i + (if WI (i * 12 + b) = nI 1 then 1 else 0); rw [if_neg c_23]) ?_
          refine lv_istore_n (lv' := [(2, .int (nI (nMst WI b (i + 1)))), (0, .ref (aD 0)), (1, .int (nI b)), (3, .int (nI i))]) hx hb dX5_mustsInto_32 rfl hl (by decide) rfl (fun ls hl => ?_)
          refine x_iinc (lv' := [(3, .int (nI (i + 1))), (2, .int (nI (nMst WI b (i + 1)))), (0, .ref (aD 0)), (1, .int (nI b))]) hx hb dX5_mustsInto_33 hl (k := 3) rfl (x_inc1 _) (by decide) rfl (fun ls hl => ?_)
          refine lv_goto (tgt := 4) hx hb dX5_mustsInto_36 (by decide) ?_
          exact ih4 (i + 1) (by omega) (by omega) _ (lv_sub hl [2, 3, 1, 0] rfl)
        · refine lv_iconst (v := nI 1) hx hb dX5_mustsInto_26 (by decide) ?_
          refine lv_goto (tgt := 31) hx hb dX5_mustsInto_27 (by decide) ?_
          refine x_iadd (r := nMst WI b (i + 1)) hx hb dX5_mustsInto_31 (by show nMst WI b i + _ = nMst WI b i + (if WI (i * 12 + b) = nI 1 then 1 else 0); rw [if_pos c_23]) ?_
          refine lv_istore_n (lv' := [(2, .int (nI (nMst WI b (i + 1)))), (0, .ref (aD 0)), (1, .int (nI b)), (3, .int (nI i))]) hx hb dX5_mustsInto_32 rfl hl (by decide) rfl (fun ls hl => ?_)
          refine x_iinc (lv' := [(3, .int (nI (i + 1))), (2, .int (nI (nMst WI b (i + 1)))), (0, .ref (aD 0)), (1, .int (nI b))]) hx hb dX5_mustsInto_33 hl (k := 3) rfl (x_inc1 _) (by decide) rfl (fun ls hl => ?_)
          refine lv_goto (tgt := 4) hx hb dX5_mustsInto_36 (by decide) ?_
          exact ih4 (i + 1) (by omega) (by omega) _ (lv_sub hl [2, 3, 1, 0] rfl)
  exact lp4 (12 - 0 + 1) 0 (Nat.lt_succ_self _) (by omega) _ (lv_sub hl [2, 3, 1, 0] rfl)

set_option maxHeartbeats 4000000 in
set_option maxRecDepth 100000 in
theorem c_X5_wishAllows (l : Launch) (G : mx_G) (aD : Nat → Nat) (SD : Nat → Option Nat) (WI : Nat → Int32) (aK : Nat → Nat) (FK : Nat → Int32) (RK : Nat → Nat → Int32) (aJ : Nat → Nat) (FJ : Nat → Int32) (RJ : Nat → Nat → Int32) (aT : Nat → Nat) (FT : Nat → Int32) (RT : Nat → Nat → Int32) (aN : Nat → Nat) (FN : Nat → Int32) (RN : Nat → Nat → Int32) (SR : Nat → Option Nat) (ra rl m12 : Nat) (so : So) (aS : Nat → Nat → Nat) (FS : Nat → Nat → Int32) (RS : Nat → Nat → Nat → Int32) (a b : Nat) (hm12 : m12 = 12) (ha : a < 12) (hb9 : b < 12) : mx_RO l yX5_wishAllows wsX5_wishAllows 1 23 G [.ref (aD 0), .int (nI a), .int (nI b)] (fun H => va_P G.1 vwCl (([(aD 0, .inr (5, [.ref (aD 1), .ref (aD 2), .ref (aK 0), .ref (aJ 0), .ref (aT 0), .ref (aN 0)]))]) ++ (([(aD 1, .inl (G.2.2.2, 12, .inr (.inr (.inr (.inr (SD))))))]) ++ (([(aD 2, .inl (G.2.1, 144, .inl (WI)))]) ++ ((KW G aK FK RK) ++ ((JW G aJ FJ RJ) ++ ((TW G aT FT RT) ++ ((NW G aN FN RN SR ra rl) ++ (pool G so aS FS RS m12)))))))) H) (.int (b2i (okStep WI m12 a b))) := by
  refine Met.ofW (cc := cX5_wishAllows) (maxL := 4) (ret := (some .boolean)) (by decide) rfl ?_
  intro p e s m args below meth c s₁ BB hml hv
  obtain ⟨rfl, hP, hK⟩ := hv
  have hx := BB.exec
  have hb := BB.bytes
  have hr := BB.returns
  have hts := atoms_spec (ws := wsX5_wishAllows) BB.pre
  have hown : s.vm.findClass RX5 = some m.cls := findClass_of_methodNamed BB.named
  have hlocks := BB.notSynchronized
  have hP : va_P G.1 vwCl (([(aD 0, .inr (5, [.ref (aD 1), .ref (aD 2), .ref (aK 0), .ref (aJ 0), .ref (aT 0), .ref (aN 0)]))]) ++ (([(aD 1, .inl (G.2.2.2, 12, .inr (.inr (.inr (.inr (SD))))))]) ++ (([(aD 2, .inl (G.2.1, 144, .inl (WI)))]) ++ ((KW G aK FK RK) ++ ((JW G aJ FJ RJ) ++ ((TW G aT FT RT) ++ ((NW G aN FN RN SR ra rl) ++ (pool G so aS FS RS m12)))))))) s.heap := hP
  have hml9 := nMst_le WI b m12
  have fl15 := hts (.fieldLink RX5 15 "MixDesk" "wishes" "[I") (by decide +kernel)
  have inX5 : ∀ w ∈ wsX50, w ∈ wsX5_wishAllows := by decide +kernel
  have hl := lv_entry ([.ref (aD 0), .int (nI a), .int (nI b)]) (n := 4) (Nat.le_of_ble_eq_true rfl)
  rw [lg_entry_eq]
  generalize (lg_sl ([.ref (aD 0), .int (nI a), .int (nI b)]) ++ List.replicate (4 - (lg_sl ([.ref (aD 0), .int (nI a), .int (nI b)])).length) Slot.unset).toArray = ls at hl ⊢
  have hl : lv_has ls 4 [(0, .ref (aD 0)), (1, .int (nI a)), (2, .int (nI b))] := hl
  show mx_WR l wsX5_wishAllows 1 23 p e s m (([.ref (aD 0), .int (nI a), .int (nI b)] : List Value).toArray) below meth c (.int (b2i (okStep WI m12 a b))) (F0 m 0 ls [])
  refine lv_aload_n hx hb dX5_wishAllows_0 rfl (lv_at hl 0 rfl) ?_
  refine va_get (D := G.1) (ci := 5) (v := .ref (aD 2)) (C := RX5) (T := TX5) (N := 6) hx hb hts inX5 hown hK.1 hP 0 rfl rfl 1 (by decide) fl15 (fun _ h9 => h9) rfl dX5_wishAllows_1 ?_
  refine lv_iload_n hx hb dX5_wishAllows_4 rfl (lv_at hl 1 rfl) ?_
  refine lv_bipush (v := nI 12) hx hb dX5_wishAllows_5 (by decide) ?_
  refine x_imul (r := a * 12) hx hb dX5_wishAllows_7 (rfl) ?_
  refine lv_iload_n hx hb dX5_wishAllows_8 rfl (lv_at hl 2 rfl) ?_
  refine x_iadd (r := a * 12 + b) hx hb dX5_wishAllows_9 (rfl) ?_
  refine x_iald hx hb hK.1 hP 2 0 (n := 144) (f := WI) rfl rfl (k := a * 12 + b) (by omega) (by omega) dX5_wishAllows_10 ?_
  refine lv_istore_n (lv' := [(3, .int (WI (a * 12 + b))), (0, .ref (aD 0)), (1, .int (nI a)), (2, .int (nI b))]) hx hb dX5_wishAllows_11 rfl hl (by decide) rfl (fun ls hl => ?_)
  refine lv_iload_n hx hb dX5_wishAllows_12 rfl (lv_at hl 0 rfl) ?_
  refine lv_iconst (v := nI 2) hx hb dX5_wishAllows_13 (by decide) ?_
  refine lv_icmp_eq (tgt := 39) hx hb dX5_wishAllows_14 (by decide) (fun c_14 => ?_) (fun c_14 => ?_)
  · refine lv_iconst (v := nI 0) hx hb dX5_wishAllows_39 (by decide) ?_
    refine x_top (y := b2i (okStep WI m12 a b)) (b2i_f (fun q => q.1 c_14)) ?_
    exact W.zret (v := b2i (okStep WI m12 a b)) hx hb hr (b2i_n _) (fun t9 ht9 hW9 => ⟨rfl, ht9⟩) (fun _ h => by cases h) dX5_wishAllows_40
  · refine lv_aload_n hx hb dX5_wishAllows_17 rfl (lv_at hl 1 rfl) ?_
    refine lv_iload_n hx hb dX5_wishAllows_18 rfl (lv_at hl 3 rfl) ?_
    refine mx_callRO (v := .int (nI (nMst WI b m12))) (va_runV (As := [.int (nI b)]) (rest := []) ⟨hx, hb, hml, hown, hts⟩ (c_X5_mustsInto l G aD SD WI aK FK RK aJ FJ RJ aT FT RT aN FN RN SR ra rl m12 so aS FS RS b hm12 (by omega)) (cwV 1 hts gX5_wishAllows_X5_mustsInto rfl rfl rfl (by decide +kernel) ⟨Nat.le_of_ble_eq_true rfl, Nat.le_of_ble_eq_true rfl⟩) (mx_preV hK hP (va_recv hK.1 hP (ci := 5) (q0 := 0) rfl rfl)) rfl rfl hl.1 rfl (lv_room (Nat.le_of_ble_eq_true rfl)) dX5_wishAllows_19 ⟨Nat.zero_le _, Nat.zero_le _⟩) ?_
    refine lv_iload_n hx hb dX5_wishAllows_22 rfl (lv_at hl 0 rfl) ?_
    refine lv_iconst (v := nI 1) hx hb dX5_wishAllows_23 (by decide) ?_
    refine lv_icmp_ne (tgt := 31) hx hb dX5_wishAllows_24 (by decide) (fun c_24 => ?_) (fun c_24 => ?_)
    · refine lv_iconst (v := nI 0) hx hb dX5_wishAllows_31 (by decide) ?_
      refine x_icmp_ne (tgt := 39) hx hb (by omega) (by omega) dX5_wishAllows_32 (by decide) (fun c_32 => ?_) (fun c_32 => ?_)
      · refine lv_iconst (v := nI 0) hx hb dX5_wishAllows_39 (by decide) ?_
        refine x_top (y := b2i (okStep WI m12 a b)) (b2i_f (fun q => c_32 (by rw [q.2, if_neg c_24]))) ?_
        exact W.zret (v := b2i (okStep WI m12 a b)) hx hb hr (b2i_n _) (fun t9 ht9 hW9 => ⟨rfl, ht9⟩) (fun _ h => by cases h) dX5_wishAllows_40
      · refine lv_iconst (v := nI 1) hx hb dX5_wishAllows_35 (by decide) ?_
        refine lv_goto (tgt := 40) hx hb dX5_wishAllows_36 (by decide) ?_
        refine x_top (y := b2i (okStep WI m12 a b)) (b2i_t ⟨c_14, by rw [if_neg c_24]; exact c_32⟩) ?_
        exact W.zret (v := b2i (okStep WI m12 a b)) hx hb hr (b2i_n _) (fun t9 ht9 hW9 => ⟨rfl, ht9⟩) (fun _ h => by cases h) dX5_wishAllows_40
    · refine lv_iconst (v := nI 1) hx hb dX5_wishAllows_27 (by decide) ?_
      refine lv_goto (tgt := 32) hx hb dX5_wishAllows_28 (by decide) ?_
      refine x_icmp_ne (tgt := 39) hx hb (by omega) (by omega) dX5_wishAllows_32 (by decide) (fun c_32 => ?_) (fun c_32 => ?_)
      · refine lv_iconst (v := nI 0) hx hb dX5_wishAllows_39 (by decide) ?_
        refine x_top (y := b2i (okStep WI m12 a b)) (b2i_f (fun q => c_32 (by rw [q.2, if_pos c_24]))) ?_
        exact W.zret (v := b2i (okStep WI m12 a b)) hx hb hr (b2i_n _) (fun t9 ht9 hW9 => ⟨rfl, ht9⟩) (fun _ h => by cases h) dX5_wishAllows_40
      · refine lv_iconst (v := nI 1) hx hb dX5_wishAllows_35 (by decide) ?_
        refine lv_goto (tgt := 40) hx hb dX5_wishAllows_36 (by decide) ?_
        refine x_top (y := b2i (okStep WI m12 a b)) (b2i_t ⟨c_14, by rw [if_pos c_24]; exact c_32⟩) ?_
        exact W.zret (v := b2i (okStep WI m12 a b)) hx hb hr (b2i_n _) (fun t9 ht9 hW9 => ⟨rfl, ht9⟩) (fun _ h => by cases h) dX5_wishAllows_40

set_option maxHeartbeats 4000000 in
set_option maxRecDepth 100000 in
theorem c_X5_of (l : Launch) (G : mx_G) (aD : Nat → Nat) (SD : Nat → Option Nat) (WI : Nat → Int32) (aK : Nat → Nat) (FK : Nat → Int32) (RK : Nat → Nat → Int32) (aJ : Nat → Nat) (FJ : Nat → Int32) (RJ : Nat → Nat → Int32) (aT : Nat → Nat) (FT : Nat → Int32) (RT : Nat → Nat → Int32) (aN : Nat → Nat) (FN : Nat → Int32) (RN : Nat → Nat → Int32) (SR : Nat → Option Nat) (ra rl m12 : Nat) (so : So) (aS : Nat → Nat → Nat) (FS : Nat → Nat → Int32) (RS : Nat → Nat → Nat → Int32) (x w : Int32) (hm12 : m12 = 12) (hd : dOk so aS FS RS SD) : mx_RO l yX5_of wsX5_of 2 43 G [.ref (aD 0), .int x, .int w] (fun H => va_P G.1 vwCl (([(aD 0, .inr (5, [.ref (aD 1), .ref (aD 2), .ref (aK 0), .ref (aJ 0), .ref (aT 0), .ref (aN 0)]))]) ++ (([(aD 1, .inl (G.2.2.2, 12, .inr (.inr (.inr (.inr (SD))))))]) ++ (([(aD 2, .inl (G.2.1, 144, .inl (WI)))]) ++ ((KW G aK FK RK) ++ ((JW G aJ FJ RJ) ++ ((TW G aT FT RT) ++ ((NW G aN FN RN SR ra rl) ++ (pool G so aS FS RS m12)))))))) H) (.int (aOf so x w)) := by
  refine Met.ofW (cc := cX5_of) (maxL := 4) (ret := (some .int)) (by decide) rfl ?_
  intro p e s m args below meth c s₁ BB hml hv
  obtain ⟨rfl, hP, hK⟩ := hv
  have hx := BB.exec
  have hb := BB.bytes
  have hr := BB.returns
  have hts := atoms_spec (ws := wsX5_of) BB.pre
  have hown : s.vm.findClass RX5 = some m.cls := findClass_of_methodNamed BB.named
  have hlocks := BB.notSynchronized
  have hP : va_P G.1 vwCl (([(aD 0, .inr (5, [.ref (aD 1), .ref (aD 2), .ref (aK 0), .ref (aJ 0), .ref (aT 0), .ref (aN 0)]))]) ++ (([(aD 1, .inl (G.2.2.2, 12, .inr (.inr (.inr (.inr (SD))))))]) ++ (([(aD 2, .inl (G.2.1, 144, .inl (WI)))]) ++ ((KW G aK FK RK) ++ ((JW G aJ FJ RJ) ++ ((TW G aT FT RT) ++ ((NW G aN FN RN SR ra rl) ++ (pool G so aS FS RS m12)))))))) s.heap := hP
  have fl102 := hts (.fieldLink RX5 102 "MixDesk$Song" "playedBars" "I") (by decide +kernel)
  have fl66 := hts (.fieldLink RX5 66 "MixDesk$Song" "key" "I") (by decide +kernel)
  have fl70 := hts (.fieldLink RX5 70 "MixDesk$Song" "heat" "I") (by decide +kernel)
  have fl73 := hts (.fieldLink RX5 73 "MixDesk$Song" "phrase" "I") (by decide +kernel)
  have fl79 := hts (.fieldLink RX5 79 "MixDesk$Song" "bars" "I") (by decide +kernel)
  have fl93 := hts (.fieldLink RX5 93 "MixDesk$Song" "kind" "I") (by decide +kernel)
  have fl96 := hts (.fieldLink RX5 96 "MixDesk$Song" "step" "I") (by decide +kernel)
  have fl99 := hts (.fieldLink RX5 99 "MixDesk$Song" "more" "I") (by decide +kernel)
  have inX3 : ∀ w ∈ wsX30, w ∈ wsX5_of := by decide +kernel
  have hl := lv_entry ([.ref (aD 0), .int x, .int w]) (n := 4) (Nat.le_of_ble_eq_true rfl)
  rw [lg_entry_eq]
  generalize (lg_sl ([.ref (aD 0), .int x, .int w]) ++ List.replicate (4 - (lg_sl ([.ref (aD 0), .int x, .int w])).length) Slot.unset).toArray = ls at hl ⊢
  have hl : lv_has ls 4 [(0, .ref (aD 0)), (1, .int x), (2, .int w)] := hl
  show mx_WR l wsX5_of 2 43 p e s m (([.ref (aD 0), .int x, .int w] : List Value).toArray) below meth c (.int (aOf so x w)) (F0 m 0 ls [])
  refine lv_aload_n hx hb dX5_of_0 rfl (lv_at hl 0 rfl) ?_
  refine lv_iload_n hx hb dX5_of_1 rfl (lv_at hl 1 rfl) ?_
  refine mx_callRO (v := va_rf (sRf so aS x)) (va_runV (As := [.int x]) (rest := []) ⟨hx, hb, hml, hown, hts⟩ (c_X5_songAt l G aD SD WI aK FK RK aJ FJ RJ aT FT RT aN FN RN SR ra rl m12 so aS FS RS x hm12 hd) (cwV 1 hts gX5_of_X5_songAt rfl rfl rfl (by decide +kernel) ⟨Nat.le_of_ble_eq_true rfl, Nat.le_of_ble_eq_true rfl⟩) (mx_preV hK hP (va_recv hK.1 hP (ci := 5) (q0 := 0) rfl rfl)) rfl rfl hl.1 rfl (lv_room (Nat.le_of_ble_eq_true rfl)) dX5_of_2 ⟨Nat.zero_le _, Nat.zero_le _⟩) ?_
  rcases sat_cases so x with ho | ⟨j, σ, rfl, hj, hso, hσ⟩
  · rw [sRf_n ho]
    refine lv_astore_nN (lv' := [(3, .null), (0, .ref (aD 0)), (1, .int x), (2, .int w)]) hx hb dX5_of_5 rfl hl (by decide) rfl (fun ls hl => ?_)
    refine lv_aload_nN hx hb dX5_of_6 rfl (lv_at hl 0 rfl) ?_
    refine lv_ifnonnullN hx hb dX5_of_7 ?_
    refine lv_sipush (v := (-1000)) hx hb dX5_of_10 (by decide) ?_
    refine x_top (y := aOf so x w) (by simp only [aOf, ho]) ?_
    exact W.iret (v := aOf so x w) hx hb hr (fun t9 ht9 hW9 => ⟨rfl, ht9⟩) (fun _ h => by cases h) dX5_of_13
  · rw [sRf_s hj hσ]
    obtain ⟨hsd, hnum, ok, hN, hCC, hTB, hQ⟩ := (hd j hj).2 σ hso
    obtain ⟨f1, f2, f3, f4, f5, f6, f7, f8, f9, f10⟩ := id hN
    obtain ⟨hB2, hB64, hAE, hEB, hT1, hT4, hPB, hP1, hP16, hC, hst, hmo⟩ := id ok
    have hpb := gPB_le ok
    have hF9 := gFst_le ok (gB σ)
    have hP : va_P G.1 vwCl (([(aD 0, .inr (5, [.ref (aD 1), .ref (aD 2), .ref (aK 0), .ref (aJ 0), .ref (aT 0), .ref (aN 0)]))]) ++ (([(aD 1, .inl (G.2.2.2, 12, .inr (.inr (.inr (.inr (SD))))))]) ++ (([(aD 2, .inl (G.2.1, 144, .inl (WI)))]) ++ ((KW G aK FK RK) ++ ((JW G aJ FJ RJ) ++ ((TW G aT FT RT) ++ ((NW G aN FN RN SR ra rl) ++ (SW G (aS j) (FS j) (RS j))))))))) s.heap := mx_Psub hP (mx_ap (mx_ap (mx_ap (mx_ap (mx_ap (mx_ap (mx_ap (pool_mem hso m12 (by omega)))))))))
    refine lv_astore_n (lv' := [(3, .ref ((aS j) 0)), (0, .ref (aD 0)), (1, .int (nI j)), (2, .int w)]) hx hb dX5_of_5 rfl hl (by decide) rfl (fun ls hl => ?_)
    refine lv_aload_n hx hb dX5_of_6 rfl (lv_at hl 0 rfl) ?_
    refine lv_ifnonnull (tgt := 14) hx hb dX5_of_7 (by decide) ?_
    refine lv_iload_n hx hb dX5_of_14 rfl (lv_at hl 3 rfl) ?_
    rcases sw_of 10 (by omega) w with ⟨kk, hkk, e_15⟩ | h_15
    · rcases (show kk = 0 ∨ kk = 1 ∨ kk = 2 ∨ kk = 3 ∨ kk = 4 ∨ kk = 5 ∨ kk = 6 ∨ kk = 7 ∨ kk = 8 ∨ kk = 9 by omega) with rfl | rfl | rfl | rfl | rfl | rfl | rfl | rfl | rfl | rfl
      · subst e_15
        refine lv_tableIn (x := nI 0) hx hb dX5_of_15 (by decide) (by decide) (off := 53) (by decide) (tgt := 68) (by decide) ?_
        refine lv_aload_n hx hb dX5_of_68 rfl (lv_at hl 0 rfl) ?_
        refine va_get (D := G.1) (ci := 3) (v := .int ((FS j) 1)) (C := RX3) (T := TX3) (N := 19) hx hb hts inX3 hown hK.1 hP 24 rfl rfl 1 (by decide) fl93 (fun _ h9 => h9) rfl dX5_of_69 ?_
        refine x_top (y := gKind σ) (f1) ?_
        refine x_top (y := aOf so (nI j) (nI 0)) (by simp only [aOf, hσ]; rfl) ?_
        exact W.iret (v := aOf so (nI j) (nI 0)) hx hb hr (fun t9 ht9 hW9 => ⟨rfl, ht9⟩) (fun _ h => by cases h) dX5_of_72
      · subst e_15
        refine lv_tableIn (x := nI 1) hx hb dX5_of_15 (by decide) (by decide) (off := 58) (by decide) (tgt := 73) (by decide) ?_
        refine lv_aload_n hx hb dX5_of_73 rfl (lv_at hl 0 rfl) ?_
        refine va_get (D := G.1) (ci := 3) (v := .int ((FS j) 2)) (C := RX3) (T := TX3) (N := 19) hx hb hts inX3 hown hK.1 hP 24 rfl rfl 2 (by decide) fl79 (fun _ h9 => h9) rfl dX5_of_74 ?_
        refine x_top (y := nI (gB σ)) (f2) ?_
        refine x_top (y := aOf so (nI j) (nI 1)) (by simp only [aOf, hσ]; rfl) ?_
        exact W.iret (v := aOf so (nI j) (nI 1)) hx hb hr (fun t9 ht9 hW9 => ⟨rfl, ht9⟩) (fun _ h => by cases h) dX5_of_77
      · subst e_15
        refine lv_tableIn (x := nI 2) hx hb dX5_of_15 (by decide) (by decide) (off := 63) (by decide) (tgt := 78) (by decide) ?_
        refine lv_aload_n hx hb dX5_of_78 rfl (lv_at hl 0 rfl) ?_
        refine va_get (D := G.1) (ci := 3) (v := .int ((FS j) 3)) (C := RX3) (T := TX3) (N := 19) hx hb hts inX3 hown hK.1 hP 24 rfl rfl 3 (by decide) fl96 (fun _ h9 => h9) rfl dX5_of_79 ?_
        refine x_top (y := gStep σ) (f3) ?_
        refine x_top (y := aOf so (nI j) (nI 2)) (by simp only [aOf, hσ]; rfl) ?_
        exact W.iret (v := aOf so (nI j) (nI 2)) hx hb hr (fun t9 ht9 hW9 => ⟨rfl, ht9⟩) (fun _ h => by cases h) dX5_of_82
      · subst e_15
        refine lv_tableIn (x := nI 3) hx hb dX5_of_15 (by decide) (by decide) (off := 68) (by decide) (tgt := 83) (by decide) ?_
        refine lv_aload_n hx hb dX5_of_83 rfl (lv_at hl 0 rfl) ?_
        refine va_get (D := G.1) (ci := 3) (v := .int ((FS j) 4)) (C := RX3) (T := TX3) (N := 19) hx hb hts inX3 hown hK.1 hP 24 rfl rfl 4 (by decide) fl99 (fun _ h9 => h9) rfl dX5_of_84 ?_
        refine x_top (y := gMore σ) (f4) ?_
        refine x_top (y := aOf so (nI j) (nI 3)) (by simp only [aOf, hσ]; rfl) ?_
        exact W.iret (v := aOf so (nI j) (nI 3)) hx hb hr (fun t9 ht9 hW9 => ⟨rfl, ht9⟩) (fun _ h => by cases h) dX5_of_87
      · subst e_15
        refine lv_tableIn (x := nI 4) hx hb dX5_of_15 (by decide) (by decide) (off := 73) (by decide) (tgt := 88) (by decide) ?_
        refine lv_aload_n hx hb dX5_of_88 rfl (lv_at hl 0 rfl) ?_
        refine va_get (D := G.1) (ci := 3) (v := .int ((FS j) 5)) (C := RX3) (T := TX3) (N := 19) hx hb hts inX3 hown hK.1 hP 24 rfl rfl 5 (by decide) fl66 (fun _ h9 => h9) rfl dX5_of_89 ?_
        refine x_top (y := gKey σ) (f5) ?_
        refine x_top (y := aOf so (nI j) (nI 4)) (by simp only [aOf, hσ]; rfl) ?_
        exact W.iret (v := aOf so (nI j) (nI 4)) hx hb hr (fun t9 ht9 hW9 => ⟨rfl, ht9⟩) (fun _ h => by cases h) dX5_of_92
      · subst e_15
        refine lv_tableIn (x := nI 5) hx hb dX5_of_15 (by decide) (by decide) (off := 78) (by decide) (tgt := 93) (by decide) ?_
        refine lv_aload_n hx hb dX5_of_93 rfl (lv_at hl 0 rfl) ?_
        refine va_get (D := G.1) (ci := 3) (v := .int ((FS j) 6)) (C := RX3) (T := TX3) (N := 19) hx hb hts inX3 hown hK.1 hP 24 rfl rfl 6 (by decide) fl70 (fun _ h9 => h9) rfl dX5_of_94 ?_
        refine x_top (y := gHeat σ) (f6) ?_
        refine x_top (y := aOf so (nI j) (nI 5)) (by simp only [aOf, hσ]; rfl) ?_
        exact W.iret (v := aOf so (nI j) (nI 5)) hx hb hr (fun t9 ht9 hW9 => ⟨rfl, ht9⟩) (fun _ h => by cases h) dX5_of_97
      · subst e_15
        refine lv_tableIn (x := nI 6) hx hb dX5_of_15 (by decide) (by decide) (off := 83) (by decide) (tgt := 98) (by decide) ?_
        refine lv_aload_n hx hb dX5_of_98 rfl (lv_at hl 0 rfl) ?_
        refine va_get (D := G.1) (ci := 3) (v := .int ((FS j) 7)) (C := RX3) (T := TX3) (N := 19) hx hb hts inX3 hown hK.1 hP 24 rfl rfl 7 (by decide) fl73 (fun _ h9 => h9) rfl dX5_of_99 ?_
        refine x_top (y := nI (gPh σ)) (f7) ?_
        refine x_top (y := aOf so (nI j) (nI 6)) (by simp only [aOf, hσ]; rfl) ?_
        exact W.iret (v := aOf so (nI j) (nI 6)) hx hb hr (fun t9 ht9 hW9 => ⟨rfl, ht9⟩) (fun _ h => by cases h) dX5_of_102
      · subst e_15
        refine lv_tableIn (x := nI 7) hx hb dX5_of_15 (by decide) (by decide) (off := 88) (by decide) (tgt := 103) (by decide) ?_
        refine lv_aload_n hx hb dX5_of_103 rfl (lv_at hl 0 rfl) ?_
        refine va_get (D := G.1) (ci := 3) (v := .int ((FS j) 11)) (C := RX3) (T := TX3) (N := 19) hx hb hts inX3 hown hK.1 hP 24 rfl rfl 11 (by decide) fl102 (fun _ h9 => h9) rfl dX5_of_104 ?_
        refine x_top (y := nI (gPB σ)) (hQ.1) ?_
        refine x_top (y := aOf so (nI j) (nI 7)) (by simp only [aOf, hσ]; rfl) ?_
        exact W.iret (v := aOf so (nI j) (nI 7)) hx hb hr (fun t9 ht9 hW9 => ⟨rfl, ht9⟩) (fun _ h => by cases h) dX5_of_107
      · subst e_15
        refine lv_tableIn (x := nI 8) hx hb dX5_of_15 (by decide) (by decide) (off := 93) (by decide) (tgt := 108) (by decide) ?_
        refine lv_aload_n hx hb dX5_of_108 rfl (lv_at hl 0 rfl) ?_
        refine mx_callRO (v := .int (nI (gFst σ (gB σ)))) (va_runV (As := []) (rest := []) ⟨hx, hb, hml, hown, hts⟩ (c_X3_beats l G (aS j) (FS j) (RS j) σ hN ok hTB) (cwV 0 hts gX5_of_X3_beats rfl rfl rfl (by decide +kernel) ⟨Nat.le_of_ble_eq_true rfl, Nat.le_of_ble_eq_true rfl⟩) (mx_preV hK (mx_Psub hP (fun q9 => fun h => List.mem_append_right _ (List.mem_append_right _ (List.mem_append_right _ (List.mem_append_right _ (List.mem_append_right _ (List.mem_append_right _ (List.mem_append_right _ (h))))))))) (va_recv hK.1 hP (ci := 3) (q0 := 24) rfl rfl)) rfl rfl hl.1 rfl (lv_room (Nat.le_of_ble_eq_true rfl)) dX5_of_109 ⟨Nat.zero_le _, Nat.zero_le _⟩) ?_
        refine x_top (y := aOf so (nI j) (nI 8)) (by simp only [aOf, hσ]; rfl) ?_
        exact W.iret (v := aOf so (nI j) (nI 8)) hx hb hr (fun t9 ht9 hW9 => ⟨rfl, ht9⟩) (fun _ h => by cases h) dX5_of_112
      · subst e_15
        refine lv_tableIn (x := nI 9) hx hb dX5_of_15 (by decide) (by decide) (off := 98) (by decide) (tgt := 113) (by decide) ?_
        refine lv_aload_n hx hb dX5_of_113 rfl (lv_at hl 0 rfl) ?_
        refine mx_callRO (v := .int (nI (nsum (fun b => if gC σ b < 4 then 1 else 0) (gB σ)))) (va_runV (As := []) (rest := []) ⟨hx, hb, hml, hown, hts⟩ (c_X3_brokenBars l G (aS j) (FS j) (RS j) σ hN ok hCC) (cwV 0 hts gX5_of_X3_brokenBars rfl rfl rfl (by decide +kernel) ⟨Nat.le_of_ble_eq_true rfl, Nat.le_of_ble_eq_true rfl⟩) (mx_preV hK (mx_Psub hP (fun q9 => fun h => List.mem_append_right _ (List.mem_append_right _ (List.mem_append_right _ (List.mem_append_right _ (List.mem_append_right _ (List.mem_append_right _ (List.mem_append_right _ (h))))))))) (va_recv hK.1 hP (ci := 3) (q0 := 24) rfl rfl)) rfl rfl hl.1 rfl (lv_room (Nat.le_of_ble_eq_true rfl)) dX5_of_114 ⟨Nat.zero_le _, Nat.zero_le _⟩) ?_
        refine x_top (y := aOf so (nI j) (nI 9)) (by simp only [aOf, hσ]; rfl) ?_
        exact W.iret (v := aOf so (nI j) (nI 9)) hx hb hr (fun t9 ht9 hW9 => ⟨rfl, ht9⟩) (fun _ h => by cases h) dX5_of_117
    · refine lv_tableOut (tgt := 118) hx hb dX5_of_15 h_15 (by decide) ?_
      refine lv_sipush (v := (-1000)) hx hb dX5_of_118 (by decide) ?_
      refine x_top (y := aOf so (nI j) w) (by simp only [aOf, hσ]; rw [if_neg (sw_ne 0 h_15), if_neg (sw_ne 1 h_15), if_neg (sw_ne 2 h_15), if_neg (sw_ne 3 h_15), if_neg (sw_ne 4 h_15), if_neg (sw_ne 5 h_15), if_neg (sw_ne 6 h_15), if_neg (sw_ne 7 h_15), if_neg (sw_ne 8 h_15), if_neg (sw_ne 9 h_15)]) ?_
      exact W.iret (v := aOf so (nI j) w) hx hb hr (fun t9 ht9 hW9 => ⟨rfl, ht9⟩) (fun _ h => by cases h) dX5_of_121

set_option maxHeartbeats 4000000 in
set_option maxRecDepth 100000 in
theorem c_X5_beat (l : Launch) (G : mx_G) (aD : Nat → Nat) (SD : Nat → Option Nat) (WI : Nat → Int32) (aK : Nat → Nat) (FK : Nat → Int32) (RK : Nat → Nat → Int32) (aJ : Nat → Nat) (FJ : Nat → Int32) (RJ : Nat → Nat → Int32) (aT : Nat → Nat) (FT : Nat → Int32) (RT : Nat → Nat → Int32) (aN : Nat → Nat) (FN : Nat → Int32) (RN : Nat → Nat → Int32) (SR : Nat → Option Nat) (ra rl m12 : Nat) (so : So) (aS : Nat → Nat → Nat) (FS : Nat → Nat → Int32) (RS : Nat → Nat → Nat → Int32) (x k : Int32) (hm12 : m12 = 12) (hd : dOk so aS FS RS SD) : mx_RO l yX5_beat wsX5_beat 2 43 G [.ref (aD 0), .int x, .int k] (fun H => va_P G.1 vwCl (([(aD 0, .inr (5, [.ref (aD 1), .ref (aD 2), .ref (aK 0), .ref (aJ 0), .ref (aT 0), .ref (aN 0)]))]) ++ (([(aD 1, .inl (G.2.2.2, 12, .inr (.inr (.inr (.inr (SD))))))]) ++ (([(aD 2, .inl (G.2.1, 144, .inl (WI)))]) ++ ((KW G aK FK RK) ++ ((JW G aJ FJ RJ) ++ ((TW G aT FT RT) ++ ((NW G aN FN RN SR ra rl) ++ (pool G so aS FS RS m12)))))))) H) (.int (aBeat so x k)) := by
  refine Met.ofW (cc := cX5_beat) (maxL := 4) (ret := (some .int)) (by decide) rfl ?_
  intro p e s m args below meth c s₁ BB hml hv
  obtain ⟨rfl, hP, hK⟩ := hv
  have hx := BB.exec
  have hb := BB.bytes
  have hr := BB.returns
  have hts := atoms_spec (ws := wsX5_beat) BB.pre
  have hown : s.vm.findClass RX5 = some m.cls := findClass_of_methodNamed BB.named
  have hlocks := BB.notSynchronized
  have hP : va_P G.1 vwCl (([(aD 0, .inr (5, [.ref (aD 1), .ref (aD 2), .ref (aK 0), .ref (aJ 0), .ref (aT 0), .ref (aN 0)]))]) ++ (([(aD 1, .inl (G.2.2.2, 12, .inr (.inr (.inr (.inr (SD))))))]) ++ (([(aD 2, .inl (G.2.1, 144, .inl (WI)))]) ++ ((KW G aK FK RK) ++ ((JW G aJ FJ RJ) ++ ((TW G aT FT RT) ++ ((NW G aN FN RN SR ra rl) ++ (pool G so aS FS RS m12)))))))) s.heap := hP
  have fl112 := hts (.fieldLink RX5 112 "MixDesk$Song" "tickOf" "[I") (by decide +kernel)
  have inX3 : ∀ w ∈ wsX30, w ∈ wsX5_beat := by decide +kernel
  have hl := lv_entry ([.ref (aD 0), .int x, .int k]) (n := 4) (Nat.le_of_ble_eq_true rfl)
  rw [lg_entry_eq]
  generalize (lg_sl ([.ref (aD 0), .int x, .int k]) ++ List.replicate (4 - (lg_sl ([.ref (aD 0), .int x, .int k])).length) Slot.unset).toArray = ls at hl ⊢
  have hl : lv_has ls 4 [(0, .ref (aD 0)), (1, .int x), (2, .int k)] := hl
  show mx_WR l wsX5_beat 2 43 p e s m (([.ref (aD 0), .int x, .int k] : List Value).toArray) below meth c (.int (aBeat so x k)) (F0 m 0 ls [])
  refine lv_aload_n hx hb dX5_beat_0 rfl (lv_at hl 0 rfl) ?_
  refine lv_iload_n hx hb dX5_beat_1 rfl (lv_at hl 1 rfl) ?_
  refine mx_callRO (v := va_rf (sRf so aS x)) (va_runV (As := [.int x]) (rest := []) ⟨hx, hb, hml, hown, hts⟩ (c_X5_songAt l G aD SD WI aK FK RK aJ FJ RJ aT FT RT aN FN RN SR ra rl m12 so aS FS RS x hm12 hd) (cwV 1 hts gX5_beat_X5_songAt rfl rfl rfl (by decide +kernel) ⟨Nat.le_of_ble_eq_true rfl, Nat.le_of_ble_eq_true rfl⟩) (mx_preV hK hP (va_recv hK.1 hP (ci := 5) (q0 := 0) rfl rfl)) rfl rfl hl.1 rfl (lv_room (Nat.le_of_ble_eq_true rfl)) dX5_beat_2 ⟨Nat.zero_le _, Nat.zero_le _⟩) ?_
  rcases sat_cases so x with ho | ⟨j, σ, rfl, hj, hso, hσ⟩
  · rw [sRf_n ho]
    refine lv_astore_nN (lv' := [(3, .null), (0, .ref (aD 0)), (1, .int x), (2, .int k)]) hx hb dX5_beat_5 rfl hl (by decide) rfl (fun ls hl => ?_)
    refine lv_aload_nN hx hb dX5_beat_6 rfl (lv_at hl 0 rfl) ?_
    refine lv_ifnullN (tgt := 22) hx hb dX5_beat_7 (by decide) ?_
    refine lv_iconst (v := (-1)) hx hb dX5_beat_22 (by decide) ?_
    refine x_top (y := aBeat so x k) (by simp only [aBeat, ho]) ?_
    exact W.iret (v := aBeat so x k) hx hb hr (fun t9 ht9 hW9 => ⟨rfl, ht9⟩) (fun _ h => by cases h) dX5_beat_23
  · rw [sRf_s hj hσ]
    obtain ⟨hsd, hnum, ok, hN, hCC, hTB, hQ⟩ := (hd j hj).2 σ hso
    obtain ⟨f1, f2, f3, f4, f5, f6, f7, f8, f9, f10⟩ := id hN
    obtain ⟨hB2, hB64, hAE, hEB, hT1, hT4, hPB, hP1, hP16, hC, hst, hmo⟩ := id ok
    have hpb := gPB_le ok
    have hF9 := gFst_le ok (gB σ)
    have hP : va_P G.1 vwCl (([(aD 0, .inr (5, [.ref (aD 1), .ref (aD 2), .ref (aK 0), .ref (aJ 0), .ref (aT 0), .ref (aN 0)]))]) ++ (([(aD 1, .inl (G.2.2.2, 12, .inr (.inr (.inr (.inr (SD))))))]) ++ (([(aD 2, .inl (G.2.1, 144, .inl (WI)))]) ++ ((KW G aK FK RK) ++ ((JW G aJ FJ RJ) ++ ((TW G aT FT RT) ++ ((NW G aN FN RN SR ra rl) ++ (SW G (aS j) (FS j) (RS j))))))))) s.heap := mx_Psub hP (mx_ap (mx_ap (mx_ap (mx_ap (mx_ap (mx_ap (mx_ap (pool_mem hso m12 (by omega)))))))))
    refine lv_astore_n (lv' := [(3, .ref ((aS j) 0)), (0, .ref (aD 0)), (1, .int (nI j)), (2, .int k)]) hx hb dX5_beat_5 rfl hl (by decide) rfl (fun ls hl => ?_)
    refine lv_aload_n hx hb dX5_beat_6 rfl (lv_at hl 0 rfl) ?_
    refine lv_ifnull hx hb dX5_beat_7 ?_
    refine lv_iload_n hx hb dX5_beat_10 rfl (lv_at hl 3 rfl) ?_
    refine lv_iconst (v := nI 0) hx hb dX5_beat_11 (by decide) ?_
    refine lv_aload_n hx hb dX5_beat_12 rfl (lv_at hl 0 rfl) ?_
    refine mx_callRO (v := .int (nI (gFst σ (gB σ)))) (va_runV (As := []) (rest := [.int (nI 0), .int k]) ⟨hx, hb, hml, hown, hts⟩ (c_X3_beats l G (aS j) (FS j) (RS j) σ hN ok hTB) (cwV 0 hts gX5_beat_X3_beats rfl rfl rfl (by decide +kernel) ⟨Nat.le_of_ble_eq_true rfl, Nat.le_of_ble_eq_true rfl⟩) (mx_preV hK (mx_Psub hP (fun q9 => fun h => List.mem_append_right _ (List.mem_append_right _ (List.mem_append_right _ (List.mem_append_right _ (List.mem_append_right _ (List.mem_append_right _ (List.mem_append_right _ (h))))))))) (va_recv hK.1 hP (ci := 3) (q0 := 24) rfl rfl)) rfl rfl hl.1 rfl (lv_room (Nat.le_of_ble_eq_true rfl)) dX5_beat_13 ⟨Nat.zero_le _, Nat.zero_le _⟩) ?_
    refine mx_callRO (v := .int (wi k (nI 0) (nI (gFst σ (gB σ))))) (va_runS (As := [.int k, .int (nI 0), .int (nI (gFst σ (gB σ)))]) (rest := []) ⟨hx, hb, hml, hown, hts⟩ (c_X5_within l G k (nI 0) (nI (gFst σ (gB σ)))) (va_cwS 3 hts gX5_beat_X5_within rfl rfl rfl (by decide +kernel) ⟨Nat.le_of_ble_eq_true rfl, Nat.le_of_ble_eq_true rfl⟩) (mx_preS hK trivial) rfl rfl hl.1 rfl (lv_room (Nat.le_of_ble_eq_true rfl)) dX5_beat_16 ⟨Nat.zero_le _, Nat.zero_le _⟩) ?_
    refine lv_if_ne (tgt := 24) hx hb dX5_beat_19 (by decide) (fun c_19 => ?_) (fun c_19 => ?_)
    · obtain ⟨i, hi, rfl⟩ := le_of (n := gFst σ (gB σ)) (by omega) (wi_1 c_19).1 (wi_1 c_19).2
      refine lv_aload_n hx hb dX5_beat_24 rfl (lv_at hl 0 rfl) ?_
      refine va_get (D := G.1) (ci := 3) (v := .ref ((aS j) 15)) (C := RX3) (T := TX3) (N := 19) hx hb hts inX3 hown hK.1 hP 24 rfl rfl 14 (by decide) fl112 (fun _ h9 => h9) rfl dX5_beat_25 ?_
      refine lv_iload_n hx hb dX5_beat_28 rfl (lv_at hl 3 rfl) ?_
      refine x_iald hx hb hK.1 hP 27 0 (n := 257) (f := (RS j) 14) rfl rfl (k := i) (by omega) (by omega) dX5_beat_29 ?_
      refine x_top (y := gTick σ i) (hTB.2 _ (by omega)) ?_
      refine x_top (y := aBeat so (nI j) (nI i)) ((aBeat_yes hσ (by omega) hi).symm) ?_
      exact W.iret (v := aBeat so (nI j) (nI i)) hx hb hr (fun t9 ht9 hW9 => ⟨rfl, ht9⟩) (fun _ h => by cases h) dX5_beat_30
    · refine lv_iconst (v := (-1)) hx hb dX5_beat_22 (by decide) ?_
      refine x_top (y := aBeat so (nI j) k) ((aBeat_no hσ c_19).symm) ?_
      exact W.iret (v := aBeat so (nI j) k) hx hb hr (fun t9 ht9 hW9 => ⟨rfl, ht9⟩) (fun _ h => by cases h) dX5_beat_23

set_option maxHeartbeats 4000000 in
set_option maxRecDepth 100000 in
theorem c_X5_played (l : Launch) (G : mx_G) (aD : Nat → Nat) (SD : Nat → Option Nat) (WI : Nat → Int32) (aK : Nat → Nat) (FK : Nat → Int32) (RK : Nat → Nat → Int32) (aJ : Nat → Nat) (FJ : Nat → Int32) (RJ : Nat → Nat → Int32) (aT : Nat → Nat) (FT : Nat → Int32) (RT : Nat → Nat → Int32) (aN : Nat → Nat) (FN : Nat → Int32) (RN : Nat → Nat → Int32) (SR : Nat → Option Nat) (ra rl m12 : Nat) (so : So) (aS : Nat → Nat → Nat) (FS : Nat → Nat → Int32) (RS : Nat → Nat → Nat → Int32) (x y w : Int32) (hm12 : m12 = 12) (hd : dOk so aS FS RS SD) : mx_RO l yX5_played wsX5_played 2 43 G [.ref (aD 0), .int x, .int y, .int w] (fun H => va_P G.1 vwCl (([(aD 0, .inr (5, [.ref (aD 1), .ref (aD 2), .ref (aK 0), .ref (aJ 0), .ref (aT 0), .ref (aN 0)]))]) ++ (([(aD 1, .inl (G.2.2.2, 12, .inr (.inr (.inr (.inr (SD))))))]) ++ (([(aD 2, .inl (G.2.1, 144, .inl (WI)))]) ++ ((KW G aK FK RK) ++ ((JW G aJ FJ RJ) ++ ((TW G aT FT RT) ++ ((NW G aN FN RN SR ra rl) ++ (pool G so aS FS RS m12)))))))) H) (.int (aPlayed so x y w)) := by
  refine Met.ofW (cc := cX5_played) (maxL := 5) (ret := (some .int)) (by decide) rfl ?_
  intro p e s m args below meth c s₁ BB hml hv
  obtain ⟨rfl, hP, hK⟩ := hv
  have hx := BB.exec
  have hb := BB.bytes
  have hr := BB.returns
  have hts := atoms_spec (ws := wsX5_played) BB.pre
  have hown : s.vm.findClass RX5 = some m.cls := findClass_of_methodNamed BB.named
  have hlocks := BB.notSynchronized
  have hP : va_P G.1 vwCl (([(aD 0, .inr (5, [.ref (aD 1), .ref (aD 2), .ref (aK 0), .ref (aJ 0), .ref (aT 0), .ref (aN 0)]))]) ++ (([(aD 1, .inl (G.2.2.2, 12, .inr (.inr (.inr (.inr (SD))))))]) ++ (([(aD 2, .inl (G.2.1, 144, .inl (WI)))]) ++ ((KW G aK FK RK) ++ ((JW G aJ FJ RJ) ++ ((TW G aT FT RT) ++ ((NW G aN FN RN SR ra rl) ++ (pool G so aS FS RS m12)))))))) s.heap := hP
  have fl102 := hts (.fieldLink RX5 102 "MixDesk$Song" "playedBars" "I") (by decide +kernel)
  have fl115 := hts (.fieldLink RX5 115 "MixDesk$Song" "barAt" "[I") (by decide +kernel)
  have fl118 := hts (.fieldLink RX5 118 "MixDesk$Song" "tickAt" "[I") (by decide +kernel)
  have fl121 := hts (.fieldLink RX5 121 "MixDesk$Song" "beatsOf" "[I") (by decide +kernel)
  have inX3 : ∀ w ∈ wsX30, w ∈ wsX5_played := by decide +kernel
  have hl := lv_entry ([.ref (aD 0), .int x, .int y, .int w]) (n := 5) (Nat.le_of_ble_eq_true rfl)
  rw [lg_entry_eq]
  generalize (lg_sl ([.ref (aD 0), .int x, .int y, .int w]) ++ List.replicate (5 - (lg_sl ([.ref (aD 0), .int x, .int y, .int w])).length) Slot.unset).toArray = ls at hl ⊢
  have hl : lv_has ls 5 [(0, .ref (aD 0)), (1, .int x), (2, .int y), (3, .int w)] := hl
  show mx_WR l wsX5_played 2 43 p e s m (([.ref (aD 0), .int x, .int y, .int w] : List Value).toArray) below meth c (.int (aPlayed so x y w)) (F0 m 0 ls [])
  refine lv_aload_n hx hb dX5_played_0 rfl (lv_at hl 0 rfl) ?_
  refine lv_iload_n hx hb dX5_played_1 rfl (lv_at hl 1 rfl) ?_
  refine mx_callRO (v := va_rf (sRf so aS x)) (va_runV (As := [.int x]) (rest := []) ⟨hx, hb, hml, hown, hts⟩ (c_X5_songAt l G aD SD WI aK FK RK aJ FJ RJ aT FT RT aN FN RN SR ra rl m12 so aS FS RS x hm12 hd) (cwV 1 hts gX5_played_X5_songAt rfl rfl rfl (by decide +kernel) ⟨Nat.le_of_ble_eq_true rfl, Nat.le_of_ble_eq_true rfl⟩) (mx_preV hK hP (va_recv hK.1 hP (ci := 5) (q0 := 0) rfl rfl)) rfl rfl hl.1 rfl (lv_room (Nat.le_of_ble_eq_true rfl)) dX5_played_2 ⟨Nat.zero_le _, Nat.zero_le _⟩) ?_
  rcases sat_cases so x with ho | ⟨j, σ, rfl, hj, hso, hσ⟩
  · rw [sRf_n ho]
    refine lv_astoreN (lv' := [(4, .null), (0, .ref (aD 0)), (1, .int x), (2, .int y), (3, .int w)]) hx hb dX5_played_5 hl (by decide) rfl (fun ls hl => ?_)
    refine lv_aloadN hx hb dX5_played_7 (lv_at hl 0 rfl) ?_
    refine lv_ifnullN (tgt := 27) hx hb dX5_played_9 (by decide) ?_
    refine lv_iconst (v := (-1)) hx hb dX5_played_27 (by decide) ?_
    refine x_top (y := aPlayed so x y w) (by simp only [aPlayed, ho]) ?_
    exact W.iret (v := aPlayed so x y w) hx hb hr (fun t9 ht9 hW9 => ⟨rfl, ht9⟩) (fun _ h => by cases h) dX5_played_28
  · rw [sRf_s hj hσ]
    obtain ⟨hsd, hnum, ok, hN, hCC, hTB, hQ⟩ := (hd j hj).2 σ hso
    obtain ⟨f1, f2, f3, f4, f5, f6, f7, f8, f9, f10⟩ := id hN
    obtain ⟨hB2, hB64, hAE, hEB, hT1, hT4, hPB, hP1, hP16, hC, hst, hmo⟩ := id ok
    have hpb := gPB_le ok
    have hF9 := gFst_le ok (gB σ)
    have hP : va_P G.1 vwCl (([(aD 0, .inr (5, [.ref (aD 1), .ref (aD 2), .ref (aK 0), .ref (aJ 0), .ref (aT 0), .ref (aN 0)]))]) ++ (([(aD 1, .inl (G.2.2.2, 12, .inr (.inr (.inr (.inr (SD))))))]) ++ (([(aD 2, .inl (G.2.1, 144, .inl (WI)))]) ++ ((KW G aK FK RK) ++ ((JW G aJ FJ RJ) ++ ((TW G aT FT RT) ++ ((NW G aN FN RN SR ra rl) ++ (SW G (aS j) (FS j) (RS j))))))))) s.heap := mx_Psub hP (mx_ap (mx_ap (mx_ap (mx_ap (mx_ap (mx_ap (mx_ap (pool_mem hso m12 (by omega)))))))))
    refine lv_astore (lv' := [(4, .ref ((aS j) 0)), (0, .ref (aD 0)), (1, .int (nI j)), (2, .int y), (3, .int w)]) hx hb dX5_played_5 hl (by decide) rfl (fun ls hl => ?_)
    refine lv_aload hx hb dX5_played_7 (lv_at hl 0 rfl) ?_
    refine lv_ifnull hx hb dX5_played_9 ?_
    refine lv_iload_n hx hb dX5_played_12 rfl (lv_at hl 3 rfl) ?_
    refine lv_iconst (v := nI 0) hx hb dX5_played_13 (by decide) ?_
    refine lv_aload hx hb dX5_played_14 (lv_at hl 0 rfl) ?_
    refine va_get (D := G.1) (ci := 3) (v := .int ((FS j) 11)) (C := RX3) (T := TX3) (N := 19) hx hb hts inX3 hown hK.1 hP 24 rfl rfl 11 (by decide) fl102 (fun _ h9 => h9) rfl dX5_played_16 ?_
    refine x_top (y := nI (gPB σ)) (hQ.1) ?_
    refine lv_iconst (v := nI 1) hx hb dX5_played_19 (by decide) ?_
    refine lv_isub hx hb dX5_played_20 ?_
    refine mx_callRO (v := .int (wi y (nI 0) ((nI (gPB σ)) - (nI 1)))) (va_runS (As := [.int y, .int (nI 0), .int ((nI (gPB σ)) - (nI 1))]) (rest := []) ⟨hx, hb, hml, hown, hts⟩ (c_X5_within l G y (nI 0) ((nI (gPB σ)) - (nI 1))) (va_cwS 3 hts gX5_played_X5_within rfl rfl rfl (by decide +kernel) ⟨Nat.le_of_ble_eq_true rfl, Nat.le_of_ble_eq_true rfl⟩) (mx_preS hK trivial) rfl rfl hl.1 rfl (lv_room (Nat.le_of_ble_eq_true rfl)) dX5_played_21 ⟨Nat.zero_le _, Nat.zero_le _⟩) ?_
    refine lv_if_ne (tgt := 29) hx hb dX5_played_24 (by decide) (fun c_24 => ?_) (fun c_24 => ?_)
    · obtain ⟨i, hi, rfl⟩ := wi_idx (by omega) (wi_1 c_24)
      have hbl := gBar_lt ok hi
      refine lv_iload_n hx hb dX5_played_29 rfl (lv_at hl 4 rfl) ?_
      rcases sw_of 3 (by omega) w with ⟨kk, hkk, e_30⟩ | h_30
      · rcases (show kk = 0 ∨ kk = 1 ∨ kk = 2 by omega) with rfl | rfl | rfl
        · subst e_30
          refine lv_tableIn (x := nI 0) hx hb dX5_played_30 (by decide) (by decide) (off := 26) (by decide) (tgt := 56) (by decide) ?_
          refine lv_aload hx hb dX5_played_56 (lv_at hl 0 rfl) ?_
          refine va_get (D := G.1) (ci := 3) (v := .ref ((aS j) 16)) (C := RX3) (T := TX3) (N := 19) hx hb hts inX3 hown hK.1 hP 24 rfl rfl 15 (by decide) fl115 (fun _ h9 => h9) rfl dX5_played_58 ?_
          refine lv_iload_n hx hb dX5_played_61 rfl (lv_at hl 3 rfl) ?_
          refine x_iald hx hb hK.1 hP 28 0 (n := 64) (f := (RS j) 15) rfl rfl (k := i) (by omega) (by omega) dX5_played_62 ?_
          refine x_top (y := nI (gBar σ i)) (hQ.2.1 _ (by omega)) ?_
          refine x_top (y := aPlayed so (nI j) (nI i) (nI 0)) (by rw [aPlayed_in hσ (by omega) hi]; rfl) ?_
          exact W.iret (v := aPlayed so (nI j) (nI i) (nI 0)) hx hb hr (fun t9 ht9 hW9 => ⟨rfl, ht9⟩) (fun _ h => by cases h) dX5_played_63
        · subst e_30
          refine lv_tableIn (x := nI 1) hx hb dX5_played_30 (by decide) (by decide) (off := 34) (by decide) (tgt := 64) (by decide) ?_
          refine lv_aload hx hb dX5_played_64 (lv_at hl 0 rfl) ?_
          refine va_get (D := G.1) (ci := 3) (v := .ref ((aS j) 17)) (C := RX3) (T := TX3) (N := 19) hx hb hts inX3 hown hK.1 hP 24 rfl rfl 16 (by decide) fl118 (fun _ h9 => h9) rfl dX5_played_66 ?_
          refine lv_iload_n hx hb dX5_played_69 rfl (lv_at hl 3 rfl) ?_
          refine x_iald hx hb hK.1 hP 29 0 (n := 65) (f := (RS j) 16) rfl rfl (k := i) (by omega) (by omega) dX5_played_70 ?_
          refine x_top (y := gBeg σ i) (hQ.2.2.1 _ (by omega)) ?_
          refine x_top (y := aPlayed so (nI j) (nI i) (nI 1)) (by rw [aPlayed_in hσ (by omega) hi]; rfl) ?_
          exact W.iret (v := aPlayed so (nI j) (nI i) (nI 1)) hx hb hr (fun t9 ht9 hW9 => ⟨rfl, ht9⟩) (fun _ h => by cases h) dX5_played_71
        · subst e_30
          refine lv_tableIn (x := nI 2) hx hb dX5_played_30 (by decide) (by decide) (off := 42) (by decide) (tgt := 72) (by decide) ?_
          refine lv_aload hx hb dX5_played_72 (lv_at hl 0 rfl) ?_
          refine va_get (D := G.1) (ci := 3) (v := .ref ((aS j) 13)) (C := RX3) (T := TX3) (N := 19) hx hb hts inX3 hown hK.1 hP 24 rfl rfl 12 (by decide) fl121 (fun _ h9 => h9) rfl dX5_played_74 ?_
          refine lv_aload hx hb dX5_played_77 (lv_at hl 0 rfl) ?_
          refine va_get (D := G.1) (ci := 3) (v := .ref ((aS j) 16)) (C := RX3) (T := TX3) (N := 19) hx hb hts inX3 hown hK.1 hP 24 rfl rfl 15 (by decide) fl115 (fun _ h9 => h9) rfl dX5_played_79 ?_
          refine lv_iload_n hx hb dX5_played_82 rfl (lv_at hl 3 rfl) ?_
          refine x_iald hx hb hK.1 hP 28 0 (n := 64) (f := (RS j) 15) rfl rfl (k := i) (by omega) (by omega) dX5_played_83 ?_
          refine x_top (y := nI (gBar σ i)) (hQ.2.1 _ (by omega)) ?_
          refine x_iald hx hb hK.1 hP 25 0 (n := 64) (f := (RS j) 12) rfl rfl (k := gBar σ i) (by omega) (by omega) dX5_played_84 ?_
          refine x_top (y := nI (gC σ (gBar σ i))) (hCC (gBar σ i) (by omega)) ?_
          refine x_top (y := aPlayed so (nI j) (nI i) (nI 2)) (by rw [aPlayed_in hσ (by omega) hi]; rfl) ?_
          exact W.iret (v := aPlayed so (nI j) (nI i) (nI 2)) hx hb hr (fun t9 ht9 hW9 => ⟨rfl, ht9⟩) (fun _ h => by cases h) dX5_played_85
      · refine lv_tableOut (tgt := 86) hx hb dX5_played_30 h_30 (by decide) ?_
        refine lv_iconst (v := (-1)) hx hb dX5_played_86 (by decide) ?_
        refine x_top (y := aPlayed so (nI j) (nI i) w) (by rw [aPlayed_in hσ (by omega) hi, if_neg (show ¬ w = 0 from sw_ne 0 h_30), if_neg (sw_ne 1 h_30), if_neg (sw_ne 2 h_30)]) ?_
        exact W.iret (v := aPlayed so (nI j) (nI i) w) hx hb hr (fun t9 ht9 hW9 => ⟨rfl, ht9⟩) (fun _ h => by cases h) dX5_played_87
    · refine lv_iconst (v := (-1)) hx hb dX5_played_27 (by decide) ?_
      refine x_top (y := aPlayed so (nI j) y w) ((aPlayed_no hσ (by omega) c_24).symm) ?_
      exact W.iret (v := aPlayed so (nI j) y w) hx hb hr (fun t9 ht9 hW9 => ⟨rfl, ht9⟩) (fun _ h => by cases h) dX5_played_28

set_option maxHeartbeats 4000000 in
set_option maxRecDepth 100000 in
theorem c_X5_length (l : Launch) (G : mx_G) (aD : Nat → Nat) (SD : Nat → Option Nat) (WI : Nat → Int32) (aK : Nat → Nat) (FK : Nat → Int32) (RK : Nat → Nat → Int32) (aJ : Nat → Nat) (FJ : Nat → Int32) (RJ : Nat → Nat → Int32) (aT : Nat → Nat) (FT : Nat → Int32) (RT : Nat → Nat → Int32) (aN : Nat → Nat) (FN : Nat → Int32) (RN : Nat → Nat → Int32) (SR : Nat → Option Nat) (ra rl m12 : Nat) (so : So) (aS : Nat → Nat → Nat) (FS : Nat → Nat → Int32) (RS : Nat → Nat → Nat → Int32) (x : Int32) (hm12 : m12 = 12) (hd : dOk so aS FS RS SD) : mx_RO l yX5_length wsX5_length 2 43 G [.ref (aD 0), .int x] (fun H => va_P G.1 vwCl (([(aD 0, .inr (5, [.ref (aD 1), .ref (aD 2), .ref (aK 0), .ref (aJ 0), .ref (aT 0), .ref (aN 0)]))]) ++ (([(aD 1, .inl (G.2.2.2, 12, .inr (.inr (.inr (.inr (SD))))))]) ++ (([(aD 2, .inl (G.2.1, 144, .inl (WI)))]) ++ ((KW G aK FK RK) ++ ((JW G aJ FJ RJ) ++ ((TW G aT FT RT) ++ ((NW G aN FN RN SR ra rl) ++ (pool G so aS FS RS m12)))))))) H) (.int (aLength so x)) := by
  refine Met.ofW (cc := cX5_length) (maxL := 3) (ret := (some .int)) (by decide) rfl ?_
  intro p e s m args below meth c s₁ BB hml hv
  obtain ⟨rfl, hP, hK⟩ := hv
  have hx := BB.exec
  have hb := BB.bytes
  have hr := BB.returns
  have hts := atoms_spec (ws := wsX5_length) BB.pre
  have hown : s.vm.findClass RX5 = some m.cls := findClass_of_methodNamed BB.named
  have hlocks := BB.notSynchronized
  have hP : va_P G.1 vwCl (([(aD 0, .inr (5, [.ref (aD 1), .ref (aD 2), .ref (aK 0), .ref (aJ 0), .ref (aT 0), .ref (aN 0)]))]) ++ (([(aD 1, .inl (G.2.2.2, 12, .inr (.inr (.inr (.inr (SD))))))]) ++ (([(aD 2, .inl (G.2.1, 144, .inl (WI)))]) ++ ((KW G aK FK RK) ++ ((JW G aJ FJ RJ) ++ ((TW G aT FT RT) ++ ((NW G aN FN RN SR ra rl) ++ (pool G so aS FS RS m12)))))))) s.heap := hP
  have fl102 := hts (.fieldLink RX5 102 "MixDesk$Song" "playedBars" "I") (by decide +kernel)
  have fl118 := hts (.fieldLink RX5 118 "MixDesk$Song" "tickAt" "[I") (by decide +kernel)
  have inX3 : ∀ w ∈ wsX30, w ∈ wsX5_length := by decide +kernel
  have hl := lv_entry ([.ref (aD 0), .int x]) (n := 3) (Nat.le_of_ble_eq_true rfl)
  rw [lg_entry_eq]
  generalize (lg_sl ([.ref (aD 0), .int x]) ++ List.replicate (3 - (lg_sl ([.ref (aD 0), .int x])).length) Slot.unset).toArray = ls at hl ⊢
  have hl : lv_has ls 3 [(0, .ref (aD 0)), (1, .int x)] := hl
  show mx_WR l wsX5_length 2 43 p e s m (([.ref (aD 0), .int x] : List Value).toArray) below meth c (.int (aLength so x)) (F0 m 0 ls [])
  refine lv_aload_n hx hb dX5_length_0 rfl (lv_at hl 0 rfl) ?_
  refine lv_iload_n hx hb dX5_length_1 rfl (lv_at hl 1 rfl) ?_
  refine mx_callRO (v := va_rf (sRf so aS x)) (va_runV (As := [.int x]) (rest := []) ⟨hx, hb, hml, hown, hts⟩ (c_X5_songAt l G aD SD WI aK FK RK aJ FJ RJ aT FT RT aN FN RN SR ra rl m12 so aS FS RS x hm12 hd) (cwV 1 hts gX5_length_X5_songAt rfl rfl rfl (by decide +kernel) ⟨Nat.le_of_ble_eq_true rfl, Nat.le_of_ble_eq_true rfl⟩) (mx_preV hK hP (va_recv hK.1 hP (ci := 5) (q0 := 0) rfl rfl)) rfl rfl hl.1 rfl (lv_room (Nat.le_of_ble_eq_true rfl)) dX5_length_2 ⟨Nat.zero_le _, Nat.zero_le _⟩) ?_
  rcases sat_cases so x with ho | ⟨j, σ, rfl, hj, hso, hσ⟩
  · rw [sRf_n ho]
    refine lv_astore_nN (lv' := [(2, .null), (0, .ref (aD 0)), (1, .int x)]) hx hb dX5_length_5 rfl hl (by decide) rfl (fun ls hl => ?_)
    refine lv_aload_nN hx hb dX5_length_6 rfl (lv_at hl 0 rfl) ?_
    refine lv_ifnonnullN hx hb dX5_length_7 ?_
    refine lv_iconst (v := (-1)) hx hb dX5_length_10 (by decide) ?_
    refine lv_goto (tgt := 23) hx hb dX5_length_11 (by decide) ?_
    refine x_top (y := aLength so x) (by simp only [aLength, ho]) ?_
    exact W.iret (v := aLength so x) hx hb hr (fun t9 ht9 hW9 => ⟨rfl, ht9⟩) (fun _ h => by cases h) dX5_length_23
  · rw [sRf_s hj hσ]
    obtain ⟨hsd, hnum, ok, hN, hCC, hTB, hQ⟩ := (hd j hj).2 σ hso
    obtain ⟨f1, f2, f3, f4, f5, f6, f7, f8, f9, f10⟩ := id hN
    obtain ⟨hB2, hB64, hAE, hEB, hT1, hT4, hPB, hP1, hP16, hC, hst, hmo⟩ := id ok
    have hpb := gPB_le ok
    have hF9 := gFst_le ok (gB σ)
    have hP : va_P G.1 vwCl (([(aD 0, .inr (5, [.ref (aD 1), .ref (aD 2), .ref (aK 0), .ref (aJ 0), .ref (aT 0), .ref (aN 0)]))]) ++ (([(aD 1, .inl (G.2.2.2, 12, .inr (.inr (.inr (.inr (SD))))))]) ++ (([(aD 2, .inl (G.2.1, 144, .inl (WI)))]) ++ ((KW G aK FK RK) ++ ((JW G aJ FJ RJ) ++ ((TW G aT FT RT) ++ ((NW G aN FN RN SR ra rl) ++ (SW G (aS j) (FS j) (RS j))))))))) s.heap := mx_Psub hP (mx_ap (mx_ap (mx_ap (mx_ap (mx_ap (mx_ap (mx_ap (pool_mem hso m12 (by omega)))))))))
    refine lv_astore_n (lv' := [(2, .ref ((aS j) 0)), (0, .ref (aD 0)), (1, .int (nI j))]) hx hb dX5_length_5 rfl hl (by decide) rfl (fun ls hl => ?_)
    refine lv_aload_n hx hb dX5_length_6 rfl (lv_at hl 0 rfl) ?_
    refine lv_ifnonnull (tgt := 14) hx hb dX5_length_7 (by decide) ?_
    refine lv_aload_n hx hb dX5_length_14 rfl (lv_at hl 0 rfl) ?_
    refine va_get (D := G.1) (ci := 3) (v := .ref ((aS j) 17)) (C := RX3) (T := TX3) (N := 19) hx hb hts inX3 hown hK.1 hP 24 rfl rfl 16 (by decide) fl118 (fun _ h9 => h9) rfl dX5_length_15 ?_
    refine lv_aload_n hx hb dX5_length_18 rfl (lv_at hl 0 rfl) ?_
    refine va_get (D := G.1) (ci := 3) (v := .int ((FS j) 11)) (C := RX3) (T := TX3) (N := 19) hx hb hts inX3 hown hK.1 hP 24 rfl rfl 11 (by decide) fl102 (fun _ h9 => h9) rfl dX5_length_19 ?_
    refine x_top (y := nI (gPB σ)) (hQ.1) ?_
    refine x_iald hx hb hK.1 hP 29 0 (n := 65) (f := (RS j) 16) rfl rfl (k := gPB σ) (by omega) (by omega) dX5_length_22 ?_
    refine x_top (y := gBeg σ (gPB σ)) (hQ.2.2.1 _ (by omega)) ?_
    refine x_top (y := aLength so (nI j)) (by simp only [aLength, hσ]) ?_
    exact W.iret (v := aLength so (nI j)) hx hb hr (fun t9 ht9 hW9 => ⟨rfl, ht9⟩) (fun _ h => by cases h) dX5_length_23

set_option maxHeartbeats 4000000 in
set_option maxRecDepth 100000 in
theorem c_X5_found (l : Launch) (G : mx_G) (aD : Nat → Nat) (SD : Nat → Option Nat) (WI : Nat → Int32) (aK : Nat → Nat) (FK : Nat → Int32) (RK : Nat → Nat → Int32) (aJ : Nat → Nat) (FJ : Nat → Int32) (RJ : Nat → Nat → Int32) (aT : Nat → Nat) (FT : Nat → Int32) (RT : Nat → Nat → Int32) (aN : Nat → Nat) (FN : Nat → Int32) (RN : Nat → Nat → Int32) (SR : Nat → Option Nat) (ra rl m12 : Nat) (so : So) (aS : Nat → Nat → Nat) (FS : Nat → Nat → Int32) (RS : Nat → Nat → Nat → Int32) (n : Nat) (x : Int32) (hF : FK 5 = nI n) (hn : n ≤ 60) : mx_RO l yX5_found wsX5_found 2 43 G [.ref (aD 0), .int x] (fun H => va_P G.1 vwCl (([(aD 0, .inr (5, [.ref (aD 1), .ref (aD 2), .ref (aK 0), .ref (aJ 0), .ref (aT 0), .ref (aN 0)]))]) ++ (([(aD 1, .inl (G.2.2.2, 12, .inr (.inr (.inr (.inr (SD))))))]) ++ (([(aD 2, .inl (G.2.1, 144, .inl (WI)))]) ++ ((KW G aK FK RK) ++ ((JW G aJ FJ RJ) ++ ((TW G aT FT RT) ++ ((NW G aN FN RN SR ra rl) ++ (pool G so aS FS RS m12)))))))) H) (.int (aRow n (RK 4) x)) := by
  refine Met.ofW (cc := cX5_found) (maxL := 2) (ret := (some .int)) (by decide) rfl ?_
  intro p e s m args below meth c s₁ BB hml hv
  obtain ⟨rfl, hP, hK⟩ := hv
  have hx := BB.exec
  have hb := BB.bytes
  have hr := BB.returns
  have hts := atoms_spec (ws := wsX5_found) BB.pre
  have hown : s.vm.findClass RX5 = some m.cls := findClass_of_methodNamed BB.named
  have hlocks := BB.notSynchronized
  have hP : va_P G.1 vwCl (([(aD 0, .inr (5, [.ref (aD 1), .ref (aD 2), .ref (aK 0), .ref (aJ 0), .ref (aT 0), .ref (aN 0)]))]) ++ (([(aD 1, .inl (G.2.2.2, 12, .inr (.inr (.inr (.inr (SD))))))]) ++ (([(aD 2, .inl (G.2.1, 144, .inl (WI)))]) ++ ((KW G aK FK RK) ++ ((JW G aJ FJ RJ) ++ ((TW G aT FT RT) ++ ((NW G aN FN RN SR ra rl) ++ (pool G so aS FS RS m12)))))))) s.heap := hP
  have fl22 := hts (.fieldLink RX5 22 "MixDesk" "strokes" "LMixDesk$Strokes;") (by decide +kernel)
  have inX5 : ∀ w ∈ wsX50, w ∈ wsX5_found := by decide +kernel
  have hl := lv_entry ([.ref (aD 0), .int x]) (n := 2) (Nat.le_of_ble_eq_true rfl)
  rw [lg_entry_eq]
  generalize (lg_sl ([.ref (aD 0), .int x]) ++ List.replicate (2 - (lg_sl ([.ref (aD 0), .int x])).length) Slot.unset).toArray = ls at hl ⊢
  have hl : lv_has ls 2 [(0, .ref (aD 0)), (1, .int x)] := hl
  show mx_WR l wsX5_found 2 43 p e s m (([.ref (aD 0), .int x] : List Value).toArray) below meth c (.int (aRow n (RK 4) x)) (F0 m 0 ls [])
  refine lv_aload_n hx hb dX5_found_0 rfl (lv_at hl 0 rfl) ?_
  refine va_get (D := G.1) (ci := 5) (v := .ref (aK 0)) (C := RX5) (T := TX5) (N := 6) hx hb hts inX5 hown hK.1 hP 0 rfl rfl 2 (by decide) fl22 (fun _ h9 => h9) rfl dX5_found_1 ?_
  refine lv_iload_n hx hb dX5_found_4 rfl (lv_at hl 1 rfl) ?_
  refine mx_callRO (v := .int (aRow n (RK 4) x)) (va_runV (As := [.int x]) (rest := []) ⟨hx, hb, hml, hown, hts⟩ (c_X4_foundStroke l G aK FK RK n x hF hn) (cwV 1 hts gX5_found_X4_foundStroke rfl rfl rfl (by decide +kernel) ⟨Nat.le_of_ble_eq_true rfl, Nat.le_of_ble_eq_true rfl⟩) (mx_preV hK (mx_Psub hP (fun q9 => fun h => List.mem_append_right _ (List.mem_append_right _ (List.mem_append_right _ (List.mem_append_left _ h))))) (va_recv hK.1 hP (ci := 4) (q0 := 3) rfl rfl)) rfl rfl hl.1 rfl (lv_room (Nat.le_of_ble_eq_true rfl)) dX5_found_5 ⟨Nat.zero_le _, Nat.zero_le _⟩) ?_
  exact W.iret (v := aRow n (RK 4) x) hx hb hr (fun t9 ht9 hW9 => ⟨rfl, ht9⟩) (fun _ h => by cases h) dX5_found_8

set_option maxHeartbeats 4000000 in
set_option maxRecDepth 100000 in
theorem c_X5_meets (l : Launch) (G : mx_G) (aD : Nat → Nat) (SD : Nat → Option Nat) (WI : Nat → Int32) (aK : Nat → Nat) (FK : Nat → Int32) (RK : Nat → Nat → Int32) (aJ : Nat → Nat) (FJ : Nat → Int32) (RJ : Nat → Nat → Int32) (aT : Nat → Nat) (FT : Nat → Int32) (RT : Nat → Nat → Int32) (aN : Nat → Nat) (FN : Nat → Int32) (RN : Nat → Nat → Int32) (SR : Nat → Option Nat) (ra rl m12 : Nat) (so : So) (aS : Nat → Nat → Nat) (FS : Nat → Nat → Int32) (RS : Nat → Nat → Nat → Int32) (M : Nat) (L B : Nat → Int32) (x w : Int32) (hF : FT 0 = nI M) (hM : M ≤ 32) (hme : meOk M RT L B) : mx_RO l yX5_meets wsX5_meets 2 44 G [.ref (aD 0), .int x, .int w] (fun H => va_P G.1 vwCl (([(aD 0, .inr (5, [.ref (aD 1), .ref (aD 2), .ref (aK 0), .ref (aJ 0), .ref (aT 0), .ref (aN 0)]))]) ++ (([(aD 1, .inl (G.2.2.2, 12, .inr (.inr (.inr (.inr (SD))))))]) ++ (([(aD 2, .inl (G.2.1, 144, .inl (WI)))]) ++ ((KW G aK FK RK) ++ ((JW G aJ FJ RJ) ++ ((TW G aT FT RT) ++ ((NW G aN FN RN SR ra rl) ++ (pool G so aS FS RS m12)))))))) H) (.int (aMeets M L B x w)) := by
  refine Met.ofW (cc := cX5_meets) (maxL := 3) (ret := (some .int)) (by decide) rfl ?_
  intro p e s m args below meth c s₁ BB hml hv
  obtain ⟨rfl, hP, hK⟩ := hv
  have hx := BB.exec
  have hb := BB.bytes
  have hr := BB.returns
  have hts := atoms_spec (ws := wsX5_meets) BB.pre
  have hown : s.vm.findClass RX5 = some m.cls := findClass_of_methodNamed BB.named
  have hlocks := BB.notSynchronized
  have hP : va_P G.1 vwCl (([(aD 0, .inr (5, [.ref (aD 1), .ref (aD 2), .ref (aK 0), .ref (aJ 0), .ref (aT 0), .ref (aN 0)]))]) ++ (([(aD 1, .inl (G.2.2.2, 12, .inr (.inr (.inr (.inr (SD))))))]) ++ (([(aD 2, .inl (G.2.1, 144, .inl (WI)))]) ++ ((KW G aK FK RK) ++ ((JW G aJ FJ RJ) ++ ((TW G aT FT RT) ++ ((NW G aN FN RN SR ra rl) ++ (pool G so aS FS RS m12)))))))) s.heap := hP
  have fl36 := hts (.fieldLink RX5 36 "MixDesk" "meeting" "LMixDesk$Meeting;") (by decide +kernel)
  have inX5 : ∀ w ∈ wsX50, w ∈ wsX5_meets := by decide +kernel
  have hl := lv_entry ([.ref (aD 0), .int x, .int w]) (n := 3) (Nat.le_of_ble_eq_true rfl)
  rw [lg_entry_eq]
  generalize (lg_sl ([.ref (aD 0), .int x, .int w]) ++ List.replicate (3 - (lg_sl ([.ref (aD 0), .int x, .int w])).length) Slot.unset).toArray = ls at hl ⊢
  have hl : lv_has ls 3 [(0, .ref (aD 0)), (1, .int x), (2, .int w)] := hl
  show mx_WR l wsX5_meets 2 44 p e s m (([.ref (aD 0), .int x, .int w] : List Value).toArray) below meth c (.int (aMeets M L B x w)) (F0 m 0 ls [])
  refine lv_aload_n hx hb dX5_meets_0 rfl (lv_at hl 0 rfl) ?_
  refine va_get (D := G.1) (ci := 5) (v := .ref (aT 0)) (C := RX5) (T := TX5) (N := 6) hx hb hts inX5 hown hK.1 hP 0 rfl rfl 4 (by decide) fl36 (fun _ h9 => h9) rfl dX5_meets_1 ?_
  refine lv_iload_n hx hb dX5_meets_4 rfl (lv_at hl 1 rfl) ?_
  refine lv_iload_n hx hb dX5_meets_5 rfl (lv_at hl 2 rfl) ?_
  refine mx_callRO (v := .int (aMeets M L B x w)) (va_runV (As := [.int x, .int w]) (rest := []) ⟨hx, hb, hml, hown, hts⟩ (c_X1_tell l G aT FT RT M L B x w hF hM hme) (cwV 2 hts gX5_meets_X1_tell rfl rfl rfl (by decide +kernel) ⟨Nat.le_of_ble_eq_true rfl, Nat.le_of_ble_eq_true rfl⟩) (mx_preV hK (mx_Psub hP (fun q9 => fun h => List.mem_append_right _ (List.mem_append_right _ (List.mem_append_right _ (List.mem_append_right _ (List.mem_append_right _ (List.mem_append_left _ h))))))) (va_recv hK.1 hP (ci := 1) (q0 := 14) rfl rfl)) rfl rfl hl.1 rfl (lv_room (Nat.le_of_ble_eq_true rfl)) dX5_meets_6 ⟨Nat.zero_le _, Nat.zero_le _⟩) ?_
  exact W.iret (v := aMeets M L B x w) hx hb hr (fun t9 ht9 hW9 => ⟨rfl, ht9⟩) (fun _ h => by cases h) dX5_meets_9

set_option maxHeartbeats 4000000 in
set_option maxRecDepth 100000 in
theorem c_X5_order (l : Launch) (G : mx_G) (aD : Nat → Nat) (SD : Nat → Option Nat) (WI : Nat → Int32) (aK : Nat → Nat) (FK : Nat → Int32) (RK : Nat → Nat → Int32) (aJ : Nat → Nat) (FJ : Nat → Int32) (RJ : Nat → Nat → Int32) (aT : Nat → Nat) (FT : Nat → Int32) (RT : Nat → Nat → Int32) (aN : Nat → Nat) (FN : Nat → Int32) (RN : Nat → Nat → Int32) (SR : Nat → Option Nat) (ra rl m12 : Nat) (so : So) (aS : Nat → Nat → Nat) (FS : Nat → Nat → Int32) (RS : Nat → Nat → Nat → Int32) (n : Nat) (x : Int32) (hF : FN 7 = nI n) (hn : n ≤ 12) : mx_RO l yX5_order wsX5_order 1 22 G [.ref (aD 0), .int x] (fun H => va_P G.1 vwCl (([(aD 0, .inr (5, [.ref (aD 1), .ref (aD 2), .ref (aK 0), .ref (aJ 0), .ref (aT 0), .ref (aN 0)]))]) ++ (([(aD 1, .inl (G.2.2.2, 12, .inr (.inr (.inr (.inr (SD))))))]) ++ (([(aD 2, .inl (G.2.1, 144, .inl (WI)))]) ++ ((KW G aK FK RK) ++ ((JW G aJ FJ RJ) ++ ((TW G aT FT RT) ++ ((NW G aN FN RN SR ra rl) ++ (pool G so aS FS RS m12)))))))) H) (.int (aRow n (RN 6) x)) := by
  refine Met.ofW (cc := cX5_order) (maxL := 2) (ret := (some .int)) (by decide) rfl ?_
  intro p e s m args below meth c s₁ BB hml hv
  obtain ⟨rfl, hP, hK⟩ := hv
  have hx := BB.exec
  have hb := BB.bytes
  have hr := BB.returns
  have hts := atoms_spec (ws := wsX5_order) BB.pre
  have hown : s.vm.findClass RX5 = some m.cls := findClass_of_methodNamed BB.named
  have hlocks := BB.notSynchronized
  have hP : va_P G.1 vwCl (([(aD 0, .inr (5, [.ref (aD 1), .ref (aD 2), .ref (aK 0), .ref (aJ 0), .ref (aT 0), .ref (aN 0)]))]) ++ (([(aD 1, .inl (G.2.2.2, 12, .inr (.inr (.inr (.inr (SD))))))]) ++ (([(aD 2, .inl (G.2.1, 144, .inl (WI)))]) ++ ((KW G aK FK RK) ++ ((JW G aJ FJ RJ) ++ ((TW G aT FT RT) ++ ((NW G aN FN RN SR ra rl) ++ (pool G so aS FS RS m12)))))))) s.heap := hP
  have fl195 := hts (.fieldLink RX5 195 "MixDesk$Nights" "told" "I") (by decide +kernel)
  have fl198 := hts (.fieldLink RX5 198 "MixDesk$Nights" "order" "[I") (by decide +kernel)
  have fl43 := hts (.fieldLink RX5 43 "MixDesk" "nights" "LMixDesk$Nights;") (by decide +kernel)
  have inX2 : ∀ w ∈ wsX20, w ∈ wsX5_order := by decide +kernel
  have inX5 : ∀ w ∈ wsX50, w ∈ wsX5_order := by decide +kernel
  have hl := lv_entry ([.ref (aD 0), .int x]) (n := 2) (Nat.le_of_ble_eq_true rfl)
  rw [lg_entry_eq]
  generalize (lg_sl ([.ref (aD 0), .int x]) ++ List.replicate (2 - (lg_sl ([.ref (aD 0), .int x])).length) Slot.unset).toArray = ls at hl ⊢
  have hl : lv_has ls 2 [(0, .ref (aD 0)), (1, .int x)] := hl
  show mx_WR l wsX5_order 1 22 p e s m (([.ref (aD 0), .int x] : List Value).toArray) below meth c (.int (aRow n (RN 6) x)) (F0 m 0 ls [])
  refine lv_iload_n hx hb dX5_order_0 rfl (lv_at hl 1 rfl) ?_
  refine lv_iconst (v := nI 0) hx hb dX5_order_1 (by decide) ?_
  refine lv_aload_n hx hb dX5_order_2 rfl (lv_at hl 0 rfl) ?_
  refine va_get (D := G.1) (ci := 5) (v := .ref (aN 0)) (C := RX5) (T := TX5) (N := 6) hx hb hts inX5 hown hK.1 hP 0 rfl rfl 5 (by decide) fl43 (fun _ h9 => h9) rfl dX5_order_3 ?_
  refine va_get (D := G.1) (ci := 2) (v := .int (FN 7)) (C := RX2) (T := TX2) (N := 8) hx hb hts inX2 hown hK.1 hP 18 rfl rfl 7 (by decide) fl195 (fun _ h9 => h9) rfl dX5_order_6 ?_
  refine x_top (y := nI n) (hF) ?_
  refine lv_iconst (v := nI 1) hx hb dX5_order_9 (by decide) ?_
  refine lv_isub hx hb dX5_order_10 ?_
  refine mx_callRO (v := .int (wi x (nI 0) ((nI n) - (nI 1)))) (va_runS (As := [.int x, .int (nI 0), .int ((nI n) - (nI 1))]) (rest := []) ⟨hx, hb, hml, hown, hts⟩ (c_X5_within l G x (nI 0) ((nI n) - (nI 1))) (va_cwS 3 hts gX5_order_X5_within rfl rfl rfl (by decide +kernel) ⟨Nat.le_of_ble_eq_true rfl, Nat.le_of_ble_eq_true rfl⟩) (mx_preS hK trivial) rfl rfl hl.1 rfl (lv_room (Nat.le_of_ble_eq_true rfl)) dX5_order_11 ⟨Nat.zero_le _, Nat.zero_le _⟩) ?_
  refine lv_if_eq (tgt := 29) hx hb dX5_order_14 (by decide) (fun c_14 => ?_) (fun c_14 => ?_)
  · refine lv_iconst (v := (-1)) hx hb dX5_order_29 (by decide) ?_
    refine x_top (y := aRow n (RN 6) x) (arow_no (wi_0 c_14)) ?_
    exact W.iret (v := aRow n (RN 6) x) hx hb hr (fun t9 ht9 hW9 => ⟨rfl, ht9⟩) (fun _ h => by cases h) dX5_order_30
  · obtain ⟨i, hi, rfl⟩ := wi_idx (by omega) (wi_1 c_14)
    refine lv_aload_n hx hb dX5_order_17 rfl (lv_at hl 0 rfl) ?_
    refine va_get (D := G.1) (ci := 5) (v := .ref (aN 0)) (C := RX5) (T := TX5) (N := 6) hx hb hts inX5 hown hK.1 hP 0 rfl rfl 5 (by decide) fl43 (fun _ h9 => h9) rfl dX5_order_18 ?_
    refine va_get (D := G.1) (ci := 2) (v := .ref (aN 7)) (C := RX2) (T := TX2) (N := 8) hx hb hts inX2 hown hK.1 hP 18 rfl rfl 6 (by decide) fl198 (fun _ h9 => h9) rfl dX5_order_21 ?_
    refine lv_iload_n hx hb dX5_order_24 rfl (lv_at hl 1 rfl) ?_
    refine x_iald hx hb hK.1 hP 23 0 (n := 12) (f := RN 6) rfl rfl (k := i) (by omega) (by omega) dX5_order_25 ?_
    refine lv_goto (tgt := 30) hx hb dX5_order_26 (by decide) ?_
    refine x_top (y := aRow n (RN 6) (nI i)) ((arow_yes hi).symm) ?_
    exact W.iret (v := aRow n (RN 6) (nI i)) hx hb hr (fun t9 ht9 hW9 => ⟨rfl, ht9⟩) (fun _ h => by cases h) dX5_order_30

set_option maxHeartbeats 4000000 in
set_option maxRecDepth 100000 in
theorem c_X5_mend (l : Launch) (G : mx_G) (aD : Nat → Nat) (SD : Nat → Option Nat) (WI : Nat → Int32) (aK : Nat → Nat) (FK : Nat → Int32) (RK : Nat → Nat → Int32) (aJ : Nat → Nat) (FJ : Nat → Int32) (RJ : Nat → Nat → Int32) (aT : Nat → Nat) (FT : Nat → Int32) (RT : Nat → Nat → Int32) (aN : Nat → Nat) (FN : Nat → Int32) (RN : Nat → Nat → Int32) (SR : Nat → Option Nat) (ra rl m12 : Nat) (so : So) (aS : Nat → Nat → Nat) (FS : Nat → Nat → Int32) (RS : Nat → Nat → Nat → Int32) (bd : Nat) (x st : Int32) (hbd : FJ 0 = nI bd) (hbd9 : bd ≤ 1000) : mx_RO l yX5_mend wsX5_mend 1 22 G [.ref (aD 0), .int x, .int st] (fun H => va_P G.1 vwCl (([(aD 0, .inr (5, [.ref (aD 1), .ref (aD 2), .ref (aK 0), .ref (aJ 0), .ref (aT 0), .ref (aN 0)]))]) ++ (([(aD 1, .inl (G.2.2.2, 12, .inr (.inr (.inr (.inr (SD))))))]) ++ (([(aD 2, .inl (G.2.1, 144, .inl (WI)))]) ++ ((KW G aK FK RK) ++ ((JW G aJ FJ RJ) ++ ((TW G aT FT RT) ++ ((NW G aN FN RN SR ra rl) ++ (pool G so aS FS RS m12)))))))) H) (.int (aMend (nI bd) x st)) := by
  refine Met.ofW (cc := cX5_mend) (maxL := 4) (ret := (some .int)) (by decide) rfl ?_
  intro p e s m args below meth c s₁ BB hml hv
  obtain ⟨rfl, hP, hK⟩ := hv
  have hx := BB.exec
  have hb := BB.bytes
  have hr := BB.returns
  have hts := atoms_spec (ws := wsX5_mend) BB.pre
  have hown : s.vm.findClass RX5 = some m.cls := findClass_of_methodNamed BB.named
  have hlocks := BB.notSynchronized
  have hP : va_P G.1 vwCl (([(aD 0, .inr (5, [.ref (aD 1), .ref (aD 2), .ref (aK 0), .ref (aJ 0), .ref (aT 0), .ref (aN 0)]))]) ++ (([(aD 1, .inl (G.2.2.2, 12, .inr (.inr (.inr (.inr (SD))))))]) ++ (([(aD 2, .inl (G.2.1, 144, .inl (WI)))]) ++ ((KW G aK FK RK) ++ ((JW G aJ FJ RJ) ++ ((TW G aT FT RT) ++ ((NW G aN FN RN SR ra rl) ++ (pool G so aS FS RS m12)))))))) s.heap := hP
  have fl203 := hts (.fieldLink RX5 203 "MixDesk$Joins" "bound" "I") (by decide +kernel)
  have fl29 := hts (.fieldLink RX5 29 "MixDesk" "joins" "LMixDesk$Joins;") (by decide +kernel)
  have inX0 : ∀ w ∈ wsX00, w ∈ wsX5_mend := by decide +kernel
  have inX5 : ∀ w ∈ wsX50, w ∈ wsX5_mend := by decide +kernel
  have ck201 := hts (.constant RX5 201 (-100000)) (by decide +kernel)
  have ck202 := hts (.constant RX5 202 (100000)) (by decide +kernel)
  have hl := lv_entry ([.ref (aD 0), .int x, .int st]) (n := 4) (Nat.le_of_ble_eq_true rfl)
  rw [lg_entry_eq]
  generalize (lg_sl ([.ref (aD 0), .int x, .int st]) ++ List.replicate (4 - (lg_sl ([.ref (aD 0), .int x, .int st])).length) Slot.unset).toArray = ls at hl ⊢
  have hl : lv_has ls 4 [(0, .ref (aD 0)), (1, .int x), (2, .int st)] := hl
  show mx_WR l wsX5_mend 1 22 p e s m (([.ref (aD 0), .int x, .int st] : List Value).toArray) below meth c (.int (aMend (nI bd) x st)) (F0 m 0 ls [])
  refine lv_iload_n hx hb dX5_mend_0 rfl (lv_at hl 1 rfl) ?_
  refine lv_ldc hx hb hown ck201 dX5_mend_1 ?_
  refine lv_ldc hx hb hown ck202 dX5_mend_3 ?_
  refine x_top (y := nI 100000) (by decide) ?_
  refine mx_callRO (v := .int (wi x (-100000) (nI 100000))) (va_runS (As := [.int x, .int (-100000), .int (nI 100000)]) (rest := []) ⟨hx, hb, hml, hown, hts⟩ (c_X5_within l G x (-100000) (nI 100000)) (va_cwS 3 hts gX5_mend_X5_within rfl rfl rfl (by decide +kernel) ⟨Nat.le_of_ble_eq_true rfl, Nat.le_of_ble_eq_true rfl⟩) (mx_preS hK trivial) rfl rfl hl.1 rfl (lv_room (Nat.le_of_ble_eq_true rfl)) dX5_mend_5 ⟨Nat.zero_le _, Nat.zero_le _⟩) ?_
  refine lv_if_eq (tgt := 23) hx hb dX5_mend_8 (by decide) (fun c_8 => ?_) (fun c_8 => ?_)
  · refine lv_iconst (v := (-1)) hx hb dX5_mend_23 (by decide) ?_
    refine x_top (y := aMend (nI bd) x st) ((mend_no (Or.inl c_8)).symm) ?_
    exact W.iret (v := aMend (nI bd) x st) hx hb hr (fun t9 ht9 hW9 => ⟨rfl, ht9⟩) (fun _ h => by cases h) dX5_mend_24
  · refine lv_iload_n hx hb dX5_mend_11 rfl (lv_at hl 2 rfl) ?_
    refine lv_bipush (v := nI 20) hx hb dX5_mend_12 (by decide) ?_
    refine lv_sipush (v := nI 400) hx hb dX5_mend_14 (by decide) ?_
    refine mx_callRO (v := .int (wi st (nI 20) (nI 400))) (va_runS (As := [.int st, .int (nI 20), .int (nI 400)]) (rest := []) ⟨hx, hb, hml, hown, hts⟩ (c_X5_within l G st (nI 20) (nI 400)) (va_cwS 3 hts gX5_mend_X5_within rfl rfl rfl (by decide +kernel) ⟨Nat.le_of_ble_eq_true rfl, Nat.le_of_ble_eq_true rfl⟩) (mx_preS hK trivial) rfl rfl hl.1 rfl (lv_room (Nat.le_of_ble_eq_true rfl)) dX5_mend_17 ⟨Nat.zero_le _, Nat.zero_le _⟩) ?_
    refine lv_if_ne (tgt := 25) hx hb dX5_mend_20 (by decide) (fun c_20 => ?_) (fun c_20 => ?_)
    · refine lv_iload_n hx hb dX5_mend_25 rfl (lv_at hl 1 rfl) ?_
      refine lv_if_ne (tgt := 31) hx hb dX5_mend_26 (by decide) (fun c_26 => ?_) (fun c_26 => ?_)
      · obtain ⟨z, hz, rfl⟩ := le_of (n := 400) (by omega) (fun q => (wi_1 c_20).1 (Int32.lt_trans q (by decide))) (wi_1 c_20).2
        obtain ⟨hmb, hk4⟩ := mby_n (st := z) (bd := bd) hz hbd9
        obtain ⟨d, hd9, hmd⟩ := ms_n c_8
        have hmul : z * bd ≤ 400 * 1000 := Nat.mul_le_mul hz hbd9
        generalize hkk : z * bd / 1000 = kk at hmb hk4
        refine lv_iconst (v := nI 4) hx hb dX5_mend_31 (by decide) ?_
        refine lv_iload_n hx hb dX5_mend_32 rfl (lv_at hl 2 rfl) ?_
        refine lv_aload_n hx hb dX5_mend_33 rfl (lv_at hl 0 rfl) ?_
        refine va_get (D := G.1) (ci := 5) (v := .ref (aJ 0)) (C := RX5) (T := TX5) (N := 6) hx hb hts inX5 hown hK.1 hP 0 rfl rfl 3 (by decide) fl29 (fun _ h9 => h9) rfl dX5_mend_34 ?_
        refine va_get (D := G.1) (ci := 0) (v := .int (FJ 0)) (C := RX0) (T := TX0) (N := 8) hx hb hts inX0 hown hK.1 hP 8 rfl rfl 0 (by decide) fl203 (fun _ h9 => h9) rfl dX5_mend_37 ?_
        refine x_top (y := nI bd) (hbd) ?_
        refine x_imul (r := z * bd) hx hb dX5_mend_40 (rfl) ?_
        refine lv_sipush (v := nI 1000) hx hb dX5_mend_41 (by decide) ?_
        refine x_idiv (r := kk) hx hb dX5_mend_44 (by omega) (by omega) (by omega) (hkk) ?_
        refine x_imul (r := 4 * kk) hx hb dX5_mend_45 (rfl) ?_
        refine lv_istore_n (lv' := [(3, .int (nI (4 * kk))), (0, .ref (aD 0)), (1, .int x), (2, .int (nI z))]) hx hb dX5_mend_46 rfl hl (by decide) rfl (fun ls hl => ?_)
        refine lv_iload_n hx hb dX5_mend_47 rfl (lv_at hl 0 rfl) ?_
        refine x_if_ne (tgt := 55) hx hb (by omega) dX5_mend_48 (by decide) (fun c_48 => ?_) (fun c_48 => ?_)
        · refine lv_iload_n hx hb dX5_mend_55 rfl (lv_at hl 2 rfl) ?_
          refine va_mabs hx hb (hml.trans hl.1.symm) hown (hts (.methodLink RX5 206 Lib.Math.abs.name) (by decide +kernel)) (hts (.static Lib.Math.abs.name) (by decide +kernel)) (hts (.initialized "java/lang/Math") (by decide +kernel)) (hts (.code Lib.Math.abs.name Lib.Math.abs.code 1 (some .int)) (by decide +kernel)) (Nat.le_of_ble_eq_true rfl) (Nat.le_of_ble_eq_true rfl) (Nat.zero_le _) (Nat.zero_le _) dX5_mend_56 ?_
          refine x_top (y := mabs x) rfl ?_
          refine x_top (y := msize x) (mabs_eq _) ?_
          refine x_top (y := nI d) (hmd) ?_
          refine lv_iload_n hx hb dX5_mend_59 rfl (lv_at hl 0 rfl) ?_
          refine x_iadd (r := d + 4 * kk) hx hb dX5_mend_60 (rfl) ?_
          refine lv_iconst (v := nI 1) hx hb dX5_mend_61 (by decide) ?_
          refine x_isub (r := d + 4 * kk - 1) hx hb dX5_mend_62 (by omega) ?_
          refine lv_iload_n hx hb dX5_mend_63 rfl (lv_at hl 0 rfl) ?_
          refine x_idiv (r := (d + 4 * kk - 1) / (4 * kk)) hx hb dX5_mend_64 (by omega) (by omega) (by omega) (rfl) ?_
          refine x_top (y := aMend (nI bd) x (nI z)) (by rw [mend_in c_8 c_20, if_neg c_26, hmb, if_neg (nI_ne0 (by omega) (by omega)), hmd]; exact mend_fin hd9 (by omega) hk4) ?_
          exact W.iret (v := aMend (nI bd) x (nI z)) hx hb hr (fun t9 ht9 hW9 => ⟨rfl, ht9⟩) (fun _ h => by cases h) dX5_mend_65
        · refine lv_iconst (v := (-1)) hx hb dX5_mend_51 (by decide) ?_
          refine lv_goto (tgt := 65) hx hb dX5_mend_52 (by decide) ?_
          refine x_top (y := aMend (nI bd) x (nI z)) (by rw [mend_in c_8 c_20, if_neg c_26, hmb, if_pos (show nI kk = 0 by rw [show kk = 0 by omega]; rfl)]) ?_
          exact W.iret (v := aMend (nI bd) x (nI z)) hx hb hr (fun t9 ht9 hW9 => ⟨rfl, ht9⟩) (fun _ h => by cases h) dX5_mend_65
      · refine lv_iconst (v := nI 0) hx hb dX5_mend_29 (by decide) ?_
        refine x_top (y := aMend (nI bd) x st) (by rw [mend_in c_8 c_20, if_pos c_26]) ?_
        exact W.iret (v := aMend (nI bd) x st) hx hb hr (fun t9 ht9 hW9 => ⟨rfl, ht9⟩) (fun _ h => by cases h) dX5_mend_30
    · refine lv_iconst (v := (-1)) hx hb dX5_mend_23 (by decide) ?_
      refine x_top (y := aMend (nI bd) x st) ((mend_no (Or.inr c_20)).symm) ?_
      exact W.iret (v := aMend (nI bd) x st) hx hb hr (fun t9 ht9 hW9 => ⟨rfl, ht9⟩) (fun _ h => by cases h) dX5_mend_24
