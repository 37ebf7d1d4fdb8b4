set_option maxHeartbeats 4000000 in
set_option maxRecDepth 100000 in
theorem c_X6_drop (l : Launch) (G : mx_G) (ad : Nat → Nat) (F : Nat → Int32) (R : Nat → Nat → Int32) (so : So) (x : Int32) (hall : moAll R so) (sz : Nat) : mx_EF l yX6_drop wsX6_drop 1 22 0 0 G [.ref (ad 0), .int x] sz (MW G ad F R) (fun _ : Nat → Nat → Int32 => some (.int (sAns so x pAny))) (fun U : Nat → Nat → Int32 => moAll U (sUpd so x pAny fNone) ∧ (∀ i, i < 144 → U 12 i = clrS so (R 12) x i) ∧ ∀ i, 13 ≤ i → U i = R i) (fun U : Nat → Nat → Int32 => MW G ad F U) := by
  refine Met.ofW (cc := cX6_drop) (maxL := 2) (ret := (some .boolean)) (by decide) rfl ?_
  intro p e s m args below meth c s₁ BB hml hv
  obtain ⟨rfl, ⟨hsz, hP, hD0⟩, hK⟩ := hv
  have hx := BB.exec
  have hb := BB.bytes
  have hr := BB.returns
  have hts := atoms_spec (ws := wsX6_drop) BB.pre
  have hown : s.vm.findClass RX6 = some m.cls := findClass_of_methodNamed BB.named
  have hlocks := BB.notSynchronized
  subst hsz
  have hD := hD0.self (sz := s.heap.size)
  have hA : ∀ q : Nat, s.heap.size ≤ q → va_A (MW G ad F R) s.heap.size q := fun q h => Or.inr h
  have hS : va_S (va_A (MW G ad F R) s.heap.size) s.heap s.heap [] := va_S.rf
  have fl7 := hts (.fieldLink RX6 7 "MixDeskModel" "isThere" "[Z") (by decide +kernel)
  have inX6 : ∀ w ∈ wsX60, w ∈ wsX6_drop := by decide +kernel
  have hl := lv_entry ([.ref (ad 0), .int x]) (n := 2) (Nat.le_of_ble_eq_true rfl)
  rw [lg_entry_eq]
  generalize (lg_sl ([.ref (ad 0), .int x]) ++ List.replicate (2 - (lg_sl ([.ref (ad 0), .int x])).length) Slot.unset).toArray = ls at hl ⊢
  have hl : lv_has ls 2 [(0, .ref (ad 0)), (1, .int x)] := hl
  refine lv_aload_n hx hb dX6_drop_0 rfl (lv_at hl 0 rfl) ?_
  refine lv_iload_n hx hb dX6_drop_1 rfl (lv_at hl 1 rfl) ?_
  refine mx_callRO (v := .int (isSongV R x)) (va_runV (As := [.int x]) (rest := []) ⟨hx, hb, hml, hown, hts⟩ (c_X6_isSong l G ad F R x) (cwV 1 hts gX6_drop_X6_isSong rfl rfl rfl (by decide +kernel) ⟨Nat.le_of_ble_eq_true rfl, Nat.le_of_ble_eq_true rfl⟩) (mx_preV hK hP (va_recv hK.1 hP (ci := 6) (q0 := 0) rfl rfl)) rfl rfl hl.1 rfl (lv_room (Nat.le_of_ble_eq_true rfl)) dX6_drop_2 ⟨Nat.zero_le _, Nat.zero_le _⟩) ?_
  refine lv_if_ne (tgt := 10) hx hb dX6_drop_5 (by decide) (fun c_5 => ?_) (fun c_5 => ?_)
  · obtain ⟨j, σ, rfl, hs, hso, hσ, hth, hm, ok⟩ := song_of hall c_5
    obtain ⟨m1, m2, m3, m4, m5, m6, m7, m8, m9, m10, m11⟩ := id hm
    obtain ⟨hB2, hB64, hAE, hEB, hT1, hT4, hPB, hP1, hP16, hC, hst, hmo⟩ := id ok
    refine lv_aload_n hx hb dX6_drop_10 rfl (lv_at hl 0 rfl) ?_
    refine va_get (D := G.1) (ci := 6) (v := .ref (ad 1)) (C := RX6) (T := TX6) (N := 36) hx hb hts inX6 hown hK.1 hP 0 rfl rfl 0 (by decide) fl7 (fun _ h9 => h9) rfl dX6_drop_11 ?_
    refine lv_iload_n hx hb dX6_drop_14 rfl (lv_at hl 1 rfl) ?_
    refine lv_iconst (v := nI 0) hx hb dX6_drop_15 (by decide) ?_
    refine x_zast hx hb hK.1 hP hD hS 1 1 (n := 12) (f := R 0) rfl rfl (k := j) (by omega) (by omega) dX6_drop_16 (MW G ad F (va_up R 0 (upd (R 0) j (nI 0)))) rfl (fun H locs hP hD hS => ?_)
    refine lv_aload_n hx hb dX6_drop_17 rfl (lv_at hl 0 rfl) ?_
    refine lv_iload_n hx hb dX6_drop_18 rfl (lv_at hl 1 rfl) ?_
    refine mx_callEv (va_runV (As := [.int (nI j)]) (rest := []) ⟨hx, hb, hml, hown, hts⟩ (c_X6_forgets l G ad F (va_up R 0 (upd (R 0) j (nI 0))) j hs _) (cwV 1 hts gX6_drop_X6_forgets rfl rfl rfl (by decide +kernel) ⟨Nat.le_of_ble_eq_true rfl, Nat.le_of_ble_eq_true rfl⟩) (mx_preV hK ⟨rfl, hP, mx_any hD (fun _ _ => trivial)⟩ (va_recv hK.1 hP (ci := 6) (q0 := 0) rfl rfl)) rfl rfl hl.1 rfl (lv_room (Nat.le_of_ble_eq_true rfl)) dX6_drop_19 ⟨Nat.zero_le _, Nat.zero_le _⟩) hP hD hS hA (mx_perm0) (fun M1 H locs hM1 hP hD hS => ?_)
    rw [List.append_nil] at hP hD
    have hP : va_P G.1 vwCl (MW G ad F (va_up (va_up R 0 (upd (R 0) j (nI 0))) 12 M1)) H := hP
    have hD : va_D _ (MW G ad F (va_up (va_up R 0 (upd (R 0) j (nI 0))) 12 M1)) := hD
    refine lv_iconst (v := nI 1) hx hb dX6_drop_22 (by decide) ?_
    refine x_top (y := sAns so (nI j) pAny) (sAns_yes hσ rfl) ?_
    exact W.zret (v := sAns so (nI j) pAny) hx hb hr (sAns_n) (fun t9 ht9 hW9 => ⟨⟨va_up (va_up R 0 (upd (R 0) j (nI 0))) 12 M1, rfl, ⟨drop_mo hall hs hσ rfl (fun i h1 h2 => by simp only [va_up]; rw [if_neg (by omega), if_neg (by omega)]), fun i hi => (hM1 i hi).trans (by rw [clrS_some hs hσ]; rfl), fun i hi => by simp only [va_up]; rw [if_neg (by omega), if_neg (by omega)]⟩, by rw [ht9]; exact hP, hD⟩, hS.F ht9⟩) hS.2.2 dX6_drop_23
  · refine lv_iconst (v := nI 0) hx hb dX6_drop_8 (by decide) ?_
    refine x_top (y := sAns so x pAny) (sAns_none (song_no hall c_5)) ?_
    exact W.zret (v := sAns so x pAny) hx hb hr (sAns_n) (fun t9 ht9 hW9 => ⟨⟨R, rfl, ⟨by rw [sUpd_none (song_no hall c_5)]; exact hall, fun i _ => by rw [clrS_none (song_no hall c_5)], fun _ _ => rfl⟩, by rw [ht9]; exact hP, hD⟩, hS.F ht9⟩) hS.2.2 dX6_drop_9

set_option maxHeartbeats 4000000 in
set_option maxRecDepth 100000 in
theorem c_X6_song (l : Launch) (G : mx_G) (ad : Nat → Nat) (F : Nat → Int32) (R : Nat → Nat → Int32) (so : So) (x k n st mo : Int32) (hall : moAll R so) (sz : Nat) : mx_EF l yX6_song wsX6_song 1 22 0 0 G [.ref (ad 0), .int x, .int k, .int n, .int st, .int mo] sz (MW G ad F R) (fun _ : Nat → Nat → Int32 => some (.int (b2i (okIn x ∧ okSong k n st mo)))) (fun U : Nat → Nat → Int32 => moAll U (nSong so x k n st mo) ∧ (∀ i, i < 144 → U 12 i = clrIf (b2i (okIn x ∧ okSong k n st mo)) (R 12) x i) ∧ ∀ i, 13 ≤ i → U i = R i) (fun U : Nat → Nat → Int32 => MW G ad F U) := by
  refine Met.ofW (cc := cX6_song) (maxL := 7) (ret := (some .boolean)) (by decide) rfl ?_
  intro p e s m args below meth c s₁ BB hml hv
  obtain ⟨rfl, ⟨hsz, hP, hD0⟩, hK⟩ := hv
  have hx := BB.exec
  have hb := BB.bytes
  have hr := BB.returns
  have hts := atoms_spec (ws := wsX6_song) BB.pre
  have hown : s.vm.findClass RX6 = some m.cls := findClass_of_methodNamed BB.named
  have hlocks := BB.notSynchronized
  subst hsz
  have hD := hD0.self (sz := s.heap.size)
  have hA : ∀ q : Nat, s.heap.size ≤ q → va_A (MW G ad F R) s.heap.size q := fun q h => Or.inr h
  have hS : va_S (va_A (MW G ad F R) s.heap.size) s.heap s.heap [] := va_S.rf
  have fl13 := hts (.fieldLink RX6 13 "MixDeskModel" "kind" "[I") (by decide +kernel)
  have fl17 := hts (.fieldLink RX6 17 "MixDeskModel" "bars" "[I") (by decide +kernel)
  have fl20 := hts (.fieldLink RX6 20 "MixDeskModel" "step" "[I") (by decide +kernel)
  have fl23 := hts (.fieldLink RX6 23 "MixDeskModel" "more" "[I") (by decide +kernel)
  have fl26 := hts (.fieldLink RX6 26 "MixDeskModel" "key" "[I") (by decide +kernel)
  have fl29 := hts (.fieldLink RX6 29 "MixDeskModel" "heat" "[I") (by decide +kernel)
  have fl32 := hts (.fieldLink RX6 32 "MixDeskModel" "phrase" "[I") (by decide +kernel)
  have fl35 := hts (.fieldLink RX6 35 "MixDeskModel" "beats" "[I") (by decide +kernel)
  have fl38 := hts (.fieldLink RX6 38 "MixDeskModel" "loopFrom" "[I") (by decide +kernel)
  have fl41 := hts (.fieldLink RX6 41 "MixDeskModel" "loopTo" "[I") (by decide +kernel)
  have fl44 := hts (.fieldLink RX6 44 "MixDeskModel" "loops" "[I") (by decide +kernel)
  have fl7 := hts (.fieldLink RX6 7 "MixDeskModel" "isThere" "[Z") (by decide +kernel)
  have inX6 : ∀ w ∈ wsX60, w ∈ wsX6_song := by decide +kernel
  have hl := lv_entry ([.ref (ad 0), .int x, .int k, .int n, .int st, .int mo]) (n := 7) (Nat.le_of_ble_eq_true rfl)
  rw [lg_entry_eq]
  generalize (lg_sl ([.ref (ad 0), .int x, .int k, .int n, .int st, .int mo]) ++ List.replicate (7 - (lg_sl ([.ref (ad 0), .int x, .int k, .int n, .int st, .int mo])).length) Slot.unset).toArray = ls at hl ⊢
  have hl : lv_has ls 7 [(0, .ref (ad 0)), (1, .int x), (2, .int k), (3, .int n), (4, .int st), (5, .int mo)] := hl
  refine lv_iload_n hx hb dX6_song_0 rfl (lv_at hl 1 rfl) ?_
  refine lv_if_lt (tgt := 45) hx hb dX6_song_1 (by decide) (fun c_1 => ?_) (fun c_1 => ?_)
  · have hno : ¬ (okIn x ∧ okSong k n st mo) := fun q => q.1.1 c_1
    refine lv_iconst (v := nI 0) hx hb dX6_song_45 (by decide) ?_
    refine x_top (y := b2i (okIn x ∧ okSong k n st mo)) (b2i_f hno) ?_
    exact W.zret (v := b2i (okIn x ∧ okSong k n st mo)) hx hb hr (b2i_n _) (fun t9 ht9 hW9 => ⟨⟨R, rfl, ⟨by rw [nSong_no hno]; exact hall, fun i _ => by rw [clrIf_no hno], fun _ _ => rfl⟩, by rw [ht9]; exact hP, hD⟩, hS.F ht9⟩) hS.2.2 dX6_song_46
  · refine lv_iload_n hx hb dX6_song_4 rfl (lv_at hl 1 rfl) ?_
    refine lv_bipush (v := nI 12) hx hb dX6_song_5 (by decide) ?_
    refine lv_icmp_ge (tgt := 45) hx hb dX6_song_7 (by decide) (fun c_7 => ?_) (fun c_7 => ?_)
    · have hno : ¬ (okIn x ∧ okSong k n st mo) := fun q => q.1.2 c_7
      refine lv_iconst (v := nI 0) hx hb dX6_song_45 (by decide) ?_
      refine x_top (y := b2i (okIn x ∧ okSong k n st mo)) (b2i_f hno) ?_
      exact W.zret (v := b2i (okIn x ∧ okSong k n st mo)) hx hb hr (b2i_n _) (fun t9 ht9 hW9 => ⟨⟨R, rfl, ⟨by rw [nSong_no hno]; exact hall, fun i _ => by rw [clrIf_no hno], fun _ _ => rfl⟩, by rw [ht9]; exact hP, hD⟩, hS.F ht9⟩) hS.2.2 dX6_song_46
    · refine lv_iload_n hx hb dX6_song_10 rfl (lv_at hl 2 rfl) ?_
      refine lv_if_lt (tgt := 45) hx hb dX6_song_11 (by decide) (fun c_11 => ?_) (fun c_11 => ?_)
      · have hno : ¬ (okIn x ∧ okSong k n st mo) := fun q => q.2.1.1.1 c_11
        refine lv_iconst (v := nI 0) hx hb dX6_song_45 (by decide) ?_
        refine x_top (y := b2i (okIn x ∧ okSong k n st mo)) (b2i_f hno) ?_
        exact W.zret (v := b2i (okIn x ∧ okSong k n st mo)) hx hb hr (b2i_n _) (fun t9 ht9 hW9 => ⟨⟨R, rfl, ⟨by rw [nSong_no hno]; exact hall, fun i _ => by rw [clrIf_no hno], fun _ _ => rfl⟩, by rw [ht9]; exact hP, hD⟩, hS.F ht9⟩) hS.2.2 dX6_song_46
      · refine lv_iload_n hx hb dX6_song_14 rfl (lv_at hl 2 rfl) ?_
        refine lv_iconst (v := nI 2) hx hb dX6_song_15 (by decide) ?_
        refine lv_icmp_gt (tgt := 45) hx hb dX6_song_16 (by decide) (fun c_16 => ?_) (fun c_16 => ?_)
        · have hno : ¬ (okIn x ∧ okSong k n st mo) := fun q => q.2.1.1.2 c_16
          refine lv_iconst (v := nI 0) hx hb dX6_song_45 (by decide) ?_
          refine x_top (y := b2i (okIn x ∧ okSong k n st mo)) (b2i_f hno) ?_
          exact W.zret (v := b2i (okIn x ∧ okSong k n st mo)) hx hb hr (b2i_n _) (fun t9 ht9 hW9 => ⟨⟨R, rfl, ⟨by rw [nSong_no hno]; exact hall, fun i _ => by rw [clrIf_no hno], fun _ _ => rfl⟩, by rw [ht9]; exact hP, hD⟩, hS.F ht9⟩) hS.2.2 dX6_song_46
        · refine lv_iload_n hx hb dX6_song_19 rfl (lv_at hl 3 rfl) ?_
          refine lv_iconst (v := nI 2) hx hb dX6_song_20 (by decide) ?_
          refine lv_icmp_lt (tgt := 45) hx hb dX6_song_21 (by decide) (fun c_21 => ?_) (fun c_21 => ?_)
          · have hno : ¬ (okIn x ∧ okSong k n st mo) := fun q => q.2.1.2.1.1 c_21
            refine lv_iconst (v := nI 0) hx hb dX6_song_45 (by decide) ?_
            refine x_top (y := b2i (okIn x ∧ okSong k n st mo)) (b2i_f hno) ?_
            exact W.zret (v := b2i (okIn x ∧ okSong k n st mo)) hx hb hr (b2i_n _) (fun t9 ht9 hW9 => ⟨⟨R, rfl, ⟨by rw [nSong_no hno]; exact hall, fun i _ => by rw [clrIf_no hno], fun _ _ => rfl⟩, by rw [ht9]; exact hP, hD⟩, hS.F ht9⟩) hS.2.2 dX6_song_46
          · refine lv_iload_n hx hb dX6_song_24 rfl (lv_at hl 3 rfl) ?_
            refine lv_bipush (v := nI 64) hx hb dX6_song_25 (by decide) ?_
            refine lv_icmp_gt (tgt := 45) hx hb dX6_song_27 (by decide) (fun c_27 => ?_) (fun c_27 => ?_)
            · have hno : ¬ (okIn x ∧ okSong k n st mo) := fun q => q.2.1.2.1.2 c_27
              refine lv_iconst (v := nI 0) hx hb dX6_song_45 (by decide) ?_
              refine x_top (y := b2i (okIn x ∧ okSong k n st mo)) (b2i_f hno) ?_
              exact W.zret (v := b2i (okIn x ∧ okSong k n st mo)) hx hb hr (b2i_n _) (fun t9 ht9 hW9 => ⟨⟨R, rfl, ⟨by rw [nSong_no hno]; exact hall, fun i _ => by rw [clrIf_no hno], fun _ _ => rfl⟩, by rw [ht9]; exact hP, hD⟩, hS.F ht9⟩) hS.2.2 dX6_song_46
            · refine lv_iload hx hb dX6_song_30 (lv_at hl 4 rfl) ?_
              refine lv_bipush (v := nI 20) hx hb dX6_song_32 (by decide) ?_
              refine lv_icmp_lt (tgt := 45) hx hb dX6_song_34 (by decide) (fun c_34 => ?_) (fun c_34 => ?_)
              · have hno : ¬ (okIn x ∧ okSong k n st mo) := fun q => q.2.1.2.2.1 c_34
                refine lv_iconst (v := nI 0) hx hb dX6_song_45 (by decide) ?_
                refine x_top (y := b2i (okIn x ∧ okSong k n st mo)) (b2i_f hno) ?_
                exact W.zret (v := b2i (okIn x ∧ okSong k n st mo)) hx hb hr (b2i_n _) (fun t9 ht9 hW9 => ⟨⟨R, rfl, ⟨by rw [nSong_no hno]; exact hall, fun i _ => by rw [clrIf_no hno], fun _ _ => rfl⟩, by rw [ht9]; exact hP, hD⟩, hS.F ht9⟩) hS.2.2 dX6_song_46
              · refine lv_iload hx hb dX6_song_37 (lv_at hl 4 rfl) ?_
                refine lv_sipush (v := nI 400) hx hb dX6_song_39 (by decide) ?_
                refine lv_icmp_le (tgt := 47) hx hb dX6_song_42 (by decide) (fun c_42 => ?_) (fun c_42 => ?_)
                · have lp88 : (k = nI 1 → ¬ mo < 0 ∧ ¬ st - nI 10 < mo) → (k = nI 2 → ¬ mo < (-20) ∧ ¬ nI 20 < mo) → ∀ (H : Heap) (locs : List Loc), va_P G.1 vwCl (MW G ad F R) H → va_D (va_A (MW G ad F R) s.heap.size) (MW G ad F R) → va_S (va_A (MW G ad F R) s.heap.size) s.heap H locs → ∀ ls : Array Slot, lv_has ls 7 [(0, .ref (ad 0)), (1, .int x), (2, .int k), (3, .int n), (4, .int st), (5, .int mo)] → mx_WE l wsX6_song 1 22 0 0 G p e s m (([.ref (ad 0), .int x, .int k, .int n, .int st, .int mo] : List Value).toArray) below meth c (MW G ad F R) (fun _ : Nat → Nat → Int32 => some (.int (b2i (okIn x ∧ okSong k n st mo)))) (fun U : Nat → Nat → Int32 => moAll U (nSong so x k n st mo) ∧ (∀ i, i < 144 → U 12 i = clrIf (b2i (okIn x ∧ okSong k n st mo)) (R 12) x i) ∧ ∀ i, 13 ≤ i → U i = R i) (fun U : Nat → Nat → Int32 => MW G ad F U) H locs 0 0 (F0 m 88 ls []) := by
                    intro  hk1 hk2 H locs hP hD hS ls hl
                    obtain ⟨j, hs, rfl⟩ := lt_of (by omega) c_1 c_7
                    have hin : okIn (nI j) := ⟨c_1, c_7⟩
                    have hok : okSong k n st mo := ⟨⟨⟨c_11, c_16⟩, ⟨c_21, c_27⟩, c_34, Int32.not_lt.mpr c_42⟩, hk1, hk2⟩
                    refine lv_aload_n hx hb dX6_song_88 rfl (lv_at hl 0 rfl) ?_
                    refine va_get (D := G.1) (ci := 6) (v := .ref (ad 1)) (C := RX6) (T := TX6) (N := 36) hx hb hts inX6 hown hK.1 hP 0 rfl rfl 0 (by decide) fl7 (fun _ h9 => h9) rfl dX6_song_89 ?_
                    refine lv_iload_n hx hb dX6_song_92 rfl (lv_at hl 1 rfl) ?_
                    refine lv_iconst (v := nI 1) hx hb dX6_song_93 (by decide) ?_
                    refine x_zast hx hb hK.1 hP hD hS 1 1 (n := 12) (f := R 0) rfl rfl (k := j) (by omega) (by omega) dX6_song_94 (MW G ad F (va_up R 0 (upd (R 0) j (nI 1)))) rfl (fun H locs hP hD hS => ?_)
                    refine lv_aload_n hx hb dX6_song_95 rfl (lv_at hl 0 rfl) ?_
                    refine va_get (D := G.1) (ci := 6) (v := .ref (ad 2)) (C := RX6) (T := TX6) (N := 36) hx hb hts inX6 hown hK.1 hP 0 rfl rfl 1 (by decide) fl13 (fun _ h9 => h9) rfl dX6_song_96 ?_
                    refine lv_iload_n hx hb dX6_song_99 rfl (lv_at hl 1 rfl) ?_
                    refine lv_iload_n hx hb dX6_song_100 rfl (lv_at hl 2 rfl) ?_
                    refine x_iast hx hb hK.1 hP hD hS 2 0 (n := 12) (f := R 1) rfl rfl (k := j) (by omega) (by omega) dX6_song_101 (MW G ad F (va_up (va_up R 0 (upd (R 0) j (nI 1))) 1 (upd (R 1) j k))) rfl (fun H locs hP hD hS => ?_)
                    refine lv_aload_n hx hb dX6_song_102 rfl (lv_at hl 0 rfl) ?_
                    refine va_get (D := G.1) (ci := 6) (v := .ref (ad 3)) (C := RX6) (T := TX6) (N := 36) hx hb hts inX6 hown hK.1 hP 0 rfl rfl 2 (by decide) fl17 (fun _ h9 => h9) rfl dX6_song_103 ?_
                    refine lv_iload_n hx hb dX6_song_106 rfl (lv_at hl 1 rfl) ?_
                    refine lv_iload_n hx hb dX6_song_107 rfl (lv_at hl 3 rfl) ?_
                    refine x_iast hx hb hK.1 hP hD hS 3 0 (n := 12) (f := R 2) rfl rfl (k := j) (by omega) (by omega) dX6_song_108 (MW G ad F (va_up (va_up (va_up R 0 (upd (R 0) j (nI 1))) 1 (upd (R 1) j k)) 2 (upd (R 2) j n))) rfl (fun H locs hP hD hS => ?_)
                    refine lv_aload_n hx hb dX6_song_109 rfl (lv_at hl 0 rfl) ?_
                    refine va_get (D := G.1) (ci := 6) (v := .ref (ad 4)) (C := RX6) (T := TX6) (N := 36) hx hb hts inX6 hown hK.1 hP 0 rfl rfl 3 (by decide) fl20 (fun _ h9 => h9) rfl dX6_song_110 ?_
                    refine lv_iload_n hx hb dX6_song_113 rfl (lv_at hl 1 rfl) ?_
                    refine lv_iload hx hb dX6_song_114 (lv_at hl 4 rfl) ?_
                    refine x_iast hx hb hK.1 hP hD hS 4 0 (n := 12) (f := R 3) rfl rfl (k := j) (by omega) (by omega) dX6_song_116 (MW G ad F (va_up (va_up (va_up (va_up R 0 (upd (R 0) j (nI 1))) 1 (upd (R 1) j k)) 2 (upd (R 2) j n)) 3 (upd (R 3) j st))) rfl (fun H locs hP hD hS => ?_)
                    have lp132 : ∀ (H : Heap) (locs : List Loc), va_P G.1 vwCl (MW G ad F (va_up (va_up (va_up (va_up R 0 (upd (R 0) j (nI 1))) 1 (upd (R 1) j k)) 2 (upd (R 2) j n)) 3 (upd (R 3) j st))) H → va_D (va_A (MW G ad F R) s.heap.size) (MW G ad F (va_up (va_up (va_up (va_up R 0 (upd (R 0) j (nI 1))) 1 (upd (R 1) j k)) 2 (upd (R 2) j n)) 3 (upd (R 3) j st))) → va_S (va_A (MW G ad F R) s.heap.size) s.heap H locs → ∀ ls : Array Slot, lv_has ls 7 [(0, .ref (ad 0)), (1, .int (nI j)), (2, .int k), (3, .int n), (4, .int st), (5, .int mo)] → mx_WE l wsX6_song 1 22 0 0 G p e s m (([.ref (ad 0), .int (nI j), .int k, .int n, .int st, .int mo] : List Value).toArray) below meth c (MW G ad F R) (fun _ : Nat → Nat → Int32 => some (.int (b2i (okIn (nI j) ∧ okSong k n st mo)))) (fun U : Nat → Nat → Int32 => moAll U (nSong so (nI j) k n st mo) ∧ (∀ i, i < 144 → U 12 i = clrIf (b2i (okIn (nI j) ∧ okSong k n st mo)) (R 12) (nI j) i) ∧ ∀ i, 13 ≤ i → U i = R i) (fun U : Nat → Nat → Int32 => MW G ad F U) H locs 0 0 (F0 m 132 ls [.int (if k = 0 then nI 0 else mo), .int (nI j), .ref (ad 5)]) := by
                      intro   H locs hP hD hS ls hl
                      refine x_iast hx hb hK.1 hP hD hS 5 0 (n := 12) (f := R 4) rfl rfl (k := j) (by omega) (by omega) dX6_song_132 (MW G ad F (va_up (va_up (va_up (va_up (va_up R 0 (upd (R 0) j (nI 1))) 1 (upd (R 1) j k)) 2 (upd (R 2) j n)) 3 (upd (R 3) j st)) 4 (upd (R 4) j (if k = 0 then nI 0 else mo)))) rfl (fun H locs hP hD hS => ?_)
                      refine lv_aload_n hx hb dX6_song_133 rfl (lv_at hl 0 rfl) ?_
                      refine va_get (D := G.1) (ci := 6) (v := .ref (ad 6)) (C := RX6) (T := TX6) (N := 36) hx hb hts inX6 hown hK.1 hP 0 rfl rfl 5 (by decide) fl26 (fun _ h9 => h9) rfl dX6_song_134 ?_
                      refine lv_iload_n hx hb dX6_song_137 rfl (lv_at hl 1 rfl) ?_
                      refine lv_iconst (v := nI 0) hx hb dX6_song_138 (by decide) ?_
                      refine x_iast hx hb hK.1 hP hD hS 6 0 (n := 12) (f := R 5) rfl rfl (k := j) (by omega) (by omega) dX6_song_139 (MW G ad F (va_up (va_up (va_up (va_up (va_up (va_up R 0 (upd (R 0) j (nI 1))) 1 (upd (R 1) j k)) 2 (upd (R 2) j n)) 3 (upd (R 3) j st)) 4 (upd (R 4) j (if k = 0 then nI 0 else mo))) 5 (upd (R 5) j (nI 0)))) rfl (fun H locs hP hD hS => ?_)
                      refine lv_aload_n hx hb dX6_song_140 rfl (lv_at hl 0 rfl) ?_
                      refine va_get (D := G.1) (ci := 6) (v := .ref (ad 7)) (C := RX6) (T := TX6) (N := 36) hx hb hts inX6 hown hK.1 hP 0 rfl rfl 6 (by decide) fl29 (fun _ h9 => h9) rfl dX6_song_141 ?_
                      refine lv_iload_n hx hb dX6_song_144 rfl (lv_at hl 1 rfl) ?_
                      refine lv_iconst (v := nI 0) hx hb dX6_song_145 (by decide) ?_
                      refine x_iast hx hb hK.1 hP hD hS 7 0 (n := 12) (f := R 6) rfl rfl (k := j) (by omega) (by omega) dX6_song_146 (MW G ad F (va_up (va_up (va_up (va_up (va_up (va_up (va_up R 0 (upd (R 0) j (nI 1))) 1 (upd (R 1) j k)) 2 (upd (R 2) j n)) 3 (upd (R 3) j st)) 4 (upd (R 4) j (if k = 0 then nI 0 else mo))) 5 (upd (R 5) j (nI 0))) 6 (upd (R 6) j (nI 0)))) rfl (fun H locs hP hD hS => ?_)
                      refine lv_aload_n hx hb dX6_song_147 rfl (lv_at hl 0 rfl) ?_
                      refine va_get (D := G.1) (ci := 6) (v := .ref (ad 8)) (C := RX6) (T := TX6) (N := 36) hx hb hts inX6 hown hK.1 hP 0 rfl rfl 7 (by decide) fl32 (fun _ h9 => h9) rfl dX6_song_148 ?_
                      refine lv_iload_n hx hb dX6_song_151 rfl (lv_at hl 1 rfl) ?_
                      refine lv_iconst (v := nI 4) hx hb dX6_song_152 (by decide) ?_
                      refine x_iast hx hb hK.1 hP hD hS 8 0 (n := 12) (f := R 7) rfl rfl (k := j) (by omega) (by omega) dX6_song_153 (MW G ad F (va_up (va_up (va_up (va_up (va_up (va_up (va_up (va_up R 0 (upd (R 0) j (nI 1))) 1 (upd (R 1) j k)) 2 (upd (R 2) j n)) 3 (upd (R 3) j st)) 4 (upd (R 4) j (if k = 0 then nI 0 else mo))) 5 (upd (R 5) j (nI 0))) 6 (upd (R 6) j (nI 0))) 7 (upd (R 7) j (nI 4)))) rfl (fun H locs hP hD hS => ?_)
                      refine lv_iconst (v := nI 0) hx hb dX6_song_154 (by decide) ?_
                      refine lv_istore (lv' := [(6, .int (nI 0)), (0, .ref (ad 0)), (1, .int (nI j)), (2, .int k), (3, .int n), (4, .int st), (5, .int mo)]) hx hb dX6_song_155 hl (by decide) rfl (fun ls hl => ?_)
                      have lp157 : ∀ (nn : Nat) (i : Nat) (B : Nat → Int32), 64 - i < nn → (i ≤ 64) → (∀ b, b < i → B (64 * j + b) = nI 4) → (∀ q, (q < 64 * j ∨ 64 * j + i ≤ q) → B q = R 8 q) → ∀ (H : Heap) (locs : List Loc), va_P G.1 vwCl (MW G ad F (va_up (va_up (va_up (va_up (va_up (va_up (va_up (va_up (va_up R 0 (upd (R 0) j (nI 1))) 1 (upd (R 1) j k)) 2 (upd (R 2) j n)) 3 (upd (R 3) j st)) 4 (upd (R 4) j (if k = 0 then nI 0 else mo))) 5 (upd (R 5) j (nI 0))) 6 (upd (R 6) j (nI 0))) 7 (upd (R 7) j (nI 4))) 8 B)) H → va_D (va_A (MW G ad F R) s.heap.size) (MW G ad F (va_up (va_up (va_up (va_up (va_up (va_up (va_up (va_up (va_up R 0 (upd (R 0) j (nI 1))) 1 (upd (R 1) j k)) 2 (upd (R 2) j n)) 3 (upd (R 3) j st)) 4 (upd (R 4) j (if k = 0 then nI 0 else mo))) 5 (upd (R 5) j (nI 0))) 6 (upd (R 6) j (nI 0))) 7 (upd (R 7) j (nI 4))) 8 B)) → va_S (va_A (MW G ad F R) s.heap.size) s.heap H locs → ∀ ls : Array Slot, lv_has ls 7 [(0, .ref (ad 0)), (1, .int (nI j)), (2, .int k), (3, .int n), (4, .int st), (5, .int mo), (6, .int (nI i))] → mx_WE l wsX6_song 1 22 0 0 G p e s m (([.ref (ad 0), .int (nI j), .int k, .int n, .int st, .int mo] : List Value).toArray) below meth c (MW G ad F R) (fun _ : Nat → Nat → Int32 => some (.int (b2i (okIn (nI j) ∧ okSong k n st mo)))) (fun U : Nat → Nat → Int32 => moAll U (nSong so (nI j) k n st mo) ∧ (∀ i, i < 144 → U 12 i = clrIf (b2i (okIn (nI j) ∧ okSong k n st mo)) (R 12) (nI j) i) ∧ ∀ i, 13 ≤ i → U i = R i) (fun U : Nat → Nat → Int32 => MW G ad F U) H locs 0 0 (F0 m 157 ls []) := by
                        intro nn
                        induction nn with
                        | zero => intro i B hmu; exact absurd hmu (Nat.not_lt_zero _)
                        | succ nn ih157 =>
                          intro i B hmu hi hB1 hB2 H locs hP hD hS ls hl
                          refine lv_iload hx hb dX6_song_157 (lv_at hl 6 rfl) ?_
                          refine lv_bipush (v := nI 64) hx hb dX6_song_159 (by decide) ?_
                          refine x_icmp_ge (tgt := 183) hx hb (by omega) (by omega) dX6_song_161 (by decide) (fun c_161 => ?_) (fun c_161 => ?_)
                          · refine lv_aload_n hx hb dX6_song_183 rfl (lv_at hl 0 rfl) ?_
                            refine va_get (D := G.1) (ci := 6) (v := .ref (ad 10)) (C := RX6) (T := TX6) (N := 36) hx hb hts inX6 hown hK.1 hP 0 rfl rfl 9 (by decide) fl38 (fun _ h9 => h9) rfl dX6_song_184 ?_
                            refine lv_iload_n hx hb dX6_song_187 rfl (lv_at hl 1 rfl) ?_
                            refine lv_iconst (v := nI 0) hx hb dX6_song_188 (by decide) ?_
                            refine x_iast hx hb hK.1 hP hD hS 10 0 (n := 12) (f := R 9) rfl rfl (k := j) (by omega) (by omega) dX6_song_189 (MW G ad F (va_up (va_up (va_up (va_up (va_up (va_up (va_up (va_up (va_up (va_up R 0 (upd (R 0) j (nI 1))) 1 (upd (R 1) j k)) 2 (upd (R 2) j n)) 3 (upd (R 3) j st)) 4 (upd (R 4) j (if k = 0 then nI 0 else mo))) 5 (upd (R 5) j (nI 0))) 6 (upd (R 6) j (nI 0))) 7 (upd (R 7) j (nI 4))) 8 B) 9 (upd (R 9) j (nI 0)))) rfl (fun H locs hP hD hS => ?_)
                            refine lv_aload_n hx hb dX6_song_190 rfl (lv_at hl 0 rfl) ?_
                            refine va_get (D := G.1) (ci := 6) (v := .ref (ad 11)) (C := RX6) (T := TX6) (N := 36) hx hb hts inX6 hown hK.1 hP 0 rfl rfl 10 (by decide) fl41 (fun _ h9 => h9) rfl dX6_song_191 ?_
                            refine lv_iload_n hx hb dX6_song_194 rfl (lv_at hl 1 rfl) ?_
                            refine lv_iconst (v := nI 0) hx hb dX6_song_195 (by decide) ?_
                            refine x_iast hx hb hK.1 hP hD hS 11 0 (n := 12) (f := R 10) rfl rfl (k := j) (by omega) (by omega) dX6_song_196 (MW G ad F (va_up (va_up (va_up (va_up (va_up (va_up (va_up (va_up (va_up (va_up (va_up R 0 (upd (R 0) j (nI 1))) 1 (upd (R 1) j k)) 2 (upd (R 2) j n)) 3 (upd (R 3) j st)) 4 (upd (R 4) j (if k = 0 then nI 0 else mo))) 5 (upd (R 5) j (nI 0))) 6 (upd (R 6) j (nI 0))) 7 (upd (R 7) j (nI 4))) 8 B) 9 (upd (R 9) j (nI 0))) 10 (upd (R 10) j (nI 0)))) rfl (fun H locs hP hD hS => ?_)
                            refine lv_aload_n hx hb dX6_song_197 rfl (lv_at hl 0 rfl) ?_
                            refine va_get (D := G.1) (ci := 6) (v := .ref (ad 12)) (C := RX6) (T := TX6) (N := 36) hx hb hts inX6 hown hK.1 hP 0 rfl rfl 11 (by decide) fl44 (fun _ h9 => h9) rfl dX6_song_198 ?_
                            refine lv_iload_n hx hb dX6_song_201 rfl (lv_at hl 1 rfl) ?_
                            refine lv_iconst (v := nI 1) hx hb dX6_song_202 (by decide) ?_
                            refine x_iast hx hb hK.1 hP hD hS 12 0 (n := 12) (f := R 11) rfl rfl (k := j) (by omega) (by omega) dX6_song_203 (MW G ad F (va_up (va_up (va_up (va_up (va_up (va_up (va_up (va_up (va_up (va_up (va_up (va_up R 0 (upd (R 0) j (nI 1))) 1 (upd (R 1) j k)) 2 (upd (R 2) j n)) 3 (upd (R 3) j st)) 4 (upd (R 4) j (if k = 0 then nI 0 else mo))) 5 (upd (R 5) j (nI 0))) 6 (upd (R 6) j (nI 0))) 7 (upd (R 7) j (nI 4))) 8 B) 9 (upd (R 9) j (nI 0))) 10 (upd (R 10) j (nI 0))) 11 (upd (R 11) j (nI 1)))) rfl (fun H locs hP hD hS => ?_)
                            refine lv_aload_n hx hb dX6_song_204 rfl (lv_at hl 0 rfl) ?_
                            refine lv_iload_n hx hb dX6_song_205 rfl (lv_at hl 1 rfl) ?_
                            refine mx_callEv (va_runV (As := [.int (nI j)]) (rest := []) ⟨hx, hb, hml, hown, hts⟩ (c_X6_forgets l G ad F (va_up (va_up (va_up (va_up (va_up (va_up (va_up (va_up (va_up (va_up (va_up (va_up R 0 (upd (R 0) j (nI 1))) 1 (upd (R 1) j k)) 2 (upd (R 2) j n)) 3 (upd (R 3) j st)) 4 (upd (R 4) j (if k = 0 then nI 0 else mo))) 5 (upd (R 5) j (nI 0))) 6 (upd (R 6) j (nI 0))) 7 (upd (R 7) j (nI 4))) 8 B) 9 (upd (R 9) j (nI 0))) 10 (upd (R 10) j (nI 0))) 11 (upd (R 11) j (nI 1))) j hs _) (cwV 1 hts gX6_song_X6_forgets rfl rfl rfl (by decide +kernel) ⟨Nat.le_of_ble_eq_true rfl, Nat.le_of_ble_eq_true rfl⟩) (mx_preV hK ⟨rfl, hP, mx_any hD (fun _ _ => trivial)⟩ (va_recv hK.1 hP (ci := 6) (q0 := 0) rfl rfl)) rfl rfl hl.1 rfl (lv_room (Nat.le_of_ble_eq_true rfl)) dX6_song_206 ⟨Nat.zero_le _, Nat.zero_le _⟩) hP hD hS hA (mx_perm0) (fun M1 H locs hM1 hP hD hS => ?_)
                            rw [List.append_nil] at hP hD
                            have hP : va_P G.1 vwCl (MW G ad F (va_up (va_up (va_up (va_up (va_up (va_up (va_up (va_up (va_up (va_up (va_up (va_up (va_up R 0 (upd (R 0) j (nI 1))) 1 (upd (R 1) j k)) 2 (upd (R 2) j n)) 3 (upd (R 3) j st)) 4 (upd (R 4) j (if k = 0 then nI 0 else mo))) 5 (upd (R 5) j (nI 0))) 6 (upd (R 6) j (nI 0))) 7 (upd (R 7) j (nI 4))) 8 B) 9 (upd (R 9) j (nI 0))) 10 (upd (R 10) j (nI 0))) 11 (upd (R 11) j (nI 1))) 12 M1)) H := hP
                            have hD : va_D _ (MW G ad F (va_up (va_up (va_up (va_up (va_up (va_up (va_up (va_up (va_up (va_up (va_up (va_up (va_up R 0 (upd (R 0) j (nI 1))) 1 (upd (R 1) j k)) 2 (upd (R 2) j n)) 3 (upd (R 3) j st)) 4 (upd (R 4) j (if k = 0 then nI 0 else mo))) 5 (upd (R 5) j (nI 0))) 6 (upd (R 6) j (nI 0))) 7 (upd (R 7) j (nI 4))) 8 B) 9 (upd (R 9) j (nI 0))) 10 (upd (R 10) j (nI 0))) 11 (upd (R 11) j (nI 1))) 12 M1)) := hD
                            refine lv_iconst (v := nI 1) hx hb dX6_song_209 (by decide) ?_
                            refine x_top (y := b2i (okIn (nI j) ∧ okSong k n st mo)) (b2i_t ⟨hin, hok⟩) ?_
                            exact W.zret (v := b2i (okIn (nI j) ∧ okSong k n st mo)) hx hb hr (b2i_n _) (fun t9 ht9 hW9 => ⟨⟨va_up (va_up (va_up (va_up (va_up (va_up (va_up (va_up (va_up (va_up (va_up (va_up (va_up R 0 (upd (R 0) j (nI 1))) 1 (upd (R 1) j k)) 2 (upd (R 2) j n)) 3 (upd (R 3) j st)) 4 (upd (R 4) j (if k = 0 then nI 0 else mo))) 5 (upd (R 5) j (nI 0))) 6 (upd (R 6) j (nI 0))) 7 (upd (R 7) j (nI 4))) 8 B) 9 (upd (R 9) j (nI 0))) 10 (upd (R 10) j (nI 0))) 11 (upd (R 11) j (nI 1))) 12 M1, rfl, ⟨song_mo hall hs hok rfl rfl rfl rfl rfl rfl rfl rfl (fun b hb => hB1 b (by omega)) (fun i hi => hB2 i (by omega)) rfl rfl rfl, fun i hi => (hM1 i hi).trans (by rw [clrIf_yes hs ⟨hin, hok⟩]; rfl), fun i hi => by simp only [va_up]; (repeat rw [if_neg (by omega)])⟩, by rw [ht9]; exact hP, hD⟩, hS.F ht9⟩) hS.2.2 dX6_song_210
                          · refine lv_aload_n hx hb dX6_song_164 rfl (lv_at hl 0 rfl) ?_
                            refine va_get (D := G.1) (ci := 6) (v := .ref (ad 9)) (C := RX6) (T := TX6) (N := 36) hx hb hts inX6 hown hK.1 hP 0 rfl rfl 8 (by decide) fl35 (fun _ h9 => h9) rfl dX6_song_165 ?_
                            refine lv_bipush (v := nI 64) hx hb dX6_song_168 (by decide) ?_
                            refine lv_iload_n hx hb dX6_song_170 rfl (lv_at hl 1 rfl) ?_
                            refine x_imul (r := 64 * j) hx hb dX6_song_171 (rfl) ?_
                            refine lv_iload hx hb dX6_song_172 (lv_at hl 6 rfl) ?_
                            refine x_iadd (r := 64 * j + i) hx hb dX6_song_174 (rfl) ?_
                            refine lv_iconst (v := nI 4) hx hb dX6_song_175 (by decide) ?_
                            refine x_iast hx hb hK.1 hP hD hS 9 0 (n := 768) (f := B) rfl rfl (k := 64 * j + i) (by omega) (by omega) dX6_song_176 (MW G ad F (va_up (va_up (va_up (va_up (va_up (va_up (va_up (va_up (va_up R 0 (upd (R 0) j (nI 1))) 1 (upd (R 1) j k)) 2 (upd (R 2) j n)) 3 (upd (R 3) j st)) 4 (upd (R 4) j (if k = 0 then nI 0 else mo))) 5 (upd (R 5) j (nI 0))) 6 (upd (R 6) j (nI 0))) 7 (upd (R 7) j (nI 4))) 8 (upd B (64 * j + i) (nI 4)))) rfl (fun H locs hP hD hS => ?_)
                            refine x_iinc (lv' := [(6, .int (nI (i + 1))), (0, .ref (ad 0)), (1, .int (nI j)), (2, .int k), (3, .int n), (4, .int st), (5, .int mo)]) hx hb dX6_song_177 hl (k := 6) rfl (x_inc1 _) (by decide) rfl (fun ls hl => ?_)
                            refine lv_goto (tgt := 157) hx hb dX6_song_180 (by decide) ?_
                            exact ih157 (i + 1) (upd B (64 * j + i) (nI 4)) (by omega) (by omega) (seg_step hB1) (fun q hq => by unfold upd; rw [if_neg (by omega)]; exact hB2 q (by omega)) _ _ hP hD hS _ (lv_sub hl [1, 2, 3, 4, 5, 6, 0] rfl)
                      exact lp157 (64 - 0 + 1) 0 (R 8) (Nat.lt_succ_self _) (by omega) (lt_0) (fun _ _ => rfl) _ _ hP hD hS _ (lv_sub hl [1, 2, 3, 4, 5, 6, 0] rfl)
                    refine lv_aload_n hx hb dX6_song_117 rfl (lv_at hl 0 rfl) ?_
                    refine va_get (D := G.1) (ci := 6) (v := .ref (ad 5)) (C := RX6) (T := TX6) (N := 36) hx hb hts inX6 hown hK.1 hP 0 rfl rfl 4 (by decide) fl23 (fun _ h9 => h9) rfl dX6_song_118 ?_
                    refine lv_iload_n hx hb dX6_song_121 rfl (lv_at hl 1 rfl) ?_
                    refine lv_iload_n hx hb dX6_song_122 rfl (lv_at hl 2 rfl) ?_
                    refine lv_if_ne (tgt := 130) hx hb dX6_song_123 (by decide) (fun c_123 => ?_) (fun c_123 => ?_)
                    · refine lv_iload hx hb dX6_song_130 (lv_at hl 5 rfl) ?_
                      refine x_top (y := if k = 0 then nI 0 else mo) (by rw [if_neg c_123]) ?_
                      exact lp132  _ _ hP hD hS _ (lv_sub hl [0, 1, 2, 3, 4, 5] rfl)
                    · refine lv_iconst (v := nI 0) hx hb dX6_song_126 (by decide) ?_
                      refine lv_goto (tgt := 132) hx hb dX6_song_127 (by decide) ?_
                      refine x_top (y := if k = 0 then nI 0 else mo) (by rw [if_pos c_123]) ?_
                      exact lp132  _ _ hP hD hS _ (lv_sub hl [0, 1, 2, 3, 4, 5] rfl)
                  refine lv_iload_n hx hb dX6_song_47 rfl (lv_at hl 2 rfl) ?_
                  refine lv_iconst (v := nI 1) hx hb dX6_song_48 (by decide) ?_
                  refine lv_icmp_ne (tgt := 67) hx hb dX6_song_49 (by decide) (fun c_49 => ?_) (fun c_49 => ?_)
                  · refine lv_iload_n hx hb dX6_song_67 rfl (lv_at hl 2 rfl) ?_
                    refine lv_iconst (v := nI 2) hx hb dX6_song_68 (by decide) ?_
                    refine lv_icmp_ne (tgt := 88) hx hb dX6_song_69 (by decide) (fun c_69 => ?_) (fun c_69 => ?_)
                    · exact lp88  (fun q => absurd q c_49) (fun q => absurd q c_69) _ _ hP hD hS _ (lv_sub hl [0, 1, 2, 3, 4, 5] rfl)
                    · refine lv_iload hx hb dX6_song_72 (lv_at hl 5 rfl) ?_
                      refine lv_bipush (v := (-20)) hx hb dX6_song_74 (by decide) ?_
                      refine lv_icmp_lt (tgt := 86) hx hb dX6_song_76 (by decide) (fun c_76 => ?_) (fun c_76 => ?_)
                      · have hno : ¬ (okIn x ∧ okSong k n st mo) := fun q => (q.2.2.2 c_69).1 c_76
                        refine lv_iconst (v := nI 0) hx hb dX6_song_86 (by decide) ?_
                        refine x_top (y := b2i (okIn x ∧ okSong k n st mo)) (b2i_f hno) ?_
                        exact W.zret (v := b2i (okIn x ∧ okSong k n st mo)) hx hb hr (b2i_n _) (fun t9 ht9 hW9 => ⟨⟨R, rfl, ⟨by rw [nSong_no hno]; exact hall, fun i _ => by rw [clrIf_no hno], fun _ _ => rfl⟩, by rw [ht9]; exact hP, hD⟩, hS.F ht9⟩) hS.2.2 dX6_song_87
                      · refine lv_iload hx hb dX6_song_79 (lv_at hl 5 rfl) ?_
                        refine lv_bipush (v := nI 20) hx hb dX6_song_81 (by decide) ?_
                        refine lv_icmp_le (tgt := 88) hx hb dX6_song_83 (by decide) (fun c_83 => ?_) (fun c_83 => ?_)
                        · exact lp88  (fun q => absurd q c_49) (fun _ => ⟨c_76, Int32.not_lt.mpr c_83⟩) _ _ hP hD hS _ (lv_sub hl [0, 1, 2, 3, 4, 5] rfl)
                        · have hno : ¬ (okIn x ∧ okSong k n st mo) := fun q => (q.2.2.2 c_69).2 (Int32.not_le.mp c_83)
                          refine lv_iconst (v := nI 0) hx hb dX6_song_86 (by decide) ?_
                          refine x_top (y := b2i (okIn x ∧ okSong k n st mo)) (b2i_f hno) ?_
                          exact W.zret (v := b2i (okIn x ∧ okSong k n st mo)) hx hb hr (b2i_n _) (fun t9 ht9 hW9 => ⟨⟨R, rfl, ⟨by rw [nSong_no hno]; exact hall, fun i _ => by rw [clrIf_no hno], fun _ _ => rfl⟩, by rw [ht9]; exact hP, hD⟩, hS.F ht9⟩) hS.2.2 dX6_song_87
                  · refine lv_iload hx hb dX6_song_52 (lv_at hl 5 rfl) ?_
                    refine lv_if_lt (tgt := 86) hx hb dX6_song_54 (by decide) (fun c_54 => ?_) (fun c_54 => ?_)
                    · have hno : ¬ (okIn x ∧ okSong k n st mo) := fun q => (q.2.2.1 c_49).1 c_54
                      refine lv_iconst (v := nI 0) hx hb dX6_song_86 (by decide) ?_
                      refine x_top (y := b2i (okIn x ∧ okSong k n st mo)) (b2i_f hno) ?_
                      exact W.zret (v := b2i (okIn x ∧ okSong k n st mo)) hx hb hr (b2i_n _) (fun t9 ht9 hW9 => ⟨⟨R, rfl, ⟨by rw [nSong_no hno]; exact hall, fun i _ => by rw [clrIf_no hno], fun _ _ => rfl⟩, by rw [ht9]; exact hP, hD⟩, hS.F ht9⟩) hS.2.2 dX6_song_87
                    · refine lv_iload hx hb dX6_song_57 (lv_at hl 5 rfl) ?_
                      refine lv_iload hx hb dX6_song_59 (lv_at hl 4 rfl) ?_
                      refine lv_bipush (v := nI 10) hx hb dX6_song_61 (by decide) ?_
                      refine lv_isub hx hb dX6_song_63 ?_
                      refine lv_icmp_gt (tgt := 86) hx hb dX6_song_64 (by decide) (fun c_64 => ?_) (fun c_64 => ?_)
                      · have hno : ¬ (okIn x ∧ okSong k n st mo) := fun q => (q.2.2.1 c_49).2 c_64
                        refine lv_iconst (v := nI 0) hx hb dX6_song_86 (by decide) ?_
                        refine x_top (y := b2i (okIn x ∧ okSong k n st mo)) (b2i_f hno) ?_
                        exact W.zret (v := b2i (okIn x ∧ okSong k n st mo)) hx hb hr (b2i_n _) (fun t9 ht9 hW9 => ⟨⟨R, rfl, ⟨by rw [nSong_no hno]; exact hall, fun i _ => by rw [clrIf_no hno], fun _ _ => rfl⟩, by rw [ht9]; exact hP, hD⟩, hS.F ht9⟩) hS.2.2 dX6_song_87
                      · refine lv_iload_n hx hb dX6_song_67 rfl (lv_at hl 2 rfl) ?_
                        refine lv_iconst (v := nI 2) hx hb dX6_song_68 (by decide) ?_
                        refine lv_icmp_ne (tgt := 88) hx hb dX6_song_69 (by decide) (fun c_69 => ?_) (fun c_69 => ?_)
                        · exact lp88  (fun _ => ⟨c_54, c_64⟩) (fun q => absurd q c_69) _ _ hP hD hS _ (lv_sub hl [0, 1, 2, 3, 4, 5] rfl)
                        · refine lv_iload hx hb dX6_song_72 (lv_at hl 5 rfl) ?_
                          refine lv_bipush (v := (-20)) hx hb dX6_song_74 (by decide) ?_
                          refine lv_icmp_lt (tgt := 86) hx hb dX6_song_76 (by decide) (fun c_76 => ?_) (fun c_76 => ?_)
                          · have hno : ¬ (okIn x ∧ okSong k n st mo) := fun q => (q.2.2.2 c_69).1 c_76
                            refine lv_iconst (v := nI 0) hx hb dX6_song_86 (by decide) ?_
                            refine x_top (y := b2i (okIn x ∧ okSong k n st mo)) (b2i_f hno) ?_
                            exact W.zret (v := b2i (okIn x ∧ okSong k n st mo)) hx hb hr (b2i_n _) (fun t9 ht9 hW9 => ⟨⟨R, rfl, ⟨by rw [nSong_no hno]; exact hall, fun i _ => by rw [clrIf_no hno], fun _ _ => rfl⟩, by rw [ht9]; exact hP, hD⟩, hS.F ht9⟩) hS.2.2 dX6_song_87
                          · refine lv_iload hx hb dX6_song_79 (lv_at hl 5 rfl) ?_
                            refine lv_bipush (v := nI 20) hx hb dX6_song_81 (by decide) ?_
                            refine lv_icmp_le (tgt := 88) hx hb dX6_song_83 (by decide) (fun c_83 => ?_) (fun c_83 => ?_)
                            · exact lp88  (fun _ => ⟨c_54, c_64⟩) (fun _ => ⟨c_76, Int32.not_lt.mpr c_83⟩) _ _ hP hD hS _ (lv_sub hl [0, 1, 2, 3, 4, 5] rfl)
                            · have hno : ¬ (okIn x ∧ okSong k n st mo) := fun q => (q.2.2.2 c_69).2 (Int32.not_le.mp c_83)
                              refine lv_iconst (v := nI 0) hx hb dX6_song_86 (by decide) ?_
                              refine x_top (y := b2i (okIn x ∧ okSong k n st mo)) (b2i_f hno) ?_
                              exact W.zret (v := b2i (okIn x ∧ okSong k n st mo)) hx hb hr (b2i_n _) (fun t9 ht9 hW9 => ⟨⟨R, rfl, ⟨by rw [nSong_no hno]; exact hall, fun i _ => by rw [clrIf_no hno], fun _ _ => rfl⟩, by rw [ht9]; exact hP, hD⟩, hS.F ht9⟩) hS.2.2 dX6_song_87
                · have hno : ¬ (okIn x ∧ okSong k n st mo) := fun q => q.2.1.2.2.2 (Int32.not_le.mp c_42)
                  refine lv_iconst (v := nI 0) hx hb dX6_song_45 (by decide) ?_
                  refine x_top (y := b2i (okIn x ∧ okSong k n st mo)) (b2i_f hno) ?_
                  exact W.zret (v := b2i (okIn x ∧ okSong k n st mo)) hx hb hr (b2i_n _) (fun t9 ht9 hW9 => ⟨⟨R, rfl, ⟨by rw [nSong_no hno]; exact hall, fun i _ => by rw [clrIf_no hno], fun _ _ => rfl⟩, by rw [ht9]; exact hP, hD⟩, hS.F ht9⟩) hS.2.2 dX6_song_46

set_option maxHeartbeats 4000000 in
set_option maxRecDepth 100000 in
theorem c_X6_must (l : Launch) (G : mx_G) (ad : Nat → Nat) (F : Nat → Int32) (R : Nat → Nat → Int32) (so : So) (x y w : Int32) (hall : moAll R so) (sz : Nat) : mx_EF l yX6_must wsX6_must 1 21 0 0 G [.ref (ad 0), .int x, .int y, .int w] sz (MW G ad F R) (fun _ : Nat → Int32 => some (.int (b2i (okMust so x y w)))) (fun M : Nat → Int32 => M = nMus so (R 12) x y w) (fun M : Nat → Int32 => MW G ad F (va_up R 12 M)) := by
  refine Met.ofW (cc := cX6_must) (maxL := 4) (ret := (some .boolean)) (by decide) rfl ?_
  intro p e s m args below meth c s₁ BB hml hv
  obtain ⟨rfl, ⟨hsz, hP, hD0⟩, hK⟩ := hv
  have hx := BB.exec
  have hb := BB.bytes
  have hr := BB.returns
  have hts := atoms_spec (ws := wsX6_must) BB.pre
  have hown : s.vm.findClass RX6 = some m.cls := findClass_of_methodNamed BB.named
  have hlocks := BB.notSynchronized
  subst hsz
  have hD := hD0.self (sz := s.heap.size)
  have hA : ∀ q : Nat, s.heap.size ≤ q → va_A (MW G ad F R) s.heap.size q := fun q h => Or.inr h
  have hS : va_S (va_A (MW G ad F R) s.heap.size) s.heap s.heap [] := va_S.rf
  have fl47 := hts (.fieldLink RX6 47 "MixDeskModel" "musts" "[I") (by decide +kernel)
  have inX6 : ∀ w ∈ wsX60, w ∈ wsX6_must := by decide +kernel
  have hl := lv_entry ([.ref (ad 0), .int x, .int y, .int w]) (n := 4) (Nat.le_of_ble_eq_true rfl)
  rw [lg_entry_eq]
  generalize (lg_sl ([.ref (ad 0), .int x, .int y, .int w]) ++ List.replicate (4 - (lg_sl ([.ref (ad 0), .int x, .int y, .int w])).length) Slot.unset).toArray = ls at hl ⊢
  have hl : lv_has ls 4 [(0, .ref (ad 0)), (1, .int x), (2, .int y), (3, .int w)] := hl
  refine lv_aload_n hx hb dX6_must_0 rfl (lv_at hl 0 rfl) ?_
  refine lv_iload_n hx hb dX6_must_1 rfl (lv_at hl 1 rfl) ?_
  refine mx_callRO (v := .int (isSongV R x)) (va_runV (As := [.int x]) (rest := []) ⟨hx, hb, hml, hown, hts⟩ (c_X6_isSong l G ad F R x) (cwV 1 hts gX6_must_X6_isSong rfl rfl rfl (by decide +kernel) ⟨Nat.le_of_ble_eq_true rfl, Nat.le_of_ble_eq_true rfl⟩) (mx_preV hK hP (va_recv hK.1 hP (ci := 6) (q0 := 0) rfl rfl)) rfl rfl hl.1 rfl (lv_room (Nat.le_of_ble_eq_true rfl)) dX6_must_2 ⟨Nat.zero_le _, Nat.zero_le _⟩) ?_
  refine lv_if_eq (tgt := 30) hx hb dX6_must_5 (by decide) (fun c_5 => ?_) (fun c_5 => ?_)
  · have hno : ¬ (okMust so x y w) := fun q => none_of (song_no hall c_5) q.1
    refine lv_iconst (v := nI 0) hx hb dX6_must_30 (by decide) ?_
    refine x_top (y := b2i (okMust so x y w)) (b2i_f hno) ?_
    exact W.zret (v := b2i (okMust so x y w)) hx hb hr (b2i_n _) (fun t9 ht9 hW9 => ⟨⟨R 12, rfl, nMus_no hno, by rw [ht9]; exact hP, hD⟩, hS.F ht9⟩) hS.2.2 dX6_must_31
  · obtain ⟨j, σ, rfl, hs, hso, hσ, hth, hm, ok⟩ := song_of hall c_5
    refine lv_aload_n hx hb dX6_must_8 rfl (lv_at hl 0 rfl) ?_
    refine lv_iload_n hx hb dX6_must_9 rfl (lv_at hl 2 rfl) ?_
    refine mx_callRO (v := .int (isSongV R y)) (va_runV (As := [.int y]) (rest := []) ⟨hx, hb, hml, hown, hts⟩ (c_X6_isSong l G ad F R y) (cwV 1 hts gX6_must_X6_isSong rfl rfl rfl (by decide +kernel) ⟨Nat.le_of_ble_eq_true rfl, Nat.le_of_ble_eq_true rfl⟩) (mx_preV hK hP (va_recv hK.1 hP (ci := 6) (q0 := 0) rfl rfl)) rfl rfl hl.1 rfl (lv_room (Nat.le_of_ble_eq_true rfl)) dX6_must_10 ⟨Nat.zero_le _, Nat.zero_le _⟩) ?_
    refine lv_if_eq (tgt := 30) hx hb dX6_must_13 (by decide) (fun c_13 => ?_) (fun c_13 => ?_)
    · have hno : ¬ (okMust so (nI j) y w) := fun q => none_of (song_no hall c_13) q.2.1
      refine lv_iconst (v := nI 0) hx hb dX6_must_30 (by decide) ?_
      refine x_top (y := b2i (okMust so (nI j) y w)) (b2i_f hno) ?_
      exact W.zret (v := b2i (okMust so (nI j) y w)) hx hb hr (b2i_n _) (fun t9 ht9 hW9 => ⟨⟨R 12, rfl, nMus_no hno, by rw [ht9]; exact hP, hD⟩, hS.F ht9⟩) hS.2.2 dX6_must_31
    · obtain ⟨k, τ, rfl, ks, kso, kσ, kth, km, kok⟩ := song_of hall c_13
      refine lv_iload_n hx hb dX6_must_16 rfl (lv_at hl 1 rfl) ?_
      refine lv_iload_n hx hb dX6_must_17 rfl (lv_at hl 2 rfl) ?_
      refine x_icmp_eq (tgt := 30) hx hb (by omega) (by omega) dX6_must_18 (by decide) (fun c_18 => ?_) (fun c_18 => ?_)
      · have hno : ¬ (okMust so (nI j) (nI k) w) := fun q => q.2.2.1 (congrArg nI c_18)
        refine lv_iconst (v := nI 0) hx hb dX6_must_30 (by decide) ?_
        refine x_top (y := b2i (okMust so (nI j) (nI k) w)) (b2i_f hno) ?_
        exact W.zret (v := b2i (okMust so (nI j) (nI k) w)) hx hb hr (b2i_n _) (fun t9 ht9 hW9 => ⟨⟨R 12, rfl, nMus_no hno, by rw [ht9]; exact hP, hD⟩, hS.F ht9⟩) hS.2.2 dX6_must_31
      · refine lv_iload_n hx hb dX6_must_21 rfl (lv_at hl 3 rfl) ?_
        refine lv_if_lt (tgt := 30) hx hb dX6_must_22 (by decide) (fun c_22 => ?_) (fun c_22 => ?_)
        · have hno : ¬ (okMust so (nI j) (nI k) w) := fun q => q.2.2.2.1 c_22
          refine lv_iconst (v := nI 0) hx hb dX6_must_30 (by decide) ?_
          refine x_top (y := b2i (okMust so (nI j) (nI k) w)) (b2i_f hno) ?_
          exact W.zret (v := b2i (okMust so (nI j) (nI k) w)) hx hb hr (b2i_n _) (fun t9 ht9 hW9 => ⟨⟨R 12, rfl, nMus_no hno, by rw [ht9]; exact hP, hD⟩, hS.F ht9⟩) hS.2.2 dX6_must_31
        · refine lv_iload_n hx hb dX6_must_25 rfl (lv_at hl 3 rfl) ?_
          refine lv_iconst (v := nI 2) hx hb dX6_must_26 (by decide) ?_
          refine lv_icmp_le (tgt := 32) hx hb dX6_must_27 (by decide) (fun c_27 => ?_) (fun c_27 => ?_)
          · have hyes : (okMust so (nI j) (nI k) w) := ⟨some_of hσ, some_of kσ, fun e => c_18 ((nI_eq (by omega) (by omega)).mp e), c_22, Int32.not_lt.mpr c_27⟩
            refine lv_aload_n hx hb dX6_must_32 rfl (lv_at hl 0 rfl) ?_
            refine va_get (D := G.1) (ci := 6) (v := .ref (ad 13)) (C := RX6) (T := TX6) (N := 36) hx hb hts inX6 hown hK.1 hP 0 rfl rfl 12 (by decide) fl47 (fun _ h9 => h9) rfl dX6_must_33 ?_
            refine lv_bipush (v := nI 12) hx hb dX6_must_36 (by decide) ?_
            refine lv_iload_n hx hb dX6_must_38 rfl (lv_at hl 1 rfl) ?_
            refine x_imul (r := 12 * j) hx hb dX6_must_39 (rfl) ?_
            refine lv_iload_n hx hb dX6_must_40 rfl (lv_at hl 2 rfl) ?_
            refine x_iadd (r := 12 * j + k) hx hb dX6_must_41 (rfl) ?_
            refine lv_iload_n hx hb dX6_must_42 rfl (lv_at hl 3 rfl) ?_
            refine x_iast hx hb hK.1 hP hD hS 13 0 (n := 144) (f := R 12) rfl rfl (k := 12 * j + k) (by omega) (by omega) dX6_must_43 (MW G ad F (va_up R 12 (upd (R 12) (12 * j + k) w))) rfl (fun H locs hP hD hS => ?_)
            refine lv_iconst (v := nI 1) hx hb dX6_must_44 (by decide) ?_
            refine x_top (y := b2i (okMust so (nI j) (nI k) w)) (b2i_t hyes) ?_
            exact W.zret (v := b2i (okMust so (nI j) (nI k) w)) hx hb hr (b2i_n _) (fun t9 ht9 hW9 => ⟨⟨upd (R 12) (12 * j + k) w, rfl, nMus_yes hs ks hyes, by rw [ht9]; exact hP, hD⟩, hS.F ht9⟩) hS.2.2 dX6_must_45
          · have hno : ¬ (okMust so (nI j) (nI k) w) := fun q => q.2.2.2.2 (Int32.not_le.mp c_27)
            refine lv_iconst (v := nI 0) hx hb dX6_must_30 (by decide) ?_
            refine x_top (y := b2i (okMust so (nI j) (nI k) w)) (b2i_f hno) ?_
            exact W.zret (v := b2i (okMust so (nI j) (nI k) w)) hx hb hr (b2i_n _) (fun t9 ht9 hW9 => ⟨⟨R 12, rfl, nMus_no hno, by rw [ht9]; exact hP, hD⟩, hS.F ht9⟩) hS.2.2 dX6_must_31

set_option maxHeartbeats 4000000 in
set_option maxRecDepth 100000 in
theorem c_X6_costs (l : Launch) (G : mx_G) (ad : Nat → Nat) (F : Nat → Int32) (R : Nat → Nat → Int32) (b k h : Int32) (sz : Nat) : mx_EF l yX6_costs wsX6_costs 0 0 0 0 G [.ref (ad 0), .int b, .int k, .int h] sz (MW G ad F R) (fun _ : Nat → Int32 => some (.int (b2i (okCost b k h)))) (fun U : Nat → Int32 => U = nCost b k h F) (fun U : Nat → Int32 => MW G ad U R) := by
  refine Met.ofW (cc := cX6_costs) (maxL := 4) (ret := (some .boolean)) (by decide) rfl ?_
  intro p e s m args below meth c s₁ BB hml hv
  obtain ⟨rfl, ⟨hsz, hP, hD0⟩, hK⟩ := hv
  have hx := BB.exec
  have hb := BB.bytes
  have hr := BB.returns
  have hts := atoms_spec (ws := wsX6_costs) BB.pre
  have hown : s.vm.findClass RX6 = some m.cls := findClass_of_methodNamed BB.named
  have hlocks := BB.notSynchronized
  subst hsz
  have hD := hD0.self (sz := s.heap.size)
  have hA : ∀ q : Nat, s.heap.size ≤ q → va_A (MW G ad F R) s.heap.size q := fun q h => Or.inr h
  have hS : va_S (va_A (MW G ad F R) s.heap.size) s.heap s.heap [] := va_S.rf
  have fl59 := hts (.fieldLink RX6 59 "MixDeskModel" "bound" "I") (by decide +kernel)
  have fl63 := hts (.fieldLink RX6 63 "MixDeskModel" "keyCost" "I") (by decide +kernel)
  have fl66 := hts (.fieldLink RX6 66 "MixDeskModel" "heatCost" "I") (by decide +kernel)
  have inX6 : ∀ w ∈ wsX60, w ∈ wsX6_costs := by decide +kernel
  have hl := lv_entry ([.ref (ad 0), .int b, .int k, .int h]) (n := 4) (Nat.le_of_ble_eq_true rfl)
  rw [lg_entry_eq]
  generalize (lg_sl ([.ref (ad 0), .int b, .int k, .int h]) ++ List.replicate (4 - (lg_sl ([.ref (ad 0), .int b, .int k, .int h])).length) Slot.unset).toArray = ls at hl ⊢
  have hl : lv_has ls 4 [(0, .ref (ad 0)), (1, .int b), (2, .int k), (3, .int h)] := hl
  refine lv_iload_n hx hb dX6_costs_0 rfl (lv_at hl 1 rfl) ?_
  refine lv_if_lt (tgt := 33) hx hb dX6_costs_1 (by decide) (fun c_1 => ?_) (fun c_1 => ?_)
  · have hno : ¬ (okCost b k h) := fun q => q.1.1 c_1
    refine lv_iconst (v := nI 0) hx hb dX6_costs_33 (by decide) ?_
    refine x_top (y := b2i (okCost b k h)) (b2i_f hno) ?_
    exact W.zret (v := b2i (okCost b k h)) hx hb hr (b2i_n _) (fun t9 ht9 hW9 => ⟨⟨F, rfl, by unfold nCost; rw [if_neg hno], by rw [ht9]; exact hP, hD⟩, hS.F ht9⟩) hS.2.2 dX6_costs_34
  · refine lv_iload_n hx hb dX6_costs_4 rfl (lv_at hl 1 rfl) ?_
    refine lv_sipush (v := nI 1000) hx hb dX6_costs_5 (by decide) ?_
    refine lv_icmp_gt (tgt := 33) hx hb dX6_costs_8 (by decide) (fun c_8 => ?_) (fun c_8 => ?_)
    · have hno : ¬ (okCost b k h) := fun q => q.1.2 c_8
      refine lv_iconst (v := nI 0) hx hb dX6_costs_33 (by decide) ?_
      refine x_top (y := b2i (okCost b k h)) (b2i_f hno) ?_
      exact W.zret (v := b2i (okCost b k h)) hx hb hr (b2i_n _) (fun t9 ht9 hW9 => ⟨⟨F, rfl, by unfold nCost; rw [if_neg hno], by rw [ht9]; exact hP, hD⟩, hS.F ht9⟩) hS.2.2 dX6_costs_34
    · refine lv_iload_n hx hb dX6_costs_11 rfl (lv_at hl 2 rfl) ?_
      refine lv_if_lt (tgt := 33) hx hb dX6_costs_12 (by decide) (fun c_12 => ?_) (fun c_12 => ?_)
      · have hno : ¬ (okCost b k h) := fun q => q.2.1.1 c_12
        refine lv_iconst (v := nI 0) hx hb dX6_costs_33 (by decide) ?_
        refine x_top (y := b2i (okCost b k h)) (b2i_f hno) ?_
        exact W.zret (v := b2i (okCost b k h)) hx hb hr (b2i_n _) (fun t9 ht9 hW9 => ⟨⟨F, rfl, by unfold nCost; rw [if_neg hno], by rw [ht9]; exact hP, hD⟩, hS.F ht9⟩) hS.2.2 dX6_costs_34
      · refine lv_iload_n hx hb dX6_costs_15 rfl (lv_at hl 2 rfl) ?_
        refine lv_sipush (v := nI 1000) hx hb dX6_costs_16 (by decide) ?_
        refine lv_icmp_gt (tgt := 33) hx hb dX6_costs_19 (by decide) (fun c_19 => ?_) (fun c_19 => ?_)
        · have hno : ¬ (okCost b k h) := fun q => q.2.1.2 c_19
          refine lv_iconst (v := nI 0) hx hb dX6_costs_33 (by decide) ?_
          refine x_top (y := b2i (okCost b k h)) (b2i_f hno) ?_
          exact W.zret (v := b2i (okCost b k h)) hx hb hr (b2i_n _) (fun t9 ht9 hW9 => ⟨⟨F, rfl, by unfold nCost; rw [if_neg hno], by rw [ht9]; exact hP, hD⟩, hS.F ht9⟩) hS.2.2 dX6_costs_34
        · refine lv_iload_n hx hb dX6_costs_22 rfl (lv_at hl 3 rfl) ?_
          refine lv_if_lt (tgt := 33) hx hb dX6_costs_23 (by decide) (fun c_23 => ?_) (fun c_23 => ?_)
          · have hno : ¬ (okCost b k h) := fun q => q.2.2.1 c_23
            refine lv_iconst (v := nI 0) hx hb dX6_costs_33 (by decide) ?_
            refine x_top (y := b2i (okCost b k h)) (b2i_f hno) ?_
            exact W.zret (v := b2i (okCost b k h)) hx hb hr (b2i_n _) (fun t9 ht9 hW9 => ⟨⟨F, rfl, by unfold nCost; rw [if_neg hno], by rw [ht9]; exact hP, hD⟩, hS.F ht9⟩) hS.2.2 dX6_costs_34
          · refine lv_iload_n hx hb dX6_costs_26 rfl (lv_at hl 3 rfl) ?_
            refine lv_sipush (v := nI 1000) hx hb dX6_costs_27 (by decide) ?_
            refine lv_icmp_le (tgt := 35) hx hb dX6_costs_30 (by decide) (fun c_30 => ?_) (fun c_30 => ?_)
            · have hyes : (okCost b k h) := ⟨⟨c_1, c_8⟩, ⟨c_12, c_19⟩, c_23, Int32.not_lt.mpr c_30⟩
              refine lv_aload_n hx hb dX6_costs_35 rfl (lv_at hl 0 rfl) ?_
              refine lv_iload_n hx hb dX6_costs_36 rfl (lv_at hl 1 rfl) ?_
              refine va_put (D := G.1) (ci := 6) (v := .int b) (ty := .int) (C := RX6) (T := TX6) (N := 36) hx hb hts inX6 tyX6 tyX6_ok nmX6 hown hK.1 hP hD hS 0 rfl rfl 18 (by decide) fl59 (fun _ h9 => h9) rfl (by decide +kernel) rfl rfl (Nat.le_of_ble_eq_true rfl) dX6_costs_37 (fun H locs hP hD hS => ?_)
              have hP : va_P G.1 vwCl (MW G ad (va_up F 18 b) R) H := hP
              have hD : va_D _ (MW G ad (va_up F 18 b) R) := hD
              refine lv_aload_n hx hb dX6_costs_40 rfl (lv_at hl 0 rfl) ?_
              refine lv_iload_n hx hb dX6_costs_41 rfl (lv_at hl 2 rfl) ?_
              refine va_put (D := G.1) (ci := 6) (v := .int k) (ty := .int) (C := RX6) (T := TX6) (N := 36) hx hb hts inX6 tyX6 tyX6_ok nmX6 hown hK.1 hP hD hS 0 rfl rfl 19 (by decide) fl63 (fun _ h9 => h9) rfl (by decide +kernel) rfl rfl (Nat.le_of_ble_eq_true rfl) dX6_costs_42 (fun H locs hP hD hS => ?_)
              have hP : va_P G.1 vwCl (MW G ad (va_up (va_up F 18 b) 19 k) R) H := hP
              have hD : va_D _ (MW G ad (va_up (va_up F 18 b) 19 k) R) := hD
              refine lv_aload_n hx hb dX6_costs_45 rfl (lv_at hl 0 rfl) ?_
              refine lv_iload_n hx hb dX6_costs_46 rfl (lv_at hl 3 rfl) ?_
              refine va_put (D := G.1) (ci := 6) (v := .int h) (ty := .int) (C := RX6) (T := TX6) (N := 36) hx hb hts inX6 tyX6 tyX6_ok nmX6 hown hK.1 hP hD hS 0 rfl rfl 20 (by decide) fl66 (fun _ h9 => h9) rfl (by decide +kernel) rfl rfl (Nat.le_of_ble_eq_true rfl) dX6_costs_47 (fun H locs hP hD hS => ?_)
              have hP : va_P G.1 vwCl (MW G ad (va_up (va_up (va_up F 18 b) 19 k) 20 h) R) H := hP
              have hD : va_D _ (MW G ad (va_up (va_up (va_up F 18 b) 19 k) 20 h) R) := hD
              refine lv_iconst (v := nI 1) hx hb dX6_costs_50 (by decide) ?_
              refine x_top (y := b2i (okCost b k h)) (b2i_t hyes) ?_
              exact W.zret (v := b2i (okCost b k h)) hx hb hr (b2i_n _) (fun t9 ht9 hW9 => ⟨⟨va_up (va_up (va_up F 18 b) 19 k) 20 h, rfl, by unfold nCost; rw [if_pos hyes], by rw [ht9]; exact hP, hD⟩, hS.F ht9⟩) hS.2.2 dX6_costs_51
            · have hno : ¬ (okCost b k h) := fun q => q.2.2.2 (Int32.not_le.mp c_30)
              refine lv_iconst (v := nI 0) hx hb dX6_costs_33 (by decide) ?_
              refine x_top (y := b2i (okCost b k h)) (b2i_f hno) ?_
              exact W.zret (v := b2i (okCost b k h)) hx hb hr (b2i_n _) (fun t9 ht9 hW9 => ⟨⟨F, rfl, by unfold nCost; rw [if_neg hno], by rw [ht9]; exact hP, hD⟩, hS.F ht9⟩) hS.2.2 dX6_costs_34

set_option maxHeartbeats 4000000 in
set_option maxRecDepth 100000 in
theorem c_X6_stroke (l : Launch) (G : mx_G) (ad : Nat → Nat) (F : Nat → Int32) (R : Nat → Nat → Int32) (n : Nat) (T : Nat → Nat) (t : Int32) (hF : F 13 = nI n) (hn : n ≤ 60) (hT : ∀ i, i < n → R 14 i = nI (T i) ∧ T i ≤ 1000000) (sz : Nat) : mx_EF l yX6_stroke wsX6_stroke 0 0 0 0 G [.ref (ad 0), .int t] sz (MW G ad F R) (fun _ : Int32 × (Nat → Int32) => some (.int (aStroke n T t))) (fun u : Int32 × (Nat → Int32) => u.1 = nI (nStn n T t) ∧ u.2 = nStT n T t (R 14)) (fun u : Int32 × (Nat → Int32) => MW G ad (va_up F 13 u.1) (va_up R 14 u.2)) := by
  refine Met.ofW (cc := cX6_stroke) (maxL := 2) (ret := (some .int)) (by decide) rfl ?_
  intro p e s m args below meth c s₁ BB hml hv
  obtain ⟨rfl, ⟨hsz, hP, hD0⟩, hK⟩ := hv
  have hx := BB.exec
  have hb := BB.bytes
  have hr := BB.returns
  have hts := atoms_spec (ws := wsX6_stroke) BB.pre
  have hown : s.vm.findClass RX6 = some m.cls := findClass_of_methodNamed BB.named
  have hlocks := BB.notSynchronized
  subst hsz
  have hD := hD0.self (sz := s.heap.size)
  have hA : ∀ q : Nat, s.heap.size ≤ q → va_A (MW G ad F R) s.heap.size q := fun q h => Or.inr h
  have hS : va_S (va_A (MW G ad F R) s.heap.size) s.heap s.heap [] := va_S.rf
  have fl141 := hts (.fieldLink RX6 141 "MixDeskModel" "strokes" "I") (by decide +kernel)
  have fl50 := hts (.fieldLink RX6 50 "MixDeskModel" "stroke" "[I") (by decide +kernel)
  have inX6 : ∀ w ∈ wsX60, w ∈ wsX6_stroke := by decide +kernel
  have ck140 := hts (.constant RX6 140 (1000000)) (by decide +kernel)
  have hl := lv_entry ([.ref (ad 0), .int t]) (n := 2) (Nat.le_of_ble_eq_true rfl)
  rw [lg_entry_eq]
  generalize (lg_sl ([.ref (ad 0), .int t]) ++ List.replicate (2 - (lg_sl ([.ref (ad 0), .int t])).length) Slot.unset).toArray = ls at hl ⊢
  have hl : lv_has ls 2 [(0, .ref (ad 0)), (1, .int t)] := hl
  refine lv_iload_n hx hb dX6_stroke_0 rfl (lv_at hl 1 rfl) ?_
  refine lv_if_lt (tgt := 41) hx hb dX6_stroke_1 (by decide) (fun c_1 => ?_) (fun c_1 => ?_)
  · have hno : ¬ (okStroke n T t) := fun q => q.1.1 c_1
    refine lv_iconst (v := (-1)) hx hb dX6_stroke_41 (by decide) ?_
    refine x_top (y := aStroke n T t) (by unfold aStroke; rw [if_neg hno]) ?_
    exact W.iret (v := aStroke n T t) hx hb hr (fun t9 ht9 hW9 => ⟨⟨(F 13, R 14), rfl, ⟨by unfold nStn; rw [if_neg hno]; exact hF, by unfold nStT; rw [if_neg hno]⟩, by rw [ht9]; exact hP, hD⟩, hS.F ht9⟩) hS.2.2 dX6_stroke_42
  · refine lv_iload_n hx hb dX6_stroke_4 rfl (lv_at hl 1 rfl) ?_
    refine lv_ldc hx hb hown ck140 dX6_stroke_5 ?_
    refine x_top (y := nI 1000000) (by decide) ?_
    refine lv_icmp_gt (tgt := 41) hx hb dX6_stroke_7 (by decide) (fun c_7 => ?_) (fun c_7 => ?_)
    · have hno : ¬ (okStroke n T t) := fun q => q.1.2 c_7
      refine lv_iconst (v := (-1)) hx hb dX6_stroke_41 (by decide) ?_
      refine x_top (y := aStroke n T t) (by unfold aStroke; rw [if_neg hno]) ?_
      exact W.iret (v := aStroke n T t) hx hb hr (fun t9 ht9 hW9 => ⟨⟨(F 13, R 14), rfl, ⟨by unfold nStn; rw [if_neg hno]; exact hF, by unfold nStT; rw [if_neg hno]⟩, by rw [ht9]; exact hP, hD⟩, hS.F ht9⟩) hS.2.2 dX6_stroke_42
    · refine lv_aload_n hx hb dX6_stroke_10 rfl (lv_at hl 0 rfl) ?_
      refine va_get (D := G.1) (ci := 6) (v := .int (F 13)) (C := RX6) (T := TX6) (N := 36) hx hb hts inX6 hown hK.1 hP 0 rfl rfl 13 (by decide) fl141 (fun _ h9 => h9) rfl dX6_stroke_11 ?_
      refine x_top (y := nI n) (hF) ?_
      refine lv_bipush (v := nI 60) hx hb dX6_stroke_14 (by decide) ?_
      refine x_icmp_eq (tgt := 41) hx hb (by omega) (by omega) dX6_stroke_16 (by decide) (fun c_16 => ?_) (fun c_16 => ?_)
      · have hno : ¬ (okStroke n T t) := fun q => q.2.1 c_16
        refine lv_iconst (v := (-1)) hx hb dX6_stroke_41 (by decide) ?_
        refine x_top (y := aStroke n T t) (by unfold aStroke; rw [if_neg hno]) ?_
        exact W.iret (v := aStroke n T t) hx hb hr (fun t9 ht9 hW9 => ⟨⟨(F 13, R 14), rfl, ⟨by unfold nStn; rw [if_neg hno]; exact hF, by unfold nStT; rw [if_neg hno]⟩, by rw [ht9]; exact hP, hD⟩, hS.F ht9⟩) hS.2.2 dX6_stroke_42
      · refine lv_aload_n hx hb dX6_stroke_19 rfl (lv_at hl 0 rfl) ?_
        refine va_get (D := G.1) (ci := 6) (v := .int (F 13)) (C := RX6) (T := TX6) (N := 36) hx hb hts inX6 hown hK.1 hP 0 rfl rfl 13 (by decide) fl141 (fun _ h9 => h9) rfl dX6_stroke_20 ?_
        refine x_top (y := nI n) (hF) ?_
        refine x_if_le (tgt := 43) hx hb (by omega) dX6_stroke_23 (by decide) (fun c_23 => ?_) (fun c_23 => ?_)
        · have hyes : (okStroke n T t) := ⟨⟨c_1, c_7⟩, c_16, fun h => absurd c_23 (by omega)⟩
          refine lv_aload_n hx hb dX6_stroke_43 rfl (lv_at hl 0 rfl) ?_
          refine va_get (D := G.1) (ci := 6) (v := .ref (ad 15)) (C := RX6) (T := TX6) (N := 36) hx hb hts inX6 hown hK.1 hP 0 rfl rfl 14 (by decide) fl50 (fun _ h9 => h9) rfl dX6_stroke_44 ?_
          refine lv_aload_n hx hb dX6_stroke_47 rfl (lv_at hl 0 rfl) ?_
          refine va_get (D := G.1) (ci := 6) (v := .int (F 13)) (C := RX6) (T := TX6) (N := 36) hx hb hts inX6 hown hK.1 hP 0 rfl rfl 13 (by decide) fl141 (fun _ h9 => h9) rfl dX6_stroke_48 ?_
          refine x_top (y := nI n) (hF) ?_
          refine lv_iload_n hx hb dX6_stroke_51 rfl (lv_at hl 1 rfl) ?_
          refine x_iast hx hb hK.1 hP hD hS 14 0 (n := 60) (f := R 14) rfl rfl (k := n) (by omega) (by omega) dX6_stroke_52 (MW G ad F (va_up R 14 (upd (R 14) n t))) rfl (fun H locs hP hD hS => ?_)
          refine lv_aload_n hx hb dX6_stroke_53 rfl (lv_at hl 0 rfl) ?_
          refine lv_dup hx hb dX6_stroke_54 rfl ?_
          refine va_get (D := G.1) (ci := 6) (v := .int (F 13)) (C := RX6) (T := TX6) (N := 36) hx hb hts inX6 hown hK.1 hP 0 rfl rfl 13 (by decide) fl141 (fun _ h9 => h9) rfl dX6_stroke_55 ?_
          refine x_top (y := nI n) (hF) ?_
          refine lv_iconst (v := nI 1) hx hb dX6_stroke_58 (by decide) ?_
          refine x_iadd (r := n + 1) hx hb dX6_stroke_59 (rfl) ?_
          refine va_put (D := G.1) (ci := 6) (v := .int (nI (n + 1))) (ty := .int) (C := RX6) (T := TX6) (N := 36) hx hb hts inX6 tyX6 tyX6_ok nmX6 hown hK.1 hP hD hS 0 rfl rfl 13 (by decide) fl141 (fun _ h9 => h9) rfl (by decide +kernel) rfl rfl (Nat.le_of_ble_eq_true rfl) dX6_stroke_60 (fun H locs hP hD hS => ?_)
          have hP : va_P G.1 vwCl (MW G ad (va_up F 13 (nI (n + 1))) (va_up R 14 (upd (R 14) n t))) H := hP
          have hD : va_D _ (MW G ad (va_up F 13 (nI (n + 1))) (va_up R 14 (upd (R 14) n t))) := hD
          refine lv_aload_n hx hb dX6_stroke_63 rfl (lv_at hl 0 rfl) ?_
          refine va_get (D := G.1) (ci := 6) (v := .int (nI (n + 1))) (C := RX6) (T := TX6) (N := 36) hx hb hts inX6 hown hK.1 hP 0 rfl rfl 13 (by decide) fl141 (fun _ h9 => h9) rfl dX6_stroke_64 ?_
          refine x_top (y := aStroke n T t) (by unfold aStroke; rw [if_pos hyes]) ?_
          exact W.iret (v := aStroke n T t) hx hb hr (fun t9 ht9 hW9 => ⟨⟨(nI (n + 1), upd (R 14) n t), rfl, ⟨by unfold nStn; rw [if_pos hyes], by unfold nStT; rw [if_pos hyes]⟩, by rw [ht9]; exact hP, hD⟩, hS.F ht9⟩) hS.2.2 dX6_stroke_67
        · refine lv_iload_n hx hb dX6_stroke_26 rfl (lv_at hl 1 rfl) ?_
          refine lv_aload_n hx hb dX6_stroke_27 rfl (lv_at hl 0 rfl) ?_
          refine va_get (D := G.1) (ci := 6) (v := .ref (ad 15)) (C := RX6) (T := TX6) (N := 36) hx hb hts inX6 hown hK.1 hP 0 rfl rfl 14 (by decide) fl50 (fun _ h9 => h9) rfl dX6_stroke_28 ?_
          refine lv_aload_n hx hb dX6_stroke_31 rfl (lv_at hl 0 rfl) ?_
          refine va_get (D := G.1) (ci := 6) (v := .int (F 13)) (C := RX6) (T := TX6) (N := 36) hx hb hts inX6 hown hK.1 hP 0 rfl rfl 13 (by decide) fl141 (fun _ h9 => h9) rfl dX6_stroke_32 ?_
          refine x_top (y := nI n) (hF) ?_
          refine lv_iconst (v := nI 1) hx hb dX6_stroke_35 (by decide) ?_
          refine x_isub (r := n - 1) hx hb dX6_stroke_36 (by omega) ?_
          have hTn := (hT (n - 1) (by omega)).2
          refine x_iald hx hb hK.1 hP 14 0 (n := 60) (f := R 14) rfl rfl (k := n - 1) (by omega) (by omega) dX6_stroke_37 ?_
          refine x_top (y := nI (T (n - 1))) ((hT (n - 1) (by omega)).1) ?_
          refine lv_icmp_gt (tgt := 43) hx hb dX6_stroke_38 (by decide) (fun c_38 => ?_) (fun c_38 => ?_)
          · have hyes : (okStroke n T t) := ⟨⟨c_1, c_7⟩, c_16, fun _ => Int32.not_le.mpr c_38⟩
            refine lv_aload_n hx hb dX6_stroke_43 rfl (lv_at hl 0 rfl) ?_
            refine va_get (D := G.1) (ci := 6) (v := .ref (ad 15)) (C := RX6) (T := TX6) (N := 36) hx hb hts inX6 hown hK.1 hP 0 rfl rfl 14 (by decide) fl50 (fun _ h9 => h9) rfl dX6_stroke_44 ?_
            refine lv_aload_n hx hb dX6_stroke_47 rfl (lv_at hl 0 rfl) ?_
            refine va_get (D := G.1) (ci := 6) (v := .int (F 13)) (C := RX6) (T := TX6) (N := 36) hx hb hts inX6 hown hK.1 hP 0 rfl rfl 13 (by decide) fl141 (fun _ h9 => h9) rfl dX6_stroke_48 ?_
            refine x_top (y := nI n) (hF) ?_
            refine lv_iload_n hx hb dX6_stroke_51 rfl (lv_at hl 1 rfl) ?_
            refine x_iast hx hb hK.1 hP hD hS 14 0 (n := 60) (f := R 14) rfl rfl (k := n) (by omega) (by omega) dX6_stroke_52 (MW G ad F (va_up R 14 (upd (R 14) n t))) rfl (fun H locs hP hD hS => ?_)
            refine lv_aload_n hx hb dX6_stroke_53 rfl (lv_at hl 0 rfl) ?_
            refine lv_dup hx hb dX6_stroke_54 rfl ?_
            refine va_get (D := G.1) (ci := 6) (v := .int (F 13)) (C := RX6) (T := TX6) (N := 36) hx hb hts inX6 hown hK.1 hP 0 rfl rfl 13 (by decide) fl141 (fun _ h9 => h9) rfl dX6_stroke_55 ?_
            refine x_top (y := nI n) (hF) ?_
            refine lv_iconst (v := nI 1) hx hb dX6_stroke_58 (by decide) ?_
            refine x_iadd (r := n + 1) hx hb dX6_stroke_59 (rfl) ?_
            refine va_put (D := G.1) (ci := 6) (v := .int (nI (n + 1))) (ty := .int) (C := RX6) (T := TX6) (N := 36) hx hb hts inX6 tyX6 tyX6_ok nmX6 hown hK.1 hP hD hS 0 rfl rfl 13 (by decide) fl141 (fun _ h9 => h9) rfl (by decide +kernel) rfl rfl (Nat.le_of_ble_eq_true rfl) dX6_stroke_60 (fun H locs hP hD hS => ?_)
            have hP : va_P G.1 vwCl (MW G ad (va_up F 13 (nI (n + 1))) (va_up R 14 (upd (R 14) n t))) H := hP
            have hD : va_D _ (MW G ad (va_up F 13 (nI (n + 1))) (va_up R 14 (upd (R 14) n t))) := hD
            refine lv_aload_n hx hb dX6_stroke_63 rfl (lv_at hl 0 rfl) ?_
            refine va_get (D := G.1) (ci := 6) (v := .int (nI (n + 1))) (C := RX6) (T := TX6) (N := 36) hx hb hts inX6 hown hK.1 hP 0 rfl rfl 13 (by decide) fl141 (fun _ h9 => h9) rfl dX6_stroke_64 ?_
            refine x_top (y := aStroke n T t) (by unfold aStroke; rw [if_pos hyes]) ?_
            exact W.iret (v := aStroke n T t) hx hb hr (fun t9 ht9 hW9 => ⟨⟨(nI (n + 1), upd (R 14) n t), rfl, ⟨by unfold nStn; rw [if_pos hyes], by unfold nStT; rw [if_pos hyes]⟩, by rw [ht9]; exact hP, hD⟩, hS.F ht9⟩) hS.2.2 dX6_stroke_67
          · have hno : ¬ (okStroke n T t) := fun q => q.2.2 (by omega) (Int32.not_lt.mp c_38)
            refine lv_iconst (v := (-1)) hx hb dX6_stroke_41 (by decide) ?_
            refine x_top (y := aStroke n T t) (by unfold aStroke; rw [if_neg hno]) ?_
            exact W.iret (v := aStroke n T t) hx hb hr (fun t9 ht9 hW9 => ⟨⟨(F 13, R 14), rfl, ⟨by unfold nStn; rw [if_neg hno]; exact hF, by unfold nStT; rw [if_neg hno]⟩, by rw [ht9]; exact hP, hD⟩, hS.F ht9⟩) hS.2.2 dX6_stroke_42

set_option maxHeartbeats 4000000 in
set_option maxRecDepth 100000 in
theorem c_X6_clear (l : Launch) (G : mx_G) (ad : Nat → Nat) (F : Nat → Int32) (R : Nat → Nat → Int32) (n : Nat) (hF : F 13 = nI n) (sz : Nat) : mx_EF l yX6_clear wsX6_clear 0 0 0 0 G [.ref (ad 0)] sz (MW G ad F R) (fun _ : Unit => some (.int (nI n))) (fun _ : Unit => True) (fun _ : Unit => MW G ad (va_up F 13 (nI 0)) R) := by
  refine Met.ofW (cc := cX6_clear) (maxL := 2) (ret := (some .int)) (by decide) rfl ?_
  intro p e s m args below meth c s₁ BB hml hv
  obtain ⟨rfl, ⟨hsz, hP, hD0⟩, hK⟩ := hv
  have hx := BB.exec
  have hb := BB.bytes
  have hr := BB.returns
  have hts := atoms_spec (ws := wsX6_clear) BB.pre
  have hown : s.vm.findClass RX6 = some m.cls := findClass_of_methodNamed BB.named
  have hlocks := BB.notSynchronized
  subst hsz
  have hD := hD0.self (sz := s.heap.size)
  have hA : ∀ q : Nat, s.heap.size ≤ q → va_A (MW G ad F R) s.heap.size q := fun q h => Or.inr h
  have hS : va_S (va_A (MW G ad F R) s.heap.size) s.heap s.heap [] := va_S.rf
  have fl141 := hts (.fieldLink RX6 141 "MixDeskModel" "strokes" "I") (by decide +kernel)
  have inX6 : ∀ w ∈ wsX60, w ∈ wsX6_clear := by decide +kernel
  have hl := lv_entry ([.ref (ad 0)]) (n := 2) (Nat.le_of_ble_eq_true rfl)
  rw [lg_entry_eq]
  generalize (lg_sl ([.ref (ad 0)]) ++ List.replicate (2 - (lg_sl ([.ref (ad 0)])).length) Slot.unset).toArray = ls at hl ⊢
  have hl : lv_has ls 2 [(0, .ref (ad 0))] := hl
  refine lv_aload_n hx hb dX6_clear_0 rfl (lv_at hl 0 rfl) ?_
  refine va_get (D := G.1) (ci := 6) (v := .int (F 13)) (C := RX6) (T := TX6) (N := 36) hx hb hts inX6 hown hK.1 hP 0 rfl rfl 13 (by decide) fl141 (fun _ h9 => h9) rfl dX6_clear_1 ?_
  refine x_top (y := nI n) (hF) ?_
  refine lv_istore_n (lv' := [(1, .int (nI n)), (0, .ref (ad 0))]) hx hb dX6_clear_4 rfl hl (by decide) rfl (fun ls hl => ?_)
  refine lv_aload_n hx hb dX6_clear_5 rfl (lv_at hl 1 rfl) ?_
  refine lv_iconst (v := nI 0) hx hb dX6_clear_6 (by decide) ?_
  refine va_put (D := G.1) (ci := 6) (v := .int (nI 0)) (ty := .int) (C := RX6) (T := TX6) (N := 36) hx hb hts inX6 tyX6 tyX6_ok nmX6 hown hK.1 hP hD hS 0 rfl rfl 13 (by decide) fl141 (fun _ h9 => h9) rfl (by decide +kernel) rfl rfl (Nat.le_of_ble_eq_true rfl) dX6_clear_7 (fun H locs hP hD hS => ?_)
  have hP : va_P G.1 vwCl (MW G ad (va_up F 13 (nI 0)) R) H := hP
  have hD : va_D _ (MW G ad (va_up F 13 (nI 0)) R) := hD
  refine lv_iload_n hx hb dX6_clear_10 rfl (lv_at hl 0 rfl) ?_
  exact W.iret (v := nI n) hx hb hr (fun t9 ht9 hW9 => ⟨⟨(), rfl, trivial, by rw [ht9]; exact hP, hD⟩, hS.F ht9⟩) hS.2.2 dX6_clear_11
