set_option maxHeartbeats 4000000 in
set_option maxRecDepth 100000 in
theorem c_X6_floor (l : Launch) (G : mx_G) (a b : Int32) (hb0 : ¬ b = 0) : mx_RO l yX6_floor wsX6_floor 0 0 G [.int a, .int b] (fun _ => True) (.int (mfloor a b)) := by
  refine Met.ofW (cc := cX6_floor) (maxL := 2) (ret := (some .int)) (by decide) rfl ?_
  intro p e s m args below meth c s₁ BB hml hv
  obtain ⟨rfl, -, hK⟩ := hv
  have hx := BB.exec
  have hb := BB.bytes
  have hr := BB.returns
  have hts := atoms_spec (ws := wsX6_floor) BB.pre
  have hown : s.vm.findClass RX6 = some m.cls := findClass_of_methodNamed BB.named
  have hlocks := BB.notSynchronized
  have hl := lv_entry ([.int a, .int b]) (n := 2) (Nat.le_of_ble_eq_true rfl)
  rw [lg_entry_eq]
  generalize (lg_sl ([.int a, .int b]) ++ List.replicate (2 - (lg_sl ([.int a, .int b])).length) Slot.unset).toArray = ls at hl ⊢
  have hl : lv_has ls 2 [(0, .int a), (1, .int b)] := hl
  show mx_WR l wsX6_floor 0 0 p e s m (([.int a, .int b] : List Value).toArray) below meth c (.int (mfloor a b)) (F0 m 0 ls [])
  refine lv_iload_n hx hb dX6_floor_0 rfl (lv_at hl 0 rfl) ?_
  refine lv_if_lt (tgt := 10) hx hb dX6_floor_1 (by decide) (fun c_1 => ?_) (fun c_1 => ?_)
  · refine lv_iload_n hx hb dX6_floor_10 rfl (lv_at hl 1 rfl) ?_
    refine lv_iconst (v := nI 1) hx hb dX6_floor_11 (by decide) ?_
    refine lv_isub hx hb dX6_floor_12 ?_
    refine lv_iload_n hx hb dX6_floor_13 rfl (lv_at hl 0 rfl) ?_
    refine lv_isub hx hb dX6_floor_14 ?_
    refine lv_iload_n hx hb dX6_floor_15 rfl (lv_at hl 1 rfl) ?_
    refine lv_idiv hx hb dX6_floor_16 (hb0) ?_
    refine lv_ineg hx hb dX6_floor_17 ?_
    refine x_top (y := mfloor a b) (by unfold mfloor; simp [c_1]) ?_
    exact W.iret (v := mfloor a b) hx hb hr (fun t9 ht9 hW9 => ⟨rfl, ht9⟩) (fun _ h => by cases h) dX6_floor_18
  · refine lv_iload_n hx hb dX6_floor_4 rfl (lv_at hl 0 rfl) ?_
    refine lv_iload_n hx hb dX6_floor_5 rfl (lv_at hl 1 rfl) ?_
    refine lv_idiv hx hb dX6_floor_6 (hb0) ?_
    refine lv_goto (tgt := 18) hx hb dX6_floor_7 (by decide) ?_
    refine x_top (y := mfloor a b) (by unfold mfloor; simp [c_1]) ?_
    exact W.iret (v := mfloor a b) hx hb hr (fun t9 ht9 hW9 => ⟨rfl, ht9⟩) (fun _ h => by cases h) dX6_floor_18

set_option maxHeartbeats 4000000 in
set_option maxRecDepth 100000 in
theorem c_X6_size (l : Launch) (G : mx_G) (v : Int32) : mx_RO l yX6_size wsX6_size 0 0 G [.int v] (fun _ => True) (.int (msize v)) := by
  refine Met.ofW (cc := cX6_size) (maxL := 1) (ret := (some .int)) (by decide) rfl ?_
  intro p e s m args below meth c s₁ BB hml hv
  obtain ⟨rfl, -, hK⟩ := hv
  have hx := BB.exec
  have hb := BB.bytes
  have hr := BB.returns
  have hts := atoms_spec (ws := wsX6_size) BB.pre
  have hown : s.vm.findClass RX6 = some m.cls := findClass_of_methodNamed BB.named
  have hlocks := BB.notSynchronized
  have hl := lv_entry ([.int v]) (n := 1) (Nat.le_of_ble_eq_true rfl)
  rw [lg_entry_eq]
  generalize (lg_sl ([.int v]) ++ List.replicate (1 - (lg_sl ([.int v])).length) Slot.unset).toArray = ls at hl ⊢
  have hl : lv_has ls 1 [(0, .int v)] := hl
  show mx_WR l wsX6_size 0 0 p e s m (([.int v] : List Value).toArray) below meth c (.int (msize v)) (F0 m 0 ls [])
  refine lv_iload_n hx hb dX6_size_0 rfl (lv_at hl 0 rfl) ?_
  refine lv_if_ge (tgt := 9) hx hb dX6_size_1 (by decide) (fun c_1 => ?_) (fun c_1 => ?_)
  · refine lv_iload_n hx hb dX6_size_9 rfl (lv_at hl 0 rfl) ?_
    refine x_top (y := msize v) (by unfold msize; rw [if_neg (Int32.not_lt.mpr c_1)]) ?_
    exact W.iret (v := msize v) hx hb hr (fun t9 ht9 hW9 => ⟨rfl, ht9⟩) (fun _ h => by cases h) dX6_size_10
  · refine lv_iload_n hx hb dX6_size_4 rfl (lv_at hl 0 rfl) ?_
    refine lv_ineg hx hb dX6_size_5 ?_
    refine lv_goto (tgt := 10) hx hb dX6_size_6 (by decide) ?_
    refine x_top (y := msize v) (by unfold msize; rw [if_pos (Int32.not_le.mp c_1)]) ?_
    exact W.iret (v := msize v) hx hb hr (fun t9 ht9 hW9 => ⟨rfl, ht9⟩) (fun _ h => by cases h) dX6_size_10

set_option maxHeartbeats 4000000 in
set_option maxRecDepth 100000 in
theorem c_X6_isSong (l : Launch) (G : mx_G) (ad : Nat → Nat) (F : Nat → Int32) (R : Nat → Nat → Int32) (x : Int32) : mx_RO l yX6_isSong wsX6_isSong 0 0 G [.ref (ad 0), .int x] (fun H => va_P G.1 vwCl (MW G ad F R) H) (.int (isSongV R x)) := by
  refine Met.ofW (cc := cX6_isSong) (maxL := 2) (ret := (some .boolean)) (by decide) rfl ?_
  intro p e s m args below meth c s₁ BB hml hv
  obtain ⟨rfl, hP, hK⟩ := hv
  have hx := BB.exec
  have hb := BB.bytes
  have hr := BB.returns
  have hts := atoms_spec (ws := wsX6_isSong) BB.pre
  have hown : s.vm.findClass RX6 = some m.cls := findClass_of_methodNamed BB.named
  have hlocks := BB.notSynchronized
  have hP : va_P G.1 vwCl (MW G ad F R) s.heap := hP
  have fl7 := hts (.fieldLink RX6 7 "MixDeskModel" "isThere" "[Z") (by decide +kernel)
  have inX6 : ∀ w ∈ wsX60, w ∈ wsX6_isSong := by decide +kernel
  have hl := lv_entry ([.ref (ad 0), .int x]) (n := 2) (Nat.le_of_ble_eq_true rfl)
  rw [lg_entry_eq]
  generalize (lg_sl ([.ref (ad 0), .int x]) ++ List.replicate (2 - (lg_sl ([.ref (ad 0), .int x])).length) Slot.unset).toArray = ls at hl ⊢
  have hl : lv_has ls 2 [(0, .ref (ad 0)), (1, .int x)] := hl
  show mx_WR l wsX6_isSong 0 0 p e s m (([.ref (ad 0), .int x] : List Value).toArray) below meth c (.int (isSongV R x)) (F0 m 0 ls [])
  refine lv_iload_n hx hb dX6_isSong_0 rfl (lv_at hl 1 rfl) ?_
  refine lv_if_lt (tgt := 23) hx hb dX6_isSong_1 (by decide) (fun c_1 => ?_) (fun c_1 => ?_)
  · refine lv_iconst (v := nI 0) hx hb dX6_isSong_23 (by decide) ?_
    refine x_top (y := isSongV R x) (by unfold isSongV; simp only [c_1, if_true, if_false, if_pos, if_neg, not_false_eq_true]) ?_
    exact W.zret (v := isSongV R x) hx hb hr (isSongV_n) (fun t9 ht9 hW9 => ⟨rfl, ht9⟩) (fun _ h => by cases h) dX6_isSong_24
  · refine lv_iload_n hx hb dX6_isSong_4 rfl (lv_at hl 1 rfl) ?_
    refine lv_bipush (v := nI 12) hx hb dX6_isSong_5 (by decide) ?_
    refine lv_icmp_ge (tgt := 23) hx hb dX6_isSong_7 (by decide) (fun c_7 => ?_) (fun c_7 => ?_)
    · refine lv_iconst (v := nI 0) hx hb dX6_isSong_23 (by decide) ?_
      refine x_top (y := isSongV R x) (by unfold isSongV; simp only [c_1, c_7, if_true, if_false, if_pos, if_neg, not_false_eq_true]) ?_
      exact W.zret (v := isSongV R x) hx hb hr (isSongV_n) (fun t9 ht9 hW9 => ⟨rfl, ht9⟩) (fun _ h => by cases h) dX6_isSong_24
    · refine lv_aload_n hx hb dX6_isSong_10 rfl (lv_at hl 0 rfl) ?_
      refine va_get (D := G.1) (ci := 6) (v := .ref (ad 1)) (C := RX6) (T := TX6) (N := 36) hx hb hts inX6 hown hK.1 hP 0 rfl rfl 0 (by decide) fl7 (fun _ h9 => h9) rfl dX6_isSong_11 ?_
      refine lv_iload_n hx hb dX6_isSong_14 rfl (lv_at hl 1 rfl) ?_
      refine va_zald hx hb hK.1 hP 1 1 (n := 12) (f := R 0) rfl rfl (in_of (n := 12) (by omega) c_1 c_7) dX6_isSong_15 ?_
      refine lv_if_eq (tgt := 23) hx hb dX6_isSong_16 (by decide) (fun c_16 => ?_) (fun c_16 => ?_)
      · refine lv_iconst (v := nI 0) hx hb dX6_isSong_23 (by decide) ?_
        refine x_top (y := isSongV R x) (by unfold isSongV; simp only [c_1, c_7, c_16, if_true, if_false, if_pos, if_neg, not_false_eq_true]) ?_
        exact W.zret (v := isSongV R x) hx hb hr (isSongV_n) (fun t9 ht9 hW9 => ⟨rfl, ht9⟩) (fun _ h => by cases h) dX6_isSong_24
      · refine lv_iconst (v := nI 1) hx hb dX6_isSong_19 (by decide) ?_
        refine lv_goto (tgt := 24) hx hb dX6_isSong_20 (by decide) ?_
        refine x_top (y := isSongV R x) (by unfold isSongV; simp only [c_1, c_7, c_16, if_true, if_false, if_pos, if_neg, not_false_eq_true]) ?_
        exact W.zret (v := isSongV R x) hx hb hr (isSongV_n) (fun t9 ht9 hW9 => ⟨rfl, ht9⟩) (fun _ h => by cases h) dX6_isSong_24

set_option maxHeartbeats 4000000 in
set_option maxRecDepth 100000 in
theorem c_X6_playedBars (l : Launch) (G : mx_G) (ad : Nat → Nat) (F : Nat → Int32) (R : Nat → Nat → Int32) (j : Nat) (σ : Sg) (hs : j < 12) (hm : moSg R j σ) (ok : sgOk σ) : mx_RO l yX6_playedBars wsX6_playedBars 0 0 G [.ref (ad 0), .int (nI j)] (fun H => va_P G.1 vwCl (MW G ad F R) H) (.int (nI (gPB σ))) := by
  refine Met.ofW (cc := cX6_playedBars) (maxL := 2) (ret := (some .int)) (by decide) rfl ?_
  intro p e s m args below meth c s₁ BB hml hv
  obtain ⟨rfl, hP, hK⟩ := hv
  have hx := BB.exec
  have hb := BB.bytes
  have hr := BB.returns
  have hts := atoms_spec (ws := wsX6_playedBars) BB.pre
  have hown : s.vm.findClass RX6 = some m.cls := findClass_of_methodNamed BB.named
  have hlocks := BB.notSynchronized
  have hP : va_P G.1 vwCl (MW G ad F R) s.heap := hP
  obtain ⟨m1, m2, m3, m4, m5, m6, m7, m8, m9, m10, m11⟩ := id hm
  obtain ⟨hB2, hB64, hAE, hEB, hT1, hT4, hPB, hP1, hP16, hC, hst, hmo⟩ := id ok
  have fl17 := hts (.fieldLink RX6 17 "MixDeskModel" "bars" "[I") (by decide +kernel)
  have fl38 := hts (.fieldLink RX6 38 "MixDeskModel" "loopFrom" "[I") (by decide +kernel)
  have fl41 := hts (.fieldLink RX6 41 "MixDeskModel" "loopTo" "[I") (by decide +kernel)
  have fl44 := hts (.fieldLink RX6 44 "MixDeskModel" "loops" "[I") (by decide +kernel)
  have inX6 : ∀ w ∈ wsX60, w ∈ wsX6_playedBars := by decide +kernel
  have hl := lv_entry ([.ref (ad 0), .int (nI j)]) (n := 2) (Nat.le_of_ble_eq_true rfl)
  rw [lg_entry_eq]
  generalize (lg_sl ([.ref (ad 0), .int (nI j)]) ++ List.replicate (2 - (lg_sl ([.ref (ad 0), .int (nI j)])).length) Slot.unset).toArray = ls at hl ⊢
  have hl : lv_has ls 2 [(0, .ref (ad 0)), (1, .int (nI j))] := hl
  show mx_WR l wsX6_playedBars 0 0 p e s m (([.ref (ad 0), .int (nI j)] : List Value).toArray) below meth c (.int (nI (gPB σ))) (F0 m 0 ls [])
  refine lv_aload_n hx hb dX6_playedBars_0 rfl (lv_at hl 0 rfl) ?_
  refine va_get (D := G.1) (ci := 6) (v := .ref (ad 3)) (C := RX6) (T := TX6) (N := 36) hx hb hts inX6 hown hK.1 hP 0 rfl rfl 2 (by decide) fl17 (fun _ h9 => h9) rfl dX6_playedBars_1 ?_
  refine lv_iload_n hx hb dX6_playedBars_4 rfl (lv_at hl 1 rfl) ?_
  refine x_iald hx hb hK.1 hP 3 0 (n := 12) (f := R 2) rfl rfl (k := j) (by omega) (by omega) dX6_playedBars_5 ?_
  refine x_top (y := nI (gB σ)) (m2) ?_
  refine lv_aload_n hx hb dX6_playedBars_6 rfl (lv_at hl 0 rfl) ?_
  refine va_get (D := G.1) (ci := 6) (v := .ref (ad 12)) (C := RX6) (T := TX6) (N := 36) hx hb hts inX6 hown hK.1 hP 0 rfl rfl 11 (by decide) fl44 (fun _ h9 => h9) rfl dX6_playedBars_7 ?_
  refine lv_iload_n hx hb dX6_playedBars_10 rfl (lv_at hl 1 rfl) ?_
  refine x_iald hx hb hK.1 hP 12 0 (n := 12) (f := R 11) rfl rfl (k := j) (by omega) (by omega) dX6_playedBars_11 ?_
  refine x_top (y := nI (gT σ)) (m11) ?_
  refine lv_iconst (v := nI 1) hx hb dX6_playedBars_12 (by decide) ?_
  refine x_isub (r := gT σ - 1) hx hb dX6_playedBars_13 (by omega) ?_
  refine lv_aload_n hx hb dX6_playedBars_14 rfl (lv_at hl 0 rfl) ?_
  refine va_get (D := G.1) (ci := 6) (v := .ref (ad 11)) (C := RX6) (T := TX6) (N := 36) hx hb hts inX6 hown hK.1 hP 0 rfl rfl 10 (by decide) fl41 (fun _ h9 => h9) rfl dX6_playedBars_15 ?_
  refine lv_iload_n hx hb dX6_playedBars_18 rfl (lv_at hl 1 rfl) ?_
  refine x_iald hx hb hK.1 hP 11 0 (n := 12) (f := R 10) rfl rfl (k := j) (by omega) (by omega) dX6_playedBars_19 ?_
  refine x_top (y := nI (gE σ)) (m10) ?_
  refine lv_aload_n hx hb dX6_playedBars_20 rfl (lv_at hl 0 rfl) ?_
  refine va_get (D := G.1) (ci := 6) (v := .ref (ad 10)) (C := RX6) (T := TX6) (N := 36) hx hb hts inX6 hown hK.1 hP 0 rfl rfl 9 (by decide) fl38 (fun _ h9 => h9) rfl dX6_playedBars_21 ?_
  refine lv_iload_n hx hb dX6_playedBars_24 rfl (lv_at hl 1 rfl) ?_
  refine x_iald hx hb hK.1 hP 10 0 (n := 12) (f := R 9) rfl rfl (k := j) (by omega) (by omega) dX6_playedBars_25 ?_
  refine x_top (y := nI (gA σ)) (m9) ?_
  refine x_isub (r := gE σ - gA σ) hx hb dX6_playedBars_26 (by omega) ?_
  refine lv_iconst (v := nI 1) hx hb dX6_playedBars_27 (by decide) ?_
  refine x_iadd (r := gE σ - gA σ + 1) hx hb dX6_playedBars_28 (rfl) ?_
  refine x_imul (r := (gT σ - 1) * (gE σ - gA σ + 1)) hx hb dX6_playedBars_29 (rfl) ?_
  refine x_iadd (r := gB σ + ((gT σ - 1) * (gE σ - gA σ + 1))) hx hb dX6_playedBars_30 (rfl) ?_
  refine x_top (y := nI (gPB σ)) (by rfl) ?_
  exact W.iret (v := nI (gPB σ)) hx hb hr (fun t9 ht9 hW9 => ⟨rfl, ht9⟩) (fun _ h => by cases h) dX6_playedBars_31

set_option maxHeartbeats 4000000 in
set_option maxRecDepth 100000 in
theorem c_X6_barOf (l : Launch) (G : mx_G) (ad : Nat → Nat) (F : Nat → Int32) (R : Nat → Nat → Int32) (j : Nat) (σ : Sg) (q : Nat) (hs : j < 12) (hm : moSg R j σ) (ok : sgOk σ) (hq : q < gPB σ) : mx_RO l yX6_barOf wsX6_barOf 0 0 G [.ref (ad 0), .int (nI j), .int (nI q)] (fun H => va_P G.1 vwCl (MW G ad F R) H) (.int (nI (gBar σ q))) := by
  refine Met.ofW (cc := cX6_barOf) (maxL := 5) (ret := (some .int)) (by decide) rfl ?_
  intro p e s m args below meth c s₁ BB hml hv
  obtain ⟨rfl, hP, hK⟩ := hv
  have hx := BB.exec
  have hb := BB.bytes
  have hr := BB.returns
  have hts := atoms_spec (ws := wsX6_barOf) BB.pre
  have hown : s.vm.findClass RX6 = some m.cls := findClass_of_methodNamed BB.named
  have hlocks := BB.notSynchronized
  have hP : va_P G.1 vwCl (MW G ad F R) s.heap := hP
  obtain ⟨m1, m2, m3, m4, m5, m6, m7, m8, m9, m10, m11⟩ := id hm
  obtain ⟨hB2, hB64, hAE, hEB, hT1, hT4, hPB, hP1, hP16, hC, hst, hmo⟩ := id ok
  have hpb := gPB_le ok
  have hLT : (gE σ - gA σ + 1) * gT σ ≤ 64 * 4 := Nat.mul_le_mul (by omega) (by omega)
  have hz : (gE σ - gA σ + 1) * gT σ = (gE σ - gA σ + 1) * (gT σ - 1) + (gE σ - gA σ + 1) := by rw [← Nat.mul_succ]; congr 1; omega
  have fl38 := hts (.fieldLink RX6 38 "MixDeskModel" "loopFrom" "[I") (by decide +kernel)
  have fl41 := hts (.fieldLink RX6 41 "MixDeskModel" "loopTo" "[I") (by decide +kernel)
  have fl44 := hts (.fieldLink RX6 44 "MixDeskModel" "loops" "[I") (by decide +kernel)
  have inX6 : ∀ w ∈ wsX60, w ∈ wsX6_barOf := by decide +kernel
  have hl := lv_entry ([.ref (ad 0), .int (nI j), .int (nI q)]) (n := 5) (Nat.le_of_ble_eq_true rfl)
  rw [lg_entry_eq]
  generalize (lg_sl ([.ref (ad 0), .int (nI j), .int (nI q)]) ++ List.replicate (5 - (lg_sl ([.ref (ad 0), .int (nI j), .int (nI q)])).length) Slot.unset).toArray = ls at hl ⊢
  have hl : lv_has ls 5 [(0, .ref (ad 0)), (1, .int (nI j)), (2, .int (nI q))] := hl
  show mx_WR l wsX6_barOf 0 0 p e s m (([.ref (ad 0), .int (nI j), .int (nI q)] : List Value).toArray) below meth c (.int (nI (gBar σ q))) (F0 m 0 ls [])
  refine lv_aload_n hx hb dX6_barOf_0 rfl (lv_at hl 0 rfl) ?_
  refine va_get (D := G.1) (ci := 6) (v := .ref (ad 11)) (C := RX6) (T := TX6) (N := 36) hx hb hts inX6 hown hK.1 hP 0 rfl rfl 10 (by decide) fl41 (fun _ h9 => h9) rfl dX6_barOf_1 ?_
  refine lv_iload_n hx hb dX6_barOf_4 rfl (lv_at hl 1 rfl) ?_
  refine x_iald hx hb hK.1 hP 11 0 (n := 12) (f := R 10) rfl rfl (k := j) (by omega) (by omega) dX6_barOf_5 ?_
  refine x_top (y := nI (gE σ)) (m10) ?_
  refine lv_aload_n hx hb dX6_barOf_6 rfl (lv_at hl 0 rfl) ?_
  refine va_get (D := G.1) (ci := 6) (v := .ref (ad 10)) (C := RX6) (T := TX6) (N := 36) hx hb hts inX6 hown hK.1 hP 0 rfl rfl 9 (by decide) fl38 (fun _ h9 => h9) rfl dX6_barOf_7 ?_
  refine lv_iload_n hx hb dX6_barOf_10 rfl (lv_at hl 1 rfl) ?_
  refine x_iald hx hb hK.1 hP 10 0 (n := 12) (f := R 9) rfl rfl (k := j) (by omega) (by omega) dX6_barOf_11 ?_
  refine x_top (y := nI (gA σ)) (m9) ?_
  refine x_isub (r := gE σ - gA σ) hx hb dX6_barOf_12 (by omega) ?_
  refine lv_iconst (v := nI 1) hx hb dX6_barOf_13 (by decide) ?_
  refine x_iadd (r := gE σ - gA σ + 1) hx hb dX6_barOf_14 (rfl) ?_
  refine lv_istore_n (lv' := [(3, .int (nI (gE σ - gA σ + 1))), (0, .ref (ad 0)), (1, .int (nI j)), (2, .int (nI q))]) hx hb dX6_barOf_15 rfl hl (by decide) rfl (fun ls hl => ?_)
  refine lv_iload_n hx hb dX6_barOf_16 rfl (lv_at hl 3 rfl) ?_
  refine lv_aload_n hx hb dX6_barOf_17 rfl (lv_at hl 1 rfl) ?_
  refine va_get (D := G.1) (ci := 6) (v := .ref (ad 11)) (C := RX6) (T := TX6) (N := 36) hx hb hts inX6 hown hK.1 hP 0 rfl rfl 10 (by decide) fl41 (fun _ h9 => h9) rfl dX6_barOf_18 ?_
  refine lv_iload_n hx hb dX6_barOf_21 rfl (lv_at hl 2 rfl) ?_
  refine x_iald hx hb hK.1 hP 11 0 (n := 12) (f := R 10) rfl rfl (k := j) (by omega) (by omega) dX6_barOf_22 ?_
  refine x_top (y := nI (gE σ)) (m10) ?_
  refine x_icmp_gt (tgt := 28) hx hb (by omega) (by omega) dX6_barOf_23 (by decide) (fun c_23 => ?_) (fun c_23 => ?_)
  · refine lv_iload_n hx hb dX6_barOf_28 rfl (lv_at hl 3 rfl) ?_
    refine lv_aload_n hx hb dX6_barOf_29 rfl (lv_at hl 1 rfl) ?_
    refine va_get (D := G.1) (ci := 6) (v := .ref (ad 10)) (C := RX6) (T := TX6) (N := 36) hx hb hts inX6 hown hK.1 hP 0 rfl rfl 9 (by decide) fl38 (fun _ h9 => h9) rfl dX6_barOf_30 ?_
    refine lv_iload_n hx hb dX6_barOf_33 rfl (lv_at hl 2 rfl) ?_
    refine x_iald hx hb hK.1 hP 10 0 (n := 12) (f := R 9) rfl rfl (k := j) (by omega) (by omega) dX6_barOf_34 ?_
    refine x_top (y := nI (gA σ)) (m9) ?_
    refine x_isub (r := q - gA σ) hx hb dX6_barOf_35 (by omega) ?_
    refine lv_istore (lv' := [(4, .int (nI (q - gA σ))), (3, .int (nI (gE σ - gA σ + 1))), (0, .ref (ad 0)), (1, .int (nI j)), (2, .int (nI q))]) hx hb dX6_barOf_36 hl (by decide) rfl (fun ls hl => ?_)
    refine lv_iload hx hb dX6_barOf_38 (lv_at hl 0 rfl) ?_
    refine lv_iload_n hx hb dX6_barOf_40 rfl (lv_at hl 1 rfl) ?_
    refine lv_aload_n hx hb dX6_barOf_41 rfl (lv_at hl 2 rfl) ?_
    refine va_get (D := G.1) (ci := 6) (v := .ref (ad 12)) (C := RX6) (T := TX6) (N := 36) hx hb hts inX6 hown hK.1 hP 0 rfl rfl 11 (by decide) fl44 (fun _ h9 => h9) rfl dX6_barOf_42 ?_
    refine lv_iload_n hx hb dX6_barOf_45 rfl (lv_at hl 3 rfl) ?_
    refine x_iald hx hb hK.1 hP 12 0 (n := 12) (f := R 11) rfl rfl (k := j) (by omega) (by omega) dX6_barOf_46 ?_
    refine x_top (y := nI (gT σ)) (m11) ?_
    refine x_imul (r := (gE σ - gA σ + 1) * gT σ) hx hb dX6_barOf_47 (rfl) ?_
    refine x_icmp_ge (tgt := 65) hx hb (by omega) (by omega) dX6_barOf_48 (by decide) (fun c_48 => ?_) (fun c_48 => ?_)
    · refine lv_iload_n hx hb dX6_barOf_65 rfl (lv_at hl 4 rfl) ?_
      refine lv_iload_n hx hb dX6_barOf_66 rfl (lv_at hl 1 rfl) ?_
      refine lv_aload_n hx hb dX6_barOf_67 rfl (lv_at hl 2 rfl) ?_
      refine va_get (D := G.1) (ci := 6) (v := .ref (ad 12)) (C := RX6) (T := TX6) (N := 36) hx hb hts inX6 hown hK.1 hP 0 rfl rfl 11 (by decide) fl44 (fun _ h9 => h9) rfl dX6_barOf_68 ?_
      refine lv_iload_n hx hb dX6_barOf_71 rfl (lv_at hl 3 rfl) ?_
      refine x_iald hx hb hK.1 hP 12 0 (n := 12) (f := R 11) rfl rfl (k := j) (by omega) (by omega) dX6_barOf_72 ?_
      refine x_top (y := nI (gT σ)) (m11) ?_
      refine lv_iconst (v := nI 1) hx hb dX6_barOf_73 (by decide) ?_
      refine x_isub (r := gT σ - 1) hx hb dX6_barOf_74 (by omega) ?_
      refine x_imul (r := (gE σ - gA σ + 1) * (gT σ - 1)) hx hb dX6_barOf_75 (rfl) ?_
      refine x_isub (r := q - (gE σ - gA σ + 1) * (gT σ - 1)) hx hb dX6_barOf_76 (by omega) ?_
      refine x_top (y := nI (gBar σ q)) (congrArg nI (by unfold gBar; rw [if_neg (by omega), if_neg (by omega)])) ?_
      exact W.iret (v := nI (gBar σ q)) hx hb hr (fun t9 ht9 hW9 => ⟨rfl, ht9⟩) (fun _ h => by cases h) dX6_barOf_77
    · refine lv_aload_n hx hb dX6_barOf_51 rfl (lv_at hl 2 rfl) ?_
      refine va_get (D := G.1) (ci := 6) (v := .ref (ad 10)) (C := RX6) (T := TX6) (N := 36) hx hb hts inX6 hown hK.1 hP 0 rfl rfl 9 (by decide) fl38 (fun _ h9 => h9) rfl dX6_barOf_52 ?_
      refine lv_iload_n hx hb dX6_barOf_55 rfl (lv_at hl 3 rfl) ?_
      refine x_iald hx hb hK.1 hP 10 0 (n := 12) (f := R 9) rfl rfl (k := j) (by omega) (by omega) dX6_barOf_56 ?_
      refine x_top (y := nI (gA σ)) (m9) ?_
      refine lv_iload hx hb dX6_barOf_57 (lv_at hl 0 rfl) ?_
      refine lv_iload_n hx hb dX6_barOf_59 rfl (lv_at hl 1 rfl) ?_
      refine x_irem (r := (q - gA σ) % (gE σ - gA σ + 1)) hx hb dX6_barOf_60 (by omega) (by omega) (by omega) (rfl) ?_
      refine x_iadd (r := gA σ + ((q - gA σ) % (gE σ - gA σ + 1))) hx hb dX6_barOf_61 (rfl) ?_
      refine lv_goto (tgt := 77) hx hb dX6_barOf_62 (by decide) ?_
      refine x_top (y := nI (gBar σ q)) (congrArg nI (by unfold gBar; rw [if_neg (by omega), if_pos (by omega)])) ?_
      exact W.iret (v := nI (gBar σ q)) hx hb hr (fun t9 ht9 hW9 => ⟨rfl, ht9⟩) (fun _ h => by cases h) dX6_barOf_77
  · refine lv_iload_n hx hb dX6_barOf_26 rfl (lv_at hl 3 rfl) ?_
    refine x_top (y := nI (gBar σ q)) (congrArg nI (by unfold gBar; rw [if_pos (by omega)])) ?_
    exact W.iret (v := nI (gBar σ q)) hx hb hr (fun t9 ht9 hW9 => ⟨rfl, ht9⟩) (fun _ h => by cases h) dX6_barOf_27

set_option maxHeartbeats 4000000 in
set_option maxRecDepth 100000 in
theorem c_X6_beatsOf (l : Launch) (G : mx_G) (ad : Nat → Nat) (F : Nat → Int32) (R : Nat → Nat → Int32) (j : Nat) (σ : Sg) (hs : j < 12) (hm : moSg R j σ) (ok : sgOk σ) : mx_RO l yX6_beatsOf wsX6_beatsOf 0 0 G [.ref (ad 0), .int (nI j)] (fun H => va_P G.1 vwCl (MW G ad F R) H) (.int (nI (gFst σ (gB σ)))) := by
  refine Met.ofW (cc := cX6_beatsOf) (maxL := 4) (ret := (some .int)) (by decide) rfl ?_
  intro p e s m args below meth c s₁ BB hml hv
  obtain ⟨rfl, hP, hK⟩ := hv
  have hx := BB.exec
  have hb := BB.bytes
  have hr := BB.returns
  have hts := atoms_spec (ws := wsX6_beatsOf) BB.pre
  have hown : s.vm.findClass RX6 = some m.cls := findClass_of_methodNamed BB.named
  have hlocks := BB.notSynchronized
  have hP : va_P G.1 vwCl (MW G ad F R) s.heap := hP
  obtain ⟨m1, m2, m3, m4, m5, m6, m7, m8, m9, m10, m11⟩ := id hm
  obtain ⟨hB2, hB64, hAE, hEB, hT1, hT4, hPB, hP1, hP16, hC, hst, hmo⟩ := id ok
  have fl17 := hts (.fieldLink RX6 17 "MixDeskModel" "bars" "[I") (by decide +kernel)
  have fl35 := hts (.fieldLink RX6 35 "MixDeskModel" "beats" "[I") (by decide +kernel)
  have inX6 : ∀ w ∈ wsX60, w ∈ wsX6_beatsOf := by decide +kernel
  have hl := lv_entry ([.ref (ad 0), .int (nI j)]) (n := 4) (Nat.le_of_ble_eq_true rfl)
  rw [lg_entry_eq]
  generalize (lg_sl ([.ref (ad 0), .int (nI j)]) ++ List.replicate (4 - (lg_sl ([.ref (ad 0), .int (nI j)])).length) Slot.unset).toArray = ls at hl ⊢
  have hl : lv_has ls 4 [(0, .ref (ad 0)), (1, .int (nI j))] := hl
  show mx_WR l wsX6_beatsOf 0 0 p e s m (([.ref (ad 0), .int (nI j)] : List Value).toArray) below meth c (.int (nI (gFst σ (gB σ)))) (F0 m 0 ls [])
  refine lv_iconst (v := nI 0) hx hb dX6_beatsOf_0 (by decide) ?_
  refine lv_istore_n (lv' := [(2, .int (nI 0)), (0, .ref (ad 0)), (1, .int (nI j))]) hx hb dX6_beatsOf_1 rfl hl (by decide) rfl (fun ls hl => ?_)
  refine lv_iconst (v := nI 0) hx hb dX6_beatsOf_2 (by decide) ?_
  refine lv_istore_n (lv' := [(3, .int (nI 0)), (2, .int (nI 0)), (0, .ref (ad 0)), (1, .int (nI j))]) hx hb dX6_beatsOf_3 rfl hl (by decide) rfl (fun ls hl => ?_)
  have lp4 : ∀ (nn : Nat) (i : Nat), gB σ - i < nn → (i ≤ gB σ) → ∀ ls : Array Slot, lv_has ls 4 [(0, .ref (ad 0)), (1, .int (nI j)), (2, .int (nI (gFst σ i))), (3, .int (nI i))] → mx_WR l wsX6_beatsOf 0 0 p e s m (([.ref (ad 0), .int (nI j)] : List Value).toArray) below meth c (.int (nI (gFst σ (gB σ)))) (F0 m 4 ls []) := by
    intro nn
    induction nn with
    | zero => intro i hmu; exact absurd hmu (Nat.not_lt_zero _)
    | succ nn ih4 =>
      intro i hmu hi ls hl
      refine lv_iload_n hx hb dX6_beatsOf_4 rfl (lv_at hl 3 rfl) ?_
      refine lv_aload_n hx hb dX6_beatsOf_5 rfl (lv_at hl 0 rfl) ?_
      refine va_get (D := G.1) (ci := 6) (v := .ref (ad 3)) (C := RX6) (T := TX6) (N := 36) hx hb hts inX6 hown hK.1 hP 0 rfl rfl 2 (by decide) fl17 (fun _ h9 => h9) rfl dX6_beatsOf_6 ?_
      refine lv_iload_n hx hb dX6_beatsOf_9 rfl (lv_at hl 1 rfl) ?_
      refine x_iald hx hb hK.1 hP 3 0 (n := 12) (f := R 2) rfl rfl (k := j) (by omega) (by omega) dX6_beatsOf_10 ?_
      refine x_top (y := nI (gB σ)) (m2) ?_
      refine x_icmp_ge (tgt := 34) hx hb (by omega) (by omega) dX6_beatsOf_11 (by decide) (fun c_11 => ?_) (fun c_11 => ?_)
      · refine lv_iload_n hx hb dX6_beatsOf_34 rfl (lv_at hl 2 rfl) ?_
        refine x_top (y := nI (gFst σ (gB σ))) (by rw [show i = gB σ by omega]) ?_
        exact W.iret (v := nI (gFst σ (gB σ))) hx hb hr (fun t9 ht9 hW9 => ⟨rfl, ht9⟩) (fun _ h => by cases h) dX6_beatsOf_35
      · refine lv_iload_n hx hb dX6_beatsOf_14 rfl (lv_at hl 2 rfl) ?_
        refine lv_aload_n hx hb dX6_beatsOf_15 rfl (lv_at hl 0 rfl) ?_
        refine va_get (D := G.1) (ci := 6) (v := .ref (ad 9)) (C := RX6) (T := TX6) (N := 36) hx hb hts inX6 hown hK.1 hP 0 rfl rfl 8 (by decide) fl35 (fun _ h9 => h9) rfl dX6_beatsOf_16 ?_
        refine lv_bipush (v := nI 64) hx hb dX6_beatsOf_19 (by decide) ?_
        refine lv_iload_n hx hb dX6_beatsOf_21 rfl (lv_at hl 1 rfl) ?_
        refine x_imul (r := 64 * j) hx hb dX6_beatsOf_22 (rfl) ?_
        refine lv_iload_n hx hb dX6_beatsOf_23 rfl (lv_at hl 3 rfl) ?_
        refine x_iadd (r := 64 * j + i) hx hb dX6_beatsOf_24 (rfl) ?_
        refine x_iald hx hb hK.1 hP 9 0 (n := 768) (f := R 8) rfl rfl (k := 64 * j + i) (by omega) (by omega) dX6_beatsOf_25 ?_
        refine x_top (y := nI (gC σ i)) (m8 i (by omega)) ?_
        refine x_iadd (r := gFst σ i + gC σ i) hx hb dX6_beatsOf_26 (rfl) ?_
        refine lv_istore_n (lv' := [(2, .int (nI (gFst σ i + gC σ i))), (0, .ref (ad 0)), (1, .int (nI j)), (3, .int (nI i))]) hx hb dX6_beatsOf_27 rfl hl (by decide) rfl (fun ls hl => ?_)
        refine x_iinc (lv' := [(3, .int (nI (i + 1))), (2, .int (nI (gFst σ i + gC σ i))), (0, .ref (ad 0)), (1, .int (nI j))]) hx hb dX6_beatsOf_28 hl (k := 3) rfl (x_inc1 _) (by decide) rfl (fun ls hl => ?_)
        refine lv_goto (tgt := 4) hx hb dX6_beatsOf_31 (by decide) ?_
        exact ih4 (i + 1) (by omega) (by omega) _ (lv_sub hl [2, 3, 1, 0] rfl)
  exact lp4 (gB σ - 0 + 1) 0 (Nat.lt_succ_self _) (by omega) _ (lv_sub hl [2, 3, 1, 0] rfl)

set_option maxHeartbeats 4000000 in
set_option maxRecDepth 100000 in
theorem c_X6_firstBeat (l : Launch) (G : mx_G) (ad : Nat → Nat) (F : Nat → Int32) (R : Nat → Nat → Int32) (j : Nat) (σ : Sg) (b : Nat) (hs : j < 12) (hm : moSg R j σ) (ok : sgOk σ) (hb9 : b ≤ 64) : mx_RO l yX6_firstBeat wsX6_firstBeat 0 0 G [.ref (ad 0), .int (nI j), .int (nI b)] (fun H => va_P G.1 vwCl (MW G ad F R) H) (.int (nI (gFst σ b))) := by
  refine Met.ofW (cc := cX6_firstBeat) (maxL := 5) (ret := (some .int)) (by decide) rfl ?_
  intro p e s m args below meth c s₁ BB hml hv
  obtain ⟨rfl, hP, hK⟩ := hv
  have hx := BB.exec
  have hb := BB.bytes
  have hr := BB.returns
  have hts := atoms_spec (ws := wsX6_firstBeat) BB.pre
  have hown : s.vm.findClass RX6 = some m.cls := findClass_of_methodNamed BB.named
  have hlocks := BB.notSynchronized
  have hP : va_P G.1 vwCl (MW G ad F R) s.heap := hP
  obtain ⟨m1, m2, m3, m4, m5, m6, m7, m8, m9, m10, m11⟩ := id hm
  obtain ⟨hB2, hB64, hAE, hEB, hT1, hT4, hPB, hP1, hP16, hC, hst, hmo⟩ := id ok
  have fl35 := hts (.fieldLink RX6 35 "MixDeskModel" "beats" "[I") (by decide +kernel)
  have inX6 : ∀ w ∈ wsX60, w ∈ wsX6_firstBeat := by decide +kernel
  have hl := lv_entry ([.ref (ad 0), .int (nI j), .int (nI b)]) (n := 5) (Nat.le_of_ble_eq_true rfl)
  rw [lg_entry_eq]
  generalize (lg_sl ([.ref (ad 0), .int (nI j), .int (nI b)]) ++ List.replicate (5 - (lg_sl ([.ref (ad 0), .int (nI j), .int (nI b)])).length) Slot.unset).toArray = ls at hl ⊢
  have hl : lv_has ls 5 [(0, .ref (ad 0)), (1, .int (nI j)), (2, .int (nI b))] := hl
  show mx_WR l wsX6_firstBeat 0 0 p e s m (([.ref (ad 0), .int (nI j), .int (nI b)] : List Value).toArray) below meth c (.int (nI (gFst σ b))) (F0 m 0 ls [])
  refine lv_iconst (v := nI 0) hx hb dX6_firstBeat_0 (by decide) ?_
  refine lv_istore_n (lv' := [(3, .int (nI 0)), (0, .ref (ad 0)), (1, .int (nI j)), (2, .int (nI b))]) hx hb dX6_firstBeat_1 rfl hl (by decide) rfl (fun ls hl => ?_)
  refine lv_iconst (v := nI 0) hx hb dX6_firstBeat_2 (by decide) ?_
  refine lv_istore (lv' := [(4, .int (nI 0)), (3, .int (nI 0)), (0, .ref (ad 0)), (1, .int (nI j)), (2, .int (nI b))]) hx hb dX6_firstBeat_3 hl (by decide) rfl (fun ls hl => ?_)
  have lp5 : ∀ (nn : Nat) (i : Nat), b - i < nn → (i ≤ b) → ∀ ls : Array Slot, lv_has ls 5 [(0, .ref (ad 0)), (1, .int (nI j)), (2, .int (nI b)), (3, .int (nI (gFst σ i))), (4, .int (nI i))] → mx_WR l wsX6_firstBeat 0 0 p e s m (([.ref (ad 0), .int (nI j), .int (nI b)] : List Value).toArray) below meth c (.int (nI (gFst σ b))) (F0 m 5 ls []) := by
    intro nn
    induction nn with
    | zero => intro i hmu; exact absurd hmu (Nat.not_lt_zero _)
    | succ nn ih5 =>
      intro i hmu hi ls hl
      refine lv_iload hx hb dX6_firstBeat_5 (lv_at hl 4 rfl) ?_
      refine lv_iload_n hx hb dX6_firstBeat_7 rfl (lv_at hl 2 rfl) ?_
      refine x_icmp_ge (tgt := 32) hx hb (by omega) (by omega) dX6_firstBeat_8 (by decide) (fun c_8 => ?_) (fun c_8 => ?_)
      · refine lv_iload_n hx hb dX6_firstBeat_32 rfl (lv_at hl 3 rfl) ?_
        refine x_top (y := nI (gFst σ b)) (by rw [show i = b by omega]) ?_
        exact W.iret (v := nI (gFst σ b)) hx hb hr (fun t9 ht9 hW9 => ⟨rfl, ht9⟩) (fun _ h => by cases h) dX6_firstBeat_33
      · refine lv_iload_n hx hb dX6_firstBeat_11 rfl (lv_at hl 3 rfl) ?_
        refine lv_aload_n hx hb dX6_firstBeat_12 rfl (lv_at hl 0 rfl) ?_
        refine va_get (D := G.1) (ci := 6) (v := .ref (ad 9)) (C := RX6) (T := TX6) (N := 36) hx hb hts inX6 hown hK.1 hP 0 rfl rfl 8 (by decide) fl35 (fun _ h9 => h9) rfl dX6_firstBeat_13 ?_
        refine lv_bipush (v := nI 64) hx hb dX6_firstBeat_16 (by decide) ?_
        refine lv_iload_n hx hb dX6_firstBeat_18 rfl (lv_at hl 1 rfl) ?_
        refine x_imul (r := 64 * j) hx hb dX6_firstBeat_19 (rfl) ?_
        refine lv_iload hx hb dX6_firstBeat_20 (lv_at hl 4 rfl) ?_
        refine x_iadd (r := 64 * j + i) hx hb dX6_firstBeat_22 (rfl) ?_
        refine x_iald hx hb hK.1 hP 9 0 (n := 768) (f := R 8) rfl rfl (k := 64 * j + i) (by omega) (by omega) dX6_firstBeat_23 ?_
        refine x_top (y := nI (gC σ i)) (m8 i (by omega)) ?_
        refine x_iadd (r := gFst σ i + gC σ i) hx hb dX6_firstBeat_24 (rfl) ?_
        refine lv_istore_n (lv' := [(3, .int (nI (gFst σ i + gC σ i))), (0, .ref (ad 0)), (1, .int (nI j)), (2, .int (nI b)), (4, .int (nI i))]) hx hb dX6_firstBeat_25 rfl hl (by decide) rfl (fun ls hl => ?_)
        refine x_iinc (lv' := [(4, .int (nI (i + 1))), (3, .int (nI (gFst σ i + gC σ i))), (0, .ref (ad 0)), (1, .int (nI j)), (2, .int (nI b))]) hx hb dX6_firstBeat_26 hl (k := 4) rfl (x_inc1 _) (by decide) rfl (fun ls hl => ?_)
        refine lv_goto (tgt := 5) hx hb dX6_firstBeat_29 (by decide) ?_
        exact ih5 (i + 1) (by omega) (by omega) _ (lv_sub hl [2, 3, 4, 1, 0] rfl)
  exact lp5 (b - 0 + 1) 0 (Nat.lt_succ_self _) (by omega) _ (lv_sub hl [2, 3, 4, 1, 0] rfl)
