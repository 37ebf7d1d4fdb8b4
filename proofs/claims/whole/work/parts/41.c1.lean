set_option maxHeartbeats 4000000 in
set_option maxRecDepth 100000 in
theorem c_J9_floorDiv (l : Launch) (G : mx_G) (x y : Int32) (hy0 : ¬ y = 0) : mx_RO l yJ9_floorDiv_7cf53 wsJ9_floorDiv_7cf53 0 0 G [.int x, .int y] (fun _ => True) (.int (jfd x y)) := by
  refine mx_ofWF (cc := cJ9_floorDiv_7cf53) (maxL := 3) (ret := (some .int)) (by decide +kernel) rfl ?_
  intro p e s m args below meth c s₁ BB hml hv
  obtain ⟨rfl, -, hK⟩ := hv
  have hx := BB.exec
  have hb := BB.bytes
  have hr := BB.returns
  have hts := atoms_spec (ws := wsJ9_floorDiv_7cf53) BB.pre
  have hown : s.vm.findClass RJ9 = some m.cls := findClass_of_methodNamed BB.named
  have hlocks := BB.notSynchronized
  have hl := lv_entry ([.int x, .int y]) (n := 3) (Nat.le_of_ble_eq_true rfl)
  rw [lg_entry_eq]
  generalize (lg_sl ([.int x, .int y]) ++ List.replicate (3 - (lg_sl ([.int x, .int y])).length) Slot.unset).toArray = ls at hl ⊢
  have hl : lv_has ls 3 [(0, .int x), (1, .int y)] := hl
  show mx_WR l wsJ9_floorDiv_7cf53 0 0 p e s m (([.int x, .int y] : List Value).toArray) below meth c (.int (jfd x y)) (F0 m 0 ls [])
  refine lv_iload_n hx hb dJ9_floorDiv_7cf53_0 rfl (lv_at hl 0 rfl) ?_
  refine lv_iload_n hx hb dJ9_floorDiv_7cf53_1 rfl (lv_at hl 1 rfl) ?_
  refine lv_idiv hx hb dJ9_floorDiv_7cf53_2 (hy0) ?_
  refine lv_istore_n (lv' := [(2, .int (x / y)), (0, .int x), (1, .int y)]) hx hb dJ9_floorDiv_7cf53_3 rfl hl (by decide) rfl (fun ls hl => ?_)
  refine lv_iload_n hx hb dJ9_floorDiv_7cf53_4 rfl (lv_at hl 1 rfl) ?_
  refine lv_iload_n hx hb dJ9_floorDiv_7cf53_5 rfl (lv_at hl 2 rfl) ?_
  refine lv_ixor hx hb dJ9_floorDiv_7cf53_6 ?_
  refine lv_if_ge (tgt := 21) hx hb dJ9_floorDiv_7cf53_7 (by decide) (fun c_7 => ?_) (fun c_7 => ?_)
  · refine lv_iload_n hx hb dJ9_floorDiv_7cf53_21 rfl (lv_at hl 0 rfl) ?_
    refine x_top (y := jfd x y) (by unfold jfd; exact (if_pos c_7).symm) ?_
    exact W.iret (v := jfd x y) hx hb hr (fun t9 ht9 hW9 => ⟨rfl, ht9⟩) (fun _ h => by cases h) dJ9_floorDiv_7cf53_22
  · refine lv_iload_n hx hb dJ9_floorDiv_7cf53_10 rfl (lv_at hl 0 rfl) ?_
    refine lv_iload_n hx hb dJ9_floorDiv_7cf53_11 rfl (lv_at hl 2 rfl) ?_
    refine lv_imul hx hb dJ9_floorDiv_7cf53_12 ?_
    refine lv_iload_n hx hb dJ9_floorDiv_7cf53_13 rfl (lv_at hl 1 rfl) ?_
    refine lv_icmp_eq (tgt := 21) hx hb dJ9_floorDiv_7cf53_14 (by decide) (fun c_14 => ?_) (fun c_14 => ?_)
    · refine lv_iload_n hx hb dJ9_floorDiv_7cf53_21 rfl (lv_at hl 0 rfl) ?_
      refine x_top (y := jfd x y) (by unfold jfd; exact ((if_neg c_7).trans (if_pos c_14)).symm) ?_
      exact W.iret (v := jfd x y) hx hb hr (fun t9 ht9 hW9 => ⟨rfl, ht9⟩) (fun _ h => by cases h) dJ9_floorDiv_7cf53_22
    · refine lv_iload_n hx hb dJ9_floorDiv_7cf53_17 rfl (lv_at hl 0 rfl) ?_
      refine lv_iconst (v := nI 1) hx hb dJ9_floorDiv_7cf53_18 (by decide) ?_
      refine lv_isub hx hb dJ9_floorDiv_7cf53_19 ?_
      refine x_top (y := jfd x y) (by unfold jfd; exact ((if_neg c_7).trans (if_neg c_14)).symm) ?_
      exact W.iret (v := jfd x y) hx hb hr (fun t9 ht9 hW9 => ⟨rfl, ht9⟩) (fun _ h => by cases h) dJ9_floorDiv_7cf53_20

set_option maxHeartbeats 4000000 in
set_option maxRecDepth 100000 in
theorem c_X5_within (l : Launch) (G : mx_G) (v lo hi : Int32) : mx_RO l yX5_within wsX5_within 0 0 G [.int v, .int lo, .int hi] (fun _ => True) (.int (wi v lo hi)) := by
  refine Met.ofW (cc := cX5_within) (maxL := 3) (ret := (some .boolean)) (by decide) rfl ?_
  intro p e s m args below meth c s₁ BB hml hv
  obtain ⟨rfl, -, hK⟩ := hv
  have hx := BB.exec
  have hb := BB.bytes
  have hr := BB.returns
  have hts := atoms_spec (ws := wsX5_within) BB.pre
  have hown : s.vm.findClass RX5 = some m.cls := findClass_of_methodNamed BB.named
  have hlocks := BB.notSynchronized
  have hl := lv_entry ([.int v, .int lo, .int hi]) (n := 3) (Nat.le_of_ble_eq_true rfl)
  rw [lg_entry_eq]
  generalize (lg_sl ([.int v, .int lo, .int hi]) ++ List.replicate (3 - (lg_sl ([.int v, .int lo, .int hi])).length) Slot.unset).toArray = ls at hl ⊢
  have hl : lv_has ls 3 [(0, .int v), (1, .int lo), (2, .int hi)] := hl
  show mx_WR l wsX5_within 0 0 p e s m (([.int v, .int lo, .int hi] : List Value).toArray) below meth c (.int (wi v lo hi)) (F0 m 0 ls [])
  refine lv_iload_n hx hb dX5_within_0 rfl (lv_at hl 0 rfl) ?_
  refine lv_iload_n hx hb dX5_within_1 rfl (lv_at hl 1 rfl) ?_
  refine lv_icmp_lt (tgt := 14) hx hb dX5_within_2 (by decide) (fun c_2 => ?_) (fun c_2 => ?_)
  · refine lv_iconst (v := nI 0) hx hb dX5_within_14 (by decide) ?_
    refine x_top (y := wi v lo hi) (by unfold wi; exact (if_pos c_2).symm) ?_
    exact W.zret (v := wi v lo hi) hx hb hr (wi_n) (fun t9 ht9 hW9 => ⟨rfl, ht9⟩) (fun _ h => by cases h) dX5_within_15
  · refine lv_iload_n hx hb dX5_within_5 rfl (lv_at hl 0 rfl) ?_
    refine lv_iload_n hx hb dX5_within_6 rfl (lv_at hl 2 rfl) ?_
    refine lv_icmp_gt (tgt := 14) hx hb dX5_within_7 (by decide) (fun c_7 => ?_) (fun c_7 => ?_)
    · refine lv_iconst (v := nI 0) hx hb dX5_within_14 (by decide) ?_
      refine x_top (y := wi v lo hi) (by unfold wi; exact ((if_neg c_2).trans (if_neg (Int32.not_le.mpr c_7))).symm) ?_
      exact W.zret (v := wi v lo hi) hx hb hr (wi_n) (fun t9 ht9 hW9 => ⟨rfl, ht9⟩) (fun _ h => by cases h) dX5_within_15
    · refine lv_iconst (v := nI 1) hx hb dX5_within_10 (by decide) ?_
      refine lv_goto (tgt := 15) hx hb dX5_within_11 (by decide) ?_
      refine x_top (y := wi v lo hi) (by unfold wi; exact ((if_neg c_2).trans (if_pos (Int32.not_lt.mp c_7))).symm) ?_
      exact W.zret (v := wi v lo hi) hx hb hr (wi_n) (fun t9 ht9 hW9 => ⟨rfl, ht9⟩) (fun _ h => by cases h) dX5_within_15

set_option maxHeartbeats 4000000 in
set_option maxRecDepth 100000 in
theorem c_X3_lasting (l : Launch) (G : mx_G) (ad : Nat → Nat) (F : Nat → Int32) (R : Nat → Nat → Int32) (σ : Sg) (k : Nat) (hN : soN F σ) (ok : sgOk σ) (hk : k ≤ 256) : mx_RO l yX3_lasting wsX3_lasting 1 22 G [.ref (ad 0), .int (nI k)] (fun H => va_P G.1 vwCl (SW G ad F R) H) (.int (gLast σ k)) := by
  refine Met.ofW (cc := cX3_lasting) (maxL := 2) (ret := (some .int)) (by decide) rfl ?_
  intro p e s m args below meth c s₁ BB hml hv
  obtain ⟨rfl, hP, hK⟩ := hv
  have hx := BB.exec
  have hb := BB.bytes
  have hr := BB.returns
  have hts := atoms_spec (ws := wsX3_lasting) BB.pre
  have hown : s.vm.findClass RX3 = some m.cls := findClass_of_methodNamed BB.named
  have hlocks := BB.notSynchronized
  have hP : va_P G.1 vwCl (SW G ad F R) s.heap := hP
  obtain ⟨f1, f2, f3, f4, f5, f6, f7, f8, f9, f10⟩ := id hN
  obtain ⟨hB2, hB64, hAE, hEB, hT1, hT4, hPB, hP1, hP16, hC, hst, hmo⟩ := id ok
  have fl55 := hts (.fieldLink RX3 55 "MixDesk$Song" "kind" "I") (by decide +kernel)
  have fl61 := hts (.fieldLink RX3 61 "MixDesk$Song" "step" "I") (by decide +kernel)
  have fl64 := hts (.fieldLink RX3 64 "MixDesk$Song" "more" "I") (by decide +kernel)
  have inX3 : ∀ w ∈ wsX30, w ∈ wsX3_lasting := by decide +kernel
  have hl := lv_entry ([.ref (ad 0), .int (nI k)]) (n := 2) (Nat.le_of_ble_eq_true rfl)
  rw [lg_entry_eq]
  generalize (lg_sl ([.ref (ad 0), .int (nI k)]) ++ List.replicate (2 - (lg_sl ([.ref (ad 0), .int (nI k)])).length) Slot.unset).toArray = ls at hl ⊢
  have hl : lv_has ls 2 [(0, .ref (ad 0)), (1, .int (nI k))] := hl
  show mx_WR l wsX3_lasting 1 22 p e s m (([.ref (ad 0), .int (nI k)] : List Value).toArray) below meth c (.int (gLast σ k)) (F0 m 0 ls [])
  refine lv_aload_n hx hb dX3_lasting_0 rfl (lv_at hl 0 rfl) ?_
  refine va_get (D := G.1) (ci := 3) (v := .int (F 1)) (C := RX3) (T := TX3) (N := 19) hx hb hts inX3 hown hK.1 hP 0 rfl rfl 1 (by decide) fl55 (fun _ h9 => h9) rfl dX3_lasting_1 ?_
  refine x_top (y := gKind σ) (f1) ?_
  rcases id hmo with hk0 | ⟨hk1, hm1, hm2⟩ | ⟨hk2, hm1, hm2⟩
  · refine x_top (y := nI 0) (hk0) ?_
    refine lv_lookup (x := nI 0) (off := 84) (tgt := 88) hx hb dX3_lasting_4 (by decide) (by decide) (by decide) ?_
    refine lv_aload_n hx hb dX3_lasting_88 rfl (lv_at hl 0 rfl) ?_
    refine va_get (D := G.1) (ci := 3) (v := .int (F 3)) (C := RX3) (T := TX3) (N := 19) hx hb hts inX3 hown hK.1 hP 0 rfl rfl 3 (by decide) fl61 (fun _ h9 => h9) rfl dX3_lasting_89 ?_
    refine x_top (y := gStep σ) (f3) ?_
    refine x_top (y := gLast σ k) (by unfold gLast; rw [if_pos hk0]) ?_
    exact W.iret (v := gLast σ k) hx hb hr (fun t9 ht9 hW9 => ⟨rfl, ht9⟩) (fun _ h => by cases h) dX3_lasting_92
  · refine x_top (y := nI 1) (hk1) ?_
    refine lv_lookup (x := nI 1) (off := 28) (tgt := 32) hx hb dX3_lasting_4 (by decide) (by decide) (by decide) ?_
    refine lv_iload_n hx hb dX3_lasting_32 rfl (lv_at hl 1 rfl) ?_
    refine lv_iconst (v := nI 2) hx hb dX3_lasting_33 (by decide) ?_
    refine x_irem (r := k % 2) hx hb dX3_lasting_34 (by omega) (by omega) (by omega) (rfl) ?_
    refine x_if_ne (tgt := 50) hx hb (by omega) dX3_lasting_35 (by decide) (fun c_35 => ?_) (fun c_35 => ?_)
    · refine lv_aload_n hx hb dX3_lasting_50 rfl (lv_at hl 0 rfl) ?_
      refine va_get (D := G.1) (ci := 3) (v := .int (F 3)) (C := RX3) (T := TX3) (N := 19) hx hb hts inX3 hown hK.1 hP 0 rfl rfl 3 (by decide) fl61 (fun _ h9 => h9) rfl dX3_lasting_51 ?_
      refine x_top (y := gStep σ) (f3) ?_
      refine lv_aload_n hx hb dX3_lasting_54 rfl (lv_at hl 0 rfl) ?_
      refine va_get (D := G.1) (ci := 3) (v := .int (F 4)) (C := RX3) (T := TX3) (N := 19) hx hb hts inX3 hown hK.1 hP 0 rfl rfl 4 (by decide) fl64 (fun _ h9 => h9) rfl dX3_lasting_55 ?_
      refine x_top (y := gMore σ) (f4) ?_
      refine lv_isub hx hb dX3_lasting_58 ?_
      refine x_top (y := gLast σ k) (by unfold gLast; rw [if_neg (by rw [hk1]; decide), if_pos hk1, if_neg c_35]) ?_
      exact W.iret (v := gLast σ k) hx hb hr (fun t9 ht9 hW9 => ⟨rfl, ht9⟩) (fun _ h => by cases h) dX3_lasting_59
    · refine lv_aload_n hx hb dX3_lasting_38 rfl (lv_at hl 0 rfl) ?_
      refine va_get (D := G.1) (ci := 3) (v := .int (F 3)) (C := RX3) (T := TX3) (N := 19) hx hb hts inX3 hown hK.1 hP 0 rfl rfl 3 (by decide) fl61 (fun _ h9 => h9) rfl dX3_lasting_39 ?_
      refine x_top (y := gStep σ) (f3) ?_
      refine lv_aload_n hx hb dX3_lasting_42 rfl (lv_at hl 0 rfl) ?_
      refine va_get (D := G.1) (ci := 3) (v := .int (F 4)) (C := RX3) (T := TX3) (N := 19) hx hb hts inX3 hown hK.1 hP 0 rfl rfl 4 (by decide) fl64 (fun _ h9 => h9) rfl dX3_lasting_43 ?_
      refine x_top (y := gMore σ) (f4) ?_
      refine lv_iadd hx hb dX3_lasting_46 ?_
      refine lv_goto (tgt := 59) hx hb dX3_lasting_47 (by decide) ?_
      refine x_top (y := gLast σ k) (by unfold gLast; rw [if_neg (by rw [hk1]; decide), if_pos hk1, if_pos c_35]) ?_
      exact W.iret (v := gLast σ k) hx hb hr (fun t9 ht9 hW9 => ⟨rfl, ht9⟩) (fun _ h => by cases h) dX3_lasting_59
  · refine x_top (y := nI 2) (hk2) ?_
    refine lv_lookup (x := nI 2) (off := 56) (tgt := 60) hx hb dX3_lasting_4 (by decide) (by decide) (by decide) ?_
    refine lv_bipush (v := nI 20) hx hb dX3_lasting_60 (by decide) ?_
    refine lv_sipush (v := nI 400) hx hb dX3_lasting_62 (by decide) ?_
    refine lv_aload_n hx hb dX3_lasting_65 rfl (lv_at hl 0 rfl) ?_
    refine va_get (D := G.1) (ci := 3) (v := .int (F 3)) (C := RX3) (T := TX3) (N := 19) hx hb hts inX3 hown hK.1 hP 0 rfl rfl 3 (by decide) fl61 (fun _ h9 => h9) rfl dX3_lasting_66 ?_
    refine x_top (y := gStep σ) (f3) ?_
    refine lv_iload_n hx hb dX3_lasting_69 rfl (lv_at hl 1 rfl) ?_
    refine lv_aload_n hx hb dX3_lasting_70 rfl (lv_at hl 0 rfl) ?_
    refine va_get (D := G.1) (ci := 3) (v := .int (F 4)) (C := RX3) (T := TX3) (N := 19) hx hb hts inX3 hown hK.1 hP 0 rfl rfl 4 (by decide) fl64 (fun _ h9 => h9) rfl dX3_lasting_71 ?_
    refine x_top (y := gMore σ) (f4) ?_
    refine lv_imul hx hb dX3_lasting_74 ?_
    refine lv_bipush (v := nI 16) hx hb dX3_lasting_75 (by decide) ?_
    refine mx_callRO (v := .int (jfd ((nI k) * (gMore σ)) (nI 16))) (va_runS (As := [.int ((nI k) * (gMore σ)), .int (nI 16)]) (rest := [.int (gStep σ), .int (nI 400), .int (nI 20)]) ⟨hx, hb, hml, hown, hts⟩ (c_J9_floorDiv l G ((nI k) * (gMore σ)) (nI 16) (by decide)) (va_cwS 2 hts gX3_lasting_J9_floorDiv_7cf53 rfl rfl rfl (by decide +kernel) ⟨Nat.le_of_ble_eq_true rfl, Nat.le_of_ble_eq_true rfl⟩) (mx_preS hK trivial) rfl rfl hl.1 rfl (lv_room (Nat.le_of_ble_eq_true rfl)) dX3_lasting_77 ⟨Nat.zero_le _, Nat.zero_le _⟩) ?_
    refine lv_iadd hx hb dX3_lasting_80 ?_
    refine va_mmin hx hb (hml.trans hl.1.symm) hown (hts (.methodLink RX3 99 Lib.Math.min.name) (by decide +kernel)) (hts (.static Lib.Math.min.name) (by decide +kernel)) (hts (.initialized "java/lang/Math") (by decide +kernel)) (hts (.code Lib.Math.min.name Lib.Math.min.code 2 (some .int)) (by decide +kernel)) (Nat.le_of_ble_eq_true rfl) (Nat.le_of_ble_eq_true rfl) (Nat.zero_le _) (Nat.zero_le _) dX3_lasting_81 ?_
    refine x_top (y := mmin (nI 400) ((gStep σ) + (jfd ((nI k) * (gMore σ)) (nI 16)))) rfl ?_
    refine va_mmax hx hb (hml.trans hl.1.symm) hown (hts (.methodLink RX3 102 Lib.Math.max.name) (by decide +kernel)) (hts (.static Lib.Math.max.name) (by decide +kernel)) (hts (.initialized "java/lang/Math") (by decide +kernel)) (hts (.code Lib.Math.max.name Lib.Math.max.code 2 (some .int)) (by decide +kernel)) (Nat.le_of_ble_eq_true rfl) (Nat.le_of_ble_eq_true rfl) (Nat.zero_le _) (Nat.zero_le _) dX3_lasting_84 ?_
    refine x_top (y := mmax (nI 20) (mmin (nI 400) ((gStep σ) + (jfd ((nI k) * (gMore σ)) (nI 16))))) rfl ?_
    refine x_top (y := gLast σ k) (by unfold gLast; rw [if_neg (by rw [hk2]; decide), if_neg (by rw [hk2]; decide), clamp_eq, jfd_last hm1 hm2 hk]) ?_
    exact W.iret (v := gLast σ k) hx hb hr (fun t9 ht9 hW9 => ⟨rfl, ht9⟩) (fun _ h => by cases h) dX3_lasting_87

set_option maxHeartbeats 4000000 in
set_option maxRecDepth 100000 in
theorem c_X3_barPlayed (l : Launch) (G : mx_G) (ad : Nat → Nat) (F : Nat → Int32) (R : Nat → Nat → Int32) (σ : Sg) (q : Nat) (hN : soN F σ) (ok : sgOk σ) (hq : q < gPB σ) : mx_RO l yX3_barPlayed wsX3_barPlayed 0 0 G [.ref (ad 0), .int (nI q)] (fun H => va_P G.1 vwCl (SW G ad F R) H) (.int (nI (gBar σ q))) := by
  refine Met.ofW (cc := cX3_barPlayed) (maxL := 3) (ret := (some .int)) (by decide) rfl ?_
  intro p e s m args below meth c s₁ BB hml hv
  obtain ⟨rfl, hP, hK⟩ := hv
  have hx := BB.exec
  have hb := BB.bytes
  have hr := BB.returns
  have hts := atoms_spec (ws := wsX3_barPlayed) BB.pre
  have hown : s.vm.findClass RX3 = some m.cls := findClass_of_methodNamed BB.named
  have hlocks := BB.notSynchronized
  have hP : va_P G.1 vwCl (SW G ad F R) s.heap := hP
  obtain ⟨f1, f2, f3, f4, f5, f6, f7, f8, f9, f10⟩ := id hN
  obtain ⟨hB2, hB64, hAE, hEB, hT1, hT4, hPB, hP1, hP16, hC, hst, hmo⟩ := id ok
  have hpb := gPB_le ok
  have hLT : gT σ * (gE σ - gA σ + 1) ≤ 4 * 64 := Nat.mul_le_mul (by omega) (by omega)
  have hz : gT σ * (gE σ - gA σ + 1) = (gT σ - 1) * (gE σ - gA σ + 1) + (gE σ - gA σ + 1) := by rw [← Nat.succ_mul]; congr 1; omega
  have hcb := cBar_eq ok q
  have fl21 := hts (.fieldLink RX3 21 "MixDesk$Song" "loopFrom" "I") (by decide +kernel)
  have fl24 := hts (.fieldLink RX3 24 "MixDesk$Song" "loopTo" "I") (by decide +kernel)
  have fl27 := hts (.fieldLink RX3 27 "MixDesk$Song" "loopTimes" "I") (by decide +kernel)
  have inX3 : ∀ w ∈ wsX30, w ∈ wsX3_barPlayed := by decide +kernel
  have hl := lv_entry ([.ref (ad 0), .int (nI q)]) (n := 3) (Nat.le_of_ble_eq_true rfl)
  rw [lg_entry_eq]
  generalize (lg_sl ([.ref (ad 0), .int (nI q)]) ++ List.replicate (3 - (lg_sl ([.ref (ad 0), .int (nI q)])).length) Slot.unset).toArray = ls at hl ⊢
  have hl : lv_has ls 3 [(0, .ref (ad 0)), (1, .int (nI q))] := hl
  show mx_WR l wsX3_barPlayed 0 0 p e s m (([.ref (ad 0), .int (nI q)] : List Value).toArray) below meth c (.int (nI (gBar σ q))) (F0 m 0 ls [])
  refine lv_aload_n hx hb dX3_barPlayed_0 rfl (lv_at hl 0 rfl) ?_
  refine va_get (D := G.1) (ci := 3) (v := .int (F 9)) (C := RX3) (T := TX3) (N := 19) hx hb hts inX3 hown hK.1 hP 0 rfl rfl 9 (by decide) fl24 (fun _ h9 => h9) rfl dX3_barPlayed_1 ?_
  refine x_top (y := nI (gE σ)) (f9) ?_
  refine lv_aload_n hx hb dX3_barPlayed_4 rfl (lv_at hl 0 rfl) ?_
  refine va_get (D := G.1) (ci := 3) (v := .int (F 8)) (C := RX3) (T := TX3) (N := 19) hx hb hts inX3 hown hK.1 hP 0 rfl rfl 8 (by decide) fl21 (fun _ h9 => h9) rfl dX3_barPlayed_5 ?_
  refine x_top (y := nI (gA σ)) (f8) ?_
  refine x_isub (r := gE σ - gA σ) hx hb dX3_barPlayed_8 (by omega) ?_
  refine lv_iconst (v := nI 1) hx hb dX3_barPlayed_9 (by decide) ?_
  refine x_iadd (r := gE σ - gA σ + 1) hx hb dX3_barPlayed_10 (rfl) ?_
  refine lv_istore_n (lv' := [(2, .int (nI (gE σ - gA σ + 1))), (0, .ref (ad 0)), (1, .int (nI q))]) hx hb dX3_barPlayed_11 rfl hl (by decide) rfl (fun ls hl => ?_)
  refine lv_iload_n hx hb dX3_barPlayed_12 rfl (lv_at hl 2 rfl) ?_
  refine lv_aload_n hx hb dX3_barPlayed_13 rfl (lv_at hl 1 rfl) ?_
  refine va_get (D := G.1) (ci := 3) (v := .int (F 8)) (C := RX3) (T := TX3) (N := 19) hx hb hts inX3 hown hK.1 hP 0 rfl rfl 8 (by decide) fl21 (fun _ h9 => h9) rfl dX3_barPlayed_14 ?_
  refine x_top (y := nI (gA σ)) (f8) ?_
  refine x_icmp_ge (tgt := 22) hx hb (by omega) (by omega) dX3_barPlayed_17 (by decide) (fun c_17 => ?_) (fun c_17 => ?_)
  · refine lv_iload_n hx hb dX3_barPlayed_22 rfl (lv_at hl 2 rfl) ?_
    refine lv_aload_n hx hb dX3_barPlayed_23 rfl (lv_at hl 1 rfl) ?_
    refine va_get (D := G.1) (ci := 3) (v := .int (F 8)) (C := RX3) (T := TX3) (N := 19) hx hb hts inX3 hown hK.1 hP 0 rfl rfl 8 (by decide) fl21 (fun _ h9 => h9) rfl dX3_barPlayed_24 ?_
    refine x_top (y := nI (gA σ)) (f8) ?_
    refine lv_aload_n hx hb dX3_barPlayed_27 rfl (lv_at hl 1 rfl) ?_
    refine va_get (D := G.1) (ci := 3) (v := .int (F 10)) (C := RX3) (T := TX3) (N := 19) hx hb hts inX3 hown hK.1 hP 0 rfl rfl 10 (by decide) fl27 (fun _ h9 => h9) rfl dX3_barPlayed_28 ?_
    refine x_top (y := nI (gT σ)) (f10) ?_
    refine lv_iload_n hx hb dX3_barPlayed_31 rfl (lv_at hl 0 rfl) ?_
    refine x_imul (r := gT σ * (gE σ - gA σ + 1)) hx hb dX3_barPlayed_32 (rfl) ?_
    refine x_iadd (r := gA σ + (gT σ * (gE σ - gA σ + 1))) hx hb dX3_barPlayed_33 (rfl) ?_
    refine x_icmp_ge (tgt := 51) hx hb (by omega) (by omega) dX3_barPlayed_34 (by decide) (fun c_34 => ?_) (fun c_34 => ?_)
    · refine lv_iload_n hx hb dX3_barPlayed_51 rfl (lv_at hl 2 rfl) ?_
      refine lv_aload_n hx hb dX3_barPlayed_52 rfl (lv_at hl 1 rfl) ?_
      refine va_get (D := G.1) (ci := 3) (v := .int (F 10)) (C := RX3) (T := TX3) (N := 19) hx hb hts inX3 hown hK.1 hP 0 rfl rfl 10 (by decide) fl27 (fun _ h9 => h9) rfl dX3_barPlayed_53 ?_
      refine x_top (y := nI (gT σ)) (f10) ?_
      refine lv_iconst (v := nI 1) hx hb dX3_barPlayed_56 (by decide) ?_
      refine x_isub (r := gT σ - 1) hx hb dX3_barPlayed_57 (by omega) ?_
      refine lv_iload_n hx hb dX3_barPlayed_58 rfl (lv_at hl 0 rfl) ?_
      refine x_imul (r := (gT σ - 1) * (gE σ - gA σ + 1)) hx hb dX3_barPlayed_59 (rfl) ?_
      refine x_isub (r := q - (gT σ - 1) * (gE σ - gA σ + 1)) hx hb dX3_barPlayed_60 (by omega) ?_
      refine x_top (y := nI (gBar σ q)) (congrArg nI (by rw [← hcb]; unfold cBar; rw [if_neg (by omega), if_neg (by omega)])) ?_
      exact W.iret (v := nI (gBar σ q)) hx hb hr (fun t9 ht9 hW9 => ⟨rfl, ht9⟩) (fun _ h => by cases h) dX3_barPlayed_61
    · refine lv_aload_n hx hb dX3_barPlayed_37 rfl (lv_at hl 1 rfl) ?_
      refine va_get (D := G.1) (ci := 3) (v := .int (F 8)) (C := RX3) (T := TX3) (N := 19) hx hb hts inX3 hown hK.1 hP 0 rfl rfl 8 (by decide) fl21 (fun _ h9 => h9) rfl dX3_barPlayed_38 ?_
      refine x_top (y := nI (gA σ)) (f8) ?_
      refine lv_iload_n hx hb dX3_barPlayed_41 rfl (lv_at hl 2 rfl) ?_
      refine lv_aload_n hx hb dX3_barPlayed_42 rfl (lv_at hl 1 rfl) ?_
      refine va_get (D := G.1) (ci := 3) (v := .int (F 8)) (C := RX3) (T := TX3) (N := 19) hx hb hts inX3 hown hK.1 hP 0 rfl rfl 8 (by decide) fl21 (fun _ h9 => h9) rfl dX3_barPlayed_43 ?_
      refine x_top (y := nI (gA σ)) (f8) ?_
      refine x_isub (r := q - gA σ) hx hb dX3_barPlayed_46 (by omega) ?_
      refine lv_iload_n hx hb dX3_barPlayed_47 rfl (lv_at hl 0 rfl) ?_
      refine x_irem (r := (q - gA σ) % (gE σ - gA σ + 1)) hx hb dX3_barPlayed_48 (by omega) (by omega) (by omega) (rfl) ?_
      refine x_iadd (r := gA σ + ((q - gA σ) % (gE σ - gA σ + 1))) hx hb dX3_barPlayed_49 (rfl) ?_
      refine x_top (y := nI (gBar σ q)) (congrArg nI (by rw [← hcb]; unfold cBar; rw [if_neg (by omega), if_pos (by omega)])) ?_
      exact W.iret (v := nI (gBar σ q)) hx hb hr (fun t9 ht9 hW9 => ⟨rfl, ht9⟩) (fun _ h => by cases h) dX3_barPlayed_50
  · refine lv_iload_n hx hb dX3_barPlayed_20 rfl (lv_at hl 2 rfl) ?_
    refine x_top (y := nI (gBar σ q)) (congrArg nI (by rw [← hcb]; unfold cBar; rw [if_pos (by omega)])) ?_
    exact W.iret (v := nI (gBar σ q)) hx hb hr (fun t9 ht9 hW9 => ⟨rfl, ht9⟩) (fun _ h => by cases h) dX3_barPlayed_21

set_option maxHeartbeats 4000000 in
set_option maxRecDepth 100000 in
theorem c_X3_beats (l : Launch) (G : mx_G) (ad : Nat → Nat) (F : Nat → Int32) (R : Nat → Nat → Int32) (σ : Sg) (hN : soN F σ) (ok : sgOk σ) (hT : soB R σ) : mx_RO l yX3_beats wsX3_beats 0 0 G [.ref (ad 0)] (fun H => va_P G.1 vwCl (SW G ad F R) H) (.int (nI (gFst σ (gB σ)))) := by
  refine Met.ofW (cc := cX3_beats) (maxL := 1) (ret := (some .int)) (by decide) rfl ?_
  intro p e s m args below meth c s₁ BB hml hv
  obtain ⟨rfl, hP, hK⟩ := hv
  have hx := BB.exec
  have hb := BB.bytes
  have hr := BB.returns
  have hts := atoms_spec (ws := wsX3_beats) BB.pre
  have hown : s.vm.findClass RX3 = some m.cls := findClass_of_methodNamed BB.named
  have hlocks := BB.notSynchronized
  have hP : va_P G.1 vwCl (SW G ad F R) s.heap := hP
  obtain ⟨f1, f2, f3, f4, f5, f6, f7, f8, f9, f10⟩ := id hN
  obtain ⟨hB2, hB64, hAE, hEB, hT1, hT4, hPB, hP1, hP16, hC, hst, hmo⟩ := id ok
  have fl34 := hts (.fieldLink RX3 34 "MixDesk$Song" "firstOf" "[I") (by decide +kernel)
  have fl58 := hts (.fieldLink RX3 58 "MixDesk$Song" "bars" "I") (by decide +kernel)
  have inX3 : ∀ w ∈ wsX30, w ∈ wsX3_beats := by decide +kernel
  have hl := lv_entry ([.ref (ad 0)]) (n := 1) (Nat.le_of_ble_eq_true rfl)
  rw [lg_entry_eq]
  generalize (lg_sl ([.ref (ad 0)]) ++ List.replicate (1 - (lg_sl ([.ref (ad 0)])).length) Slot.unset).toArray = ls at hl ⊢
  have hl : lv_has ls 1 [(0, .ref (ad 0))] := hl
  show mx_WR l wsX3_beats 0 0 p e s m (([.ref (ad 0)] : List Value).toArray) below meth c (.int (nI (gFst σ (gB σ)))) (F0 m 0 ls [])
  refine lv_aload_n hx hb dX3_beats_0 rfl (lv_at hl 0 rfl) ?_
  refine va_get (D := G.1) (ci := 3) (v := .ref (ad 14)) (C := RX3) (T := TX3) (N := 19) hx hb hts inX3 hown hK.1 hP 0 rfl rfl 13 (by decide) fl34 (fun _ h9 => h9) rfl dX3_beats_1 ?_
  refine lv_aload_n hx hb dX3_beats_4 rfl (lv_at hl 0 rfl) ?_
  refine va_get (D := G.1) (ci := 3) (v := .int (F 2)) (C := RX3) (T := TX3) (N := 19) hx hb hts inX3 hown hK.1 hP 0 rfl rfl 2 (by decide) fl58 (fun _ h9 => h9) rfl dX3_beats_5 ?_
  refine x_top (y := nI (gB σ)) (f2) ?_
  refine x_iald hx hb hK.1 hP 2 0 (n := 65) (f := R 13) rfl rfl (k := gB σ) (by omega) (by omega) dX3_beats_8 ?_
  refine x_top (y := nI (gFst σ (gB σ))) (hT.1 _ (by omega)) ?_
  exact W.iret (v := nI (gFst σ (gB σ))) hx hb hr (fun t9 ht9 hW9 => ⟨rfl, ht9⟩) (fun _ h => by cases h) dX3_beats_9

set_option maxHeartbeats 4000000 in
set_option maxRecDepth 100000 in
theorem c_X3_brokenBars (l : Launch) (G : mx_G) (ad : Nat → Nat) (F : Nat → Int32) (R : Nat → Nat → Int32) (σ : Sg) (hN : soN F σ) (ok : sgOk σ) (hCC : soC R σ) : mx_RO l yX3_brokenBars wsX3_brokenBars 0 0 G [.ref (ad 0)] (fun H => va_P G.1 vwCl (SW G ad F R) H) (.int (nI (nsum (fun b => if gC σ b < 4 then 1 else 0) (gB σ)))) := by
  refine Met.ofW (cc := cX3_brokenBars) (maxL := 3) (ret := (some .int)) (by decide) rfl ?_
  intro p e s m args below meth c s₁ BB hml hv
  obtain ⟨rfl, hP, hK⟩ := hv
  have hx := BB.exec
  have hb := BB.bytes
  have hr := BB.returns
  have hts := atoms_spec (ws := wsX3_brokenBars) BB.pre
  have hown : s.vm.findClass RX3 = some m.cls := findClass_of_methodNamed BB.named
  have hlocks := BB.notSynchronized
  have hP : va_P G.1 vwCl (SW G ad F R) s.heap := hP
  obtain ⟨f1, f2, f3, f4, f5, f6, f7, f8, f9, f10⟩ := id hN
  obtain ⟨hB2, hB64, hAE, hEB, hT1, hT4, hPB, hP1, hP16, hC, hst, hmo⟩ := id ok
  have fl30 := hts (.fieldLink RX3 30 "MixDesk$Song" "beatsOf" "[I") (by decide +kernel)
  have fl58 := hts (.fieldLink RX3 58 "MixDesk$Song" "bars" "I") (by decide +kernel)
  have inX3 : ∀ w ∈ wsX30, w ∈ wsX3_brokenBars := by decide +kernel
  have hl := lv_entry ([.ref (ad 0)]) (n := 3) (Nat.le_of_ble_eq_true rfl)
  rw [lg_entry_eq]
  generalize (lg_sl ([.ref (ad 0)]) ++ List.replicate (3 - (lg_sl ([.ref (ad 0)])).length) Slot.unset).toArray = ls at hl ⊢
  have hl : lv_has ls 3 [(0, .ref (ad 0))] := hl
  show mx_WR l wsX3_brokenBars 0 0 p e s m (([.ref (ad 0)] : List Value).toArray) below meth c (.int (nI (nsum (fun b => if gC σ b < 4 then 1 else 0) (gB σ)))) (F0 m 0 ls [])
  refine lv_iconst (v := nI 0) hx hb dX3_brokenBars_0 (by decide) ?_
  refine lv_istore_n (lv' := [(1, .int (nI 0)), (0, .ref (ad 0))]) hx hb dX3_brokenBars_1 rfl hl (by decide) rfl (fun ls hl => ?_)
  refine lv_iconst (v := nI 0) hx hb dX3_brokenBars_2 (by decide) ?_
  refine lv_istore_n (lv' := [(2, .int (nI 0)), (1, .int (nI 0)), (0, .ref (ad 0))]) hx hb dX3_brokenBars_3 rfl hl (by decide) rfl (fun ls hl => ?_)
  have lp4 : ∀ (nn : Nat) (i : Nat), gB σ - i < nn → (i ≤ gB σ) → ∀ ls : Array Slot, lv_has ls 3 [(0, .ref (ad 0)), (1, .int (nI (nsum (fun b => if gC σ b < 4 then 1 else 0) i))), (2, .int (nI i))] → mx_WR l wsX3_brokenBars 0 0 p e s m (([.ref (ad 0)] : List Value).toArray) below meth c (.int (nI (nsum (fun b => if gC σ b < 4 then 1 else 0) (gB σ)))) (F0 m 4 ls []) := by
    intro nn
    induction nn with
    | zero => intro i hmu; exact absurd hmu (Nat.not_lt_zero _)
    | succ nn ih4 =>
      intro i hmu hi ls hl
      refine lv_iload_n hx hb dX3_brokenBars_4 rfl (lv_at hl 2 rfl) ?_
      refine lv_aload_n hx hb dX3_brokenBars_5 rfl (lv_at hl 0 rfl) ?_
      refine va_get (D := G.1) (ci := 3) (v := .int (F 2)) (C := RX3) (T := TX3) (N := 19) hx hb hts inX3 hown hK.1 hP 0 rfl rfl 2 (by decide) fl58 (fun _ h9 => h9) rfl dX3_brokenBars_6 ?_
      refine x_top (y := nI (gB σ)) (f2) ?_
      refine x_icmp_ge (tgt := 36) hx hb (by omega) (by omega) dX3_brokenBars_9 (by decide) (fun c_9 => ?_) (fun c_9 => ?_)
      · refine lv_iload_n hx hb dX3_brokenBars_36 rfl (lv_at hl 1 rfl) ?_
        refine x_top (y := nI (nsum (fun b => if gC σ b < 4 then 1 else 0) (gB σ))) (by rw [show i = gB σ by omega]) ?_
        exact W.iret (v := nI (nsum (fun b => if gC σ b < 4 then 1 else 0) (gB σ))) hx hb hr (fun t9 ht9 hW9 => ⟨rfl, ht9⟩) (fun _ h => by cases h) dX3_brokenBars_37
      · refine lv_iload_n hx hb dX3_brokenBars_12 rfl (lv_at hl 1 rfl) ?_
        refine lv_aload_n hx hb dX3_brokenBars_13 rfl (lv_at hl 0 rfl) ?_
        refine va_get (D := G.1) (ci := 3) (v := .ref (ad 13)) (C := RX3) (T := TX3) (N := 19) hx hb hts inX3 hown hK.1 hP 0 rfl rfl 12 (by decide) fl30 (fun _ h9 => h9) rfl dX3_brokenBars_14 ?_
        refine lv_iload_n hx hb dX3_brokenBars_17 rfl (lv_at hl 2 rfl) ?_
        refine x_iald hx hb hK.1 hP 1 0 (n := 64) (f := R 12) rfl rfl (k := i) (by omega) (by omega) dX3_brokenBars_18 ?_
        refine x_top (y := nI (gC σ i)) (hCC i (by omega)) ?_
        refine lv_iconst (v := nI 4) hx hb dX3_brokenBars_19 (by decide) ?_
        have hCi := hC i
        refine x_icmp_ge (tgt := 27) hx hb (by omega) (by omega) dX3_brokenBars_20 (by decide) (fun c_20 => ?_) (fun c_20 => ?_)
        · refine lv_iconst (v := nI 0) hx hb dX3_brokenBars_27 (by decide) ?_
          refine x_iadd (r := nsum (fun b => if gC σ b < 4 then 1 else 0) (i + 1)) hx hb dX3_brokenBars_28 (by show nsum (fun b => if gC σ b < 4 then 1 else 0) i + _ = nsum (fun b => if gC σ b < 4 then 1 else 0) i + (if gC σ i < 4 then 1 else 0); rw [if_neg (by omega)]) ?_
          refine lv_istore_n (lv' := [(1, .int (nI (nsum (fun b => if gC σ b < 4 then 1 else 0) (i + 1)))), (0, .ref (ad 0)), (2, .int (nI i))]) hx hb dX3_brokenBars_29 rfl hl (by decide) rfl (fun ls hl => ?_)
          refine x_iinc (lv' := [(2, .int (nI (i + 1))), (1, .int (nI (nsum (fun b => if gC σ b < 4 then 1 else 0) (i + 1)))), (0, .ref (ad 0))]) hx hb dX3_brokenBars_30 hl (k := 2) rfl (x_inc1 _) (by decide) rfl (fun ls hl => ?_)
          refine lv_goto (tgt := 4) hx hb dX3_brokenBars_33 (by decide) ?_
          exact ih4 (i + 1) (by omega) (by omega) _ (lv_sub hl [2, 1, 0] rfl)
        · refine lv_iconst (v := nI 1) hx hb dX3_brokenBars_23 (by decide) ?_
          refine lv_goto (tgt := 28) hx hb dX3_brokenBars_24 (by decide) ?_
          refine x_iadd (r := nsum (fun b => if gC σ b < 4 then 1 else 0) (i + 1)) hx hb dX3_brokenBars_28 (by show nsum (fun b => if gC σ b < 4 then 1 else 0) i + _ = nsum (fun b => if gC σ b < 4 then 1 else 0) i + (if gC σ i < 4 then 1 else 0); rw [if_pos (by omega)]) ?_
          refine lv_istore_n (lv' := [(1, .int (nI (nsum (fun b => if gC σ b < 4 then 1 else 0) (i + 1)))), (0, .ref (ad 0)), (2, .int (nI i))]) hx hb dX3_brokenBars_29 rfl hl (by decide) rfl (fun ls hl => ?_)
          refine x_iinc (lv' := [(2, .int (nI (i + 1))), (1, .int (nI (nsum (fun b => if gC σ b < 4 then 1 else 0) (i + 1)))), (0, .ref (ad 0))]) hx hb dX3_brokenBars_30 hl (k := 2) rfl (x_inc1 _) (by decide) rfl (fun ls hl => ?_)
          refine lv_goto (tgt := 4) hx hb dX3_brokenBars_33 (by decide) ?_
          exact ih4 (i + 1) (by omega) (by omega) _ (lv_sub hl [2, 1, 0] rfl)
  exact lp4 (gB σ - 0 + 1) 0 (Nat.lt_succ_self _) (by omega) _ (lv_sub hl [2, 1, 0] rfl)

set_option maxHeartbeats 4000000 in
set_option maxRecDepth 100000 in
theorem c_X3_beginsPhrase (l : Launch) (G : mx_G) (ad : Nat → Nat) (F : Nat → Int32) (R : Nat → Nat → Int32) (σ : Sg) (q : Nat) (hN : soN F σ) (ok : sgOk σ) (hQ : soQ F R σ) (hq : q < gPB σ) : mx_RO l yX3_beginsPhrase wsX3_beginsPhrase 0 0 G [.ref (ad 0), .int (nI q)] (fun H => va_P G.1 vwCl (SW G ad F R) H) (.int (gPhr σ q)) := by
  refine Met.ofW (cc := cX3_beginsPhrase) (maxL := 2) (ret := (some .boolean)) (by decide) rfl ?_
  intro p e s m args below meth c s₁ BB hml hv
  obtain ⟨rfl, hP, hK⟩ := hv
  have hx := BB.exec
  have hb := BB.bytes
  have hr := BB.returns
  have hts := atoms_spec (ws := wsX3_beginsPhrase) BB.pre
  have hown : s.vm.findClass RX3 = some m.cls := findClass_of_methodNamed BB.named
  have hlocks := BB.notSynchronized
  have hP : va_P G.1 vwCl (SW G ad F R) s.heap := hP
  obtain ⟨f1, f2, f3, f4, f5, f6, f7, f8, f9, f10⟩ := id hN
  obtain ⟨hB2, hB64, hAE, hEB, hT1, hT4, hPB, hP1, hP16, hC, hst, hmo⟩ := id ok
  have hpb := gPB_le ok
  have hbl := gBar_lt ok hq
  have hmd := Nat.mod_lt (gBar σ q) (show 0 < gPh σ by omega)
  have fl18 := hts (.fieldLink RX3 18 "MixDesk$Song" "phrase" "I") (by decide +kernel)
  have fl40 := hts (.fieldLink RX3 40 "MixDesk$Song" "barAt" "[I") (by decide +kernel)
  have inX3 : ∀ w ∈ wsX30, w ∈ wsX3_beginsPhrase := by decide +kernel
  have hl := lv_entry ([.ref (ad 0), .int (nI q)]) (n := 2) (Nat.le_of_ble_eq_true rfl)
  rw [lg_entry_eq]
  generalize (lg_sl ([.ref (ad 0), .int (nI q)]) ++ List.replicate (2 - (lg_sl ([.ref (ad 0), .int (nI q)])).length) Slot.unset).toArray = ls at hl ⊢
  have hl : lv_has ls 2 [(0, .ref (ad 0)), (1, .int (nI q))] := hl
  show mx_WR l wsX3_beginsPhrase 0 0 p e s m (([.ref (ad 0), .int (nI q)] : List Value).toArray) below meth c (.int (gPhr σ q)) (F0 m 0 ls [])
  refine lv_aload_n hx hb dX3_beginsPhrase_0 rfl (lv_at hl 0 rfl) ?_
  refine va_get (D := G.1) (ci := 3) (v := .ref (ad 16)) (C := RX3) (T := TX3) (N := 19) hx hb hts inX3 hown hK.1 hP 0 rfl rfl 15 (by decide) fl40 (fun _ h9 => h9) rfl dX3_beginsPhrase_1 ?_
  refine lv_iload_n hx hb dX3_beginsPhrase_4 rfl (lv_at hl 1 rfl) ?_
  refine x_iald hx hb hK.1 hP 4 0 (n := 64) (f := R 15) rfl rfl (k := q) (by omega) (by omega) dX3_beginsPhrase_5 ?_
  refine x_top (y := nI (gBar σ q)) (hQ.2.1 _ (by omega)) ?_
  refine lv_aload_n hx hb dX3_beginsPhrase_6 rfl (lv_at hl 0 rfl) ?_
  refine va_get (D := G.1) (ci := 3) (v := .int (F 7)) (C := RX3) (T := TX3) (N := 19) hx hb hts inX3 hown hK.1 hP 0 rfl rfl 7 (by decide) fl18 (fun _ h9 => h9) rfl dX3_beginsPhrase_7 ?_
  refine x_top (y := nI (gPh σ)) (f7) ?_
  refine x_irem (r := gBar σ q % gPh σ) hx hb dX3_beginsPhrase_10 (by omega) (by omega) (by omega) (rfl) ?_
  refine x_if_ne (tgt := 18) hx hb (by omega) dX3_beginsPhrase_11 (by decide) (fun c_11 => ?_) (fun c_11 => ?_)
  · refine lv_iconst (v := nI 0) hx hb dX3_beginsPhrase_18 (by decide) ?_
    refine x_top (y := gPhr σ q) (by unfold gPhr; rw [if_neg c_11]) ?_
    exact W.zret (v := gPhr σ q) hx hb hr (gPhr_n) (fun t9 ht9 hW9 => ⟨rfl, ht9⟩) (fun _ h => by cases h) dX3_beginsPhrase_19
  · refine lv_iconst (v := nI 1) hx hb dX3_beginsPhrase_14 (by decide) ?_
    refine lv_goto (tgt := 19) hx hb dX3_beginsPhrase_15 (by decide) ?_
    refine x_top (y := gPhr σ q) (by unfold gPhr; rw [if_pos c_11]) ?_
    exact W.zret (v := gPhr σ q) hx hb hr (gPhr_n) (fun t9 ht9 hW9 => ⟨rfl, ht9⟩) (fun _ h => by cases h) dX3_beginsPhrase_19

set_option maxHeartbeats 4000000 in
set_option maxRecDepth 100000 in
theorem c_X3_soundsAlike (l : Launch) (G : mx_G) (ad : Nat → Nat) (F : Nat → Int32) (R : Nat → Nat → Int32) (σ : Sg) (u w n : Nat) (hu : u + n ≤ 64) (hw : w + n ≤ 64) : mx_RO l yX3_soundsAlike wsX3_soundsAlike 0 0 G [.ref (ad 0), .int (nI u), .int (nI w), .int (nI n)] (fun H => va_P G.1 vwCl (SW G ad F R) H) (.int (alikeV (R 18) u w n)) := by
  refine Met.ofW (cc := cX3_soundsAlike) (maxL := 5) (ret := (some .boolean)) (by decide) rfl ?_
  intro p e s m args below meth c s₁ BB hml hv
  obtain ⟨rfl, hP, hK⟩ := hv
  have hx := BB.exec
  have hb := BB.bytes
  have hr := BB.returns
  have hts := atoms_spec (ws := wsX3_soundsAlike) BB.pre
  have hown : s.vm.findClass RX3 = some m.cls := findClass_of_methodNamed BB.named
  have hlocks := BB.notSynchronized
  have hP : va_P G.1 vwCl (SW G ad F R) s.heap := hP
  have fl49 := hts (.fieldLink RX3 49 "MixDesk$Song" "lastsAt" "[I") (by decide +kernel)
  have inX3 : ∀ w ∈ wsX30, w ∈ wsX3_soundsAlike := by decide +kernel
  have hl := lv_entry ([.ref (ad 0), .int (nI u), .int (nI w), .int (nI n)]) (n := 5) (Nat.le_of_ble_eq_true rfl)
  rw [lg_entry_eq]
  generalize (lg_sl ([.ref (ad 0), .int (nI u), .int (nI w), .int (nI n)]) ++ List.replicate (5 - (lg_sl ([.ref (ad 0), .int (nI u), .int (nI w), .int (nI n)])).length) Slot.unset).toArray = ls at hl ⊢
  have hl : lv_has ls 5 [(0, .ref (ad 0)), (1, .int (nI u)), (2, .int (nI w)), (3, .int (nI n))] := hl
  show mx_WR l wsX3_soundsAlike 0 0 p e s m (([.ref (ad 0), .int (nI u), .int (nI w), .int (nI n)] : List Value).toArray) below meth c (.int (alikeV (R 18) u w n)) (F0 m 0 ls [])
  refine lv_iconst (v := nI 0) hx hb dX3_soundsAlike_0 (by decide) ?_
  refine lv_istore (lv' := [(4, .int (nI 0)), (0, .ref (ad 0)), (1, .int (nI u)), (2, .int (nI w)), (3, .int (nI n))]) hx hb dX3_soundsAlike_1 hl (by decide) rfl (fun ls hl => ?_)
  have lp3 : ∀ (nn : Nat) (i : Nat), 4 * n - i < nn → (i ≤ 4 * n) → (∀ k, k < i → R 18 (4 * u + k) = R 18 (4 * w + k)) → ∀ ls : Array Slot, lv_has ls 5 [(0, .ref (ad 0)), (1, .int (nI u)), (2, .int (nI w)), (3, .int (nI n)), (4, .int (nI i))] → mx_WR l wsX3_soundsAlike 0 0 p e s m (([.ref (ad 0), .int (nI u), .int (nI w), .int (nI n)] : List Value).toArray) below meth c (.int (alikeV (R 18) u w n)) (F0 m 3 ls []) := by
    intro nn
    induction nn with
    | zero => intro i hmu; exact absurd hmu (Nat.not_lt_zero _)
    | succ nn ih3 =>
      intro i hmu hi hal ls hl
      refine lv_iload hx hb dX3_soundsAlike_3 (lv_at hl 4 rfl) ?_
      refine lv_iconst (v := nI 4) hx hb dX3_soundsAlike_5 (by decide) ?_
      refine lv_iload_n hx hb dX3_soundsAlike_6 rfl (lv_at hl 3 rfl) ?_
      refine x_imul (r := 4 * n) hx hb dX3_soundsAlike_7 (rfl) ?_
      refine x_icmp_ge (tgt := 44) hx hb (by omega) (by omega) dX3_soundsAlike_8 (by decide) (fun c_8 => ?_) (fun c_8 => ?_)
      · refine lv_iconst (v := nI 1) hx hb dX3_soundsAlike_44 (by decide) ?_
        refine x_top (y := alikeV (R 18) u w n) (by unfold alikeV; rw [if_pos (fun k hk => hal k (by omega))]) ?_
        exact W.zret (v := alikeV (R 18) u w n) hx hb hr (alikeV_n) (fun t9 ht9 hW9 => ⟨rfl, ht9⟩) (fun _ h => by cases h) dX3_soundsAlike_45
      · refine lv_aload_n hx hb dX3_soundsAlike_11 rfl (lv_at hl 0 rfl) ?_
        refine va_get (D := G.1) (ci := 3) (v := .ref (ad 19)) (C := RX3) (T := TX3) (N := 19) hx hb hts inX3 hown hK.1 hP 0 rfl rfl 18 (by decide) fl49 (fun _ h9 => h9) rfl dX3_soundsAlike_12 ?_
        refine lv_iconst (v := nI 4) hx hb dX3_soundsAlike_15 (by decide) ?_
        refine lv_iload_n hx hb dX3_soundsAlike_16 rfl (lv_at hl 1 rfl) ?_
        refine x_imul (r := 4 * u) hx hb dX3_soundsAlike_17 (rfl) ?_
        refine lv_iload hx hb dX3_soundsAlike_18 (lv_at hl 4 rfl) ?_
        refine x_iadd (r := 4 * u + i) hx hb dX3_soundsAlike_20 (rfl) ?_
        refine x_iald hx hb hK.1 hP 7 0 (n := 256) (f := R 18) rfl rfl (k := 4 * u + i) (by omega) (by omega) dX3_soundsAlike_21 ?_
        refine lv_aload_n hx hb dX3_soundsAlike_22 rfl (lv_at hl 0 rfl) ?_
        refine va_get (D := G.1) (ci := 3) (v := .ref (ad 19)) (C := RX3) (T := TX3) (N := 19) hx hb hts inX3 hown hK.1 hP 0 rfl rfl 18 (by decide) fl49 (fun _ h9 => h9) rfl dX3_soundsAlike_23 ?_
        refine lv_iconst (v := nI 4) hx hb dX3_soundsAlike_26 (by decide) ?_
        refine lv_iload_n hx hb dX3_soundsAlike_27 rfl (lv_at hl 2 rfl) ?_
        refine x_imul (r := 4 * w) hx hb dX3_soundsAlike_28 (rfl) ?_
        refine lv_iload hx hb dX3_soundsAlike_29 (lv_at hl 4 rfl) ?_
        refine x_iadd (r := 4 * w + i) hx hb dX3_soundsAlike_31 (rfl) ?_
        refine x_iald hx hb hK.1 hP 7 0 (n := 256) (f := R 18) rfl rfl (k := 4 * w + i) (by omega) (by omega) dX3_soundsAlike_32 ?_
        refine lv_icmp_eq (tgt := 38) hx hb dX3_soundsAlike_33 (by decide) (fun c_33 => ?_) (fun c_33 => ?_)
        · refine x_iinc (lv' := [(4, .int (nI (i + 1))), (0, .ref (ad 0)), (1, .int (nI u)), (2, .int (nI w)), (3, .int (nI n))]) hx hb dX3_soundsAlike_38 hl (k := 4) rfl (x_inc1 _) (by decide) rfl (fun ls hl => ?_)
          refine lv_goto (tgt := 3) hx hb dX3_soundsAlike_41 (by decide) ?_
          exact ih3 (i + 1) (by omega) (by omega) (lt_s hal c_33) _ (lv_sub hl [1, 2, 3, 4, 0] rfl)
        · refine lv_iconst (v := nI 0) hx hb dX3_soundsAlike_36 (by decide) ?_
          refine x_top (y := alikeV (R 18) u w n) (by unfold alikeV; rw [if_neg (fun h => c_33 (h i (by omega)))]) ?_
          exact W.zret (v := alikeV (R 18) u w n) hx hb hr (alikeV_n) (fun t9 ht9 hW9 => ⟨rfl, ht9⟩) (fun _ h => by cases h) dX3_soundsAlike_37
  exact lp3 (4 * n - 0 + 1) 0 (Nat.lt_succ_self _) (by omega) (lt_0) _ (lv_sub hl [1, 2, 3, 4, 0] rfl)

set_option maxHeartbeats 4000000 in
set_option maxRecDepth 100000 in
theorem c_X3_canLoop (l : Launch) (G : mx_G) (ad : Nat → Nat) (F : Nat → Int32) (R : Nat → Nat → Int32) (σ : Sg) (a b n : Int32) (hN : soN F σ) : mx_RO l yX3_canLoop wsX3_canLoop 1 22 G [.ref (ad 0), .int a, .int b, .int n] (fun H => va_P G.1 vwCl (SW G ad F R) H) (.int (b2i (okLoop a b n σ))) := by
  refine Met.ofW (cc := cX3_canLoop) (maxL := 4) (ret := (some .boolean)) (by decide) rfl ?_
  intro p e s m args below meth c s₁ BB hml hv
  obtain ⟨rfl, hP, hK⟩ := hv
  have hx := BB.exec
  have hb := BB.bytes
  have hr := BB.returns
  have hts := atoms_spec (ws := wsX3_canLoop) BB.pre
  have hown : s.vm.findClass RX3 = some m.cls := findClass_of_methodNamed BB.named
  have hlocks := BB.notSynchronized
  have hP : va_P G.1 vwCl (SW G ad F R) s.heap := hP
  obtain ⟨f1, f2, f3, f4, f5, f6, f7, f8, f9, f10⟩ := id hN
  have fl58 := hts (.fieldLink RX3 58 "MixDesk$Song" "bars" "I") (by decide +kernel)
  have inX3 : ∀ w ∈ wsX30, w ∈ wsX3_canLoop := by decide +kernel
  have hl := lv_entry ([.ref (ad 0), .int a, .int b, .int n]) (n := 4) (Nat.le_of_ble_eq_true rfl)
  rw [lg_entry_eq]
  generalize (lg_sl ([.ref (ad 0), .int a, .int b, .int n]) ++ List.replicate (4 - (lg_sl ([.ref (ad 0), .int a, .int b, .int n])).length) Slot.unset).toArray = ls at hl ⊢
  have hl : lv_has ls 4 [(0, .ref (ad 0)), (1, .int a), (2, .int b), (3, .int n)] := hl
  show mx_WR l wsX3_canLoop 1 22 p e s m (([.ref (ad 0), .int a, .int b, .int n] : List Value).toArray) below meth c (.int (b2i (okLoop a b n σ))) (F0 m 0 ls [])
  refine lv_iload_n hx hb dX3_canLoop_0 rfl (lv_at hl 1 rfl) ?_
  refine lv_if_lt (tgt := 49) hx hb dX3_canLoop_1 (by decide) (fun c_1 => ?_) (fun c_1 => ?_)
  · refine lv_iconst (v := nI 0) hx hb dX3_canLoop_49 (by decide) ?_
    refine x_top (y := b2i (okLoop a b n σ)) (b2i_f (fun q => q.1.1 c_1)) ?_
    exact W.zret (v := b2i (okLoop a b n σ)) hx hb hr (b2i_n _) (fun t9 ht9 hW9 => ⟨rfl, ht9⟩) (fun _ h => by cases h) dX3_canLoop_50
  · refine lv_iload_n hx hb dX3_canLoop_4 rfl (lv_at hl 1 rfl) ?_
    refine lv_iload_n hx hb dX3_canLoop_5 rfl (lv_at hl 2 rfl) ?_
    refine lv_icmp_gt (tgt := 49) hx hb dX3_canLoop_6 (by decide) (fun c_6 => ?_) (fun c_6 => ?_)
    · refine lv_iconst (v := nI 0) hx hb dX3_canLoop_49 (by decide) ?_
      refine x_top (y := b2i (okLoop a b n σ)) (b2i_f (fun q => q.1.2.1 c_6)) ?_
      exact W.zret (v := b2i (okLoop a b n σ)) hx hb hr (b2i_n _) (fun t9 ht9 hW9 => ⟨rfl, ht9⟩) (fun _ h => by cases h) dX3_canLoop_50
    · refine lv_iload_n hx hb dX3_canLoop_9 rfl (lv_at hl 2 rfl) ?_
      refine lv_aload_n hx hb dX3_canLoop_10 rfl (lv_at hl 0 rfl) ?_
      refine va_get (D := G.1) (ci := 3) (v := .int (F 2)) (C := RX3) (T := TX3) (N := 19) hx hb hts inX3 hown hK.1 hP 0 rfl rfl 2 (by decide) fl58 (fun _ h9 => h9) rfl dX3_canLoop_11 ?_
      refine x_top (y := nI (gB σ)) (f2) ?_
      refine lv_icmp_ge (tgt := 49) hx hb dX3_canLoop_14 (by decide) (fun c_14 => ?_) (fun c_14 => ?_)
      · refine lv_iconst (v := nI 0) hx hb dX3_canLoop_49 (by decide) ?_
        refine x_top (y := b2i (okLoop a b n σ)) (b2i_f (fun q => q.1.2.2 c_14)) ?_
        exact W.zret (v := b2i (okLoop a b n σ)) hx hb hr (b2i_n _) (fun t9 ht9 hW9 => ⟨rfl, ht9⟩) (fun _ h => by cases h) dX3_canLoop_50
      · refine lv_iload_n hx hb dX3_canLoop_17 rfl (lv_at hl 3 rfl) ?_
        refine lv_iconst (v := nI 1) hx hb dX3_canLoop_18 (by decide) ?_
        refine lv_iconst (v := nI 4) hx hb dX3_canLoop_19 (by decide) ?_
        refine mx_callRO (v := .int (wi n (nI 1) (nI 4))) (va_runSN (As := [.int n, .int (nI 1), .int (nI 4)]) (rest := []) ⟨hx, hb, hml, hown, hts⟩ (c_X5_within l G n (nI 1) (nI 4)) ⟨va_cnB 3 hts gX3_canLoop_X5_within_n79 rfl rfl rfl (hK.2.1 ("MixDesk$Song", 79, yX5_within, "MixDesk") (by decide +kernel)) (hts (.initialized RX5) (by decide +kernel)) (by decide +kernel) ⟨Nat.le_of_ble_eq_true rfl, Nat.le_of_ble_eq_true rfl⟩, hts (.static yX5_within) (by decide +kernel), trivial⟩ (mx_preS hK trivial) rfl rfl hl.1 rfl (lv_room (Nat.le_of_ble_eq_true rfl)) dX3_canLoop_20 ⟨Nat.zero_le _, Nat.zero_le _⟩) ?_
        refine lv_if_eq (tgt := 49) hx hb dX3_canLoop_23 (by decide) (fun c_23 => ?_) (fun c_23 => ?_)
        · refine lv_iconst (v := nI 0) hx hb dX3_canLoop_49 (by decide) ?_
          refine x_top (y := b2i (okLoop a b n σ)) (b2i_f (fun q => (wi_0 c_23).elim q.2.1.1 q.2.1.2)) ?_
          exact W.zret (v := b2i (okLoop a b n σ)) hx hb hr (b2i_n _) (fun t9 ht9 hW9 => ⟨rfl, ht9⟩) (fun _ h => by cases h) dX3_canLoop_50
        · refine lv_aload_n hx hb dX3_canLoop_26 rfl (lv_at hl 0 rfl) ?_
          refine va_get (D := G.1) (ci := 3) (v := .int (F 2)) (C := RX3) (T := TX3) (N := 19) hx hb hts inX3 hown hK.1 hP 0 rfl rfl 2 (by decide) fl58 (fun _ h9 => h9) rfl dX3_canLoop_27 ?_
          refine x_top (y := nI (gB σ)) (f2) ?_
          refine lv_iload_n hx hb dX3_canLoop_30 rfl (lv_at hl 3 rfl) ?_
          refine lv_iconst (v := nI 1) hx hb dX3_canLoop_31 (by decide) ?_
          refine lv_isub hx hb dX3_canLoop_32 ?_
          refine lv_iload_n hx hb dX3_canLoop_33 rfl (lv_at hl 2 rfl) ?_
          refine lv_iload_n hx hb dX3_canLoop_34 rfl (lv_at hl 1 rfl) ?_
          refine lv_isub hx hb dX3_canLoop_35 ?_
          refine lv_iconst (v := nI 1) hx hb dX3_canLoop_36 (by decide) ?_
          refine lv_iadd hx hb dX3_canLoop_37 ?_
          refine lv_imul hx hb dX3_canLoop_38 ?_
          refine lv_iadd hx hb dX3_canLoop_39 ?_
          refine lv_bipush (v := nI 64) hx hb dX3_canLoop_40 (by decide) ?_
          refine lv_icmp_gt (tgt := 49) hx hb dX3_canLoop_42 (by decide) (fun c_42 => ?_) (fun c_42 => ?_)
          · refine lv_iconst (v := nI 0) hx hb dX3_canLoop_49 (by decide) ?_
            refine x_top (y := b2i (okLoop a b n σ)) (b2i_f (fun q => Int32.not_le.mpr c_42 q.2.2)) ?_
            exact W.zret (v := b2i (okLoop a b n σ)) hx hb hr (b2i_n _) (fun t9 ht9 hW9 => ⟨rfl, ht9⟩) (fun _ h => by cases h) dX3_canLoop_50
          · refine lv_iconst (v := nI 1) hx hb dX3_canLoop_45 (by decide) ?_
            refine lv_goto (tgt := 50) hx hb dX3_canLoop_46 (by decide) ?_
            refine x_top (y := b2i (okLoop a b n σ)) (b2i_t ⟨⟨c_1, c_6, c_14⟩, wi_1 c_23, Int32.not_lt.mp c_42⟩) ?_
            exact W.zret (v := b2i (okLoop a b n σ)) hx hb hr (b2i_n _) (fun t9 ht9 hW9 => ⟨rfl, ht9⟩) (fun _ h => by cases h) dX3_canLoop_50
