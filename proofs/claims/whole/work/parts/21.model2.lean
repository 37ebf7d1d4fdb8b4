set_option maxHeartbeats 4000000 in
set_option maxRecDepth 100000 in
theorem c_X6_lasts (l : Launch) (G : mx_G) (ad : Nat → Nat) (F : Nat → Int32) (R : Nat → Nat → Int32) (j : Nat) (σ : Sg) (k : Nat) (hs : j < 12) (hm : moSg R j σ) (ok : sgOk σ) (hk : k < 2 ^ 31) : mx_RO l yX6_lasts wsX6_lasts 1 21 G [.ref (ad 0), .int (nI j), .int (nI k)] (fun H => va_P G.1 vwCl (MW G ad F R) H) (.int (gLast σ k)) := by
  refine Met.ofW (cc := cX6_lasts) (maxL := 4) (ret := (some .int)) (by decide) rfl ?_
  intro p e s m args below meth c s₁ BB hml hv
  obtain ⟨rfl, hP, hK⟩ := hv
  have hx := BB.exec
  have hb := BB.bytes
  have hr := BB.returns
  have hts := atoms_spec (ws := wsX6_lasts) BB.pre
  have hown : s.vm.findClass RX6 = some m.cls := findClass_of_methodNamed BB.named
  have hlocks := BB.notSynchronized
  have hP : va_P G.1 vwCl (MW G ad F R) s.heap := hP
  obtain ⟨m1, m2, m3, m4, m5, m6, m7, m8, m9, m10, m11⟩ := id hm
  obtain ⟨hB2, hB64, hAE, hEB, hT1, hT4, hPB, hP1, hP16, hC, hst, hmo⟩ := id ok
  have fl13 := hts (.fieldLink RX6 13 "MixDeskModel" "kind" "[I") (by decide +kernel)
  have fl20 := hts (.fieldLink RX6 20 "MixDeskModel" "step" "[I") (by decide +kernel)
  have fl23 := hts (.fieldLink RX6 23 "MixDeskModel" "more" "[I") (by decide +kernel)
  have inX6 : ∀ w ∈ wsX60, w ∈ wsX6_lasts := by decide +kernel
  have hl := lv_entry ([.ref (ad 0), .int (nI j), .int (nI k)]) (n := 4) (Nat.le_of_ble_eq_true rfl)
  rw [lg_entry_eq]
  generalize (lg_sl ([.ref (ad 0), .int (nI j), .int (nI k)]) ++ List.replicate (4 - (lg_sl ([.ref (ad 0), .int (nI j), .int (nI k)])).length) Slot.unset).toArray = ls at hl ⊢
  have hl : lv_has ls 4 [(0, .ref (ad 0)), (1, .int (nI j)), (2, .int (nI k))] := hl
  show mx_WR l wsX6_lasts 1 21 p e s m (([.ref (ad 0), .int (nI j), .int (nI k)] : List Value).toArray) below meth c (.int (gLast σ k)) (F0 m 0 ls [])
  refine lv_aload_n hx hb dX6_lasts_0 rfl (lv_at hl 0 rfl) ?_
  refine va_get (D := G.1) (ci := 6) (v := .ref (ad 2)) (C := RX6) (T := TX6) (N := 36) hx hb hts inX6 hown hK.1 hP 0 rfl rfl 1 (by decide) fl13 (fun _ h9 => h9) rfl dX6_lasts_1 ?_
  refine lv_iload_n hx hb dX6_lasts_4 rfl (lv_at hl 1 rfl) ?_
  refine x_iald hx hb hK.1 hP 2 0 (n := 12) (f := R 1) rfl rfl (k := j) (by omega) (by omega) dX6_lasts_5 ?_
  refine x_top (y := gKind σ) (m1) ?_
  refine lv_if_ne (tgt := 16) hx hb dX6_lasts_6 (by decide) (fun c_6 => ?_) (fun c_6 => ?_)
  · refine lv_aload_n hx hb dX6_lasts_16 rfl (lv_at hl 0 rfl) ?_
    refine va_get (D := G.1) (ci := 6) (v := .ref (ad 2)) (C := RX6) (T := TX6) (N := 36) hx hb hts inX6 hown hK.1 hP 0 rfl rfl 1 (by decide) fl13 (fun _ h9 => h9) rfl dX6_lasts_17 ?_
    refine lv_iload_n hx hb dX6_lasts_20 rfl (lv_at hl 1 rfl) ?_
    refine x_iald hx hb hK.1 hP 2 0 (n := 12) (f := R 1) rfl rfl (k := j) (by omega) (by omega) dX6_lasts_21 ?_
    refine x_top (y := gKind σ) (m1) ?_
    refine lv_iconst (v := nI 1) hx hb dX6_lasts_22 (by decide) ?_
    refine lv_icmp_ne (tgt := 62) hx hb dX6_lasts_23 (by decide) (fun c_23 => ?_) (fun c_23 => ?_)
    · refine lv_aload_n hx hb dX6_lasts_62 rfl (lv_at hl 0 rfl) ?_
      refine va_get (D := G.1) (ci := 6) (v := .ref (ad 4)) (C := RX6) (T := TX6) (N := 36) hx hb hts inX6 hown hK.1 hP 0 rfl rfl 3 (by decide) fl20 (fun _ h9 => h9) rfl dX6_lasts_63 ?_
      refine lv_iload_n hx hb dX6_lasts_66 rfl (lv_at hl 1 rfl) ?_
      refine x_iald hx hb hK.1 hP 4 0 (n := 12) (f := R 3) rfl rfl (k := j) (by omega) (by omega) dX6_lasts_67 ?_
      refine x_top (y := gStep σ) (m3) ?_
      refine lv_iload_n hx hb dX6_lasts_68 rfl (lv_at hl 2 rfl) ?_
      refine lv_aload_n hx hb dX6_lasts_69 rfl (lv_at hl 0 rfl) ?_
      refine va_get (D := G.1) (ci := 6) (v := .ref (ad 5)) (C := RX6) (T := TX6) (N := 36) hx hb hts inX6 hown hK.1 hP 0 rfl rfl 4 (by decide) fl23 (fun _ h9 => h9) rfl dX6_lasts_70 ?_
      refine lv_iload_n hx hb dX6_lasts_73 rfl (lv_at hl 1 rfl) ?_
      refine x_iald hx hb hK.1 hP 5 0 (n := 12) (f := R 4) rfl rfl (k := j) (by omega) (by omega) dX6_lasts_74 ?_
      refine x_top (y := gMore σ) (m4) ?_
      refine lv_imul hx hb dX6_lasts_75 ?_
      refine lv_bipush (v := nI 16) hx hb dX6_lasts_76 (by decide) ?_
      refine mx_callRO (v := .int (mfloor ((nI k) * (gMore σ)) (nI 16))) (va_runS (As := [.int ((nI k) * (gMore σ)), .int (nI 16)]) (rest := [.int (gStep σ)]) ⟨hx, hb, hml, hown, hts⟩ (c_X6_floor l G ((nI k) * (gMore σ)) (nI 16) (by decide)) (va_cwS 2 hts gX6_lasts_X6_floor rfl rfl rfl (by decide +kernel) ⟨Nat.le_of_ble_eq_true rfl, Nat.le_of_ble_eq_true rfl⟩) (mx_preS hK trivial) rfl rfl hl.1 rfl (lv_room (Nat.le_of_ble_eq_true rfl)) dX6_lasts_78 ⟨Nat.zero_le _, Nat.zero_le _⟩) ?_
      refine lv_iadd hx hb dX6_lasts_81 ?_
      refine lv_istore_n (lv' := [(3, .int ((gStep σ) + (mfloor ((nI k) * (gMore σ)) (nI 16)))), (0, .ref (ad 0)), (1, .int (nI j)), (2, .int (nI k))]) hx hb dX6_lasts_82 rfl hl (by decide) rfl (fun ls hl => ?_)
      refine lv_iload_n hx hb dX6_lasts_83 rfl (lv_at hl 0 rfl) ?_
      refine lv_bipush (v := nI 20) hx hb dX6_lasts_84 (by decide) ?_
      refine lv_icmp_ge (tgt := 94) hx hb dX6_lasts_86 (by decide) (fun c_86 => ?_) (fun c_86 => ?_)
      · refine lv_iload_n hx hb dX6_lasts_94 rfl (lv_at hl 0 rfl) ?_
        refine lv_sipush (v := nI 400) hx hb dX6_lasts_95 (by decide) ?_
        refine lv_icmp_le (tgt := 107) hx hb dX6_lasts_98 (by decide) (fun c_98 => ?_) (fun c_98 => ?_)
        · refine lv_iload_n hx hb dX6_lasts_107 rfl (lv_at hl 0 rfl) ?_
          refine x_top (y := gLast σ k) (by unfold gLast; rw [if_neg c_6, if_neg c_23]; unfold clampT; rw [if_neg (Int32.not_lt.mpr c_86), if_neg (Int32.not_lt.mpr c_98)]) ?_
          exact W.iret (v := gLast σ k) hx hb hr (fun t9 ht9 hW9 => ⟨rfl, ht9⟩) (fun _ h => by cases h) dX6_lasts_108
        · refine lv_sipush (v := nI 400) hx hb dX6_lasts_101 (by decide) ?_
          refine lv_goto (tgt := 108) hx hb dX6_lasts_104 (by decide) ?_
          refine x_top (y := gLast σ k) (by unfold gLast; rw [if_neg c_6, if_neg c_23]; unfold clampT; rw [if_neg (Int32.not_lt.mpr c_86), if_pos (Int32.not_le.mp c_98)]) ?_
          exact W.iret (v := gLast σ k) hx hb hr (fun t9 ht9 hW9 => ⟨rfl, ht9⟩) (fun _ h => by cases h) dX6_lasts_108
      · refine lv_bipush (v := nI 20) hx hb dX6_lasts_89 (by decide) ?_
        refine lv_goto (tgt := 108) hx hb dX6_lasts_91 (by decide) ?_
        refine x_top (y := gLast σ k) (by unfold gLast; rw [if_neg c_6, if_neg c_23]; unfold clampT; rw [if_pos (Int32.not_le.mp c_86)]) ?_
        exact W.iret (v := gLast σ k) hx hb hr (fun t9 ht9 hW9 => ⟨rfl, ht9⟩) (fun _ h => by cases h) dX6_lasts_108
    · refine lv_iload_n hx hb dX6_lasts_26 rfl (lv_at hl 2 rfl) ?_
      refine lv_iconst (v := nI 2) hx hb dX6_lasts_27 (by decide) ?_
      refine x_irem (r := k % 2) hx hb dX6_lasts_28 (by omega) (by omega) (by omega) (rfl) ?_
      refine x_if_ne (tgt := 48) hx hb (by omega) dX6_lasts_29 (by decide) (fun c_29 => ?_) (fun c_29 => ?_)
      · refine lv_aload_n hx hb dX6_lasts_48 rfl (lv_at hl 0 rfl) ?_
        refine va_get (D := G.1) (ci := 6) (v := .ref (ad 4)) (C := RX6) (T := TX6) (N := 36) hx hb hts inX6 hown hK.1 hP 0 rfl rfl 3 (by decide) fl20 (fun _ h9 => h9) rfl dX6_lasts_49 ?_
        refine lv_iload_n hx hb dX6_lasts_52 rfl (lv_at hl 1 rfl) ?_
        refine x_iald hx hb hK.1 hP 4 0 (n := 12) (f := R 3) rfl rfl (k := j) (by omega) (by omega) dX6_lasts_53 ?_
        refine x_top (y := gStep σ) (m3) ?_
        refine lv_aload_n hx hb dX6_lasts_54 rfl (lv_at hl 0 rfl) ?_
        refine va_get (D := G.1) (ci := 6) (v := .ref (ad 5)) (C := RX6) (T := TX6) (N := 36) hx hb hts inX6 hown hK.1 hP 0 rfl rfl 4 (by decide) fl23 (fun _ h9 => h9) rfl dX6_lasts_55 ?_
        refine lv_iload_n hx hb dX6_lasts_58 rfl (lv_at hl 1 rfl) ?_
        refine x_iald hx hb hK.1 hP 5 0 (n := 12) (f := R 4) rfl rfl (k := j) (by omega) (by omega) dX6_lasts_59 ?_
        refine x_top (y := gMore σ) (m4) ?_
        refine lv_isub hx hb dX6_lasts_60 ?_
        refine x_top (y := gLast σ k) (by unfold gLast; rw [if_neg c_6, if_pos c_23, if_neg c_29]) ?_
        exact W.iret (v := gLast σ k) hx hb hr (fun t9 ht9 hW9 => ⟨rfl, ht9⟩) (fun _ h => by cases h) dX6_lasts_61
      · refine lv_aload_n hx hb dX6_lasts_32 rfl (lv_at hl 0 rfl) ?_
        refine va_get (D := G.1) (ci := 6) (v := .ref (ad 4)) (C := RX6) (T := TX6) (N := 36) hx hb hts inX6 hown hK.1 hP 0 rfl rfl 3 (by decide) fl20 (fun _ h9 => h9) rfl dX6_lasts_33 ?_
        refine lv_iload_n hx hb dX6_lasts_36 rfl (lv_at hl 1 rfl) ?_
        refine x_iald hx hb hK.1 hP 4 0 (n := 12) (f := R 3) rfl rfl (k := j) (by omega) (by omega) dX6_lasts_37 ?_
        refine x_top (y := gStep σ) (m3) ?_
        refine lv_aload_n hx hb dX6_lasts_38 rfl (lv_at hl 0 rfl) ?_
        refine va_get (D := G.1) (ci := 6) (v := .ref (ad 5)) (C := RX6) (T := TX6) (N := 36) hx hb hts inX6 hown hK.1 hP 0 rfl rfl 4 (by decide) fl23 (fun _ h9 => h9) rfl dX6_lasts_39 ?_
        refine lv_iload_n hx hb dX6_lasts_42 rfl (lv_at hl 1 rfl) ?_
        refine x_iald hx hb hK.1 hP 5 0 (n := 12) (f := R 4) rfl rfl (k := j) (by omega) (by omega) dX6_lasts_43 ?_
        refine x_top (y := gMore σ) (m4) ?_
        refine lv_iadd hx hb dX6_lasts_44 ?_
        refine lv_goto (tgt := 61) hx hb dX6_lasts_45 (by decide) ?_
        refine x_top (y := gLast σ k) (by unfold gLast; rw [if_neg c_6, if_pos c_23, if_pos c_29]) ?_
        exact W.iret (v := gLast σ k) hx hb hr (fun t9 ht9 hW9 => ⟨rfl, ht9⟩) (fun _ h => by cases h) dX6_lasts_61
  · refine lv_aload_n hx hb dX6_lasts_9 rfl (lv_at hl 0 rfl) ?_
    refine va_get (D := G.1) (ci := 6) (v := .ref (ad 4)) (C := RX6) (T := TX6) (N := 36) hx hb hts inX6 hown hK.1 hP 0 rfl rfl 3 (by decide) fl20 (fun _ h9 => h9) rfl dX6_lasts_10 ?_
    refine lv_iload_n hx hb dX6_lasts_13 rfl (lv_at hl 1 rfl) ?_
    refine x_iald hx hb hK.1 hP 4 0 (n := 12) (f := R 3) rfl rfl (k := j) (by omega) (by omega) dX6_lasts_14 ?_
    refine x_top (y := gStep σ) (m3) ?_
    refine x_top (y := gLast σ k) (by unfold gLast; rw [if_pos c_6]) ?_
    exact W.iret (v := gLast σ k) hx hb hr (fun t9 ht9 hW9 => ⟨rfl, ht9⟩) (fun _ h => by cases h) dX6_lasts_15

set_option maxHeartbeats 4000000 in
set_option maxRecDepth 100000 in
theorem c_X6_tick (l : Launch) (G : mx_G) (ad : Nat → Nat) (F : Nat → Int32) (R : Nat → Nat → Int32) (j : Nat) (σ : Sg) (k : Nat) (hs : j < 12) (hm : moSg R j σ) (ok : sgOk σ) (hk : k ≤ 256) : mx_RO l yX6_tick wsX6_tick 2 44 G [.ref (ad 0), .int (nI j), .int (nI k)] (fun H => va_P G.1 vwCl (MW G ad F R) H) (.int (gTick σ k)) := by
  refine Met.ofW (cc := cX6_tick) (maxL := 5) (ret := (some .int)) (by decide) rfl ?_
  intro p e s m args below meth c s₁ BB hml hv
  obtain ⟨rfl, hP, hK⟩ := hv
  have hx := BB.exec
  have hb := BB.bytes
  have hr := BB.returns
  have hts := atoms_spec (ws := wsX6_tick) BB.pre
  have hown : s.vm.findClass RX6 = some m.cls := findClass_of_methodNamed BB.named
  have hlocks := BB.notSynchronized
  have hP : va_P G.1 vwCl (MW G ad F R) s.heap := hP
  have hl := lv_entry ([.ref (ad 0), .int (nI j), .int (nI k)]) (n := 5) (Nat.le_of_ble_eq_true rfl)
  rw [lg_entry_eq]
  generalize (lg_sl ([.ref (ad 0), .int (nI j), .int (nI k)]) ++ List.replicate (5 - (lg_sl ([.ref (ad 0), .int (nI j), .int (nI k)])).length) Slot.unset).toArray = ls at hl ⊢
  have hl : lv_has ls 5 [(0, .ref (ad 0)), (1, .int (nI j)), (2, .int (nI k))] := hl
  show mx_WR l wsX6_tick 2 44 p e s m (([.ref (ad 0), .int (nI j), .int (nI k)] : List Value).toArray) below meth c (.int (gTick σ k)) (F0 m 0 ls [])
  refine lv_iconst (v := nI 0) hx hb dX6_tick_0 (by decide) ?_
  refine lv_istore_n (lv' := [(3, .int (nI 0)), (0, .ref (ad 0)), (1, .int (nI j)), (2, .int (nI k))]) hx hb dX6_tick_1 rfl hl (by decide) rfl (fun ls hl => ?_)
  refine lv_iconst (v := nI 0) hx hb dX6_tick_2 (by decide) ?_
  refine lv_istore (lv' := [(4, .int (nI 0)), (3, .int (nI 0)), (0, .ref (ad 0)), (1, .int (nI j)), (2, .int (nI k))]) hx hb dX6_tick_3 hl (by decide) rfl (fun ls hl => ?_)
  have lp5 : ∀ (nn : Nat) (i : Nat), k - i < nn → (i ≤ k) → ∀ ls : Array Slot, lv_has ls 5 [(0, .ref (ad 0)), (1, .int (nI j)), (2, .int (nI k)), (3, .int (gTick σ i)), (4, .int (nI i))] → mx_WR l wsX6_tick 2 44 p e s m (([.ref (ad 0), .int (nI j), .int (nI k)] : List Value).toArray) below meth c (.int (gTick σ k)) (F0 m 5 ls []) := by
    intro nn
    induction nn with
    | zero => intro i hmu; exact absurd hmu (Nat.not_lt_zero _)
    | succ nn ih5 =>
      intro i hmu hi ls hl
      refine lv_iload hx hb dX6_tick_5 (lv_at hl 4 rfl) ?_
      refine lv_iload_n hx hb dX6_tick_7 rfl (lv_at hl 2 rfl) ?_
      refine x_icmp_ge (tgt := 27) hx hb (by omega) (by omega) dX6_tick_8 (by decide) (fun c_8 => ?_) (fun c_8 => ?_)
      · refine lv_iload_n hx hb dX6_tick_27 rfl (lv_at hl 3 rfl) ?_
        refine x_top (y := gTick σ k) (by rw [show i = k by omega]) ?_
        exact W.iret (v := gTick σ k) hx hb hr (fun t9 ht9 hW9 => ⟨rfl, ht9⟩) (fun _ h => by cases h) dX6_tick_28
      · refine lv_iload_n hx hb dX6_tick_11 rfl (lv_at hl 3 rfl) ?_
        refine lv_aload_n hx hb dX6_tick_12 rfl (lv_at hl 0 rfl) ?_
        refine lv_iload_n hx hb dX6_tick_13 rfl (lv_at hl 1 rfl) ?_
        refine lv_iload hx hb dX6_tick_14 (lv_at hl 4 rfl) ?_
        refine mx_callRO (v := .int (gLast σ i)) (va_runV (As := [.int (nI j), .int (nI i)]) (rest := [.int (gTick σ i)]) ⟨hx, hb, hml, hown, hts⟩ (c_X6_lasts l G ad F R j σ i hs hm ok (by omega)) (cwV 2 hts gX6_tick_X6_lasts rfl rfl rfl (by decide +kernel) ⟨Nat.le_of_ble_eq_true rfl, Nat.le_of_ble_eq_true rfl⟩) (mx_preV hK hP (va_recv hK.1 hP (ci := 6) (q0 := 0) rfl rfl)) rfl rfl hl.1 rfl (lv_room (Nat.le_of_ble_eq_true rfl)) dX6_tick_16 ⟨Nat.zero_le _, Nat.zero_le _⟩) ?_
        refine lv_iadd hx hb dX6_tick_19 ?_
        refine x_top (y := gTick σ (i + 1)) (rfl) ?_
        refine lv_istore_n (lv' := [(3, .int (gTick σ (i + 1))), (0, .ref (ad 0)), (1, .int (nI j)), (2, .int (nI k)), (4, .int (nI i))]) hx hb dX6_tick_20 rfl hl (by decide) rfl (fun ls hl => ?_)
        refine x_iinc (lv' := [(4, .int (nI (i + 1))), (3, .int (gTick σ (i + 1))), (0, .ref (ad 0)), (1, .int (nI j)), (2, .int (nI k))]) hx hb dX6_tick_21 hl (k := 4) rfl (x_inc1 _) (by decide) rfl (fun ls hl => ?_)
        refine lv_goto (tgt := 5) hx hb dX6_tick_24 (by decide) ?_
        exact ih5 (i + 1) (by omega) (by omega) _ (lv_sub hl [2, 3, 4, 1, 0] rfl)
  exact lp5 (k - 0 + 1) 0 (Nat.lt_succ_self _) (by omega) _ (lv_sub hl [2, 3, 4, 1, 0] rfl)

set_option maxHeartbeats 4000000 in
set_option maxRecDepth 100000 in
theorem c_X6_barLong (l : Launch) (G : mx_G) (ad : Nat → Nat) (F : Nat → Int32) (R : Nat → Nat → Int32) (j : Nat) (σ : Sg) (b : Nat) (hs : j < 12) (hm : moSg R j σ) (ok : sgOk σ) (hb9 : b < 64) : mx_RO l yX6_barLong wsX6_barLong 2 44 G [.ref (ad 0), .int (nI j), .int (nI b)] (fun H => va_P G.1 vwCl (MW G ad F R) H) (.int (gLong σ b)) := by
  refine Met.ofW (cc := cX6_barLong) (maxL := 6) (ret := (some .int)) (by decide) rfl ?_
  intro p e s m args below meth c s₁ BB hml hv
  obtain ⟨rfl, hP, hK⟩ := hv
  have hx := BB.exec
  have hb := BB.bytes
  have hr := BB.returns
  have hts := atoms_spec (ws := wsX6_barLong) BB.pre
  have hown : s.vm.findClass RX6 = some m.cls := findClass_of_methodNamed BB.named
  have hlocks := BB.notSynchronized
  have hP : va_P G.1 vwCl (MW G ad F R) s.heap := hP
  obtain ⟨m1, m2, m3, m4, m5, m6, m7, m8, m9, m10, m11⟩ := id hm
  obtain ⟨hB2, hB64, hAE, hEB, hT1, hT4, hPB, hP1, hP16, hC, hst, hmo⟩ := id ok
  have hF := gFst_le ok b
  have hCb := hC b
  have fl35 := hts (.fieldLink RX6 35 "MixDeskModel" "beats" "[I") (by decide +kernel)
  have inX6 : ∀ w ∈ wsX60, w ∈ wsX6_barLong := by decide +kernel
  have hl := lv_entry ([.ref (ad 0), .int (nI j), .int (nI b)]) (n := 6) (Nat.le_of_ble_eq_true rfl)
  rw [lg_entry_eq]
  generalize (lg_sl ([.ref (ad 0), .int (nI j), .int (nI b)]) ++ List.replicate (6 - (lg_sl ([.ref (ad 0), .int (nI j), .int (nI b)])).length) Slot.unset).toArray = ls at hl ⊢
  have hl : lv_has ls 6 [(0, .ref (ad 0)), (1, .int (nI j)), (2, .int (nI b))] := hl
  show mx_WR l wsX6_barLong 2 44 p e s m (([.ref (ad 0), .int (nI j), .int (nI b)] : List Value).toArray) below meth c (.int (gLong σ b)) (F0 m 0 ls [])
  refine lv_aload_n hx hb dX6_barLong_0 rfl (lv_at hl 0 rfl) ?_
  refine lv_iload_n hx hb dX6_barLong_1 rfl (lv_at hl 1 rfl) ?_
  refine lv_iload_n hx hb dX6_barLong_2 rfl (lv_at hl 2 rfl) ?_
  refine mx_callRO (v := .int (nI (gFst σ b))) (va_runV (As := [.int (nI j), .int (nI b)]) (rest := []) ⟨hx, hb, hml, hown, hts⟩ (c_X6_firstBeat l G ad F R j σ b hs hm ok (by omega)) (cwV 2 hts gX6_barLong_X6_firstBeat rfl rfl rfl (by decide +kernel) ⟨Nat.le_of_ble_eq_true rfl, Nat.le_of_ble_eq_true rfl⟩) (mx_preV hK hP (va_recv hK.1 hP (ci := 6) (q0 := 0) rfl rfl)) rfl rfl hl.1 rfl (lv_room (Nat.le_of_ble_eq_true rfl)) dX6_barLong_3 ⟨Nat.zero_le _, Nat.zero_le _⟩) ?_
  refine lv_istore_n (lv' := [(3, .int (nI (gFst σ b))), (0, .ref (ad 0)), (1, .int (nI j)), (2, .int (nI b))]) hx hb dX6_barLong_6 rfl hl (by decide) rfl (fun ls hl => ?_)
  refine lv_iconst (v := nI 0) hx hb dX6_barLong_7 (by decide) ?_
  refine lv_istore (lv' := [(4, .int (nI 0)), (3, .int (nI (gFst σ b))), (0, .ref (ad 0)), (1, .int (nI j)), (2, .int (nI b))]) hx hb dX6_barLong_8 hl (by decide) rfl (fun ls hl => ?_)
  refine lv_iconst (v := nI 0) hx hb dX6_barLong_10 (by decide) ?_
  refine lv_istore (lv' := [(5, .int (nI 0)), (4, .int (nI 0)), (3, .int (nI (gFst σ b))), (0, .ref (ad 0)), (1, .int (nI j)), (2, .int (nI b))]) hx hb dX6_barLong_11 hl (by decide) rfl (fun ls hl => ?_)
  have lp13 : ∀ (nn : Nat) (i : Nat), gC σ b - i < nn → (i ≤ gC σ b) → ∀ ls : Array Slot, lv_has ls 6 [(0, .ref (ad 0)), (1, .int (nI j)), (2, .int (nI b)), (3, .int (nI (gFst σ b))), (4, .int (isum (fun i => gLast σ (gFst σ b + i)) i)), (5, .int (nI i))] → mx_WR l wsX6_barLong 2 44 p e s m (([.ref (ad 0), .int (nI j), .int (nI b)] : List Value).toArray) below meth c (.int (gLong σ b)) (F0 m 13 ls []) := by
    intro nn
    induction nn with
    | zero => intro i hmu; exact absurd hmu (Nat.not_lt_zero _)
    | succ nn ih13 =>
      intro i hmu hi ls hl
      refine lv_iload hx hb dX6_barLong_13 (lv_at hl 5 rfl) ?_
      refine lv_aload_n hx hb dX6_barLong_15 rfl (lv_at hl 0 rfl) ?_
      refine va_get (D := G.1) (ci := 6) (v := .ref (ad 9)) (C := RX6) (T := TX6) (N := 36) hx hb hts inX6 hown hK.1 hP 0 rfl rfl 8 (by decide) fl35 (fun _ h9 => h9) rfl dX6_barLong_16 ?_
      refine lv_bipush (v := nI 64) hx hb dX6_barLong_19 (by decide) ?_
      refine lv_iload_n hx hb dX6_barLong_21 rfl (lv_at hl 1 rfl) ?_
      refine x_imul (r := 64 * j) hx hb dX6_barLong_22 (rfl) ?_
      refine lv_iload_n hx hb dX6_barLong_23 rfl (lv_at hl 2 rfl) ?_
      refine x_iadd (r := 64 * j + b) hx hb dX6_barLong_24 (rfl) ?_
      refine x_iald hx hb hK.1 hP 9 0 (n := 768) (f := R 8) rfl rfl (k := 64 * j + b) (by omega) (by omega) dX6_barLong_25 ?_
      refine x_top (y := nI (gC σ b)) (m8 b (by omega)) ?_
      refine x_icmp_ge (tgt := 49) hx hb (by omega) (by omega) dX6_barLong_26 (by decide) (fun c_26 => ?_) (fun c_26 => ?_)
      · refine lv_iload hx hb dX6_barLong_49 (lv_at hl 4 rfl) ?_
        refine x_top (y := gLong σ b) (by rw [show i = gC σ b by omega]; rfl) ?_
        exact W.iret (v := gLong σ b) hx hb hr (fun t9 ht9 hW9 => ⟨rfl, ht9⟩) (fun _ h => by cases h) dX6_barLong_51
      · refine lv_iload hx hb dX6_barLong_29 (lv_at hl 4 rfl) ?_
        refine lv_aload_n hx hb dX6_barLong_31 rfl (lv_at hl 0 rfl) ?_
        refine lv_iload_n hx hb dX6_barLong_32 rfl (lv_at hl 1 rfl) ?_
        refine lv_iload_n hx hb dX6_barLong_33 rfl (lv_at hl 3 rfl) ?_
        refine lv_iload hx hb dX6_barLong_34 (lv_at hl 5 rfl) ?_
        refine x_iadd (r := gFst σ b + i) hx hb dX6_barLong_36 (rfl) ?_
        refine mx_callRO (v := .int (gLast σ (gFst σ b + i))) (va_runV (As := [.int (nI j), .int (nI (gFst σ b + i))]) (rest := [.int (isum (fun i => gLast σ (gFst σ b + i)) i)]) ⟨hx, hb, hml, hown, hts⟩ (c_X6_lasts l G ad F R j σ (gFst σ b + i) hs hm ok (by omega)) (cwV 2 hts gX6_barLong_X6_lasts rfl rfl rfl (by decide +kernel) ⟨Nat.le_of_ble_eq_true rfl, Nat.le_of_ble_eq_true rfl⟩) (mx_preV hK hP (va_recv hK.1 hP (ci := 6) (q0 := 0) rfl rfl)) rfl rfl hl.1 rfl (lv_room (Nat.le_of_ble_eq_true rfl)) dX6_barLong_37 ⟨Nat.zero_le _, Nat.zero_le _⟩) ?_
        refine lv_iadd hx hb dX6_barLong_40 ?_
        refine x_top (y := isum (fun i => gLast σ (gFst σ b + i)) (i + 1)) (rfl) ?_
        refine lv_istore (lv' := [(4, .int (isum (fun i => gLast σ (gFst σ b + i)) (i + 1))), (0, .ref (ad 0)), (1, .int (nI j)), (2, .int (nI b)), (3, .int (nI (gFst σ b))), (5, .int (nI i))]) hx hb dX6_barLong_41 hl (by decide) rfl (fun ls hl => ?_)
        refine x_iinc (lv' := [(5, .int (nI (i + 1))), (4, .int (isum (fun i => gLast σ (gFst σ b + i)) (i + 1))), (0, .ref (ad 0)), (1, .int (nI j)), (2, .int (nI b)), (3, .int (nI (gFst σ b)))]) hx hb dX6_barLong_43 hl (k := 5) rfl (x_inc1 _) (by decide) rfl (fun ls hl => ?_)
        refine lv_goto (tgt := 13) hx hb dX6_barLong_46 (by decide) ?_
        exact ih13 (i + 1) (by omega) (by omega) _ (lv_sub hl [2, 3, 4, 5, 1, 0] rfl)
  exact lp13 (gC σ b - 0 + 1) 0 (Nat.lt_succ_self _) (by omega) _ (lv_sub hl [3, 4, 5, 2, 1, 0] rfl)

set_option maxHeartbeats 4000000 in
set_option maxRecDepth 100000 in
theorem c_X6_begins (l : Launch) (G : mx_G) (ad : Nat → Nat) (F : Nat → Int32) (R : Nat → Nat → Int32) (j : Nat) (σ : Sg) (q : Nat) (hs : j < 12) (hm : moSg R j σ) (ok : sgOk σ) (hq : q ≤ gPB σ) : mx_RO l yX6_begins wsX6_begins 3 69 G [.ref (ad 0), .int (nI j), .int (nI q)] (fun H => va_P G.1 vwCl (MW G ad F R) H) (.int (gBeg σ q)) := by
  refine Met.ofW (cc := cX6_begins) (maxL := 5) (ret := (some .int)) (by decide) rfl ?_
  intro p e s m args below meth c s₁ BB hml hv
  obtain ⟨rfl, hP, hK⟩ := hv
  have hx := BB.exec
  have hb := BB.bytes
  have hr := BB.returns
  have hts := atoms_spec (ws := wsX6_begins) BB.pre
  have hown : s.vm.findClass RX6 = some m.cls := findClass_of_methodNamed BB.named
  have hlocks := BB.notSynchronized
  have hP : va_P G.1 vwCl (MW G ad F R) s.heap := hP
  have hpb := gPB_le ok
  have hl := lv_entry ([.ref (ad 0), .int (nI j), .int (nI q)]) (n := 5) (Nat.le_of_ble_eq_true rfl)
  rw [lg_entry_eq]
  generalize (lg_sl ([.ref (ad 0), .int (nI j), .int (nI q)]) ++ List.replicate (5 - (lg_sl ([.ref (ad 0), .int (nI j), .int (nI q)])).length) Slot.unset).toArray = ls at hl ⊢
  have hl : lv_has ls 5 [(0, .ref (ad 0)), (1, .int (nI j)), (2, .int (nI q))] := hl
  show mx_WR l wsX6_begins 3 69 p e s m (([.ref (ad 0), .int (nI j), .int (nI q)] : List Value).toArray) below meth c (.int (gBeg σ q)) (F0 m 0 ls [])
  refine lv_iconst (v := nI 0) hx hb dX6_begins_0 (by decide) ?_
  refine lv_istore_n (lv' := [(3, .int (nI 0)), (0, .ref (ad 0)), (1, .int (nI j)), (2, .int (nI q))]) hx hb dX6_begins_1 rfl hl (by decide) rfl (fun ls hl => ?_)
  refine lv_iconst (v := nI 0) hx hb dX6_begins_2 (by decide) ?_
  refine lv_istore (lv' := [(4, .int (nI 0)), (3, .int (nI 0)), (0, .ref (ad 0)), (1, .int (nI j)), (2, .int (nI q))]) hx hb dX6_begins_3 hl (by decide) rfl (fun ls hl => ?_)
  have lp5 : ∀ (nn : Nat) (i : Nat), q - i < nn → (i ≤ q) → ∀ ls : Array Slot, lv_has ls 5 [(0, .ref (ad 0)), (1, .int (nI j)), (2, .int (nI q)), (3, .int (gBeg σ i)), (4, .int (nI i))] → mx_WR l wsX6_begins 3 69 p e s m (([.ref (ad 0), .int (nI j), .int (nI q)] : List Value).toArray) below meth c (.int (gBeg σ q)) (F0 m 5 ls []) := by
    intro nn
    induction nn with
    | zero => intro i hmu; exact absurd hmu (Nat.not_lt_zero _)
    | succ nn ih5 =>
      intro i hmu hi ls hl
      refine lv_iload hx hb dX6_begins_5 (lv_at hl 4 rfl) ?_
      refine lv_iload_n hx hb dX6_begins_7 rfl (lv_at hl 2 rfl) ?_
      refine x_icmp_ge (tgt := 32) hx hb (by omega) (by omega) dX6_begins_8 (by decide) (fun c_8 => ?_) (fun c_8 => ?_)
      · refine lv_iload_n hx hb dX6_begins_32 rfl (lv_at hl 3 rfl) ?_
        refine x_top (y := gBeg σ q) (by rw [show i = q by omega]) ?_
        exact W.iret (v := gBeg σ q) hx hb hr (fun t9 ht9 hW9 => ⟨rfl, ht9⟩) (fun _ h => by cases h) dX6_begins_33
      · refine lv_iload_n hx hb dX6_begins_11 rfl (lv_at hl 3 rfl) ?_
        refine lv_aload_n hx hb dX6_begins_12 rfl (lv_at hl 0 rfl) ?_
        refine lv_iload_n hx hb dX6_begins_13 rfl (lv_at hl 1 rfl) ?_
        refine lv_aload_n hx hb dX6_begins_14 rfl (lv_at hl 0 rfl) ?_
        refine lv_iload_n hx hb dX6_begins_15 rfl (lv_at hl 1 rfl) ?_
        refine lv_iload hx hb dX6_begins_16 (lv_at hl 4 rfl) ?_
        refine mx_callRO (v := .int (nI (gBar σ i))) (va_runV (As := [.int (nI j), .int (nI i)]) (rest := [.int (nI j), .ref (ad 0), .int (gBeg σ i)]) ⟨hx, hb, hml, hown, hts⟩ (c_X6_barOf l G ad F R j σ i hs hm ok (by omega)) (cwV 2 hts gX6_begins_X6_barOf rfl rfl rfl (by decide +kernel) ⟨Nat.le_of_ble_eq_true rfl, Nat.le_of_ble_eq_true rfl⟩) (mx_preV hK hP (va_recv hK.1 hP (ci := 6) (q0 := 0) rfl rfl)) rfl rfl hl.1 rfl (lv_room (Nat.le_of_ble_eq_true rfl)) dX6_begins_18 ⟨Nat.zero_le _, Nat.zero_le _⟩) ?_
        refine mx_callRO (v := .int (gLong σ (gBar σ i))) (va_runV (As := [.int (nI j), .int (nI (gBar σ i))]) (rest := [.int (gBeg σ i)]) ⟨hx, hb, hml, hown, hts⟩ (c_X6_barLong l G ad F R j σ (gBar σ i) hs hm ok (by have := gBar_lt ok (show i < gPB σ by omega); have := ok.2.1; omega)) (cwV 2 hts gX6_begins_X6_barLong rfl rfl rfl (by decide +kernel) ⟨Nat.le_of_ble_eq_true rfl, Nat.le_of_ble_eq_true rfl⟩) (mx_preV hK hP (va_recv hK.1 hP (ci := 6) (q0 := 0) rfl rfl)) rfl rfl hl.1 rfl (lv_room (Nat.le_of_ble_eq_true rfl)) dX6_begins_21 ⟨Nat.zero_le _, Nat.zero_le _⟩) ?_
        refine lv_iadd hx hb dX6_begins_24 ?_
        refine x_top (y := gBeg σ (i + 1)) (rfl) ?_
        refine lv_istore_n (lv' := [(3, .int (gBeg σ (i + 1))), (0, .ref (ad 0)), (1, .int (nI j)), (2, .int (nI q)), (4, .int (nI i))]) hx hb dX6_begins_25 rfl hl (by decide) rfl (fun ls hl => ?_)
        refine x_iinc (lv' := [(4, .int (nI (i + 1))), (3, .int (gBeg σ (i + 1))), (0, .ref (ad 0)), (1, .int (nI j)), (2, .int (nI q))]) hx hb dX6_begins_26 hl (k := 4) rfl (x_inc1 _) (by decide) rfl (fun ls hl => ?_)
        refine lv_goto (tgt := 5) hx hb dX6_begins_29 (by decide) ?_
        exact ih5 (i + 1) (by omega) (by omega) _ (lv_sub hl [2, 3, 4, 1, 0] rfl)
  exact lp5 (q - 0 + 1) 0 (Nat.lt_succ_self _) (by omega) _ (lv_sub hl [2, 3, 4, 1, 0] rfl)
