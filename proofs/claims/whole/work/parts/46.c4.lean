set_option maxHeartbeats 4000000 in
set_option maxRecDepth 100000 in
theorem c_X4_add (l : Launch) (G : mx_G) (ad : Nat → Nat) (F : Nat → Int32) (R : Nat → Nat → Int32) (n : Nat) (T : Nat → Nat) (t : Int32) (hF : F 1 = nI n) (hn : n ≤ 60) (hT : ∀ i, i < n → R 0 i = nI (T i) ∧ T i ≤ 1000000) (sz : Nat) : mx_EF l yX4_add wsX4_add 1 22 0 0 G [.ref (ad 0), .int t] sz (KW G ad F R) (fun _ : Int32 × (Nat → Int32) => some (.int (aStroke n T t))) (fun u : Int32 × (Nat → Int32) => u.1 = nI (nStn n T t) ∧ u.2 = nStT n T t (R 0)) (fun u : Int32 × (Nat → Int32) => KW G ad (va_up F 1 u.1) (va_up R 0 u.2)) := by
  refine Met.ofW (cc := cX4_add) (maxL := 2) (ret := (some .int)) (by decide) rfl ?_
  intro p e s m args below meth c s₁ BB hml hv
  obtain ⟨rfl, ⟨hsz, hP, hD0⟩, hK⟩ := hv
  have hx := BB.exec
  have hb := BB.bytes
  have hr := BB.returns
  have hts := atoms_spec (ws := wsX4_add) BB.pre
  have hown : s.vm.findClass RX4 = some m.cls := findClass_of_methodNamed BB.named
  have hlocks := BB.notSynchronized
  subst hsz
  have hD := hD0.self (sz := s.heap.size)
  have hA : ∀ q : Nat, s.heap.size ≤ q → va_A (KW G ad F R) s.heap.size q := fun q h => Or.inr h
  have hS : va_S (va_A (KW G ad F R) s.heap.size) s.heap s.heap [] := va_S.rf
  have fl11 := hts (.fieldLink RX4 11 "MixDesk$Strokes" "ticks" "[I") (by decide +kernel)
  have fl15 := hts (.fieldLink RX4 15 "MixDesk$Strokes" "count" "I") (by decide +kernel)
  have inX4 : ∀ w ∈ wsX40, w ∈ wsX4_add := by decide +kernel
  have ck31 := hts (.constant RX4 31 (1000000)) (by decide +kernel)
  have hl := lv_entry ([.ref (ad 0), .int t]) (n := 2) (Nat.le_of_ble_eq_true rfl)
  rw [lg_entry_eq]
  generalize (lg_sl ([.ref (ad 0), .int t]) ++ List.replicate (2 - (lg_sl ([.ref (ad 0), .int t])).length) Slot.unset).toArray = ls at hl ⊢
  have hl : lv_has ls 2 [(0, .ref (ad 0)), (1, .int t)] := hl
  refine lv_aload_n hx hb dX4_add_0 rfl (lv_at hl 0 rfl) ?_
  refine va_get (D := G.1) (ci := 4) (v := .int (F 1)) (C := RX4) (T := TX4) (N := 6) hx hb hts inX4 hown hK.1 hP 0 rfl rfl 1 (by decide) fl15 (fun _ h9 => h9) rfl dX4_add_1 ?_
  refine x_top (y := nI n) (hF) ?_
  refine lv_bipush (v := nI 60) hx hb dX4_add_4 (by decide) ?_
  refine x_icmp_ge (tgt := 41) hx hb (by omega) (by omega) dX4_add_6 (by decide) (fun c_6 => ?_) (fun c_6 => ?_)
  · have hno : ¬ (okStroke n T t) := fun q => q.2.1 (by omega)
    refine lv_iconst (v := (-1)) hx hb dX4_add_41 (by decide) ?_
    refine x_top (y := aStroke n T t) (by unfold aStroke; rw [if_neg hno]) ?_
    exact W.iret (v := aStroke n T t) hx hb hr (fun t9 ht9 hW9 => ⟨⟨(F 1, R 0), rfl, ⟨by unfold nStn; rw [if_neg hno]; exact hF, by unfold nStT; rw [if_neg hno]⟩, by rw [ht9]; exact hP, hD⟩, hS.F ht9⟩) hS.2.2 dX4_add_42
  · refine lv_iload_n hx hb dX4_add_9 rfl (lv_at hl 1 rfl) ?_
    refine lv_iconst (v := nI 0) hx hb dX4_add_10 (by decide) ?_
    refine lv_ldc hx hb hown ck31 dX4_add_11 ?_
    refine x_top (y := nI 1000000) (by decide) ?_
    refine mx_callRO (v := .int (wi t (nI 0) (nI 1000000))) (va_runSN (As := [.int t, .int (nI 0), .int (nI 1000000)]) (rest := []) ⟨hx, hb, hml, hown, hts⟩ (c_X5_within l G t (nI 0) (nI 1000000)) ⟨va_cnB 3 hts gX4_add_X5_within_n32 rfl rfl rfl (hK.2.1 ("MixDesk$Strokes", 32, yX5_within, "MixDesk") (by decide +kernel)) (hts (.initialized RX5) (by decide +kernel)) (by decide +kernel) ⟨Nat.le_of_ble_eq_true rfl, Nat.le_of_ble_eq_true rfl⟩, hts (.static yX5_within) (by decide +kernel), trivial⟩ (mx_preS hK trivial) rfl rfl hl.1 rfl (lv_room (Nat.le_of_ble_eq_true rfl)) dX4_add_13 ⟨Nat.zero_le _, Nat.zero_le _⟩) ?_
    refine lv_if_eq (tgt := 41) hx hb dX4_add_16 (by decide) (fun c_16 => ?_) (fun c_16 => ?_)
    · have hno : ¬ (okStroke n T t) := fun q => (wi_0 c_16).elim q.1.1 q.1.2
      refine lv_iconst (v := (-1)) hx hb dX4_add_41 (by decide) ?_
      refine x_top (y := aStroke n T t) (by unfold aStroke; rw [if_neg hno]) ?_
      exact W.iret (v := aStroke n T t) hx hb hr (fun t9 ht9 hW9 => ⟨⟨(F 1, R 0), rfl, ⟨by unfold nStn; rw [if_neg hno]; exact hF, by unfold nStT; rw [if_neg hno]⟩, by rw [ht9]; exact hP, hD⟩, hS.F ht9⟩) hS.2.2 dX4_add_42
    · refine lv_aload_n hx hb dX4_add_19 rfl (lv_at hl 0 rfl) ?_
      refine va_get (D := G.1) (ci := 4) (v := .int (F 1)) (C := RX4) (T := TX4) (N := 6) hx hb hts inX4 hown hK.1 hP 0 rfl rfl 1 (by decide) fl15 (fun _ h9 => h9) rfl dX4_add_20 ?_
      refine x_top (y := nI n) (hF) ?_
      refine x_if_le (tgt := 43) hx hb (by omega) dX4_add_23 (by decide) (fun c_23 => ?_) (fun c_23 => ?_)
      · have hyes : (okStroke n T t) := ⟨wi_1 c_16, by omega, fun h => absurd c_23 (by omega)⟩
        refine lv_aload_n hx hb dX4_add_43 rfl (lv_at hl 0 rfl) ?_
        refine va_get (D := G.1) (ci := 4) (v := .ref (ad 1)) (C := RX4) (T := TX4) (N := 6) hx hb hts inX4 hown hK.1 hP 0 rfl rfl 0 (by decide) fl11 (fun _ h9 => h9) rfl dX4_add_44 ?_
        refine lv_aload_n hx hb dX4_add_47 rfl (lv_at hl 0 rfl) ?_
        refine va_get (D := G.1) (ci := 4) (v := .int (F 1)) (C := RX4) (T := TX4) (N := 6) hx hb hts inX4 hown hK.1 hP 0 rfl rfl 1 (by decide) fl15 (fun _ h9 => h9) rfl dX4_add_48 ?_
        refine x_top (y := nI n) (hF) ?_
        refine lv_iload_n hx hb dX4_add_51 rfl (lv_at hl 1 rfl) ?_
        refine x_iast hx hb hK.1 hP hD hS 1 0 (n := 60) (f := R 0) rfl rfl (k := n) (by omega) (by omega) dX4_add_52 (KW G ad F (va_up R 0 (upd (R 0) n t))) rfl (fun H locs hP hD hS => ?_)
        refine lv_aload_n hx hb dX4_add_53 rfl (lv_at hl 0 rfl) ?_
        refine lv_dup hx hb dX4_add_54 rfl ?_
        refine va_get (D := G.1) (ci := 4) (v := .int (F 1)) (C := RX4) (T := TX4) (N := 6) hx hb hts inX4 hown hK.1 hP 0 rfl rfl 1 (by decide) fl15 (fun _ h9 => h9) rfl dX4_add_55 ?_
        refine x_top (y := nI n) (hF) ?_
        refine lv_iconst (v := nI 1) hx hb dX4_add_58 (by decide) ?_
        refine x_iadd (r := n + 1) hx hb dX4_add_59 (rfl) ?_
        refine va_put (D := G.1) (ci := 4) (v := .int (nI (n + 1))) (ty := .int) (C := RX4) (T := TX4) (N := 6) hx hb hts inX4 tyX4 tyX4_ok nmX4 hown hK.1 hP hD hS 0 rfl rfl 1 (by decide) fl15 (fun _ h9 => h9) rfl (by decide +kernel) rfl rfl (Nat.le_of_ble_eq_true rfl) dX4_add_60 (fun H locs hP hD hS => ?_)
        have hP : va_P G.1 vwCl (KW G ad (va_up F 1 (nI (n + 1))) (va_up R 0 (upd (R 0) n t))) H := hP
        have hD : va_D _ (KW G ad (va_up F 1 (nI (n + 1))) (va_up R 0 (upd (R 0) n t))) := hD
        refine lv_aload_n hx hb dX4_add_63 rfl (lv_at hl 0 rfl) ?_
        refine va_get (D := G.1) (ci := 4) (v := .int (nI (n + 1))) (C := RX4) (T := TX4) (N := 6) hx hb hts inX4 hown hK.1 hP 0 rfl rfl 1 (by decide) fl15 (fun _ h9 => h9) rfl dX4_add_64 ?_
        refine x_top (y := aStroke n T t) (by unfold aStroke; rw [if_pos hyes]) ?_
        exact W.iret (v := aStroke n T t) hx hb hr (fun t9 ht9 hW9 => ⟨⟨(nI (n + 1), upd (R 0) n t), rfl, ⟨by unfold nStn; rw [if_pos hyes], by unfold nStT; rw [if_pos hyes]⟩, by rw [ht9]; exact hP, hD⟩, hS.F ht9⟩) hS.2.2 dX4_add_67
      · refine lv_iload_n hx hb dX4_add_26 rfl (lv_at hl 1 rfl) ?_
        refine lv_aload_n hx hb dX4_add_27 rfl (lv_at hl 0 rfl) ?_
        refine va_get (D := G.1) (ci := 4) (v := .ref (ad 1)) (C := RX4) (T := TX4) (N := 6) hx hb hts inX4 hown hK.1 hP 0 rfl rfl 0 (by decide) fl11 (fun _ h9 => h9) rfl dX4_add_28 ?_
        refine lv_aload_n hx hb dX4_add_31 rfl (lv_at hl 0 rfl) ?_
        refine va_get (D := G.1) (ci := 4) (v := .int (F 1)) (C := RX4) (T := TX4) (N := 6) hx hb hts inX4 hown hK.1 hP 0 rfl rfl 1 (by decide) fl15 (fun _ h9 => h9) rfl dX4_add_32 ?_
        refine x_top (y := nI n) (hF) ?_
        refine lv_iconst (v := nI 1) hx hb dX4_add_35 (by decide) ?_
        refine x_isub (r := n - 1) hx hb dX4_add_36 (by omega) ?_
        have hTn := (hT (n - 1) (by omega)).2
        refine x_iald hx hb hK.1 hP 1 0 (n := 60) (f := R 0) rfl rfl (k := n - 1) (by omega) (by omega) dX4_add_37 ?_
        refine x_top (y := nI (T (n - 1))) ((hT (n - 1) (by omega)).1) ?_
        refine lv_icmp_gt (tgt := 43) hx hb dX4_add_38 (by decide) (fun c_38 => ?_) (fun c_38 => ?_)
        · have hyes : (okStroke n T t) := ⟨wi_1 c_16, by omega, fun _ => Int32.not_le.mpr c_38⟩
          refine lv_aload_n hx hb dX4_add_43 rfl (lv_at hl 0 rfl) ?_
          refine va_get (D := G.1) (ci := 4) (v := .ref (ad 1)) (C := RX4) (T := TX4) (N := 6) hx hb hts inX4 hown hK.1 hP 0 rfl rfl 0 (by decide) fl11 (fun _ h9 => h9) rfl dX4_add_44 ?_
          refine lv_aload_n hx hb dX4_add_47 rfl (lv_at hl 0 rfl) ?_
          refine va_get (D := G.1) (ci := 4) (v := .int (F 1)) (C := RX4) (T := TX4) (N := 6) hx hb hts inX4 hown hK.1 hP 0 rfl rfl 1 (by decide) fl15 (fun _ h9 => h9) rfl dX4_add_48 ?_
          refine x_top (y := nI n) (hF) ?_
          refine lv_iload_n hx hb dX4_add_51 rfl (lv_at hl 1 rfl) ?_
          refine x_iast hx hb hK.1 hP hD hS 1 0 (n := 60) (f := R 0) rfl rfl (k := n) (by omega) (by omega) dX4_add_52 (KW G ad F (va_up R 0 (upd (R 0) n t))) rfl (fun H locs hP hD hS => ?_)
          refine lv_aload_n hx hb dX4_add_53 rfl (lv_at hl 0 rfl) ?_
          refine lv_dup hx hb dX4_add_54 rfl ?_
          refine va_get (D := G.1) (ci := 4) (v := .int (F 1)) (C := RX4) (T := TX4) (N := 6) hx hb hts inX4 hown hK.1 hP 0 rfl rfl 1 (by decide) fl15 (fun _ h9 => h9) rfl dX4_add_55 ?_
          refine x_top (y := nI n) (hF) ?_
          refine lv_iconst (v := nI 1) hx hb dX4_add_58 (by decide) ?_
          refine x_iadd (r := n + 1) hx hb dX4_add_59 (rfl) ?_
          refine va_put (D := G.1) (ci := 4) (v := .int (nI (n + 1))) (ty := .int) (C := RX4) (T := TX4) (N := 6) hx hb hts inX4 tyX4 tyX4_ok nmX4 hown hK.1 hP hD hS 0 rfl rfl 1 (by decide) fl15 (fun _ h9 => h9) rfl (by decide +kernel) rfl rfl (Nat.le_of_ble_eq_true rfl) dX4_add_60 (fun H locs hP hD hS => ?_)
          have hP : va_P G.1 vwCl (KW G ad (va_up F 1 (nI (n + 1))) (va_up R 0 (upd (R 0) n t))) H := hP
          have hD : va_D _ (KW G ad (va_up F 1 (nI (n + 1))) (va_up R 0 (upd (R 0) n t))) := hD
          refine lv_aload_n hx hb dX4_add_63 rfl (lv_at hl 0 rfl) ?_
          refine va_get (D := G.1) (ci := 4) (v := .int (nI (n + 1))) (C := RX4) (T := TX4) (N := 6) hx hb hts inX4 hown hK.1 hP 0 rfl rfl 1 (by decide) fl15 (fun _ h9 => h9) rfl dX4_add_64 ?_
          refine x_top (y := aStroke n T t) (by unfold aStroke; rw [if_pos hyes]) ?_
          exact W.iret (v := aStroke n T t) hx hb hr (fun t9 ht9 hW9 => ⟨⟨(nI (n + 1), upd (R 0) n t), rfl, ⟨by unfold nStn; rw [if_pos hyes], by unfold nStT; rw [if_pos hyes]⟩, by rw [ht9]; exact hP, hD⟩, hS.F ht9⟩) hS.2.2 dX4_add_67
        · have hno : ¬ (okStroke n T t) := fun q => q.2.2 (by omega) (Int32.not_lt.mp c_38)
          refine lv_iconst (v := (-1)) hx hb dX4_add_41 (by decide) ?_
          refine x_top (y := aStroke n T t) (by unfold aStroke; rw [if_neg hno]) ?_
          exact W.iret (v := aStroke n T t) hx hb hr (fun t9 ht9 hW9 => ⟨⟨(F 1, R 0), rfl, ⟨by unfold nStn; rw [if_neg hno]; exact hF, by unfold nStT; rw [if_neg hno]⟩, by rw [ht9]; exact hP, hD⟩, hS.F ht9⟩) hS.2.2 dX4_add_42

set_option maxHeartbeats 4000000 in
set_option maxRecDepth 100000 in
theorem c_X4_empty (l : Launch) (G : mx_G) (ad : Nat → Nat) (F : Nat → Int32) (R : Nat → Nat → Int32) (n : Nat) (hF : F 1 = nI n) (sz : Nat) : mx_EF l yX4_empty wsX4_empty 0 0 0 0 G [.ref (ad 0)] sz (KW G ad F R) (fun _ : Unit => some (.int (nI n))) (fun _ : Unit => True) (fun _ : Unit => KW G ad (va_up F 1 (nI 0)) R) := by
  refine Met.ofW (cc := cX4_empty) (maxL := 2) (ret := (some .int)) (by decide) rfl ?_
  intro p e s m args below meth c s₁ BB hml hv
  obtain ⟨rfl, ⟨hsz, hP, hD0⟩, hK⟩ := hv
  have hx := BB.exec
  have hb := BB.bytes
  have hr := BB.returns
  have hts := atoms_spec (ws := wsX4_empty) BB.pre
  have hown : s.vm.findClass RX4 = some m.cls := findClass_of_methodNamed BB.named
  have hlocks := BB.notSynchronized
  subst hsz
  have hD := hD0.self (sz := s.heap.size)
  have hA : ∀ q : Nat, s.heap.size ≤ q → va_A (KW G ad F R) s.heap.size q := fun q h => Or.inr h
  have hS : va_S (va_A (KW G ad F R) s.heap.size) s.heap s.heap [] := va_S.rf
  have fl15 := hts (.fieldLink RX4 15 "MixDesk$Strokes" "count" "I") (by decide +kernel)
  have inX4 : ∀ w ∈ wsX40, w ∈ wsX4_empty := by decide +kernel
  have hl := lv_entry ([.ref (ad 0)]) (n := 2) (Nat.le_of_ble_eq_true rfl)
  rw [lg_entry_eq]
  generalize (lg_sl ([.ref (ad 0)]) ++ List.replicate (2 - (lg_sl ([.ref (ad 0)])).length) Slot.unset).toArray = ls at hl ⊢
  have hl : lv_has ls 2 [(0, .ref (ad 0))] := hl
  refine lv_aload_n hx hb dX4_empty_0 rfl (lv_at hl 0 rfl) ?_
  refine va_get (D := G.1) (ci := 4) (v := .int (F 1)) (C := RX4) (T := TX4) (N := 6) hx hb hts inX4 hown hK.1 hP 0 rfl rfl 1 (by decide) fl15 (fun _ h9 => h9) rfl dX4_empty_1 ?_
  refine x_top (y := nI n) (hF) ?_
  refine lv_istore_n (lv' := [(1, .int (nI n)), (0, .ref (ad 0))]) hx hb dX4_empty_4 rfl hl (by decide) rfl (fun ls hl => ?_)
  refine lv_aload_n hx hb dX4_empty_5 rfl (lv_at hl 1 rfl) ?_
  refine lv_iconst (v := nI 0) hx hb dX4_empty_6 (by decide) ?_
  refine va_put (D := G.1) (ci := 4) (v := .int (nI 0)) (ty := .int) (C := RX4) (T := TX4) (N := 6) hx hb hts inX4 tyX4 tyX4_ok nmX4 hown hK.1 hP hD hS 0 rfl rfl 1 (by decide) fl15 (fun _ h9 => h9) rfl (by decide +kernel) rfl rfl (Nat.le_of_ble_eq_true rfl) dX4_empty_7 (fun H locs hP hD hS => ?_)
  have hP : va_P G.1 vwCl (KW G ad (va_up F 1 (nI 0)) R) H := hP
  have hD : va_D _ (KW G ad (va_up F 1 (nI 0)) R) := hD
  refine lv_iload_n hx hb dX4_empty_10 rfl (lv_at hl 0 rfl) ?_
  exact W.iret (v := nI n) hx hb hr (fun t9 ht9 hW9 => ⟨⟨(), rfl, trivial, by rw [ht9]; exact hP, hD⟩, hS.F ht9⟩) hS.2.2 dX4_empty_11

set_option maxHeartbeats 4000000 in
set_option maxRecDepth 100000 in
theorem c_X4_foundStroke (l : Launch) (G : mx_G) (ad : Nat → Nat) (F : Nat → Int32) (R : Nat → Nat → Int32) (n : Nat) (x : Int32) (hF : F 5 = nI n) (hn : n ≤ 60) : mx_RO l yX4_foundStroke wsX4_foundStroke 1 22 G [.ref (ad 0), .int x] (fun H => va_P G.1 vwCl (KW G ad F R) H) (.int (aRow n (R 4) x)) := by
  refine Met.ofW (cc := cX4_foundStroke) (maxL := 2) (ret := (some .int)) (by decide) rfl ?_
  intro p e s m args below meth c s₁ BB hml hv
  obtain ⟨rfl, hP, hK⟩ := hv
  have hx := BB.exec
  have hb := BB.bytes
  have hr := BB.returns
  have hts := atoms_spec (ws := wsX4_foundStroke) BB.pre
  have hown : s.vm.findClass RX4 = some m.cls := findClass_of_methodNamed BB.named
  have hlocks := BB.notSynchronized
  have hP : va_P G.1 vwCl (KW G ad F R) s.heap := hP
  have fl25 := hts (.fieldLink RX4 25 "MixDesk$Strokes" "taken" "[I") (by decide +kernel)
  have fl28 := hts (.fieldLink RX4 28 "MixDesk$Strokes" "takenCount" "I") (by decide +kernel)
  have inX4 : ∀ w ∈ wsX40, w ∈ wsX4_foundStroke := by decide +kernel
  have hl := lv_entry ([.ref (ad 0), .int x]) (n := 2) (Nat.le_of_ble_eq_true rfl)
  rw [lg_entry_eq]
  generalize (lg_sl ([.ref (ad 0), .int x]) ++ List.replicate (2 - (lg_sl ([.ref (ad 0), .int x])).length) Slot.unset).toArray = ls at hl ⊢
  have hl : lv_has ls 2 [(0, .ref (ad 0)), (1, .int x)] := hl
  show mx_WR l wsX4_foundStroke 1 22 p e s m (([.ref (ad 0), .int x] : List Value).toArray) below meth c (.int (aRow n (R 4) x)) (F0 m 0 ls [])
  refine lv_iload_n hx hb dX4_foundStroke_0 rfl (lv_at hl 1 rfl) ?_
  refine lv_iconst (v := nI 0) hx hb dX4_foundStroke_1 (by decide) ?_
  refine lv_aload_n hx hb dX4_foundStroke_2 rfl (lv_at hl 0 rfl) ?_
  refine va_get (D := G.1) (ci := 4) (v := .int (F 5)) (C := RX4) (T := TX4) (N := 6) hx hb hts inX4 hown hK.1 hP 0 rfl rfl 5 (by decide) fl28 (fun _ h9 => h9) rfl dX4_foundStroke_3 ?_
  refine x_top (y := nI n) (hF) ?_
  refine lv_iconst (v := nI 1) hx hb dX4_foundStroke_6 (by decide) ?_
  refine lv_isub hx hb dX4_foundStroke_7 ?_
  refine mx_callRO (v := .int (wi x (nI 0) ((nI n) - (nI 1)))) (va_runSN (As := [.int x, .int (nI 0), .int ((nI n) - (nI 1))]) (rest := []) ⟨hx, hb, hml, hown, hts⟩ (c_X5_within l G x (nI 0) ((nI n) - (nI 1))) ⟨va_cnB 3 hts gX4_foundStroke_X5_within_n32 rfl rfl rfl (hK.2.1 ("MixDesk$Strokes", 32, yX5_within, "MixDesk") (by decide +kernel)) (hts (.initialized RX5) (by decide +kernel)) (by decide +kernel) ⟨Nat.le_of_ble_eq_true rfl, Nat.le_of_ble_eq_true rfl⟩, hts (.static yX5_within) (by decide +kernel), trivial⟩ (mx_preS hK trivial) rfl rfl hl.1 rfl (lv_room (Nat.le_of_ble_eq_true rfl)) dX4_foundStroke_8 ⟨Nat.zero_le _, Nat.zero_le _⟩) ?_
  refine lv_if_eq (tgt := 23) hx hb dX4_foundStroke_11 (by decide) (fun c_11 => ?_) (fun c_11 => ?_)
  · refine lv_iconst (v := (-1)) hx hb dX4_foundStroke_23 (by decide) ?_
    refine x_top (y := aRow n (R 4) x) (arow_no (wi_0 c_11)) ?_
    exact W.iret (v := aRow n (R 4) x) hx hb hr (fun t9 ht9 hW9 => ⟨rfl, ht9⟩) (fun _ h => by cases h) dX4_foundStroke_24
  · obtain ⟨i, hi, rfl⟩ := wi_idx (by omega) (wi_1 c_11)
    refine lv_aload_n hx hb dX4_foundStroke_14 rfl (lv_at hl 0 rfl) ?_
    refine va_get (D := G.1) (ci := 4) (v := .ref (ad 5)) (C := RX4) (T := TX4) (N := 6) hx hb hts inX4 hown hK.1 hP 0 rfl rfl 4 (by decide) fl25 (fun _ h9 => h9) rfl dX4_foundStroke_15 ?_
    refine lv_iload_n hx hb dX4_foundStroke_18 rfl (lv_at hl 1 rfl) ?_
    refine x_iald hx hb hK.1 hP 4 0 (n := 60) (f := R 4) rfl rfl (k := i) (by omega) (by omega) dX4_foundStroke_19 ?_
    refine lv_goto (tgt := 24) hx hb dX4_foundStroke_20 (by decide) ?_
    refine x_top (y := aRow n (R 4) (nI i)) ((arow_yes hi).symm) ?_
    exact W.iret (v := aRow n (R 4) (nI i)) hx hb hr (fun t9 ht9 hW9 => ⟨rfl, ht9⟩) (fun _ h => by cases h) dX4_foundStroke_24

set_option maxHeartbeats 4000000 in
set_option maxRecDepth 100000 in
theorem c_X4_gapCost (l : Launch) (G : mx_G) (d gap miss : Nat) (hd : d ≤ 1000000) (hg0 : 10 ≤ gap) (hg : gap ≤ 1000) : mx_RO l yX4_gapCost wsX4_gapCost 1 21 G [.int (nI d), .int (nI gap), .int (nI miss)] (fun _ => True) (.int (gapV d gap miss)) := by
  refine Met.ofW (cc := cX4_gapCost) (maxL := 4) (ret := (some .int)) (by decide) rfl ?_
  intro p e s m args below meth c s₁ BB hml hv
  obtain ⟨rfl, -, hK⟩ := hv
  have hx := BB.exec
  have hb := BB.bytes
  have hr := BB.returns
  have hts := atoms_spec (ws := wsX4_gapCost) BB.pre
  have hown : s.vm.findClass RX4 = some m.cls := findClass_of_methodNamed BB.named
  have hlocks := BB.notSynchronized
  have hqb := mq_b (gap := gap) hd
  have hl := lv_entry ([.int (nI d), .int (nI gap), .int (nI miss)]) (n := 4) (Nat.le_of_ble_eq_true rfl)
  rw [lg_entry_eq]
  generalize (lg_sl ([.int (nI d), .int (nI gap), .int (nI miss)]) ++ List.replicate (4 - (lg_sl ([.int (nI d), .int (nI gap), .int (nI miss)])).length) Slot.unset).toArray = ls at hl ⊢
  have hl : lv_has ls 4 [(0, .int (nI d)), (1, .int (nI gap)), (2, .int (nI miss))] := hl
  show mx_WR l wsX4_gapCost 1 21 p e s m (([.int (nI d), .int (nI gap), .int (nI miss)] : List Value).toArray) below meth c (.int (gapV d gap miss)) (F0 m 0 ls [])
  refine lv_iconst (v := nI 1) hx hb dX4_gapCost_0 (by decide) ?_
  refine lv_iconst (v := nI 2) hx hb dX4_gapCost_1 (by decide) ?_
  refine lv_iload_n hx hb dX4_gapCost_2 rfl (lv_at hl 0 rfl) ?_
  refine x_imul (r := 2 * d) hx hb dX4_gapCost_3 (rfl) ?_
  refine lv_iload_n hx hb dX4_gapCost_4 rfl (lv_at hl 1 rfl) ?_
  refine x_iadd (r := 2 * d + gap) hx hb dX4_gapCost_5 (rfl) ?_
  refine lv_iconst (v := nI 1) hx hb dX4_gapCost_6 (by decide) ?_
  refine x_isub (r := 2 * d + gap - 1) hx hb dX4_gapCost_7 (by omega) ?_
  refine lv_iconst (v := nI 2) hx hb dX4_gapCost_8 (by decide) ?_
  refine lv_iload_n hx hb dX4_gapCost_9 rfl (lv_at hl 1 rfl) ?_
  refine x_imul (r := 2 * gap) hx hb dX4_gapCost_10 (rfl) ?_
  refine x_idiv (r := (2 * d + gap - 1) / (2 * gap)) hx hb dX4_gapCost_11 (by omega) (by omega) (by omega) (rfl) ?_
  refine va_mmax hx hb (hml.trans hl.1.symm) hown (hts (.methodLink RX4 49 Lib.Math.max.name) (by decide +kernel)) (hts (.static Lib.Math.max.name) (by decide +kernel)) (hts (.initialized "java/lang/Math") (by decide +kernel)) (hts (.code Lib.Math.max.name Lib.Math.max.code 2 (some .int)) (by decide +kernel)) (Nat.le_of_ble_eq_true rfl) (Nat.le_of_ble_eq_true rfl) (Nat.zero_le _) (Nat.zero_le _) dX4_gapCost_12 ?_
  refine x_top (y := mmax (nI 1) (nI ((2 * d + gap - 1) / (2 * gap)))) rfl ?_
  refine x_top (y := nI (mq d gap)) (cq_eq hg0 hd) ?_
  refine lv_istore_n (lv' := [(3, .int (nI (mq d gap))), (0, .int (nI d)), (1, .int (nI gap)), (2, .int (nI miss))]) hx hb dX4_gapCost_15 rfl hl (by decide) rfl (fun ls hl => ?_)
  refine lv_iload_n hx hb dX4_gapCost_16 rfl (lv_at hl 1 rfl) ?_
  refine lv_iload_n hx hb dX4_gapCost_17 rfl (lv_at hl 0 rfl) ?_
  refine lv_iload_n hx hb dX4_gapCost_18 rfl (lv_at hl 2 rfl) ?_
  refine x_imul (r := mq d gap * gap) hx hb dX4_gapCost_19 (rfl) ?_
  refine lv_isub hx hb dX4_gapCost_20 ?_
  refine va_mabs hx hb (hml.trans hl.1.symm) hown (hts (.methodLink RX4 55 Lib.Math.abs.name) (by decide +kernel)) (hts (.static Lib.Math.abs.name) (by decide +kernel)) (hts (.initialized "java/lang/Math") (by decide +kernel)) (hts (.code Lib.Math.abs.name Lib.Math.abs.code 1 (some .int)) (by decide +kernel)) (Nat.le_of_ble_eq_true rfl) (Nat.le_of_ble_eq_true rfl) (Nat.zero_le _) (Nat.zero_le _) dX4_gapCost_21 ?_
  refine x_top (y := mabs ((nI d) - (nI (mq d gap * gap)))) rfl ?_
  refine x_top (y := msize (nI d - nI (mq d gap * gap))) (mabs_eq _) ?_
  refine lv_iload_n hx hb dX4_gapCost_24 rfl (lv_at hl 0 rfl) ?_
  refine lv_iconst (v := nI 1) hx hb dX4_gapCost_25 (by decide) ?_
  refine x_isub (r := mq d gap - 1) hx hb dX4_gapCost_26 (by omega) ?_
  refine lv_iload_n hx hb dX4_gapCost_27 rfl (lv_at hl 3 rfl) ?_
  refine x_imul (r := (mq d gap - 1) * miss) hx hb dX4_gapCost_28 (rfl) ?_
  refine lv_iadd hx hb dX4_gapCost_29 ?_
  refine x_top (y := gapV d gap miss) (by rfl) ?_
  exact W.iret (v := gapV d gap miss) hx hb hr (fun t9 ht9 hW9 => ⟨rfl, ht9⟩) (fun _ h => by cases h) dX4_gapCost_30

set_option maxHeartbeats 4000000 in
set_option maxRecDepth 100000 in
theorem c_X4_chooseNext (l : Launch) (G : mx_G) (ad : Nat → Nat) (F : Nat → Int32) (R : Nat → Nat → Int32) (n : Nat) (T : Nat → Nat) (k gp ms sk : Nat) (hF : F 1 = nI n) (hn : n ≤ 60) (hT : ∀ i, i < n → R 0 i = nI (T i) ∧ T i ≤ 1000000) (hTm : ∀ i k, k < i → i < n → T k < T i) (hgp0 : 10 ≤ gp) (hgp : gp ≤ 1000) (hms : ms ≤ 10000) (hsk : sk ≤ 10000) (hk : k < n) (hC : ∀ q, k < q → q < n → R 2 q = (dpC T gp ms sk n) q) (sz : Nat) : mx_EF l yX4_chooseNext wsX4_chooseNext 2 44 0 0 G [.ref (ad 0), .int (nI k), .int (nI gp), .int (nI ms), .int (nI sk)] sz (KW G ad F R) (fun _ : (Nat → Int32) × (Nat → Int32) => none) (fun u : (Nat → Int32) × (Nat → Int32) => u.1 k = (dpC T gp ms sk n) k ∧ u.2 k = nI (dpN T gp ms sk n (dpC T gp ms sk n) k) ∧ (∀ q, q ≠ k → u.1 q = R 2 q) ∧ ∀ q, q ≠ k → u.2 q = R 3 q) (fun u : (Nat → Int32) × (Nat → Int32) => KW G ad F (va_up (va_up R 2 u.1) 3 u.2)) := by
  refine Met.ofW (cc := cX4_chooseNext) (maxL := 7) (ret := none) (by decide) rfl ?_
  intro p e s m args below meth c s₁ BB hml hv
  obtain ⟨rfl, ⟨hsz, hP, hD0⟩, hK⟩ := hv
  have hx := BB.exec
  have hb := BB.bytes
  have hr := BB.returns
  have hts := atoms_spec (ws := wsX4_chooseNext) BB.pre
  have hown : s.vm.findClass RX4 = some m.cls := findClass_of_methodNamed BB.named
  have hlocks := BB.notSynchronized
  subst hsz
  have hD := hD0.self (sz := s.heap.size)
  have hA : ∀ q : Nat, s.heap.size ≤ q → va_A (KW G ad F R) s.heap.size q := fun q h => Or.inr h
  have hS : va_S (va_A (KW G ad F R) s.heap.size) s.heap s.heap [] := va_S.rf
  have fl11 := hts (.fieldLink RX4 11 "MixDesk$Strokes" "ticks" "[I") (by decide +kernel)
  have fl15 := hts (.fieldLink RX4 15 "MixDesk$Strokes" "count" "I") (by decide +kernel)
  have fl19 := hts (.fieldLink RX4 19 "MixDesk$Strokes" "restCost" "[I") (by decide +kernel)
  have fl22 := hts (.fieldLink RX4 22 "MixDesk$Strokes" "nextTaken" "[I") (by decide +kernel)
  have inX4 : ∀ w ∈ wsX40, w ∈ wsX4_chooseNext := by decide +kernel
  have ck44 := hts (.constant RX4 44 (1073741824)) (by decide +kernel)
  have hl := lv_entry ([.ref (ad 0), .int (nI k), .int (nI gp), .int (nI ms), .int (nI sk)]) (n := 7) (Nat.le_of_ble_eq_true rfl)
  rw [lg_entry_eq]
  generalize (lg_sl ([.ref (ad 0), .int (nI k), .int (nI gp), .int (nI ms), .int (nI sk)]) ++ List.replicate (7 - (lg_sl ([.ref (ad 0), .int (nI k), .int (nI gp), .int (nI ms), .int (nI sk)])).length) Slot.unset).toArray = ls at hl ⊢
  have hl : lv_has ls 7 [(0, .ref (ad 0)), (1, .int (nI k)), (2, .int (nI gp)), (3, .int (nI ms)), (4, .int (nI sk))] := hl
  refine lv_aload_n hx hb dX4_chooseNext_0 rfl (lv_at hl 0 rfl) ?_
  refine va_get (D := G.1) (ci := 4) (v := .ref (ad 3)) (C := RX4) (T := TX4) (N := 6) hx hb hts inX4 hown hK.1 hP 0 rfl rfl 2 (by decide) fl19 (fun _ h9 => h9) rfl dX4_chooseNext_1 ?_
  refine lv_iload_n hx hb dX4_chooseNext_4 rfl (lv_at hl 1 rfl) ?_
  refine lv_ldc hx hb hown ck44 dX4_chooseNext_5 ?_
  refine x_top (y := nI 1073741824) (by decide) ?_
  refine x_iast hx hb hK.1 hP hD hS 2 0 (n := 60) (f := R 2) rfl rfl (k := k) (by omega) (by omega) dX4_chooseNext_7 (KW G ad F (va_up R 2 (upd (R 2) k (nI 1073741824)))) rfl (fun H locs hP hD hS => ?_)
  refine lv_aload_n hx hb dX4_chooseNext_8 rfl (lv_at hl 0 rfl) ?_
  refine va_get (D := G.1) (ci := 4) (v := .ref (ad 4)) (C := RX4) (T := TX4) (N := 6) hx hb hts inX4 hown hK.1 hP 0 rfl rfl 3 (by decide) fl22 (fun _ h9 => h9) rfl dX4_chooseNext_9 ?_
  refine lv_iload_n hx hb dX4_chooseNext_12 rfl (lv_at hl 1 rfl) ?_
  refine lv_aload_n hx hb dX4_chooseNext_13 rfl (lv_at hl 0 rfl) ?_
  refine va_get (D := G.1) (ci := 4) (v := .int (F 1)) (C := RX4) (T := TX4) (N := 6) hx hb hts inX4 hown hK.1 hP 0 rfl rfl 1 (by decide) fl15 (fun _ h9 => h9) rfl dX4_chooseNext_14 ?_
  refine x_top (y := nI n) (hF) ?_
  refine x_iast hx hb hK.1 hP hD hS 3 0 (n := 60) (f := R 3) rfl rfl (k := k) (by omega) (by omega) dX4_chooseNext_17 (KW G ad F (va_up (va_up R 2 (upd (R 2) k (nI 1073741824))) 3 (upd (R 3) k (nI n)))) rfl (fun H locs hP hD hS => ?_)
  refine lv_iload_n hx hb dX4_chooseNext_18 rfl (lv_at hl 1 rfl) ?_
  refine lv_iconst (v := nI 1) hx hb dX4_chooseNext_19 (by decide) ?_
  refine x_iadd (r := k + 1) hx hb dX4_chooseNext_20 (rfl) ?_
  refine lv_istore (lv' := [(5, .int (nI (k + 1))), (0, .ref (ad 0)), (1, .int (nI k)), (2, .int (nI gp)), (3, .int (nI ms)), (4, .int (nI sk))]) hx hb dX4_chooseNext_21 hl (by decide) rfl (fun ls hl => ?_)
  have lp23 : ∀ (nn : Nat) (d : Nat) (RC : Nat → Int32) (NT : Nat → Int32), n - (k + 1 + d) < nn → (k + 1 + d ≤ n) → (RC k = (cS T gp ms sk n (dpC T gp ms sk n) k d).1) → (NT k = nI (cS T gp ms sk n (dpC T gp ms sk n) k d).2) → (∀ q, q ≠ k → RC q = R 2 q) → (∀ q, q ≠ k → NT q = R 3 q) → ∀ (H : Heap) (locs : List Loc), va_P G.1 vwCl (KW G ad F (va_up (va_up R 2 RC) 3 NT)) H → va_D (va_A (KW G ad F R) s.heap.size) (KW G ad F (va_up (va_up R 2 RC) 3 NT)) → va_S (va_A (KW G ad F R) s.heap.size) s.heap H locs → ∀ ls : Array Slot, lv_has ls 7 [(0, .ref (ad 0)), (1, .int (nI k)), (2, .int (nI gp)), (3, .int (nI ms)), (4, .int (nI sk)), (5, .int (nI (k + 1 + d)))] → mx_WE l wsX4_chooseNext 2 44 0 0 G p e s m (([.ref (ad 0), .int (nI k), .int (nI gp), .int (nI ms), .int (nI sk)] : List Value).toArray) below meth c (KW G ad F R) (fun _ : (Nat → Int32) × (Nat → Int32) => none) (fun u : (Nat → Int32) × (Nat → Int32) => u.1 k = (dpC T gp ms sk n) k ∧ u.2 k = nI (dpN T gp ms sk n (dpC T gp ms sk n) k) ∧ (∀ q, q ≠ k → u.1 q = R 2 q) ∧ ∀ q, q ≠ k → u.2 q = R 3 q) (fun u : (Nat → Int32) × (Nat → Int32) => KW G ad F (va_up (va_up R 2 u.1) 3 u.2)) H locs 0 0 (F0 m 23 ls []) := by
    intro nn
    induction nn with
    | zero => intro d RC NT hmu; exact absurd hmu (Nat.not_lt_zero _)
    | succ nn ih23 =>
      intro d RC NT hmu hd hRk hNk hRr hNr H locs hP hD hS ls hl
      refine lv_iload hx hb dX4_chooseNext_23 (lv_at hl 5 rfl) ?_
      refine lv_aload_n hx hb dX4_chooseNext_25 rfl (lv_at hl 0 rfl) ?_
      refine va_get (D := G.1) (ci := 4) (v := .int (F 1)) (C := RX4) (T := TX4) (N := 6) hx hb hts inX4 hown hK.1 hP 0 rfl rfl 1 (by decide) fl15 (fun _ h9 => h9) rfl dX4_chooseNext_26 ?_
      refine x_top (y := nI n) (hF) ?_
      refine x_icmp_ge (tgt := 104) hx hb (by omega) (by omega) dX4_chooseNext_29 (by decide) (fun c_29 => ?_) (fun c_29 => ?_)
      · refine lv_aload_n hx hb dX4_chooseNext_104 rfl (lv_at hl 0 rfl) ?_
        refine va_get (D := G.1) (ci := 4) (v := .int (F 1)) (C := RX4) (T := TX4) (N := 6) hx hb hts inX4 hown hK.1 hP 0 rfl rfl 1 (by decide) fl15 (fun _ h9 => h9) rfl dX4_chooseNext_105 ?_
        refine x_top (y := nI n) (hF) ?_
        refine lv_iconst (v := nI 1) hx hb dX4_chooseNext_108 (by decide) ?_
        refine x_isub (r := n - 1) hx hb dX4_chooseNext_109 (by omega) ?_
        refine lv_iload_n hx hb dX4_chooseNext_110 rfl (lv_at hl 1 rfl) ?_
        refine x_isub (r := n - 1 - k) hx hb dX4_chooseNext_111 (by omega) ?_
        refine lv_iload hx hb dX4_chooseNext_112 (lv_at hl 4 rfl) ?_
        refine x_imul (r := sk * (n - 1 - k)) hx hb dX4_chooseNext_114 (Nat.mul_comm _ _) ?_
        refine lv_istore (lv' := [(5, .int (nI (sk * (n - 1 - k)))), (0, .ref (ad 0)), (1, .int (nI k)), (2, .int (nI gp)), (3, .int (nI ms)), (4, .int (nI sk))]) hx hb dX4_chooseNext_115 hl (by decide) rfl (fun ls hl => ?_)
        have hE : nI (sk * (n - 1 - k)) < nI 1073741824 := (nI_ltI (Nat.lt_of_le_of_lt (Nat.mul_le_mul hsk (show n - 1 - k ≤ 60 by omega)) (by decide)) (by decide)).mpr (Nat.lt_of_le_of_lt (Nat.mul_le_mul hsk (show n - 1 - k ≤ 60 by omega)) (by decide))
        refine lv_iload hx hb dX4_chooseNext_117 (lv_at hl 0 rfl) ?_
        refine lv_aload_n hx hb dX4_chooseNext_119 rfl (lv_at hl 1 rfl) ?_
        refine va_get (D := G.1) (ci := 4) (v := .ref (ad 3)) (C := RX4) (T := TX4) (N := 6) hx hb hts inX4 hown hK.1 hP 0 rfl rfl 2 (by decide) fl19 (fun _ h9 => h9) rfl dX4_chooseNext_120 ?_
        refine lv_iload_n hx hb dX4_chooseNext_123 rfl (lv_at hl 2 rfl) ?_
        refine x_iald hx hb hK.1 hP 2 0 (n := 60) (f := RC) rfl rfl (k := k) (by omega) (by omega) dX4_chooseNext_124 ?_
        refine x_top (y := (cS T gp ms sk n (dpC T gp ms sk n) k d).1) (hRk) ?_
        refine lv_icmp_ge (tgt := 146) hx hb dX4_chooseNext_125 (by decide) (fun c_125 => ?_) (fun c_125 => ?_)
        · exact W.vret hx hb hr (fun t9 ht9 hW9 => ⟨⟨(RC, NT), rfl, ⟨hRk.trans (cS_end2 (by omega) (by omega) hE (Int32.not_lt.mpr c_125)).1, hNk.trans (congrArg nI (cS_end2 (by omega) (by omega) hE (Int32.not_lt.mpr c_125)).2), hRr, hNr⟩, by rw [ht9]; exact hP, hD⟩, hS.F ht9⟩) hS.2.2 dX4_chooseNext_146
        · refine lv_aload_n hx hb dX4_chooseNext_128 rfl (lv_at hl 1 rfl) ?_
          refine va_get (D := G.1) (ci := 4) (v := .ref (ad 3)) (C := RX4) (T := TX4) (N := 6) hx hb hts inX4 hown hK.1 hP 0 rfl rfl 2 (by decide) fl19 (fun _ h9 => h9) rfl dX4_chooseNext_129 ?_
          refine lv_iload_n hx hb dX4_chooseNext_132 rfl (lv_at hl 2 rfl) ?_
          refine lv_iload hx hb dX4_chooseNext_133 (lv_at hl 0 rfl) ?_
          refine x_iast hx hb hK.1 hP hD hS 2 0 (n := 60) (f := RC) rfl rfl (k := k) (by omega) (by omega) dX4_chooseNext_135 (KW G ad F (va_up (va_up R 3 NT) 2 (upd RC k (nI (sk * (n - 1 - k)))))) rfl (fun H locs hP hD hS => ?_)
          refine lv_aload_n hx hb dX4_chooseNext_136 rfl (lv_at hl 1 rfl) ?_
          refine va_get (D := G.1) (ci := 4) (v := .ref (ad 4)) (C := RX4) (T := TX4) (N := 6) hx hb hts inX4 hown hK.1 hP 0 rfl rfl 3 (by decide) fl22 (fun _ h9 => h9) rfl dX4_chooseNext_137 ?_
          refine lv_iload_n hx hb dX4_chooseNext_140 rfl (lv_at hl 2 rfl) ?_
          refine lv_aload_n hx hb dX4_chooseNext_141 rfl (lv_at hl 1 rfl) ?_
          refine va_get (D := G.1) (ci := 4) (v := .int (F 1)) (C := RX4) (T := TX4) (N := 6) hx hb hts inX4 hown hK.1 hP 0 rfl rfl 1 (by decide) fl15 (fun _ h9 => h9) rfl dX4_chooseNext_142 ?_
          refine x_top (y := nI n) (hF) ?_
          refine x_iast hx hb hK.1 hP hD hS 3 0 (n := 60) (f := NT) rfl rfl (k := k) (by omega) (by omega) dX4_chooseNext_145 (KW G ad F (va_up (va_up R 2 (upd RC k (nI (sk * (n - 1 - k))))) 3 (upd NT k (nI n)))) rfl (fun H locs hP hD hS => ?_)
          exact W.vret hx hb hr (fun t9 ht9 hW9 => ⟨⟨(upd RC k (nI (sk * (n - 1 - k))), upd NT k (nI n)), rfl, ⟨(if_pos rfl).trans (cS_end (by omega) (by omega) hE (Int32.not_le.mp c_125)).1, (if_pos rfl).trans (congrArg nI (cS_end (by omega) (by omega) hE (Int32.not_le.mp c_125)).2), fun q hq => (if_neg hq).trans (hRr q hq), fun q hq => (if_neg hq).trans (hNr q hq)⟩, by rw [ht9]; exact hP, hD⟩, hS.F ht9⟩) hS.2.2 dX4_chooseNext_146
      · have hT1 := hT (k + 1 + d) (by omega)
        have hT2 := hTm (k + 1 + d) k (by omega) (by omega)
        refine lv_iload hx hb dX4_chooseNext_32 (lv_at hl 5 rfl) ?_
        refine lv_iload_n hx hb dX4_chooseNext_34 rfl (lv_at hl 1 rfl) ?_
        refine x_isub (r := k + 1 + d - k) hx hb dX4_chooseNext_35 (by omega) ?_
        refine lv_iconst (v := nI 1) hx hb dX4_chooseNext_36 (by decide) ?_
        refine x_isub (r := k + 1 + d - k - 1) hx hb dX4_chooseNext_37 (by omega) ?_
        refine lv_iload hx hb dX4_chooseNext_38 (lv_at hl 4 rfl) ?_
        refine x_imul (r := (k + 1 + d - k - 1) * sk) hx hb dX4_chooseNext_40 (rfl) ?_
        refine lv_aload_n hx hb dX4_chooseNext_41 rfl (lv_at hl 0 rfl) ?_
        refine va_get (D := G.1) (ci := 4) (v := .ref (ad 1)) (C := RX4) (T := TX4) (N := 6) hx hb hts inX4 hown hK.1 hP 0 rfl rfl 0 (by decide) fl11 (fun _ h9 => h9) rfl dX4_chooseNext_42 ?_
        refine lv_iload hx hb dX4_chooseNext_45 (lv_at hl 5 rfl) ?_
        refine x_iald hx hb hK.1 hP 1 0 (n := 60) (f := R 0) rfl rfl (k := k + 1 + d) (by omega) (by omega) dX4_chooseNext_47 ?_
        refine x_top (y := nI (T (k + 1 + d))) ((hT (k + 1 + d) (by omega)).1) ?_
        refine lv_aload_n hx hb dX4_chooseNext_48 rfl (lv_at hl 0 rfl) ?_
        refine va_get (D := G.1) (ci := 4) (v := .ref (ad 1)) (C := RX4) (T := TX4) (N := 6) hx hb hts inX4 hown hK.1 hP 0 rfl rfl 0 (by decide) fl11 (fun _ h9 => h9) rfl dX4_chooseNext_49 ?_
        refine lv_iload_n hx hb dX4_chooseNext_52 rfl (lv_at hl 1 rfl) ?_
        refine x_iald hx hb hK.1 hP 1 0 (n := 60) (f := R 0) rfl rfl (k := k) (by omega) (by omega) dX4_chooseNext_53 ?_
        refine x_top (y := nI (T k)) ((hT k (by omega)).1) ?_
        refine x_isub (r := T (k + 1 + d) - T k) hx hb dX4_chooseNext_54 (by omega) ?_
        refine lv_iload_n hx hb dX4_chooseNext_55 rfl (lv_at hl 2 rfl) ?_
        refine lv_iload_n hx hb dX4_chooseNext_56 rfl (lv_at hl 3 rfl) ?_
        refine mx_callRO (v := .int (gapV (T (k + 1 + d) - T k) gp ms)) (va_runS (As := [.int (nI (T (k + 1 + d) - T k)), .int (nI gp), .int (nI ms)]) (rest := [.int (nI ((k + 1 + d - k - 1) * sk))]) ⟨hx, hb, hml, hown, hts⟩ (c_X4_gapCost l G (T (k + 1 + d) - T k) gp ms (by omega) (by omega) (by omega)) (va_cwS 3 hts gX4_chooseNext_X4_gapCost rfl rfl rfl (by decide +kernel) ⟨Nat.le_of_ble_eq_true rfl, Nat.le_of_ble_eq_true rfl⟩) (mx_preS hK trivial) rfl rfl hl.1 rfl (lv_room (Nat.le_of_ble_eq_true rfl)) dX4_chooseNext_57 ⟨Nat.zero_le _, Nat.zero_le _⟩) ?_
        refine lv_iadd hx hb dX4_chooseNext_60 ?_
        refine lv_aload_n hx hb dX4_chooseNext_61 rfl (lv_at hl 0 rfl) ?_
        refine va_get (D := G.1) (ci := 4) (v := .ref (ad 3)) (C := RX4) (T := TX4) (N := 6) hx hb hts inX4 hown hK.1 hP 0 rfl rfl 2 (by decide) fl19 (fun _ h9 => h9) rfl dX4_chooseNext_62 ?_
        refine lv_iload hx hb dX4_chooseNext_65 (lv_at hl 5 rfl) ?_
        refine x_iald hx hb hK.1 hP 2 0 (n := 60) (f := RC) rfl rfl (k := k + 1 + d) (by omega) (by omega) dX4_chooseNext_67 ?_
        refine x_top (y := (dpC T gp ms sk n) (k + 1 + d)) ((hRr _ (by omega)).trans (hC _ (by omega) (by omega))) ?_
        refine lv_iadd hx hb dX4_chooseNext_68 ?_
        refine x_top (y := dpV T gp ms sk (dpC T gp ms sk n) k (k + 1 + d)) (dpV_c) ?_
        refine lv_istore (lv' := [(6, .int (dpV T gp ms sk (dpC T gp ms sk n) k (k + 1 + d))), (0, .ref (ad 0)), (1, .int (nI k)), (2, .int (nI gp)), (3, .int (nI ms)), (4, .int (nI sk)), (5, .int (nI (k + 1 + d)))]) hx hb dX4_chooseNext_69 hl (by decide) rfl (fun ls hl => ?_)
        refine lv_iload hx hb dX4_chooseNext_71 (lv_at hl 0 rfl) ?_
        refine lv_aload_n hx hb dX4_chooseNext_73 rfl (lv_at hl 1 rfl) ?_
        refine va_get (D := G.1) (ci := 4) (v := .ref (ad 3)) (C := RX4) (T := TX4) (N := 6) hx hb hts inX4 hown hK.1 hP 0 rfl rfl 2 (by decide) fl19 (fun _ h9 => h9) rfl dX4_chooseNext_74 ?_
        refine lv_iload_n hx hb dX4_chooseNext_77 rfl (lv_at hl 2 rfl) ?_
        refine x_iald hx hb hK.1 hP 2 0 (n := 60) (f := RC) rfl rfl (k := k) (by omega) (by omega) dX4_chooseNext_78 ?_
        refine x_top (y := (cS T gp ms sk n (dpC T gp ms sk n) k d).1) (hRk) ?_
        refine lv_icmp_ge (tgt := 98) hx hb dX4_chooseNext_79 (by decide) (fun c_79 => ?_) (fun c_79 => ?_)
        · have e98 : cS T gp ms sk n (dpC T gp ms sk n) k (d + 1) = cS T gp ms sk n (dpC T gp ms sk n) k d := if_neg (Int32.not_lt.mpr c_79)
          refine x_iinc (lv' := [(5, .int (nI (k + 1 + d + 1))), (6, .int (dpV T gp ms sk (dpC T gp ms sk n) k (k + 1 + d))), (0, .ref (ad 0)), (1, .int (nI k)), (2, .int (nI gp)), (3, .int (nI ms)), (4, .int (nI sk))]) hx hb dX4_chooseNext_98 hl (k := 6) rfl (x_inc1 _) (by decide) rfl (fun ls hl => ?_)
          refine lv_goto (tgt := 23) hx hb dX4_chooseNext_101 (by decide) ?_
          exact ih23 (d + 1) RC NT (by omega) (by omega) (by rw [e98]; exact hRk) (by rw [e98]; exact hNk) (hRr) (hNr) _ _ hP hD hS _ (lv_sub hl [2, 3, 4, 5, 6, 0] rfl)
        · refine lv_aload_n hx hb dX4_chooseNext_82 rfl (lv_at hl 1 rfl) ?_
          refine va_get (D := G.1) (ci := 4) (v := .ref (ad 3)) (C := RX4) (T := TX4) (N := 6) hx hb hts inX4 hown hK.1 hP 0 rfl rfl 2 (by decide) fl19 (fun _ h9 => h9) rfl dX4_chooseNext_83 ?_
          refine lv_iload_n hx hb dX4_chooseNext_86 rfl (lv_at hl 2 rfl) ?_
          refine lv_iload hx hb dX4_chooseNext_87 (lv_at hl 0 rfl) ?_
          refine x_iast hx hb hK.1 hP hD hS 2 0 (n := 60) (f := RC) rfl rfl (k := k) (by omega) (by omega) dX4_chooseNext_89 (KW G ad F (va_up (va_up R 3 NT) 2 (upd RC k (dpV T gp ms sk (dpC T gp ms sk n) k (k + 1 + d))))) rfl (fun H locs hP hD hS => ?_)
          refine lv_aload_n hx hb dX4_chooseNext_90 rfl (lv_at hl 1 rfl) ?_
          refine va_get (D := G.1) (ci := 4) (v := .ref (ad 4)) (C := RX4) (T := TX4) (N := 6) hx hb hts inX4 hown hK.1 hP 0 rfl rfl 3 (by decide) fl22 (fun _ h9 => h9) rfl dX4_chooseNext_91 ?_
          refine lv_iload_n hx hb dX4_chooseNext_94 rfl (lv_at hl 2 rfl) ?_
          refine lv_iload hx hb dX4_chooseNext_95 (lv_at hl 6 rfl) ?_
          refine x_iast hx hb hK.1 hP hD hS 3 0 (n := 60) (f := NT) rfl rfl (k := k) (by omega) (by omega) dX4_chooseNext_97 (KW G ad F (va_up (va_up R 2 (upd RC k (dpV T gp ms sk (dpC T gp ms sk n) k (k + 1 + d)))) 3 (upd NT k (nI (k + 1 + d))))) rfl (fun H locs hP hD hS => ?_)
          have e98 : cS T gp ms sk n (dpC T gp ms sk n) k (d + 1) = (dpV T gp ms sk (dpC T gp ms sk n) k (k + 1 + d), k + 1 + d) := if_pos (Int32.not_le.mp c_79)
          refine x_iinc (lv' := [(5, .int (nI (k + 1 + d + 1))), (6, .int (dpV T gp ms sk (dpC T gp ms sk n) k (k + 1 + d))), (0, .ref (ad 0)), (1, .int (nI k)), (2, .int (nI gp)), (3, .int (nI ms)), (4, .int (nI sk))]) hx hb dX4_chooseNext_98 hl (k := 6) rfl (x_inc1 _) (by decide) rfl (fun ls hl => ?_)
          refine lv_goto (tgt := 23) hx hb dX4_chooseNext_101 (by decide) ?_
          exact ih23 (d + 1) (upd RC k (dpV T gp ms sk (dpC T gp ms sk n) k (k + 1 + d))) (upd NT k (nI (k + 1 + d))) (by omega) (by omega) (by rw [e98]; exact if_pos rfl) (by rw [e98]; exact if_pos rfl) (fun q hq => (if_neg hq).trans (hRr q hq)) (fun q hq => (if_neg hq).trans (hNr q hq)) _ _ hP hD hS _ (lv_sub hl [2, 3, 4, 5, 6, 0] rfl)
  exact lp23 (n - (k + 1 + 0) + 1) 0 (upd (R 2) k (nI 1073741824)) (upd (R 3) k (nI n)) (Nat.lt_succ_self _) (by omega) (if_pos rfl) (if_pos rfl) (fun q hq => if_neg hq) (fun q hq => if_neg hq) _ _ hP hD hS _ (lv_sub hl [1, 2, 3, 4, 5, 0] rfl)

set_option maxHeartbeats 4000000 in
set_option maxRecDepth 100000 in
theorem c_X4_keepBeats (l : Launch) (G : mx_G) (ad : Nat → Nat) (F : Nat → Int32) (R : Nat → Nat → Int32) (n : Nat) (T : Nat → Nat) (gp ms sk : Nat) (hF : F 1 = nI n) (hn : n ≤ 60) (hn0 : 0 < n) (hN : ∀ q, q < n → R 3 q = nI (dpN T gp ms sk n (dpC T gp ms sk n) q)) (sz : Nat) : mx_EF l yX4_keepBeats wsX4_keepBeats 0 0 0 0 G [.ref (ad 0), .int (nI (dpA sk (dpC T gp ms sk n) (n - 1)))] sz (KW G ad F R) (fun _ : Int32 × (Nat → Int32) => none) (fun u : Int32 × (Nat → Int32) => ∃ cnt, u.1 = nI cnt ∧ cnt ≤ 60 ∧ isFound T gp ms sk n cnt u.2) (fun u : Int32 × (Nat → Int32) => KW G ad (va_up F 5 u.1) (va_up R 4 u.2)) := by
  refine Met.ofW (cc := cX4_keepBeats) (maxL := 4) (ret := none) (by decide) rfl ?_
  intro p e s m args below meth c s₁ BB hml hv
  obtain ⟨rfl, ⟨hsz, hP, hD0⟩, hK⟩ := hv
  have hx := BB.exec
  have hb := BB.bytes
  have hr := BB.returns
  have hts := atoms_spec (ws := wsX4_keepBeats) BB.pre
  have hown : s.vm.findClass RX4 = some m.cls := findClass_of_methodNamed BB.named
  have hlocks := BB.notSynchronized
  subst hsz
  have hD := hD0.self (sz := s.heap.size)
  have hA : ∀ q : Nat, s.heap.size ≤ q → va_A (KW G ad F R) s.heap.size q := fun q h => Or.inr h
  have hS : va_S (va_A (KW G ad F R) s.heap.size) s.heap s.heap [] := va_S.rf
  have hfa := dpA_le sk (dpC T gp ms sk n) (n - 1)
  have fl15 := hts (.fieldLink RX4 15 "MixDesk$Strokes" "count" "I") (by decide +kernel)
  have fl22 := hts (.fieldLink RX4 22 "MixDesk$Strokes" "nextTaken" "[I") (by decide +kernel)
  have fl25 := hts (.fieldLink RX4 25 "MixDesk$Strokes" "taken" "[I") (by decide +kernel)
  have fl28 := hts (.fieldLink RX4 28 "MixDesk$Strokes" "takenCount" "I") (by decide +kernel)
  have inX4 : ∀ w ∈ wsX40, w ∈ wsX4_keepBeats := by decide +kernel
  have hl := lv_entry ([.ref (ad 0), .int (nI (dpA sk (dpC T gp ms sk n) (n - 1)))]) (n := 4) (Nat.le_of_ble_eq_true rfl)
  rw [lg_entry_eq]
  generalize (lg_sl ([.ref (ad 0), .int (nI (dpA sk (dpC T gp ms sk n) (n - 1)))]) ++ List.replicate (4 - (lg_sl ([.ref (ad 0), .int (nI (dpA sk (dpC T gp ms sk n) (n - 1)))])).length) Slot.unset).toArray = ls at hl ⊢
  have hl : lv_has ls 4 [(0, .ref (ad 0)), (1, .int (nI (dpA sk (dpC T gp ms sk n) (n - 1))))] := hl
  refine lv_aload_n hx hb dX4_keepBeats_0 rfl (lv_at hl 0 rfl) ?_
  refine lv_iconst (v := nI 0) hx hb dX4_keepBeats_1 (by decide) ?_
  refine va_put (D := G.1) (ci := 4) (v := .int (nI 0)) (ty := .int) (C := RX4) (T := TX4) (N := 6) hx hb hts inX4 tyX4 tyX4_ok nmX4 hown hK.1 hP hD hS 0 rfl rfl 5 (by decide) fl28 (fun _ h9 => h9) rfl (by decide +kernel) rfl rfl (Nat.le_of_ble_eq_true rfl) dX4_keepBeats_2 (fun H locs hP hD hS => ?_)
  have hP : va_P G.1 vwCl (KW G ad (va_up F 5 (nI 0)) R) H := hP
  have hD : va_D _ (KW G ad (va_up F 5 (nI 0)) R) := hD
  refine lv_iload_n hx hb dX4_keepBeats_5 rfl (lv_at hl 1 rfl) ?_
  refine lv_istore_n (lv' := [(2, .int (nI (dpA sk (dpC T gp ms sk n) (n - 1)))), (0, .ref (ad 0)), (1, .int (nI (dpA sk (dpC T gp ms sk n) (n - 1))))]) hx hb dX4_keepBeats_6 rfl hl (by decide) rfl (fun ls hl => ?_)
  refine lv_iload_n hx hb dX4_keepBeats_7 rfl (lv_at hl 2 rfl) ?_
  refine lv_istore_n (lv' := [(3, .int (nI (dpA sk (dpC T gp ms sk n) (n - 1)))), (2, .int (nI (dpA sk (dpC T gp ms sk n) (n - 1)))), (0, .ref (ad 0)), (1, .int (nI (dpA sk (dpC T gp ms sk n) (n - 1))))]) hx hb dX4_keepBeats_8 rfl hl (by decide) rfl (fun ls hl => ?_)
  have lp9 : ∀ (nn : Nat) (i : Nat) (f : Nat) (Q : Nat → Int32), n - i < nn → (i ≤ n) → (i ≤ dpCh T gp ms sk n (dpC T gp ms sk n) f) → (dpCh T gp ms sk n (dpC T gp ms sk n) f ≤ n) → (f ≤ i) → (∀ z, z < f → dpCh T gp ms sk n (dpC T gp ms sk n) z < n ∧ Q z = nI (dpCh T gp ms sk n (dpC T gp ms sk n) z) ∧ dpCh T gp ms sk n (dpC T gp ms sk n) z < i) → ∀ (H : Heap) (locs : List Loc), va_P G.1 vwCl (KW G ad (va_up F 5 (nI f)) (va_up R 4 Q)) H → va_D (va_A (KW G ad F R) s.heap.size) (KW G ad (va_up F 5 (nI f)) (va_up R 4 Q)) → va_S (va_A (KW G ad F R) s.heap.size) s.heap H locs → ∀ ls : Array Slot, lv_has ls 4 [(0, .ref (ad 0)), (2, .int (nI (dpCh T gp ms sk n (dpC T gp ms sk n) f))), (3, .int (nI i))] → mx_WE l wsX4_keepBeats 0 0 0 0 G p e s m (([.ref (ad 0), .int (nI (dpA sk (dpC T gp ms sk n) (n - 1)))] : List Value).toArray) below meth c (KW G ad F R) (fun _ : Int32 × (Nat → Int32) => none) (fun u : Int32 × (Nat → Int32) => ∃ cnt, u.1 = nI cnt ∧ cnt ≤ 60 ∧ isFound T gp ms sk n cnt u.2) (fun u : Int32 × (Nat → Int32) => KW G ad (va_up F 5 u.1) (va_up R 4 u.2)) H locs 0 0 (F0 m 9 ls []) := by
    intro nn
    induction nn with
    | zero => intro i f Q hmu; exact absurd hmu (Nat.not_lt_zero _)
    | succ nn ih9 =>
      intro i f Q hmu hi hle hcn hf6 hQ H locs hP hD hS ls hl
      refine lv_iload_n hx hb dX4_keepBeats_9 rfl (lv_at hl 2 rfl) ?_
      refine lv_aload_n hx hb dX4_keepBeats_10 rfl (lv_at hl 0 rfl) ?_
      refine va_get (D := G.1) (ci := 4) (v := .int (F 1)) (C := RX4) (T := TX4) (N := 6) hx hb hts inX4 hown hK.1 hP 0 rfl rfl 1 (by decide) fl15 (fun _ h9 => h9) rfl dX4_keepBeats_11 ?_
      refine x_top (y := nI n) (hF) ?_
      refine x_icmp_ge (tgt := 55) hx hb (by omega) (by omega) dX4_keepBeats_14 (by decide) (fun c_14 => ?_) (fun c_14 => ?_)
      · exact W.vret hx hb hr (fun t9 ht9 hW9 => ⟨⟨(nI f, Q), rfl, ⟨f, rfl, by omega, (by omega), fun z hz => ⟨(hQ z hz).1, (hQ z hz).2.1⟩⟩, by rw [ht9]; exact hP, hD⟩, hS.F ht9⟩) hS.2.2 dX4_keepBeats_55
      · refine lv_iload_n hx hb dX4_keepBeats_17 rfl (lv_at hl 2 rfl) ?_
        refine lv_iload_n hx hb dX4_keepBeats_18 rfl (lv_at hl 1 rfl) ?_
        refine x_icmp_ne (tgt := 49) hx hb (by omega) (by omega) dX4_keepBeats_19 (by decide) (fun c_19 => ?_) (fun c_19 => ?_)
        · refine x_iinc (lv' := [(3, .int (nI (i + 1))), (0, .ref (ad 0)), (2, .int (nI (dpCh T gp ms sk n (dpC T gp ms sk n) f)))]) hx hb dX4_keepBeats_49 hl (k := 2) rfl (x_inc1 _) (by decide) rfl (fun ls hl => ?_)
          refine lv_goto (tgt := 9) hx hb dX4_keepBeats_52 (by decide) ?_
          exact ih9 (i + 1) f Q (by omega) (by omega) (by omega) (hcn) (by omega) (fun z hz => ⟨(hQ z hz).1, (hQ z hz).2.1, Nat.lt_succ_of_lt (hQ z hz).2.2⟩) _ _ hP hD hS _ (lv_sub hl [1, 2, 0] rfl)
        · have hfl := dpCh_ge f (fun z hz => (hQ z hz).1)
          refine lv_aload_n hx hb dX4_keepBeats_22 rfl (lv_at hl 0 rfl) ?_
          refine va_get (D := G.1) (ci := 4) (v := .ref (ad 5)) (C := RX4) (T := TX4) (N := 6) hx hb hts inX4 hown hK.1 hP 0 rfl rfl 4 (by decide) fl25 (fun _ h9 => h9) rfl dX4_keepBeats_23 ?_
          refine lv_aload_n hx hb dX4_keepBeats_26 rfl (lv_at hl 0 rfl) ?_
          refine va_get (D := G.1) (ci := 4) (v := .int (nI f)) (C := RX4) (T := TX4) (N := 6) hx hb hts inX4 hown hK.1 hP 0 rfl rfl 5 (by decide) fl28 (fun _ h9 => h9) rfl dX4_keepBeats_27 ?_
          refine lv_iload_n hx hb dX4_keepBeats_30 rfl (lv_at hl 2 rfl) ?_
          refine x_iast hx hb hK.1 hP hD hS 4 0 (n := 60) (f := Q) rfl rfl (k := f) (by omega) (by omega) dX4_keepBeats_31 (KW G ad (va_up F 5 (nI f)) (va_up R 4 (upd Q f (nI i)))) rfl (fun H locs hP hD hS => ?_)
          refine lv_aload_n hx hb dX4_keepBeats_32 rfl (lv_at hl 0 rfl) ?_
          refine lv_dup hx hb dX4_keepBeats_33 rfl ?_
          refine va_get (D := G.1) (ci := 4) (v := .int (nI f)) (C := RX4) (T := TX4) (N := 6) hx hb hts inX4 hown hK.1 hP 0 rfl rfl 5 (by decide) fl28 (fun _ h9 => h9) rfl dX4_keepBeats_34 ?_
          refine lv_iconst (v := nI 1) hx hb dX4_keepBeats_37 (by decide) ?_
          refine x_iadd (r := f + 1) hx hb dX4_keepBeats_38 (rfl) ?_
          refine va_put (D := G.1) (ci := 4) (v := .int (nI (f + 1))) (ty := .int) (C := RX4) (T := TX4) (N := 6) hx hb hts inX4 tyX4 tyX4_ok nmX4 hown hK.1 hP hD hS 0 rfl rfl 5 (by decide) fl28 (fun _ h9 => h9) rfl (by decide +kernel) rfl rfl (Nat.le_of_ble_eq_true rfl) dX4_keepBeats_39 (fun H locs hP hD hS => ?_)
          have hP : va_P G.1 vwCl (KW G ad (va_up F 5 (nI (f + 1))) (va_up R 4 (upd Q f (nI i)))) H := hP
          have hD : va_D _ (KW G ad (va_up F 5 (nI (f + 1))) (va_up R 4 (upd Q f (nI i)))) := hD
          refine lv_aload_n hx hb dX4_keepBeats_42 rfl (lv_at hl 0 rfl) ?_
          refine va_get (D := G.1) (ci := 4) (v := .ref (ad 4)) (C := RX4) (T := TX4) (N := 6) hx hb hts inX4 hown hK.1 hP 0 rfl rfl 3 (by decide) fl22 (fun _ h9 => h9) rfl dX4_keepBeats_43 ?_
          refine lv_iload_n hx hb dX4_keepBeats_46 rfl (lv_at hl 2 rfl) ?_
          refine x_iald hx hb hK.1 hP 3 0 (n := 60) (f := R 3) rfl rfl (k := i) (by omega) (by omega) dX4_keepBeats_47 ?_
          refine x_top (y := nI (dpCh T gp ms sk n (dpC T gp ms sk n) (f + 1))) ((hN _ (by omega)).trans (by rw [c_19]; rfl)) ?_
          refine lv_istore_n (lv' := [(2, .int (nI (dpCh T gp ms sk n (dpC T gp ms sk n) (f + 1)))), (0, .ref (ad 0)), (3, .int (nI i))]) hx hb dX4_keepBeats_48 rfl hl (by decide) rfl (fun ls hl => ?_)
          refine x_iinc (lv' := [(3, .int (nI (i + 1))), (2, .int (nI (dpCh T gp ms sk n (dpC T gp ms sk n) (f + 1)))), (0, .ref (ad 0))]) hx hb dX4_keepBeats_49 hl (k := 2) rfl (x_inc1 _) (by decide) rfl (fun ls hl => ?_)
          refine lv_goto (tgt := 9) hx hb dX4_keepBeats_52 (by decide) ?_
          exact ih9 (i + 1) (f + 1) (upd Q f (nI i)) (by omega) (by omega) (keep_le (by omega) c_19) (keep_le2 (by omega) c_19) (by omega) (keep_s hQ (by omega) c_19) _ _ hP hD hS _ (lv_sub hl [2, 1, 0] rfl)
  exact lp9 (n - (dpA sk (dpC T gp ms sk n) (n - 1)) + 1) (dpA sk (dpC T gp ms sk n) (n - 1)) 0 (R 4) (Nat.lt_succ_self _) (by omega) (Nat.le_refl _) ((by omega : dpA sk (dpC T gp ms sk n) (n - 1) ≤ n)) (by omega) (lt_0) _ _ hP hD hS _ (lv_sub hl [2, 1, 0] rfl)

set_option maxHeartbeats 4000000 in
set_option maxRecDepth 100000 in
theorem c_X4_seekBeats (l : Launch) (G : mx_G) (ad : Nat → Nat) (F : Nat → Int32) (R : Nat → Nat → Int32) (n : Nat) (T : Nat → Nat) (gp ms sk : Nat) (hF : F 1 = nI n) (hn : n ≤ 60) (hT : ∀ i, i < n → R 0 i = nI (T i) ∧ T i ≤ 1000000) (hTm : ∀ i k, k < i → i < n → T k < T i) (hgp0 : 10 ≤ gp) (hgp : gp ≤ 1000) (hms : ms ≤ 10000) (hsk : sk ≤ 10000) (sz : Nat) : mx_EF l yX4_seekBeats wsX4_seekBeats 3 70 0 0 G [.ref (ad 0), .int (nI gp), .int (nI ms), .int (nI sk)] sz (KW G ad F R) (fun _ : Int32 × (Nat → Int32) × (Nat → Int32) × (Nat → Int32) => some (.int (if n = 0 then (-1) else fnV T gp ms sk n))) (fun u : Int32 × (Nat → Int32) × (Nat → Int32) × (Nat → Int32) => (¬ n = 0 → ∃ cnt, u.1 = nI cnt ∧ cnt ≤ 60 ∧ isFound T gp ms sk n cnt u.2.2.2) ∧ (n = 0 → u.1 = F 5 ∧ u.2.2.2 = R 4)) (fun u : Int32 × (Nat → Int32) × (Nat → Int32) × (Nat → Int32) => KW G ad (va_up F 5 u.1) (va_up (va_up (va_up R 2 u.2.1) 3 u.2.2.1) 4 u.2.2.2)) := by
  refine Met.ofW (cc := cX4_seekBeats) (maxL := 6) (ret := (some .int)) (by decide) rfl ?_
  intro p e s m args below meth c s₁ BB hml hv
  obtain ⟨rfl, ⟨hsz, hP, hD0⟩, hK⟩ := hv
  have hx := BB.exec
  have hb := BB.bytes
  have hr := BB.returns
  have hts := atoms_spec (ws := wsX4_seekBeats) BB.pre
  have hown : s.vm.findClass RX4 = some m.cls := findClass_of_methodNamed BB.named
  have hlocks := BB.notSynchronized
  subst hsz
  have hD := hD0.self (sz := s.heap.size)
  have hA : ∀ q : Nat, s.heap.size ≤ q → va_A (KW G ad F R) s.heap.size q := fun q h => Or.inr h
  have hS : va_S (va_A (KW G ad F R) s.heap.size) s.heap s.heap [] := va_S.rf
  have fl15 := hts (.fieldLink RX4 15 "MixDesk$Strokes" "count" "I") (by decide +kernel)
  have fl19 := hts (.fieldLink RX4 19 "MixDesk$Strokes" "restCost" "[I") (by decide +kernel)
  have inX4 : ∀ w ∈ wsX40, w ∈ wsX4_seekBeats := by decide +kernel
  have hl := lv_entry ([.ref (ad 0), .int (nI gp), .int (nI ms), .int (nI sk)]) (n := 6) (Nat.le_of_ble_eq_true rfl)
  rw [lg_entry_eq]
  generalize (lg_sl ([.ref (ad 0), .int (nI gp), .int (nI ms), .int (nI sk)]) ++ List.replicate (6 - (lg_sl ([.ref (ad 0), .int (nI gp), .int (nI ms), .int (nI sk)])).length) Slot.unset).toArray = ls at hl ⊢
  have hl : lv_has ls 6 [(0, .ref (ad 0)), (1, .int (nI gp)), (2, .int (nI ms)), (3, .int (nI sk))] := hl
  refine lv_aload_n hx hb dX4_seekBeats_0 rfl (lv_at hl 0 rfl) ?_
  refine va_get (D := G.1) (ci := 4) (v := .int (F 1)) (C := RX4) (T := TX4) (N := 6) hx hb hts inX4 hown hK.1 hP 0 rfl rfl 1 (by decide) fl15 (fun _ h9 => h9) rfl dX4_seekBeats_1 ?_
  refine x_top (y := nI n) (hF) ?_
  refine x_if_ne (tgt := 9) hx hb (by omega) dX4_seekBeats_4 (by decide) (fun c_4 => ?_) (fun c_4 => ?_)
  · have hn0 : 0 < n := by omega
    refine lv_aload_n hx hb dX4_seekBeats_9 rfl (lv_at hl 0 rfl) ?_
    refine va_get (D := G.1) (ci := 4) (v := .int (F 1)) (C := RX4) (T := TX4) (N := 6) hx hb hts inX4 hown hK.1 hP 0 rfl rfl 1 (by decide) fl15 (fun _ h9 => h9) rfl dX4_seekBeats_10 ?_
    refine x_top (y := nI n) (hF) ?_
    refine lv_iconst (v := nI 1) hx hb dX4_seekBeats_13 (by decide) ?_
    refine lv_isub hx hb dX4_seekBeats_14 ?_
    refine x_top (y := pr n) (pr_sub n) ?_
    refine lv_istore (lv' := [(4, .int (pr n)), (0, .ref (ad 0)), (1, .int (nI gp)), (2, .int (nI ms)), (3, .int (nI sk))]) hx hb dX4_seekBeats_15 hl (by decide) rfl (fun ls hl => ?_)
    have lp17 : ∀ (nn : Nat) (r : Nat) (RC : Nat → Int32) (NT : Nat → Int32), r < nn → (r ≤ n) → (∀ q, r ≤ q → q < n → RC q = (dpC T gp ms sk n) q) → (∀ q, r ≤ q → q < n → NT q = nI (dpN T gp ms sk n (dpC T gp ms sk n) q)) → ∀ (H : Heap) (locs : List Loc), va_P G.1 vwCl (KW G ad F (va_up (va_up R 2 RC) 3 NT)) H → va_D (va_A (KW G ad F R) s.heap.size) (KW G ad F (va_up (va_up R 2 RC) 3 NT)) → va_S (va_A (KW G ad F R) s.heap.size) s.heap H locs → ∀ ls : Array Slot, lv_has ls 6 [(0, .ref (ad 0)), (1, .int (nI gp)), (2, .int (nI ms)), (3, .int (nI sk)), (4, .int (pr r))] → mx_WE l wsX4_seekBeats 3 70 0 0 G p e s m (([.ref (ad 0), .int (nI gp), .int (nI ms), .int (nI sk)] : List Value).toArray) below meth c (KW G ad F R) (fun _ : Int32 × (Nat → Int32) × (Nat → Int32) × (Nat → Int32) => some (.int (if n = 0 then (-1) else fnV T gp ms sk n))) (fun u : Int32 × (Nat → Int32) × (Nat → Int32) × (Nat → Int32) => (¬ n = 0 → ∃ cnt, u.1 = nI cnt ∧ cnt ≤ 60 ∧ isFound T gp ms sk n cnt u.2.2.2) ∧ (n = 0 → u.1 = F 5 ∧ u.2.2.2 = R 4)) (fun u : Int32 × (Nat → Int32) × (Nat → Int32) × (Nat → Int32) => KW G ad (va_up F 5 u.1) (va_up (va_up (va_up R 2 u.2.1) 3 u.2.2.1) 4 u.2.2.2)) H locs 0 0 (F0 m 17 ls []) := by
      intro nn
      induction nn with
      | zero => intro r RC NT hmu; exact absurd hmu (Nat.not_lt_zero _)
      | succ nn ih17 =>
        intro r RC NT hmu hr9 hC hN H locs hP hD hS ls hl
        refine lv_iload hx hb dX4_seekBeats_17 (lv_at hl 4 rfl) ?_
        refine lv_if_lt (tgt := 37) hx hb dX4_seekBeats_19 (by decide) (fun c_19 => ?_) (fun c_19 => ?_)
        · obtain rfl : r = 0 := (pr_neg (by omega)).mp c_19
          have hC0 : ∀ q, q < n → RC q = (dpC T gp ms sk n) q := fun q hq => hC q (Nat.zero_le q) hq
          have hN0 : ∀ q, q < n → NT q = nI (dpN T gp ms sk n (dpC T gp ms sk n) q) := fun q hq => hN q (Nat.zero_le q) hq
          refine lv_iconst (v := nI 0) hx hb dX4_seekBeats_37 (by decide) ?_
          refine lv_istore (lv' := [(4, .int (nI 0)), (0, .ref (ad 0)), (1, .int (nI gp)), (2, .int (nI ms)), (3, .int (nI sk))]) hx hb dX4_seekBeats_38 hl (by decide) rfl (fun ls hl => ?_)
          refine lv_iconst (v := nI 1) hx hb dX4_seekBeats_40 (by decide) ?_
          refine lv_istore (lv' := [(5, .int (nI 1)), (4, .int (nI 0)), (0, .ref (ad 0)), (1, .int (nI gp)), (2, .int (nI ms)), (3, .int (nI sk))]) hx hb dX4_seekBeats_41 hl (by decide) rfl (fun ls hl => ?_)
          have lp43 : ∀ (nn : Nat) (d : Nat), n - d < nn → (d + 1 ≤ n) → ∀ (H : Heap) (locs : List Loc), va_P G.1 vwCl (KW G ad F (va_up (va_up R 2 RC) 3 NT)) H → va_D (va_A (KW G ad F R) s.heap.size) (KW G ad F (va_up (va_up R 2 RC) 3 NT)) → va_S (va_A (KW G ad F R) s.heap.size) s.heap H locs → ∀ ls : Array Slot, lv_has ls 6 [(0, .ref (ad 0)), (1, .int (nI gp)), (2, .int (nI ms)), (3, .int (nI sk)), (4, .int (nI (dpA sk (dpC T gp ms sk n) d))), (5, .int (nI (d + 1)))] → mx_WE l wsX4_seekBeats 3 70 0 0 G p e s m (([.ref (ad 0), .int (nI gp), .int (nI ms), .int (nI sk)] : List Value).toArray) below meth c (KW G ad F R) (fun _ : Int32 × (Nat → Int32) × (Nat → Int32) × (Nat → Int32) => some (.int (if n = 0 then (-1) else fnV T gp ms sk n))) (fun u : Int32 × (Nat → Int32) × (Nat → Int32) × (Nat → Int32) => (¬ n = 0 → ∃ cnt, u.1 = nI cnt ∧ cnt ≤ 60 ∧ isFound T gp ms sk n cnt u.2.2.2) ∧ (n = 0 → u.1 = F 5 ∧ u.2.2.2 = R 4)) (fun u : Int32 × (Nat → Int32) × (Nat → Int32) × (Nat → Int32) => KW G ad (va_up F 5 u.1) (va_up (va_up (va_up R 2 u.2.1) 3 u.2.2.1) 4 u.2.2.2)) H locs 0 0 (F0 m 43 ls []) := by
            intro nn
            induction nn with
            | zero => intro d hmu; exact absurd hmu (Nat.not_lt_zero _)
            | succ nn ih43 =>
              intro d hmu hd H locs hP hD hS ls hl
              refine lv_iload hx hb dX4_seekBeats_43 (lv_at hl 5 rfl) ?_
              refine lv_aload_n hx hb dX4_seekBeats_45 rfl (lv_at hl 0 rfl) ?_
              refine va_get (D := G.1) (ci := 4) (v := .int (F 1)) (C := RX4) (T := TX4) (N := 6) hx hb hts inX4 hown hK.1 hP 0 rfl rfl 1 (by decide) fl15 (fun _ h9 => h9) rfl dX4_seekBeats_46 ?_
              refine x_top (y := nI n) (hF) ?_
              refine x_icmp_ge (tgt := 89) hx hb (by omega) (by omega) dX4_seekBeats_49 (by decide) (fun c_49 => ?_) (fun c_49 => ?_)
              · have hfa := dpA_le sk (dpC T gp ms sk n) (n - 1)
                have hl : lv_has ls 6 [(0, .ref (ad 0)), (1, .int (nI gp)), (2, .int (nI ms)), (3, .int (nI sk)), (4, .int (nI (dpA sk (dpC T gp ms sk n) (n - 1)))), (5, .int (nI (d + 1)))] := Eq.mp (congrArg (fun z9 : Int32 => lv_has ls 6 [(0, .ref (ad 0)), (1, .int (nI gp)), (2, .int (nI ms)), (3, .int (nI sk)), (4, .int z9), (5, .int (nI (d + 1)))]) (show nI (dpA sk (dpC T gp ms sk n) d) = nI (dpA sk (dpC T gp ms sk n) (n - 1)) from by rw [show d = n - 1 by omega])) hl
                refine lv_aload_n hx hb dX4_seekBeats_89 rfl (lv_at hl 0 rfl) ?_
                refine lv_iload hx hb dX4_seekBeats_90 (lv_at hl 4 rfl) ?_
                refine mx_callEv (va_runV (As := [.int (nI (dpA sk (dpC T gp ms sk n) (n - 1)))]) (rest := []) ⟨hx, hb, hml, hown, hts⟩ (c_X4_keepBeats l G ad F (va_up (va_up R 2 RC) 3 NT) n T gp ms sk hF hn hn0 hN0 _) (cwV 1 hts gX4_seekBeats_X4_keepBeats rfl rfl rfl (by decide +kernel) ⟨Nat.le_of_ble_eq_true rfl, Nat.le_of_ble_eq_true rfl⟩) (mx_preV hK ⟨rfl, hP, mx_any hD (fun _ _ => trivial)⟩ (va_recv hK.1 hP (ci := 4) (q0 := 0) rfl rfl)) rfl rfl hl.1 rfl (lv_room (Nat.le_of_ble_eq_true rfl)) dX4_seekBeats_92 ⟨Nat.zero_le _, Nat.zero_le _⟩) hP hD hS hA (mx_perm0) (fun uk H locs huk hP hD hS => ?_)
                rw [List.append_nil] at hP hD
                have hP : va_P G.1 vwCl (KW G ad (va_up F 5 uk.1) (va_up (va_up (va_up R 2 RC) 3 NT) 4 uk.2)) H := hP
                have hD : va_D _ (KW G ad (va_up F 5 uk.1) (va_up (va_up (va_up R 2 RC) 3 NT) 4 uk.2)) := hD
                refine lv_iload hx hb dX4_seekBeats_95 (lv_at hl 4 rfl) ?_
                refine lv_iload_n hx hb dX4_seekBeats_97 rfl (lv_at hl 3 rfl) ?_
                refine x_imul (r := sk * dpA sk (dpC T gp ms sk n) (n - 1)) hx hb dX4_seekBeats_98 (Nat.mul_comm _ _) ?_
                refine lv_aload_n hx hb dX4_seekBeats_99 rfl (lv_at hl 0 rfl) ?_
                refine va_get (D := G.1) (ci := 4) (v := .ref (ad 3)) (C := RX4) (T := TX4) (N := 6) hx hb hts inX4 hown hK.1 hP 0 rfl rfl 2 (by decide) fl19 (fun _ h9 => h9) rfl dX4_seekBeats_100 ?_
                refine lv_iload hx hb dX4_seekBeats_103 (lv_at hl 4 rfl) ?_
                refine x_iald hx hb hK.1 hP 2 0 (n := 60) (f := RC) rfl rfl (k := dpA sk (dpC T gp ms sk n) (n - 1)) (by omega) (by omega) dX4_seekBeats_105 ?_
                refine x_top (y := (dpC T gp ms sk n) (dpA sk (dpC T gp ms sk n) (n - 1))) (hC0 _ (by omega)) ?_
                refine lv_iadd hx hb dX4_seekBeats_106 ?_
                refine x_top (y := if n = 0 then (-1) else fnV T gp ms sk n) ((if_neg c_4).symm) ?_
                exact W.iret (v := if n = 0 then (-1) else fnV T gp ms sk n) hx hb hr (fun t9 ht9 hW9 => ⟨⟨(uk.1, RC, NT, uk.2), rfl, ⟨fun _ => huk, fun q => absurd q c_4⟩, by rw [ht9]; exact hP, hD⟩, hS.F ht9⟩) hS.2.2 dX4_seekBeats_107
              · have hfa := dpA_le sk (dpC T gp ms sk n) d
                refine lv_iload hx hb dX4_seekBeats_52 (lv_at hl 5 rfl) ?_
                refine lv_iload_n hx hb dX4_seekBeats_54 rfl (lv_at hl 3 rfl) ?_
                refine x_imul (r := sk * (d + 1)) hx hb dX4_seekBeats_55 (Nat.mul_comm _ _) ?_
                refine lv_aload_n hx hb dX4_seekBeats_56 rfl (lv_at hl 0 rfl) ?_
                refine va_get (D := G.1) (ci := 4) (v := .ref (ad 3)) (C := RX4) (T := TX4) (N := 6) hx hb hts inX4 hown hK.1 hP 0 rfl rfl 2 (by decide) fl19 (fun _ h9 => h9) rfl dX4_seekBeats_57 ?_
                refine lv_iload hx hb dX4_seekBeats_60 (lv_at hl 5 rfl) ?_
                refine x_iald hx hb hK.1 hP 2 0 (n := 60) (f := RC) rfl rfl (k := d + 1) (by omega) (by omega) dX4_seekBeats_62 ?_
                refine x_top (y := (dpC T gp ms sk n) (d + 1)) (hC0 _ (by omega)) ?_
                refine lv_iadd hx hb dX4_seekBeats_63 ?_
                refine lv_iload hx hb dX4_seekBeats_64 (lv_at hl 4 rfl) ?_
                refine lv_iload_n hx hb dX4_seekBeats_66 rfl (lv_at hl 3 rfl) ?_
                refine x_imul (r := sk * dpA sk (dpC T gp ms sk n) d) hx hb dX4_seekBeats_67 (Nat.mul_comm _ _) ?_
                refine lv_aload_n hx hb dX4_seekBeats_68 rfl (lv_at hl 0 rfl) ?_
                refine va_get (D := G.1) (ci := 4) (v := .ref (ad 3)) (C := RX4) (T := TX4) (N := 6) hx hb hts inX4 hown hK.1 hP 0 rfl rfl 2 (by decide) fl19 (fun _ h9 => h9) rfl dX4_seekBeats_69 ?_
                refine lv_iload hx hb dX4_seekBeats_72 (lv_at hl 4 rfl) ?_
                refine x_iald hx hb hK.1 hP 2 0 (n := 60) (f := RC) rfl rfl (k := dpA sk (dpC T gp ms sk n) d) (by omega) (by omega) dX4_seekBeats_74 ?_
                refine x_top (y := (dpC T gp ms sk n) (dpA sk (dpC T gp ms sk n) d)) (hC0 _ (by omega)) ?_
                refine lv_iadd hx hb dX4_seekBeats_75 ?_
                refine lv_icmp_ge (tgt := 83) hx hb dX4_seekBeats_76 (by decide) (fun c_76 => ?_) (fun c_76 => ?_)
                · have hl : lv_has ls 6 [(0, .ref (ad 0)), (1, .int (nI gp)), (2, .int (nI ms)), (3, .int (nI sk)), (4, .int (nI (dpA sk (dpC T gp ms sk n) (d + 1)))), (5, .int (nI (d + 1)))] := Eq.mp (congrArg (fun z9 : Int32 => lv_has ls 6 [(0, .ref (ad 0)), (1, .int (nI gp)), (2, .int (nI ms)), (3, .int (nI sk)), (4, .int z9), (5, .int (nI (d + 1)))]) (show nI (dpA sk (dpC T gp ms sk n) d) = nI (dpA sk (dpC T gp ms sk n) (d + 1)) from (congrArg nI (if_neg (Int32.not_lt.mpr c_76))).symm)) hl
                  refine x_iinc (lv' := [(5, .int (nI (d + 1 + 1))), (0, .ref (ad 0)), (1, .int (nI gp)), (2, .int (nI ms)), (3, .int (nI sk)), (4, .int (nI (dpA sk (dpC T gp ms sk n) (d + 1))))]) hx hb dX4_seekBeats_83 hl (k := 5) rfl (x_inc1 _) (by decide) rfl (fun ls hl => ?_)
                  refine lv_goto (tgt := 43) hx hb dX4_seekBeats_86 (by decide) ?_
                  exact ih43 (d + 1) (by omega) (by omega) _ _ hP hD hS _ (lv_sub hl [1, 2, 3, 4, 5, 0] rfl)
                · refine lv_iload hx hb dX4_seekBeats_79 (lv_at hl 5 rfl) ?_
                  refine lv_istore (lv' := [(4, .int (nI (d + 1))), (0, .ref (ad 0)), (1, .int (nI gp)), (2, .int (nI ms)), (3, .int (nI sk)), (5, .int (nI (d + 1)))]) hx hb dX4_seekBeats_81 hl (by decide) rfl (fun ls hl => ?_)
                  have hl : lv_has ls 6 [(4, .int (nI (dpA sk (dpC T gp ms sk n) (d + 1)))), (0, .ref (ad 0)), (1, .int (nI gp)), (2, .int (nI ms)), (3, .int (nI sk)), (5, .int (nI (d + 1)))] := Eq.mp (congrArg (fun z9 : Int32 => lv_has ls 6 [(4, .int z9), (0, .ref (ad 0)), (1, .int (nI gp)), (2, .int (nI ms)), (3, .int (nI sk)), (5, .int (nI (d + 1)))]) (show nI (d + 1) = nI (dpA sk (dpC T gp ms sk n) (d + 1)) from (congrArg nI (if_pos (Int32.not_le.mp c_76))).symm)) hl
                  refine x_iinc (lv' := [(5, .int (nI (d + 1 + 1))), (4, .int (nI (dpA sk (dpC T gp ms sk n) (d + 1)))), (0, .ref (ad 0)), (1, .int (nI gp)), (2, .int (nI ms)), (3, .int (nI sk))]) hx hb dX4_seekBeats_83 hl (k := 5) rfl (x_inc1 _) (by decide) rfl (fun ls hl => ?_)
                  refine lv_goto (tgt := 43) hx hb dX4_seekBeats_86 (by decide) ?_
                  exact ih43 (d + 1) (by omega) (by omega) _ _ hP hD hS _ (lv_sub hl [2, 3, 4, 5, 1, 0] rfl)
          exact lp43 (n - 0 + 1) 0 (Nat.lt_succ_self _) (by omega) _ _ hP hD hS _ (lv_sub hl [2, 3, 4, 5, 1, 0] rfl)
        · obtain ⟨k, rfl⟩ : ∃ k, r = k + 1 := ⟨r - 1, by have := mt (pr_neg (r := r) (by omega)).mpr c_19; omega⟩
          have hl : lv_has ls 6 [(0, .ref (ad 0)), (1, .int (nI gp)), (2, .int (nI ms)), (3, .int (nI sk)), (4, .int (nI k))] := Eq.mp (congrArg (fun z9 : Int32 => lv_has ls 6 [(0, .ref (ad 0)), (1, .int (nI gp)), (2, .int (nI ms)), (3, .int (nI sk)), (4, .int z9)]) (show pr (k + 1) = nI k from pr_succ k)) hl
          refine lv_aload_n hx hb dX4_seekBeats_22 rfl (lv_at hl 0 rfl) ?_
          refine lv_iload hx hb dX4_seekBeats_23 (lv_at hl 4 rfl) ?_
          refine lv_iload_n hx hb dX4_seekBeats_25 rfl (lv_at hl 1 rfl) ?_
          refine lv_iload_n hx hb dX4_seekBeats_26 rfl (lv_at hl 2 rfl) ?_
          refine lv_iload_n hx hb dX4_seekBeats_27 rfl (lv_at hl 3 rfl) ?_
          refine mx_callEv (va_runV (As := [.int (nI k), .int (nI gp), .int (nI ms), .int (nI sk)]) (rest := []) ⟨hx, hb, hml, hown, hts⟩ (c_X4_chooseNext l G ad F (va_up (va_up R 2 RC) 3 NT) n T k gp ms sk hF hn hT hTm hgp0 hgp hms hsk (by omega) (fun q h1 h2 => hC q (by omega) h2) _) (cwV 4 hts gX4_seekBeats_X4_chooseNext rfl rfl rfl (by decide +kernel) ⟨Nat.le_of_ble_eq_true rfl, Nat.le_of_ble_eq_true rfl⟩) (mx_preV hK ⟨rfl, hP, mx_any hD (fun _ _ => trivial)⟩ (va_recv hK.1 hP (ci := 4) (q0 := 0) rfl rfl)) rfl rfl hl.1 rfl (lv_room (Nat.le_of_ble_eq_true rfl)) dX4_seekBeats_28 ⟨Nat.zero_le _, Nat.zero_le _⟩) hP hD hS hA (mx_perm0) (fun uc H locs huc hP hD hS => ?_)
          rw [List.append_nil] at hP hD
          have hP : va_P G.1 vwCl (KW G ad F (va_up (va_up R 2 uc.1) 3 uc.2)) H := hP
          have hD : va_D _ (KW G ad F (va_up (va_up R 2 uc.1) 3 uc.2)) := hD
          refine lv_iinc (v := pr k) (lv' := [(4, .int (pr k)), (0, .ref (ad 0)), (1, .int (nI gp)), (2, .int (nI ms)), (3, .int (nI sk))]) hx hb dX4_seekBeats_31 hl (k := 4) rfl (rfl) (by decide) rfl (fun ls hl => ?_)
          refine lv_goto (tgt := 17) hx hb dX4_seekBeats_34 (by decide) ?_
          exact ih17 k uc.1 uc.2 (by omega) (by omega) (fun q h1 h2 => seek_s huc.1 huc.2.2.1 hC q h1 h2) (fun q h1 h2 => seek_s huc.2.1 huc.2.2.2 hN q h1 h2) _ _ hP hD hS _ (lv_sub hl [1, 2, 3, 4, 0] rfl)
    exact lp17 (n + 1) n (R 2) (R 3) (Nat.lt_succ_self _) (by omega) (fun q h1 h2 => absurd h2 (by omega)) (fun q h1 h2 => absurd h2 (by omega)) _ _ hP hD hS _ (lv_sub hl [1, 2, 3, 4, 0] rfl)
  · refine lv_iconst (v := (-1)) hx hb dX4_seekBeats_7 (by decide) ?_
    refine x_top (y := if n = 0 then (-1) else fnV T gp ms sk n) ((if_pos c_4).symm) ?_
    exact W.iret (v := if n = 0 then (-1) else fnV T gp ms sk n) hx hb hr (fun t9 ht9 hW9 => ⟨⟨(F 5, R 2, R 3, R 4), rfl, ⟨fun q => absurd c_4 q, fun _ => ⟨rfl, rfl⟩⟩, by rw [ht9]; exact hP, hD⟩, hS.F ht9⟩) hS.2.2 dX4_seekBeats_8
