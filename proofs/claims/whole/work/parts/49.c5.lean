set_option maxHeartbeats 4000000 in
set_option maxRecDepth 100000 in
theorem c_X5_blend (l : Launch) (G : mx_G) (x y : Int32) (j n : Nat) (hx9 : isBt x) (hy9 : isBt y) (hj : j < 32) (h1 : 1 ≤ n) (hn : n ≤ 8) : mx_RO l yX5_blend wsX5_blend 1 22 G [.int x, .int y, .int (nI j), .int (nI n)] (fun _ => True) (.int (mjoin x y j n)) := by
  refine Met.ofW (cc := cX5_blend) (maxL := 4) (ret := (some .int)) (by decide) rfl ?_
  intro p e s m args below meth c s₁ BB hml hv
  obtain ⟨rfl, -, hK⟩ := hv
  have hx := BB.exec
  have hb := BB.bytes
  have hr := BB.returns
  have hts := atoms_spec (ws := wsX5_blend) BB.pre
  have hown : s.vm.findClass RX5 = some m.cls := findClass_of_methodNamed BB.named
  have hlocks := BB.notSynchronized
  have hl := lv_entry ([.int x, .int y, .int (nI j), .int (nI n)]) (n := 4) (Nat.le_of_ble_eq_true rfl)
  rw [lg_entry_eq]
  generalize (lg_sl ([.int x, .int y, .int (nI j), .int (nI n)]) ++ List.replicate (4 - (lg_sl ([.int x, .int y, .int (nI j), .int (nI n)])).length) Slot.unset).toArray = ls at hl ⊢
  have hl : lv_has ls 4 [(0, .int x), (1, .int y), (2, .int (nI j)), (3, .int (nI n))] := hl
  show mx_WR l wsX5_blend 1 22 p e s m (([.int x, .int y, .int (nI j), .int (nI n)] : List Value).toArray) below meth c (.int (mjoin x y j n)) (F0 m 0 ls [])
  refine lv_iload_n hx hb dX5_blend_0 rfl (lv_at hl 0 rfl) ?_
  refine lv_iload_n hx hb dX5_blend_1 rfl (lv_at hl 1 rfl) ?_
  refine lv_iload_n hx hb dX5_blend_2 rfl (lv_at hl 0 rfl) ?_
  refine lv_isub hx hb dX5_blend_3 ?_
  refine lv_iload_n hx hb dX5_blend_4 rfl (lv_at hl 2 rfl) ?_
  refine lv_imul hx hb dX5_blend_5 ?_
  refine lv_iconst (v := nI 2) hx hb dX5_blend_6 (by decide) ?_
  refine lv_iload_n hx hb dX5_blend_7 rfl (lv_at hl 3 rfl) ?_
  refine x_imul (r := 2 * n) hx hb dX5_blend_8 (rfl) ?_
  refine lv_iadd hx hb dX5_blend_9 ?_
  refine lv_iconst (v := nI 4) hx hb dX5_blend_10 (by decide) ?_
  refine lv_iload_n hx hb dX5_blend_11 rfl (lv_at hl 3 rfl) ?_
  refine x_imul (r := 4 * n) hx hb dX5_blend_12 (rfl) ?_
  refine mx_callRO (v := .int (jfd (((y - x) * (nI j)) + (nI (2 * n))) (nI (4 * n)))) (va_runS (As := [.int (((y - x) * (nI j)) + (nI (2 * n))), .int (nI (4 * n))]) (rest := [.int x]) ⟨hx, hb, hml, hown, hts⟩ (c_J9_floorDiv l G (((y - x) * (nI j)) + (nI (2 * n))) (nI (4 * n)) (nI_ne0 (by omega) (by omega))) (va_cwS 2 hts gX5_blend_J9_floorDiv_7cf53 rfl rfl rfl (by decide +kernel) ⟨Nat.le_of_ble_eq_true rfl, Nat.le_of_ble_eq_true rfl⟩) (mx_preS hK trivial) rfl rfl hl.1 rfl (lv_room (Nat.le_of_ble_eq_true rfl)) dX5_blend_13 ⟨Nat.zero_le _, Nat.zero_le _⟩) ?_
  refine x_top (y := mfloor ((y - x) * nI j + nI (2 * n)) (nI (4 * n))) (jn_fd hx9 hy9 hj h1 hn) ?_
  refine lv_iadd hx hb dX5_blend_16 ?_
  refine x_top (y := mjoin x y j n) (by rfl) ?_
  exact W.iret (v := mjoin x y j n) hx hb hr (fun t9 ht9 hW9 => ⟨rfl, ht9⟩) (fun _ h => by cases h) dX5_blend_17

set_option maxHeartbeats 4000000 in
set_option maxRecDepth 100000 in
theorem c_X5_bendOf (l : Launch) (G : mx_G) (x y c9 : Int32) (hx9 : ¬ x = 0) (hy9 : ¬ y = 0) : mx_RO l yX5_bendOf wsX5_bendOf 1 21 G [.int x, .int y, .int c9] (fun _ => True) (.int (mbend c9 x y)) := by
  refine Met.ofW (cc := cX5_bendOf) (maxL := 3) (ret := (some .int)) (by decide) rfl ?_
  intro p e s m args below meth c s₁ BB hml hv
  obtain ⟨rfl, -, hK⟩ := hv
  have hx := BB.exec
  have hb := BB.bytes
  have hr := BB.returns
  have hts := atoms_spec (ws := wsX5_bendOf) BB.pre
  have hown : s.vm.findClass RX5 = some m.cls := findClass_of_methodNamed BB.named
  have hlocks := BB.notSynchronized
  have hl := lv_entry ([.int x, .int y, .int c9]) (n := 3) (Nat.le_of_ble_eq_true rfl)
  rw [lg_entry_eq]
  generalize (lg_sl ([.int x, .int y, .int c9]) ++ List.replicate (3 - (lg_sl ([.int x, .int y, .int c9])).length) Slot.unset).toArray = ls at hl ⊢
  have hl : lv_has ls 3 [(0, .int x), (1, .int y), (2, .int c9)] := hl
  show mx_WR l wsX5_bendOf 1 21 p e s m (([.int x, .int y, .int c9] : List Value).toArray) below meth c (.int (mbend c9 x y)) (F0 m 0 ls [])
  refine lv_iload_n hx hb dX5_bendOf_0 rfl (lv_at hl 2 rfl) ?_
  refine lv_iload_n hx hb dX5_bendOf_1 rfl (lv_at hl 0 rfl) ?_
  refine lv_isub hx hb dX5_bendOf_2 ?_
  refine va_mabs hx hb (hml.trans hl.1.symm) hown (hts (.methodLink RX5 206 Lib.Math.abs.name) (by decide +kernel)) (hts (.static Lib.Math.abs.name) (by decide +kernel)) (hts (.initialized "java/lang/Math") (by decide +kernel)) (hts (.code Lib.Math.abs.name Lib.Math.abs.code 1 (some .int)) (by decide +kernel)) (Nat.le_of_ble_eq_true rfl) (Nat.le_of_ble_eq_true rfl) (Nat.zero_le _) (Nat.zero_le _) dX5_bendOf_3 ?_
  refine x_top (y := mabs (c9 - x)) rfl ?_
  refine x_top (y := msize (c9 - x)) (mabs_eq _) ?_
  refine lv_sipush (v := nI 1000) hx hb dX5_bendOf_6 (by decide) ?_
  refine lv_imul hx hb dX5_bendOf_9 ?_
  refine lv_iload_n hx hb dX5_bendOf_10 rfl (lv_at hl 0 rfl) ?_
  refine lv_idiv hx hb dX5_bendOf_11 (hx9) ?_
  refine lv_iload_n hx hb dX5_bendOf_12 rfl (lv_at hl 2 rfl) ?_
  refine lv_iload_n hx hb dX5_bendOf_13 rfl (lv_at hl 1 rfl) ?_
  refine lv_isub hx hb dX5_bendOf_14 ?_
  refine va_mabs hx hb (hml.trans hl.1.symm) hown (hts (.methodLink RX5 206 Lib.Math.abs.name) (by decide +kernel)) (hts (.static Lib.Math.abs.name) (by decide +kernel)) (hts (.initialized "java/lang/Math") (by decide +kernel)) (hts (.code Lib.Math.abs.name Lib.Math.abs.code 1 (some .int)) (by decide +kernel)) (Nat.le_of_ble_eq_true rfl) (Nat.le_of_ble_eq_true rfl) (Nat.zero_le _) (Nat.zero_le _) dX5_bendOf_15 ?_
  refine x_top (y := mabs (c9 - y)) rfl ?_
  refine x_top (y := msize (c9 - y)) (mabs_eq _) ?_
  refine lv_sipush (v := nI 1000) hx hb dX5_bendOf_18 (by decide) ?_
  refine lv_imul hx hb dX5_bendOf_21 ?_
  refine lv_iload_n hx hb dX5_bendOf_22 rfl (lv_at hl 1 rfl) ?_
  refine lv_idiv hx hb dX5_bendOf_23 (hy9) ?_
  refine va_mmax hx hb (hml.trans hl.1.symm) hown (hts (.methodLink RX5 231 Lib.Math.max.name) (by decide +kernel)) (hts (.static Lib.Math.max.name) (by decide +kernel)) (hts (.initialized "java/lang/Math") (by decide +kernel)) (hts (.code Lib.Math.max.name Lib.Math.max.code 2 (some .int)) (by decide +kernel)) (Nat.le_of_ble_eq_true rfl) (Nat.le_of_ble_eq_true rfl) (Nat.zero_le _) (Nat.zero_le _) dX5_bendOf_24 ?_
  refine x_top (y := mmax (((msize (c9 - x)) * (nI 1000)) / x) (((msize (c9 - y)) * (nI 1000)) / y)) rfl ?_
  refine x_top (y := mbend c9 x y) (mmax_mb _ _ _) ?_
  exact W.iret (v := mbend c9 x y) hx hb hr (fun t9 ht9 hW9 => ⟨rfl, ht9⟩) (fun _ h => by cases h) dX5_bendOf_27

set_option maxHeartbeats 4000000 in
set_option maxRecDepth 100000 in
theorem c_X0_apart (l : Launch) (G : mx_G) (aj : Nat → Nat) (FJ : Nat → Int32) (RJ : Nat → Nat → Int32)(a1 : Nat → Nat) (F1 : Nat → Int32) (R1 : Nat → Nat → Int32)(a2 : Nat → Nat) (F2 : Nat → Int32) (R2 : Nat → Nat → Int32) (σ τ : Sg) (k1 : F1 5 = gKey σ) (e1 : F1 6 = gHeat σ) (k2 : F2 5 = gKey τ) (e2 : F2 6 = gHeat τ) : mx_RO l yX0_apart wsX0_apart 1 21 G [.ref (aj 0), .ref (a1 0), .ref (a2 0)] (fun H => va_P G.1 vwCl ((JW G aj FJ RJ) ++ ((SW G a1 F1 R1) ++ (SW G a2 F2 R2))) H) (.int (malways (FJ 1) (FJ 2) σ τ)) := by
  refine Met.ofW (cc := cX0_apart) (maxL := 5) (ret := (some .int)) (by decide) rfl ?_
  intro p e s m args below meth c s₁ BB hml hv
  obtain ⟨rfl, hP, hK⟩ := hv
  have hx := BB.exec
  have hb := BB.bytes
  have hr := BB.returns
  have hts := atoms_spec (ws := wsX0_apart) BB.pre
  have hown : s.vm.findClass RX0 = some m.cls := findClass_of_methodNamed BB.named
  have hlocks := BB.notSynchronized
  have hP : va_P G.1 vwCl ((JW G aj FJ RJ) ++ ((SW G a1 F1 R1) ++ (SW G a2 F2 R2))) s.heap := hP
  have fl15 := hts (.fieldLink RX0 15 "MixDesk$Joins" "keyCost" "I") (by decide +kernel)
  have fl18 := hts (.fieldLink RX0 18 "MixDesk$Joins" "heatCost" "I") (by decide +kernel)
  have fl73 := hts (.fieldLink RX0 73 "MixDesk$Song" "key" "I") (by decide +kernel)
  have fl80 := hts (.fieldLink RX0 80 "MixDesk$Song" "heat" "I") (by decide +kernel)
  have inX0 : ∀ w ∈ wsX00, w ∈ wsX0_apart := by decide +kernel
  have inX3 : ∀ w ∈ wsX30, w ∈ wsX0_apart := by decide +kernel
  have hl := lv_entry ([.ref (aj 0), .ref (a1 0), .ref (a2 0)]) (n := 5) (Nat.le_of_ble_eq_true rfl)
  rw [lg_entry_eq]
  generalize (lg_sl ([.ref (aj 0), .ref (a1 0), .ref (a2 0)]) ++ List.replicate (5 - (lg_sl ([.ref (aj 0), .ref (a1 0), .ref (a2 0)])).length) Slot.unset).toArray = ls at hl ⊢
  have hl : lv_has ls 5 [(0, .ref (aj 0)), (1, .ref (a1 0)), (2, .ref (a2 0))] := hl
  show mx_WR l wsX0_apart 1 21 p e s m (([.ref (aj 0), .ref (a1 0), .ref (a2 0)] : List Value).toArray) below meth c (.int (malways (FJ 1) (FJ 2) σ τ)) (F0 m 0 ls [])
  refine lv_aload_n hx hb dX0_apart_0 rfl (lv_at hl 1 rfl) ?_
  refine va_get (D := G.1) (ci := 3) (v := .int (F1 5)) (C := RX3) (T := TX3) (N := 19) hx hb hts inX3 hown hK.1 hP 6 rfl rfl 5 (by decide) fl73 (fun _ h9 => h9) rfl dX0_apart_1 ?_
  refine x_top (y := gKey σ) (k1) ?_
  refine lv_bipush (v := nI 12) hx hb dX0_apart_4 (by decide) ?_
  refine lv_irem hx hb dX0_apart_6 (by decide) ?_
  refine lv_aload_n hx hb dX0_apart_7 rfl (lv_at hl 2 rfl) ?_
  refine va_get (D := G.1) (ci := 3) (v := .int (F2 5)) (C := RX3) (T := TX3) (N := 19) hx hb hts inX3 hown hK.1 hP 14 rfl rfl 5 (by decide) fl73 (fun _ h9 => h9) rfl dX0_apart_8 ?_
  refine x_top (y := gKey τ) (k2) ?_
  refine lv_bipush (v := nI 12) hx hb dX0_apart_11 (by decide) ?_
  refine lv_irem hx hb dX0_apart_13 (by decide) ?_
  refine lv_isub hx hb dX0_apart_14 ?_
  refine va_mabs hx hb (hml.trans hl.1.symm) hown (hts (.methodLink RX0 63 Lib.Math.abs.name) (by decide +kernel)) (hts (.static Lib.Math.abs.name) (by decide +kernel)) (hts (.initialized "java/lang/Math") (by decide +kernel)) (hts (.code Lib.Math.abs.name Lib.Math.abs.code 1 (some .int)) (by decide +kernel)) (Nat.le_of_ble_eq_true rfl) (Nat.le_of_ble_eq_true rfl) (Nat.zero_le _) (Nat.zero_le _) dX0_apart_15 ?_
  refine x_top (y := mabs (((gKey σ) - (gKey σ) / (nI 12) * (nI 12)) - ((gKey τ) - (gKey τ) / (nI 12) * (nI 12)))) rfl ?_
  refine x_top (y := msize (krem (gKey σ) - krem (gKey τ))) (mabs_eq _) ?_
  refine lv_istore_n (lv' := [(3, .int (msize (krem (gKey σ) - krem (gKey τ)))), (0, .ref (aj 0)), (1, .ref (a1 0)), (2, .ref (a2 0))]) hx hb dX0_apart_18 rfl hl (by decide) rfl (fun ls hl => ?_)
  refine lv_iload_n hx hb dX0_apart_19 rfl (lv_at hl 0 rfl) ?_
  refine lv_bipush (v := nI 12) hx hb dX0_apart_20 (by decide) ?_
  refine lv_iload_n hx hb dX0_apart_22 rfl (lv_at hl 0 rfl) ?_
  refine lv_isub hx hb dX0_apart_23 ?_
  refine va_mmin hx hb (hml.trans hl.1.symm) hown (hts (.methodLink RX0 76 Lib.Math.min.name) (by decide +kernel)) (hts (.static Lib.Math.min.name) (by decide +kernel)) (hts (.initialized "java/lang/Math") (by decide +kernel)) (hts (.code Lib.Math.min.name Lib.Math.min.code 2 (some .int)) (by decide +kernel)) (Nat.le_of_ble_eq_true rfl) (Nat.le_of_ble_eq_true rfl) (Nat.zero_le _) (Nat.zero_le _) dX0_apart_24 ?_
  refine x_top (y := mmin (msize (krem (gKey σ) - krem (gKey τ))) ((nI 12) - (msize (krem (gKey σ) - krem (gKey τ))))) rfl ?_
  refine x_top (y := kdist (msize (krem (gKey σ) - krem (gKey τ)))) (mmin_kd) ?_
  refine lv_aload_n hx hb dX0_apart_27 rfl (lv_at hl 2 rfl) ?_
  refine va_get (D := G.1) (ci := 3) (v := .int (F1 5)) (C := RX3) (T := TX3) (N := 19) hx hb hts inX3 hown hK.1 hP 6 rfl rfl 5 (by decide) fl73 (fun _ h9 => h9) rfl dX0_apart_28 ?_
  refine x_top (y := gKey σ) (k1) ?_
  refine lv_bipush (v := nI 12) hx hb dX0_apart_31 (by decide) ?_
  refine lv_idiv hx hb dX0_apart_33 (by decide) ?_
  refine lv_aload_n hx hb dX0_apart_34 rfl (lv_at hl 3 rfl) ?_
  refine va_get (D := G.1) (ci := 3) (v := .int (F2 5)) (C := RX3) (T := TX3) (N := 19) hx hb hts inX3 hown hK.1 hP 14 rfl rfl 5 (by decide) fl73 (fun _ h9 => h9) rfl dX0_apart_35 ?_
  refine x_top (y := gKey τ) (k2) ?_
  refine lv_bipush (v := nI 12) hx hb dX0_apart_38 (by decide) ?_
  refine lv_idiv hx hb dX0_apart_40 (by decide) ?_
  refine lv_icmp_ne (tgt := 48) hx hb dX0_apart_41 (by decide) (fun c_41 => ?_) (fun c_41 => ?_)
  · refine lv_iconst (v := nI 1) hx hb dX0_apart_48 (by decide) ?_
    refine lv_iadd hx hb dX0_apart_49 ?_
    refine lv_istore (lv' := [(4, .int ((kdist (msize (krem (gKey σ) - krem (gKey τ)))) + (nI 1))), (3, .int (msize (krem (gKey σ) - krem (gKey τ)))), (0, .ref (aj 0)), (1, .ref (a1 0)), (2, .ref (a2 0))]) hx hb dX0_apart_50 hl (by decide) rfl (fun ls hl => ?_)
    refine lv_aload_n hx hb dX0_apart_52 rfl (lv_at hl 2 rfl) ?_
    refine va_get (D := G.1) (ci := 0) (v := .int (FJ 1)) (C := RX0) (T := TX0) (N := 8) hx hb hts inX0 hown hK.1 hP 0 rfl rfl 1 (by decide) fl15 (fun _ h9 => h9) rfl dX0_apart_53 ?_
    refine lv_iload hx hb dX0_apart_56 (lv_at hl 0 rfl) ?_
    refine lv_imul hx hb dX0_apart_58 ?_
    refine lv_aload_n hx hb dX0_apart_59 rfl (lv_at hl 2 rfl) ?_
    refine va_get (D := G.1) (ci := 0) (v := .int (FJ 2)) (C := RX0) (T := TX0) (N := 8) hx hb hts inX0 hown hK.1 hP 0 rfl rfl 2 (by decide) fl18 (fun _ h9 => h9) rfl dX0_apart_60 ?_
    refine lv_aload_n hx hb dX0_apart_63 rfl (lv_at hl 3 rfl) ?_
    refine va_get (D := G.1) (ci := 3) (v := .int (F1 6)) (C := RX3) (T := TX3) (N := 19) hx hb hts inX3 hown hK.1 hP 6 rfl rfl 6 (by decide) fl80 (fun _ h9 => h9) rfl dX0_apart_64 ?_
    refine x_top (y := gHeat σ) (e1) ?_
    refine lv_aload_n hx hb dX0_apart_67 rfl (lv_at hl 4 rfl) ?_
    refine va_get (D := G.1) (ci := 3) (v := .int (F2 6)) (C := RX3) (T := TX3) (N := 19) hx hb hts inX3 hown hK.1 hP 14 rfl rfl 6 (by decide) fl80 (fun _ h9 => h9) rfl dX0_apart_68 ?_
    refine x_top (y := gHeat τ) (e2) ?_
    refine lv_isub hx hb dX0_apart_71 ?_
    refine va_mabs hx hb (hml.trans hl.1.symm) hown (hts (.methodLink RX0 63 Lib.Math.abs.name) (by decide +kernel)) (hts (.static Lib.Math.abs.name) (by decide +kernel)) (hts (.initialized "java/lang/Math") (by decide +kernel)) (hts (.code Lib.Math.abs.name Lib.Math.abs.code 1 (some .int)) (by decide +kernel)) (Nat.le_of_ble_eq_true rfl) (Nat.le_of_ble_eq_true rfl) (Nat.zero_le _) (Nat.zero_le _) dX0_apart_72 ?_
    refine x_top (y := mabs ((gHeat σ) - (gHeat τ))) rfl ?_
    refine x_top (y := msize (gHeat σ - gHeat τ)) (mabs_eq _) ?_
    refine lv_imul hx hb dX0_apart_75 ?_
    refine lv_iadd hx hb dX0_apart_76 ?_
    refine x_top (y := malways (FJ 1) (FJ 2) σ τ) (by unfold malways mkeys krem; rw [if_neg c_41]) ?_
    exact W.iret (v := malways (FJ 1) (FJ 2) σ τ) hx hb hr (fun t9 ht9 hW9 => ⟨rfl, ht9⟩) (fun _ h => by cases h) dX0_apart_77
  · refine lv_iconst (v := nI 0) hx hb dX0_apart_44 (by decide) ?_
    refine lv_goto (tgt := 49) hx hb dX0_apart_45 (by decide) ?_
    refine lv_iadd hx hb dX0_apart_49 ?_
    refine lv_istore (lv' := [(4, .int ((kdist (msize (krem (gKey σ) - krem (gKey τ)))) + (nI 0))), (3, .int (msize (krem (gKey σ) - krem (gKey τ)))), (0, .ref (aj 0)), (1, .ref (a1 0)), (2, .ref (a2 0))]) hx hb dX0_apart_50 hl (by decide) rfl (fun ls hl => ?_)
    refine lv_aload_n hx hb dX0_apart_52 rfl (lv_at hl 2 rfl) ?_
    refine va_get (D := G.1) (ci := 0) (v := .int (FJ 1)) (C := RX0) (T := TX0) (N := 8) hx hb hts inX0 hown hK.1 hP 0 rfl rfl 1 (by decide) fl15 (fun _ h9 => h9) rfl dX0_apart_53 ?_
    refine lv_iload hx hb dX0_apart_56 (lv_at hl 0 rfl) ?_
    refine lv_imul hx hb dX0_apart_58 ?_
    refine lv_aload_n hx hb dX0_apart_59 rfl (lv_at hl 2 rfl) ?_
    refine va_get (D := G.1) (ci := 0) (v := .int (FJ 2)) (C := RX0) (T := TX0) (N := 8) hx hb hts inX0 hown hK.1 hP 0 rfl rfl 2 (by decide) fl18 (fun _ h9 => h9) rfl dX0_apart_60 ?_
    refine lv_aload_n hx hb dX0_apart_63 rfl (lv_at hl 3 rfl) ?_
    refine va_get (D := G.1) (ci := 3) (v := .int (F1 6)) (C := RX3) (T := TX3) (N := 19) hx hb hts inX3 hown hK.1 hP 6 rfl rfl 6 (by decide) fl80 (fun _ h9 => h9) rfl dX0_apart_64 ?_
    refine x_top (y := gHeat σ) (e1) ?_
    refine lv_aload_n hx hb dX0_apart_67 rfl (lv_at hl 4 rfl) ?_
    refine va_get (D := G.1) (ci := 3) (v := .int (F2 6)) (C := RX3) (T := TX3) (N := 19) hx hb hts inX3 hown hK.1 hP 14 rfl rfl 6 (by decide) fl80 (fun _ h9 => h9) rfl dX0_apart_68 ?_
    refine x_top (y := gHeat τ) (e2) ?_
    refine lv_isub hx hb dX0_apart_71 ?_
    refine va_mabs hx hb (hml.trans hl.1.symm) hown (hts (.methodLink RX0 63 Lib.Math.abs.name) (by decide +kernel)) (hts (.static Lib.Math.abs.name) (by decide +kernel)) (hts (.initialized "java/lang/Math") (by decide +kernel)) (hts (.code Lib.Math.abs.name Lib.Math.abs.code 1 (some .int)) (by decide +kernel)) (Nat.le_of_ble_eq_true rfl) (Nat.le_of_ble_eq_true rfl) (Nat.zero_le _) (Nat.zero_le _) dX0_apart_72 ?_
    refine x_top (y := mabs ((gHeat σ) - (gHeat τ))) rfl ?_
    refine x_top (y := msize (gHeat σ - gHeat τ)) (mabs_eq _) ?_
    refine lv_imul hx hb dX0_apart_75 ?_
    refine lv_iadd hx hb dX0_apart_76 ?_
    refine x_top (y := malways (FJ 1) (FJ 2) σ τ) (by unfold malways mkeys krem; rw [if_pos c_41]) ?_
    exact W.iret (v := malways (FJ 1) (FJ 2) σ τ) hx hb hr (fun t9 ht9 hW9 => ⟨rfl, ht9⟩) (fun _ h => by cases h) dX0_apart_77

set_option maxHeartbeats 4000000 in
set_option maxRecDepth 100000 in
theorem c_X0_slot (l : Launch) (G : mx_G) (a b n : Nat) (h1 : 1 ≤ n) : mx_RO l yX0_slot wsX0_slot 0 0 G [.int (nI a), .int (nI b), .int (nI n)] (fun _ => True) (.int (nI (slotN a b n))) := by
  refine Met.ofW (cc := cX0_slot) (maxL := 3) (ret := (some .int)) (by decide) rfl ?_
  intro p e s m args below meth c s₁ BB hml hv
  obtain ⟨rfl, -, hK⟩ := hv
  have hx := BB.exec
  have hb := BB.bytes
  have hr := BB.returns
  have hts := atoms_spec (ws := wsX0_slot) BB.pre
  have hown : s.vm.findClass RX0 = some m.cls := findClass_of_methodNamed BB.named
  have hlocks := BB.notSynchronized
  have hl := lv_entry ([.int (nI a), .int (nI b), .int (nI n)]) (n := 3) (Nat.le_of_ble_eq_true rfl)
  rw [lg_entry_eq]
  generalize (lg_sl ([.int (nI a), .int (nI b), .int (nI n)]) ++ List.replicate (3 - (lg_sl ([.int (nI a), .int (nI b), .int (nI n)])).length) Slot.unset).toArray = ls at hl ⊢
  have hl : lv_has ls 3 [(0, .int (nI a)), (1, .int (nI b)), (2, .int (nI n))] := hl
  show mx_WR l wsX0_slot 0 0 p e s m (([.int (nI a), .int (nI b), .int (nI n)] : List Value).toArray) below meth c (.int (nI (slotN a b n))) (F0 m 0 ls [])
  refine lv_iload_n hx hb dX0_slot_0 rfl (lv_at hl 2 rfl) ?_
  refine lv_iconst (v := nI 1) hx hb dX0_slot_1 (by decide) ?_
  refine x_isub (r := n - 1) hx hb dX0_slot_2 (by omega) ?_
  refine lv_bipush (v := nI 12) hx hb dX0_slot_3 (by decide) ?_
  refine x_imul (r := (n - 1) * 12) hx hb dX0_slot_5 (rfl) ?_
  refine lv_iload_n hx hb dX0_slot_6 rfl (lv_at hl 0 rfl) ?_
  refine x_iadd (r := (n - 1) * 12 + a) hx hb dX0_slot_7 (rfl) ?_
  refine lv_bipush (v := nI 12) hx hb dX0_slot_8 (by decide) ?_
  refine x_imul (r := ((n - 1) * 12 + a) * 12) hx hb dX0_slot_10 (rfl) ?_
  refine lv_iload_n hx hb dX0_slot_11 rfl (lv_at hl 1 rfl) ?_
  refine x_iadd (r := slotN a b n) hx hb dX0_slot_12 (rfl) ?_
  exact W.iret (v := nI (slotN a b n)) hx hb hr (fun t9 ht9 hW9 => ⟨rfl, ht9⟩) (fun _ h => by cases h) dX0_slot_13

set_option maxHeartbeats 4000000 in
set_option maxRecDepth 100000 in
theorem c_X0_canBegin (l : Launch) (G : mx_G) (ad : Nat → Nat) (F : Nat → Int32) (R : Nat → Nat → Int32) (σ : Sg) (u n : Nat) (hN : soN F σ) (ok : sgOk σ) (hQ : soQ F R σ) (hu : u < gPB σ) (hn : n ≤ 8) : mx_RO l yX0_canBegin wsX0_canBegin 1 21 G [.ref (ad 0), .int (nI u), .int (nI n)] (fun H => va_P G.1 vwCl (SW G ad F R) H) (.int (b2i (cuC σ n u))) := by
  refine Met.ofW (cc := cX0_canBegin) (maxL := 3) (ret := (some .boolean)) (by decide) rfl ?_
  intro p e s m args below meth c s₁ BB hml hv
  obtain ⟨rfl, hP, hK⟩ := hv
  have hx := BB.exec
  have hb := BB.bytes
  have hr := BB.returns
  have hts := atoms_spec (ws := wsX0_canBegin) BB.pre
  have hown : s.vm.findClass RX0 = some m.cls := findClass_of_methodNamed BB.named
  have hlocks := BB.notSynchronized
  have hP : va_P G.1 vwCl (SW G ad F R) s.heap := hP
  have hpb := gPB_le ok
  have hgw := gW_le σ (gPB σ - u)
  have fl109 := hts (.fieldLink RX0 109 "MixDesk$Song" "wholeFrom" "[I") (by decide +kernel)
  have inX3 : ∀ w ∈ wsX30, w ∈ wsX0_canBegin := by decide +kernel
  have hl := lv_entry ([.ref (ad 0), .int (nI u), .int (nI n)]) (n := 3) (Nat.le_of_ble_eq_true rfl)
  rw [lg_entry_eq]
  generalize (lg_sl ([.ref (ad 0), .int (nI u), .int (nI n)]) ++ List.replicate (3 - (lg_sl ([.ref (ad 0), .int (nI u), .int (nI n)])).length) Slot.unset).toArray = ls at hl ⊢
  have hl : lv_has ls 3 [(0, .ref (ad 0)), (1, .int (nI u)), (2, .int (nI n))] := hl
  show mx_WR l wsX0_canBegin 1 21 p e s m (([.ref (ad 0), .int (nI u), .int (nI n)] : List Value).toArray) below meth c (.int (b2i (cuC σ n u))) (F0 m 0 ls [])
  refine lv_aload_n hx hb dX0_canBegin_0 rfl (lv_at hl 0 rfl) ?_
  refine va_get (D := G.1) (ci := 3) (v := .ref (ad 18)) (C := RX3) (T := TX3) (N := 19) hx hb hts inX3 hown hK.1 hP 0 rfl rfl 17 (by decide) fl109 (fun _ h9 => h9) rfl dX0_canBegin_1 ?_
  refine lv_iload_n hx hb dX0_canBegin_4 rfl (lv_at hl 1 rfl) ?_
  refine x_iald hx hb hK.1 hP 6 0 (n := 65) (f := R 17) rfl rfl (k := u) (by omega) (by omega) dX0_canBegin_5 ?_
  refine x_top (y := nI (gW σ (gPB σ - u))) (hQ.2.2.2.1 _ (by omega)) ?_
  refine lv_iload_n hx hb dX0_canBegin_6 rfl (lv_at hl 2 rfl) ?_
  refine x_icmp_lt (tgt := 22) hx hb (by omega) (by omega) dX0_canBegin_7 (by decide) (fun c_7 => ?_) (fun c_7 => ?_)
  · refine lv_iconst (v := nI 0) hx hb dX0_canBegin_22 (by decide) ?_
    refine x_top (y := b2i (cuC σ n u)) (b2i_f (fun q => by omega)) ?_
    exact W.zret (v := b2i (cuC σ n u)) hx hb hr (b2i_n _) (fun t9 ht9 hW9 => ⟨rfl, ht9⟩) (fun _ h => by cases h) dX0_canBegin_23
  · refine lv_aload_n hx hb dX0_canBegin_10 rfl (lv_at hl 0 rfl) ?_
    refine lv_iload_n hx hb dX0_canBegin_11 rfl (lv_at hl 1 rfl) ?_
    refine mx_callRO (v := .int (gPhr σ u)) (va_runV (As := [.int (nI u)]) (rest := []) ⟨hx, hb, hml, hown, hts⟩ (c_X3_beginsPhrase l G ad F R σ u hN ok hQ (by omega)) (cwV 1 hts gX0_canBegin_X3_beginsPhrase rfl rfl rfl (by decide +kernel) ⟨Nat.le_of_ble_eq_true rfl, Nat.le_of_ble_eq_true rfl⟩) (mx_preV hK hP (va_recv hK.1 hP (ci := 3) (q0 := 0) rfl rfl)) rfl rfl hl.1 rfl (lv_room (Nat.le_of_ble_eq_true rfl)) dX0_canBegin_12 ⟨Nat.zero_le _, Nat.zero_le _⟩) ?_
    refine lv_if_eq (tgt := 22) hx hb dX0_canBegin_15 (by decide) (fun c_15 => ?_) (fun c_15 => ?_)
    · refine lv_iconst (v := nI 0) hx hb dX0_canBegin_22 (by decide) ?_
      refine x_top (y := b2i (cuC σ n u)) (b2i_f (fun q => q.2 c_15)) ?_
      exact W.zret (v := b2i (cuC σ n u)) hx hb hr (b2i_n _) (fun t9 ht9 hW9 => ⟨rfl, ht9⟩) (fun _ h => by cases h) dX0_canBegin_23
    · refine lv_iconst (v := nI 1) hx hb dX0_canBegin_18 (by decide) ?_
      refine lv_goto (tgt := 23) hx hb dX0_canBegin_19 (by decide) ?_
      refine x_top (y := b2i (cuC σ n u)) (b2i_t ⟨by omega, c_15⟩) ?_
      exact W.zret (v := b2i (cuC σ n u)) hx hb hr (b2i_n _) (fun t9 ht9 hW9 => ⟨rfl, ht9⟩) (fun _ h => by cases h) dX0_canBegin_23

set_option maxHeartbeats 4000000 in
set_option maxRecDepth 100000 in
theorem c_X0_bentBy (l : Launch) (G : mx_G) (aj : Nat → Nat) (FJ : Nat → Int32) (RJ : Nat → Nat → Int32)(a1 : Nat → Nat) (F1 : Nat → Int32) (R1 : Nat → Nat → Int32)(a2 : Nat → Nat) (F2 : Nat → Int32) (R2 : Nat → Nat → Int32) (σ τ : Sg) (n u w : Nat) (lim : Int32) (ok : sgOk σ) (ok2 : sgOk τ) (h1 : 1 ≤ n) (hn : n ≤ 8) (hu : u + n ≤ 64) (hw : w + n ≤ 64) (hX : ∀ j, j < 4 * n → R1 18 (4 * u + j) = gRow σ (4 * u + j)) (hY : ∀ j, j < 4 * n → R2 18 (4 * w + j) = gRow τ (4 * w + j)) : mx_RO l yX0_bentBy wsX0_bentBy 2 45 G [.ref (aj 0), .ref (a1 0), .ref (a2 0), .int (nI n), .int (nI u), .int (nI w), .int lim] (fun H => va_P G.1 vwCl ((JW G aj FJ RJ) ++ ((SW G a1 F1 R1) ++ (SW G a2 F2 R2))) H) (.int (bentL (jCost (FJ 0) σ τ n u w) lim)) := by
  refine Met.ofW (cc := cX0_bentBy) (maxL := 12) (ret := (some .int)) (by decide) rfl ?_
  intro p e s m args below meth c s₁ BB hml hv
  obtain ⟨rfl, hP, hK⟩ := hv
  have hx := BB.exec
  have hb := BB.bytes
  have hr := BB.returns
  have hts := atoms_spec (ws := wsX0_bentBy) BB.pre
  have hown : s.vm.findClass RX0 = some m.cls := findClass_of_methodNamed BB.named
  have hlocks := BB.notSynchronized
  have hP : va_P G.1 vwCl ((JW G aj FJ RJ) ++ ((SW G a1 F1 R1) ++ (SW G a2 F2 R2))) s.heap := hP
  have hIs : mIs (fun j => gRow σ (4 * u + j)) (fun j => gRow τ (4 * w + j)) n := fun j _ => ⟨gRow_b ok _, gRow_b ok2 _⟩
  have fl56 := hts (.fieldLink RX0 56 "MixDesk$Song" "lastsAt" "[I") (by decide +kernel)
  have fl9 := hts (.fieldLink RX0 9 "MixDesk$Joins" "bound" "I") (by decide +kernel)
  have inX0 : ∀ w ∈ wsX00, w ∈ wsX0_bentBy := by decide +kernel
  have inX3 : ∀ w ∈ wsX30, w ∈ wsX0_bentBy := by decide +kernel
  have ck72 := hts (.constant RX0 72 (1073741824)) (by decide +kernel)
  have hl := lv_entry ([.ref (aj 0), .ref (a1 0), .ref (a2 0), .int (nI n), .int (nI u), .int (nI w), .int lim]) (n := 12) (Nat.le_of_ble_eq_true rfl)
  rw [lg_entry_eq]
  generalize (lg_sl ([.ref (aj 0), .ref (a1 0), .ref (a2 0), .int (nI n), .int (nI u), .int (nI w), .int lim]) ++ List.replicate (12 - (lg_sl ([.ref (aj 0), .ref (a1 0), .ref (a2 0), .int (nI n), .int (nI u), .int (nI w), .int lim])).length) Slot.unset).toArray = ls at hl ⊢
  have hl : lv_has ls 12 [(0, .ref (aj 0)), (1, .ref (a1 0)), (2, .ref (a2 0)), (3, .int (nI n)), (4, .int (nI u)), (5, .int (nI w)), (6, .int lim)] := hl
  show mx_WR l wsX0_bentBy 2 45 p e s m (([.ref (aj 0), .ref (a1 0), .ref (a2 0), .int (nI n), .int (nI u), .int (nI w), .int lim] : List Value).toArray) below meth c (.int (bentL (jCost (FJ 0) σ τ n u w) lim)) (F0 m 0 ls [])
  refine lv_iconst (v := nI 0) hx hb dX0_bentBy_0 (by decide) ?_
  refine lv_istore (lv' := [(7, .int (nI 0)), (0, .ref (aj 0)), (1, .ref (a1 0)), (2, .ref (a2 0)), (3, .int (nI n)), (4, .int (nI u)), (5, .int (nI w)), (6, .int lim)]) hx hb dX0_bentBy_1 hl (by decide) rfl (fun ls hl => ?_)
  refine lv_iconst (v := nI 0) hx hb dX0_bentBy_3 (by decide) ?_
  refine lv_istore (lv' := [(8, .int (nI 0)), (7, .int (nI 0)), (0, .ref (aj 0)), (1, .ref (a1 0)), (2, .ref (a2 0)), (3, .int (nI n)), (4, .int (nI u)), (5, .int (nI w)), (6, .int lim)]) hx hb dX0_bentBy_4 hl (by decide) rfl (fun ls hl => ?_)
  have lp6 : ∀ (nn : Nat) (j : Nat), 4 * n - j < nn → (j ≤ 4 * n) → (0 < j → isum (mone (fun j => gRow σ (4 * u + j)) (fun j => gRow τ (4 * w + j)) n) j < lim) → (∀ z, z < j → mbend (mlast (fun j => gRow σ (4 * u + j)) (fun j => gRow τ (4 * w + j)) n z) (gRow σ (4 * u + z)) (gRow τ (4 * w + z)) ≤ FJ 0) → ∀ ls : Array Slot, lv_has ls 12 [(0, .ref (aj 0)), (1, .ref (a1 0)), (2, .ref (a2 0)), (3, .int (nI n)), (4, .int (nI u)), (5, .int (nI w)), (6, .int lim), (7, .int (isum (mone (fun j => gRow σ (4 * u + j)) (fun j => gRow τ (4 * w + j)) n) j)), (8, .int (nI j))] → mx_WR l wsX0_bentBy 2 45 p e s m (([.ref (aj 0), .ref (a1 0), .ref (a2 0), .int (nI n), .int (nI u), .int (nI w), .int lim] : List Value).toArray) below meth c (.int (bentL (jCost (FJ 0) σ τ n u w) lim)) (F0 m 6 ls []) := by
    intro nn
    induction nn with
    | zero => intro j hmu; exact absurd hmu (Nat.not_lt_zero _)
    | succ nn ih6 =>
      intro j hmu hj hlim hbs ls hl
      refine lv_iload hx hb dX0_bentBy_6 (lv_at hl 8 rfl) ?_
      refine lv_iconst (v := nI 4) hx hb dX0_bentBy_8 (by decide) ?_
      refine lv_iload_n hx hb dX0_bentBy_9 rfl (lv_at hl 3 rfl) ?_
      refine x_imul (r := 4 * n) hx hb dX0_bentBy_10 (rfl) ?_
      refine x_icmp_ge (tgt := 108) hx hb (by omega) (by omega) dX0_bentBy_11 (by decide) (fun c_11 => ?_) (fun c_11 => ?_)
      · refine lv_iload hx hb dX0_bentBy_108 (lv_at hl 7 rfl) ?_
        refine x_top (y := bentL (jCost (FJ 0) σ τ n u w) lim) (by rw [show j = 4 * n by omega]; exact bent_3 h1 hn hIs (fun z hz => hbs z (by omega)) (by rw [← show j = 4 * n by omega]; exact hlim (by omega))) ?_
        exact W.iret (v := bentL (jCost (FJ 0) σ τ n u w) lim) hx hb hr (fun t9 ht9 hW9 => ⟨rfl, ht9⟩) (fun _ h => by cases h) dX0_bentBy_110
      · refine lv_aload_n hx hb dX0_bentBy_14 rfl (lv_at hl 1 rfl) ?_
        refine va_get (D := G.1) (ci := 3) (v := .ref (a1 19)) (C := RX3) (T := TX3) (N := 19) hx hb hts inX3 hown hK.1 hP 6 rfl rfl 18 (by decide) fl56 (fun _ h9 => h9) rfl dX0_bentBy_15 ?_
        refine lv_iconst (v := nI 4) hx hb dX0_bentBy_18 (by decide) ?_
        refine lv_iload hx hb dX0_bentBy_19 (lv_at hl 4 rfl) ?_
        refine x_imul (r := 4 * u) hx hb dX0_bentBy_21 (rfl) ?_
        refine lv_iload hx hb dX0_bentBy_22 (lv_at hl 8 rfl) ?_
        refine x_iadd (r := 4 * u + j) hx hb dX0_bentBy_24 (rfl) ?_
        refine x_iald hx hb hK.1 hP 13 0 (n := 256) (f := R1 18) rfl rfl (k := 4 * u + j) (by omega) (by omega) dX0_bentBy_25 ?_
        refine x_top (y := gRow σ (4 * u + j)) (hX _ (by omega)) ?_
        refine lv_istore (lv' := [(9, .int (gRow σ (4 * u + j))), (0, .ref (aj 0)), (1, .ref (a1 0)), (2, .ref (a2 0)), (3, .int (nI n)), (4, .int (nI u)), (5, .int (nI w)), (6, .int lim), (7, .int (isum (mone (fun j => gRow σ (4 * u + j)) (fun j => gRow τ (4 * w + j)) n) j)), (8, .int (nI j))]) hx hb dX0_bentBy_26 hl (by decide) rfl (fun ls hl => ?_)
        refine lv_aload_n hx hb dX0_bentBy_28 rfl (lv_at hl 3 rfl) ?_
        refine va_get (D := G.1) (ci := 3) (v := .ref (a2 19)) (C := RX3) (T := TX3) (N := 19) hx hb hts inX3 hown hK.1 hP 14 rfl rfl 18 (by decide) fl56 (fun _ h9 => h9) rfl dX0_bentBy_29 ?_
        refine lv_iconst (v := nI 4) hx hb dX0_bentBy_32 (by decide) ?_
        refine lv_iload hx hb dX0_bentBy_33 (lv_at hl 6 rfl) ?_
        refine x_imul (r := 4 * w) hx hb dX0_bentBy_35 (rfl) ?_
        refine lv_iload hx hb dX0_bentBy_36 (lv_at hl 9 rfl) ?_
        refine x_iadd (r := 4 * w + j) hx hb dX0_bentBy_38 (rfl) ?_
        refine x_iald hx hb hK.1 hP 21 0 (n := 256) (f := R2 18) rfl rfl (k := 4 * w + j) (by omega) (by omega) dX0_bentBy_39 ?_
        refine x_top (y := gRow τ (4 * w + j)) (hY _ (by omega)) ?_
        refine lv_istore (lv' := [(10, .int (gRow τ (4 * w + j))), (9, .int (gRow σ (4 * u + j))), (0, .ref (aj 0)), (1, .ref (a1 0)), (2, .ref (a2 0)), (3, .int (nI n)), (4, .int (nI u)), (5, .int (nI w)), (6, .int lim), (7, .int (isum (mone (fun j => gRow σ (4 * u + j)) (fun j => gRow τ (4 * w + j)) n) j)), (8, .int (nI j))]) hx hb dX0_bentBy_40 hl (by decide) rfl (fun ls hl => ?_)
        refine lv_iload hx hb dX0_bentBy_42 (lv_at hl 1 rfl) ?_
        refine lv_iload hx hb dX0_bentBy_44 (lv_at hl 0 rfl) ?_
        refine lv_iload hx hb dX0_bentBy_46 (lv_at hl 10 rfl) ?_
        refine lv_iload_n hx hb dX0_bentBy_48 rfl (lv_at hl 5 rfl) ?_
        refine mx_callRO (v := .int (mjoin (gRow σ (4 * u + j)) (gRow τ (4 * w + j)) j n)) (va_runSN (As := [.int (gRow σ (4 * u + j)), .int (gRow τ (4 * w + j)), .int (nI j), .int (nI n)]) (rest := []) ⟨hx, hb, hml, hown, hts⟩ (c_X5_blend l G (gRow σ (4 * u + j)) (gRow τ (4 * w + j)) j n (gRow_b ok _) (gRow_b ok2 _) (by omega) h1 hn) ⟨va_cnB 4 hts gX0_bentBy_X5_blend_n59 rfl rfl rfl (hK.2.1 ("MixDesk$Joins", 59, yX5_blend, "MixDesk") (by decide +kernel)) (hts (.initialized RX5) (by decide +kernel)) (by decide +kernel) ⟨Nat.le_of_ble_eq_true rfl, Nat.le_of_ble_eq_true rfl⟩, hts (.static yX5_blend) (by decide +kernel), trivial⟩ (mx_preS hK trivial) rfl rfl hl.1 rfl (lv_room (Nat.le_of_ble_eq_true rfl)) dX0_bentBy_49 ⟨Nat.zero_le _, Nat.zero_le _⟩) ?_
        refine x_top (y := mlast (fun j => gRow σ (4 * u + j)) (fun j => gRow τ (4 * w + j)) n j) (rfl) ?_
        refine lv_istore (lv' := [(11, .int (mlast (fun j => gRow σ (4 * u + j)) (fun j => gRow τ (4 * w + j)) n j)), (10, .int (gRow τ (4 * w + j))), (9, .int (gRow σ (4 * u + j))), (0, .ref (aj 0)), (1, .ref (a1 0)), (2, .ref (a2 0)), (3, .int (nI n)), (4, .int (nI u)), (5, .int (nI w)), (6, .int lim), (7, .int (isum (mone (fun j => gRow σ (4 * u + j)) (fun j => gRow τ (4 * w + j)) n) j)), (8, .int (nI j))]) hx hb dX0_bentBy_52 hl (by decide) rfl (fun ls hl => ?_)
        refine lv_iload hx hb dX0_bentBy_54 (lv_at hl 10 rfl) ?_
        refine lv_iload hx hb dX0_bentBy_56 (lv_at hl 0 rfl) ?_
        refine lv_iload hx hb dX0_bentBy_58 (lv_at hl 2 rfl) ?_
        refine lv_isub hx hb dX0_bentBy_60 ?_
        refine va_mabs hx hb (hml.trans hl.1.symm) hown (hts (.methodLink RX0 63 Lib.Math.abs.name) (by decide +kernel)) (hts (.static Lib.Math.abs.name) (by decide +kernel)) (hts (.initialized "java/lang/Math") (by decide +kernel)) (hts (.code Lib.Math.abs.name Lib.Math.abs.code 1 (some .int)) (by decide +kernel)) (Nat.le_of_ble_eq_true rfl) (Nat.le_of_ble_eq_true rfl) (Nat.zero_le _) (Nat.zero_le _) dX0_bentBy_61 ?_
        refine x_top (y := mabs ((mlast (fun j => gRow σ (4 * u + j)) (fun j => gRow τ (4 * w + j)) n j) - (gRow σ (4 * u + j)))) rfl ?_
        refine x_top (y := msize (mlast (fun j => gRow σ (4 * u + j)) (fun j => gRow τ (4 * w + j)) n j - gRow σ (4 * u + j))) (mabs_eq _) ?_
        refine lv_iload hx hb dX0_bentBy_64 (lv_at hl 0 rfl) ?_
        refine lv_iload hx hb dX0_bentBy_66 (lv_at hl 1 rfl) ?_
        refine lv_isub hx hb dX0_bentBy_68 ?_
        refine va_mabs hx hb (hml.trans hl.1.symm) hown (hts (.methodLink RX0 63 Lib.Math.abs.name) (by decide +kernel)) (hts (.static Lib.Math.abs.name) (by decide +kernel)) (hts (.initialized "java/lang/Math") (by decide +kernel)) (hts (.code Lib.Math.abs.name Lib.Math.abs.code 1 (some .int)) (by decide +kernel)) (Nat.le_of_ble_eq_true rfl) (Nat.le_of_ble_eq_true rfl) (Nat.zero_le _) (Nat.zero_le _) dX0_bentBy_69 ?_
        refine x_top (y := mabs ((mlast (fun j => gRow σ (4 * u + j)) (fun j => gRow τ (4 * w + j)) n j) - (gRow τ (4 * w + j)))) rfl ?_
        refine x_top (y := msize (mlast (fun j => gRow σ (4 * u + j)) (fun j => gRow τ (4 * w + j)) n j - gRow τ (4 * w + j))) (mabs_eq _) ?_
        refine lv_iadd hx hb dX0_bentBy_72 ?_
        refine x_top (y := mone (fun j => gRow σ (4 * u + j)) (fun j => gRow τ (4 * w + j)) n j) (rfl) ?_
        refine lv_iadd hx hb dX0_bentBy_73 ?_
        refine x_top (y := isum (mone (fun j => gRow σ (4 * u + j)) (fun j => gRow τ (4 * w + j)) n) (j + 1)) (rfl) ?_
        refine lv_istore (lv' := [(7, .int (isum (mone (fun j => gRow σ (4 * u + j)) (fun j => gRow τ (4 * w + j)) n) (j + 1))), (11, .int (mlast (fun j => gRow σ (4 * u + j)) (fun j => gRow τ (4 * w + j)) n j)), (10, .int (gRow τ (4 * w + j))), (9, .int (gRow σ (4 * u + j))), (0, .ref (aj 0)), (1, .ref (a1 0)), (2, .ref (a2 0)), (3, .int (nI n)), (4, .int (nI u)), (5, .int (nI w)), (6, .int lim), (8, .int (nI j))]) hx hb dX0_bentBy_74 hl (by decide) rfl (fun ls hl => ?_)
        refine lv_iload hx hb dX0_bentBy_76 (lv_at hl 0 rfl) ?_
        refine lv_iload hx hb dX0_bentBy_78 (lv_at hl 10 rfl) ?_
        refine lv_icmp_ge (tgt := 99) hx hb dX0_bentBy_80 (by decide) (fun c_80 => ?_) (fun c_80 => ?_)
        · refine lv_ldc hx hb hown ck72 dX0_bentBy_99 ?_
          refine x_top (y := nI 1073741824) (by decide) ?_
          refine x_top (y := bentL (jCost (FJ 0) σ τ n u w) lim) (bent_1 h1 hn hIs (j := j) (by omega) c_80) ?_
          exact W.iret (v := bentL (jCost (FJ 0) σ τ n u w) lim) hx hb hr (fun t9 ht9 hW9 => ⟨rfl, ht9⟩) (fun _ h => by cases h) dX0_bentBy_101
        · refine lv_iload hx hb dX0_bentBy_83 (lv_at hl 3 rfl) ?_
          refine lv_iload hx hb dX0_bentBy_85 (lv_at hl 2 rfl) ?_
          refine lv_iload hx hb dX0_bentBy_87 (lv_at hl 1 rfl) ?_
          refine mx_callRO (v := .int (mbend (mlast (fun j => gRow σ (4 * u + j)) (fun j => gRow τ (4 * w + j)) n j) (gRow σ (4 * u + j)) (gRow τ (4 * w + j)))) (va_runSN (As := [.int (gRow σ (4 * u + j)), .int (gRow τ (4 * w + j)), .int (mlast (fun j => gRow σ (4 * u + j)) (fun j => gRow τ (4 * w + j)) n j)]) (rest := []) ⟨hx, hb, hml, hown, hts⟩ (c_X5_bendOf l G (gRow σ (4 * u + j)) (gRow τ (4 * w + j)) (mlast (fun j => gRow σ (4 * u + j)) (fun j => gRow τ (4 * w + j)) n j) (gRow_ne ok _) (gRow_ne ok2 _)) ⟨va_cnB 3 hts gX0_bentBy_X5_bendOf_n69 rfl rfl rfl (hK.2.1 ("MixDesk$Joins", 69, yX5_bendOf, "MixDesk") (by decide +kernel)) (hts (.initialized RX5) (by decide +kernel)) (by decide +kernel) ⟨Nat.le_of_ble_eq_true rfl, Nat.le_of_ble_eq_true rfl⟩, hts (.static yX5_bendOf) (by decide +kernel), trivial⟩ (mx_preS hK trivial) rfl rfl hl.1 rfl (lv_room (Nat.le_of_ble_eq_true rfl)) dX0_bentBy_89 ⟨Nat.zero_le _, Nat.zero_le _⟩) ?_
          refine lv_aload_n hx hb dX0_bentBy_92 rfl (lv_at hl 4 rfl) ?_
          refine va_get (D := G.1) (ci := 0) (v := .int (FJ 0)) (C := RX0) (T := TX0) (N := 8) hx hb hts inX0 hown hK.1 hP 0 rfl rfl 0 (by decide) fl9 (fun _ h9 => h9) rfl dX0_bentBy_93 ?_
          refine lv_icmp_le (tgt := 102) hx hb dX0_bentBy_96 (by decide) (fun c_96 => ?_) (fun c_96 => ?_)
          · refine x_iinc (lv' := [(8, .int (nI (j + 1))), (7, .int (isum (mone (fun j => gRow σ (4 * u + j)) (fun j => gRow τ (4 * w + j)) n) (j + 1))), (11, .int (mlast (fun j => gRow σ (4 * u + j)) (fun j => gRow τ (4 * w + j)) n j)), (10, .int (gRow τ (4 * w + j))), (9, .int (gRow σ (4 * u + j))), (0, .ref (aj 0)), (1, .ref (a1 0)), (2, .ref (a2 0)), (3, .int (nI n)), (4, .int (nI u)), (5, .int (nI w)), (6, .int lim)]) hx hb dX0_bentBy_102 hl (k := 11) rfl (x_inc1 _) (by decide) rfl (fun ls hl => ?_)
            refine lv_goto (tgt := 6) hx hb dX0_bentBy_105 (by decide) ?_
            exact ih6 (j + 1) (by omega) (by omega) (fun _ => Int32.not_le.mp c_80) (lt_s hbs c_96) _ (lv_sub hl [5, 6, 7, 8, 9, 10, 11, 1, 0] rfl)
          · refine lv_ldc hx hb hown ck72 dX0_bentBy_99 ?_
            refine x_top (y := nI 1073741824) (by decide) ?_
            refine x_top (y := bentL (jCost (FJ 0) σ τ n u w) lim) (bent_2 (j := j) (by omega) (Int32.not_le.mp c_96)) ?_
            exact W.iret (v := bentL (jCost (FJ 0) σ τ n u w) lim) hx hb hr (fun t9 ht9 hW9 => ⟨rfl, ht9⟩) (fun _ h => by cases h) dX0_bentBy_101
  exact lp6 (4 * n - 0 + 1) 0 (Nat.lt_succ_self _) (by omega) (fun q => absurd q (by omega)) (fun z hz => absurd hz (by omega)) _ (lv_sub hl [2, 3, 4, 5, 6, 7, 8, 1, 0] rfl)

set_option maxHeartbeats 4000000 in
set_option maxRecDepth 100000 in
theorem c_X0_listLate (l : Launch) (G : mx_G) (aj : Nat → Nat) (FJ : Nat → Int32) (RJ : Nat → Nat → Int32)(ad : Nat → Nat) (F : Nat → Int32) (R : Nat → Nat → Int32) (σ : Sg) (n : Nat) (hN : soN F σ) (ok : sgOk σ) (hQ : soQ F R σ) (h1 : 1 ≤ n) (hn : n ≤ 8) (sz : Nat) : mx_EF l yX0_listLate wsX0_listLate 2 43 0 0 G [.ref (aj 0), .ref (ad 0), .int (nI n)] sz ((JW G aj FJ RJ) ++ (SW G ad F R)) (fun _ : Nat → Int32 => some (.int (nI (kS (alC (R 18) n) (fun d => gPB σ + 1 - n - 1 - d) (cuC σ n) (gPB σ + 1 - n)).1))) (fun u : Nat → Int32 => ∀ i, i < (kS (alC (R 18) n) (fun d => gPB σ + 1 - n - 1 - d) (cuC σ n) (gPB σ + 1 - n)).1 → u i = nI ((kS (alC (R 18) n) (fun d => gPB σ + 1 - n - 1 - d) (cuC σ n) (gPB σ + 1 - n)).2 i)) (fun u : Nat → Int32 => JW G aj FJ (va_up RJ 6 u) ++ (SW G ad F R)) := by
  refine Met.ofW (cc := cX0_listLate) (maxL := 5) (ret := (some .int)) (by decide) rfl ?_
  intro p e s m args below meth c s₁ BB hml hv
  obtain ⟨rfl, ⟨hsz, hP, hD0⟩, hK⟩ := hv
  have hx := BB.exec
  have hb := BB.bytes
  have hr := BB.returns
  have hts := atoms_spec (ws := wsX0_listLate) BB.pre
  have hown : s.vm.findClass RX0 = some m.cls := findClass_of_methodNamed BB.named
  have hlocks := BB.notSynchronized
  subst hsz
  have hD := hD0.self (sz := s.heap.size)
  have hA : ∀ q : Nat, s.heap.size ≤ q → va_A ((JW G aj FJ RJ) ++ (SW G ad F R)) s.heap.size q := fun q h => Or.inr h
  have hS : va_S (va_A ((JW G aj FJ RJ) ++ (SW G ad F R)) s.heap.size) s.heap s.heap [] := va_S.rf
  have hpb := gPB_le ok
  have fl31 := hts (.fieldLink RX0 31 "MixDesk$Joins" "late" "[I") (by decide +kernel)
  have fl98 := hts (.fieldLink RX0 98 "MixDesk$Song" "playedBars" "I") (by decide +kernel)
  have inX0 : ∀ w ∈ wsX00, w ∈ wsX0_listLate := by decide +kernel
  have inX3 : ∀ w ∈ wsX30, w ∈ wsX0_listLate := by decide +kernel
  have hl := lv_entry ([.ref (aj 0), .ref (ad 0), .int (nI n)]) (n := 5) (Nat.le_of_ble_eq_true rfl)
  rw [lg_entry_eq]
  generalize (lg_sl ([.ref (aj 0), .ref (ad 0), .int (nI n)]) ++ List.replicate (5 - (lg_sl ([.ref (aj 0), .ref (ad 0), .int (nI n)])).length) Slot.unset).toArray = ls at hl ⊢
  have hl : lv_has ls 5 [(0, .ref (aj 0)), (1, .ref (ad 0)), (2, .int (nI n))] := hl
  refine lv_iconst (v := nI 0) hx hb dX0_listLate_0 (by decide) ?_
  refine lv_istore_n (lv' := [(3, .int (nI 0)), (0, .ref (aj 0)), (1, .ref (ad 0)), (2, .int (nI n))]) hx hb dX0_listLate_1 rfl hl (by decide) rfl (fun ls hl => ?_)
  refine lv_aload_n hx hb dX0_listLate_2 rfl (lv_at hl 2 rfl) ?_
  refine va_get (D := G.1) (ci := 3) (v := .int (F 11)) (C := RX3) (T := TX3) (N := 19) hx hb hts inX3 hown hK.1 hP 6 rfl rfl 11 (by decide) fl98 (fun _ h9 => h9) rfl dX0_listLate_3 ?_
  refine x_top (y := nI (gPB σ)) (hQ.1) ?_
  refine lv_iload_n hx hb dX0_listLate_6 rfl (lv_at hl 3 rfl) ?_
  refine lv_isub hx hb dX0_listLate_7 ?_
  refine x_top (y := pz (gPB σ) n 0) (by unfold pz; rw [show nI 0 = 0 from rfl, Int32.sub_zero]) ?_
  refine lv_istore (lv' := [(4, .int (pz (gPB σ) n 0)), (3, .int (nI 0)), (0, .ref (aj 0)), (1, .ref (ad 0)), (2, .int (nI n))]) hx hb dX0_listLate_8 hl (by decide) rfl (fun ls hl => ?_)
  have lp10 : ∀ (nn : Nat) (d : Nat) (LA : Nat → Int32), gPB σ + 1 - n - d < nn → (d ≤ gPB σ + 1 - n) → (∀ i, i < (kS (alC (R 18) n) (fun d => gPB σ + 1 - n - 1 - d) (cuC σ n) d).1 → LA i = nI ((kS (alC (R 18) n) (fun d => gPB σ + 1 - n - 1 - d) (cuC σ n) d).2 i)) → ∀ (H : Heap) (locs : List Loc), va_P G.1 vwCl ((JW G aj FJ (va_up RJ 6 LA)) ++ (SW G ad F R)) H → va_D (va_A ((JW G aj FJ RJ) ++ (SW G ad F R)) s.heap.size) ((JW G aj FJ (va_up RJ 6 LA)) ++ (SW G ad F R)) → va_S (va_A ((JW G aj FJ RJ) ++ (SW G ad F R)) s.heap.size) s.heap H locs → ∀ ls : Array Slot, lv_has ls 5 [(0, .ref (aj 0)), (1, .ref (ad 0)), (2, .int (nI n)), (3, .int (nI ((kS (alC (R 18) n) (fun d => gPB σ + 1 - n - 1 - d) (cuC σ n) d).1))), (4, .int (pz (gPB σ) n d))] → mx_WE l wsX0_listLate 2 43 0 0 G p e s m (([.ref (aj 0), .ref (ad 0), .int (nI n)] : List Value).toArray) below meth c ((JW G aj FJ RJ) ++ (SW G ad F R)) (fun _ : Nat → Int32 => some (.int (nI (kS (alC (R 18) n) (fun d => gPB σ + 1 - n - 1 - d) (cuC σ n) (gPB σ + 1 - n)).1))) (fun u : Nat → Int32 => ∀ i, i < (kS (alC (R 18) n) (fun d => gPB σ + 1 - n - 1 - d) (cuC σ n) (gPB σ + 1 - n)).1 → u i = nI ((kS (alC (R 18) n) (fun d => gPB σ + 1 - n - 1 - d) (cuC σ n) (gPB σ + 1 - n)).2 i)) (fun u : Nat → Int32 => JW G aj FJ (va_up RJ 6 u) ++ (SW G ad F R)) H locs 0 0 (F0 m 10 ls []) := by
    intro nn
    induction nn with
    | zero => intro d LA hmu; exact absurd hmu (Nat.not_lt_zero _)
    | succ nn ih10 =>
      intro d LA hmu hd hLA H locs hP hD hS ls hl
      refine lv_iload hx hb dX0_listLate_10 (lv_at hl 4 rfl) ?_
      refine lv_if_lt (tgt := 64) hx hb dX0_listLate_12 (by decide) (fun c_12 => ?_) (fun c_12 => ?_)
      · have hgt := (pz_neg (P := gPB σ) (n := n) (d := d) (by omega) (by omega) (by omega)).mp c_12
        have ed : d = gPB σ + 1 - n := by omega
        have hl : lv_has ls 5 [(0, .ref (aj 0)), (1, .ref (ad 0)), (2, .int (nI n)), (3, .int (nI ((kS (alC (R 18) n) (fun d => gPB σ + 1 - n - 1 - d) (cuC σ n) (gPB σ + 1 - n)).1))), (4, .int (pz (gPB σ) n d))] := Eq.mp (congrArg (fun z9 : Int32 => lv_has ls 5 [(0, .ref (aj 0)), (1, .ref (ad 0)), (2, .int (nI n)), (3, .int z9), (4, .int (pz (gPB σ) n d))]) (show nI ((kS (alC (R 18) n) (fun d => gPB σ + 1 - n - 1 - d) (cuC σ n) d).1) = nI ((kS (alC (R 18) n) (fun d => gPB σ + 1 - n - 1 - d) (cuC σ n) (gPB σ + 1 - n)).1) from by rw [ed])) hl
        refine lv_iload_n hx hb dX0_listLate_64 rfl (lv_at hl 3 rfl) ?_
        refine x_top (y := nI (kS (alC (R 18) n) (fun d => gPB σ + 1 - n - 1 - d) (cuC σ n) (gPB σ + 1 - n)).1) (by rfl) ?_
        exact W.iret (v := nI (kS (alC (R 18) n) (fun d => gPB σ + 1 - n - 1 - d) (cuC σ n) (gPB σ + 1 - n)).1) hx hb hr (fun t9 ht9 hW9 => ⟨⟨LA, rfl, (by have h9 := hLA; rw [ed] at h9; exact h9), by rw [ht9]; exact hP, hD⟩, hS.F ht9⟩) hS.2.2 dX0_listLate_65
      · have hle : n + d ≤ gPB σ := by have := mt (pz_neg (P := gPB σ) (n := n) (d := d) (by omega) (by omega) (by omega)).mpr c_12; omega
        have hkl := kS_le (al := alC (R 18) n) (x := fun d => gPB σ + 1 - n - 1 - d) (cd := cuC σ n) d
        have hl : lv_has ls 5 [(0, .ref (aj 0)), (1, .ref (ad 0)), (2, .int (nI n)), (3, .int (nI ((kS (alC (R 18) n) (fun d => gPB σ + 1 - n - 1 - d) (cuC σ n) d).1))), (4, .int (nI (gPB σ + 1 - n - 1 - d)))] := Eq.mp (congrArg (fun z9 : Int32 => lv_has ls 5 [(0, .ref (aj 0)), (1, .ref (ad 0)), (2, .int (nI n)), (3, .int (nI ((kS (alC (R 18) n) (fun d => gPB σ + 1 - n - 1 - d) (cuC σ n) d).1))), (4, .int z9)]) (show pz (gPB σ) n d = nI (gPB σ + 1 - n - 1 - d) from (pz_pos hle).trans (congrArg nI (by omega)))) hl
        refine lv_aload_n hx hb dX0_listLate_15 rfl (lv_at hl 1 rfl) ?_
        refine lv_iload hx hb dX0_listLate_16 (lv_at hl 4 rfl) ?_
        refine lv_iload_n hx hb dX0_listLate_18 rfl (lv_at hl 2 rfl) ?_
        refine mx_callRO (v := .int (b2i (cuC σ n (gPB σ + 1 - n - 1 - d)))) (va_runS (As := [.ref (ad 0), .int (nI (gPB σ + 1 - n - 1 - d)), .int (nI n)]) (rest := []) ⟨hx, hb, hml, hown, hts⟩ (c_X0_canBegin l G ad F R σ (gPB σ + 1 - n - 1 - d) n hN ok hQ (by omega) hn) (va_cwS 3 hts gX0_listLate_X0_canBegin rfl rfl rfl (by decide +kernel) ⟨Nat.le_of_ble_eq_true rfl, Nat.le_of_ble_eq_true rfl⟩) (mx_preS hK (mx_Psub hP (fun q9 => fun h => List.mem_append_right _ (h)))) rfl rfl hl.1 rfl (lv_room (Nat.le_of_ble_eq_true rfl)) dX0_listLate_19 ⟨Nat.zero_le _, Nat.zero_le _⟩) ?_
        refine lv_if_eq (tgt := 58) hx hb dX0_listLate_22 (by decide) (fun c_22 => ?_) (fun c_22 => ?_)
        · have hl : lv_has ls 5 [(0, .ref (aj 0)), (1, .ref (ad 0)), (2, .int (nI n)), (3, .int (nI ((kS (alC (R 18) n) (fun d => gPB σ + 1 - n - 1 - d) (cuC σ n) (d + 1)).1))), (4, .int (nI (gPB σ + 1 - n - 1 - d)))] := Eq.mp (congrArg (fun z9 : Int32 => lv_has ls 5 [(0, .ref (aj 0)), (1, .ref (ad 0)), (2, .int (nI n)), (3, .int z9), (4, .int (nI (gPB σ + 1 - n - 1 - d)))]) (show nI ((kS (alC (R 18) n) (fun d => gPB σ + 1 - n - 1 - d) (cuC σ n) d).1) = nI ((kS (alC (R 18) n) (fun d => gPB σ + 1 - n - 1 - d) (cuC σ n) (d + 1)).1) from congrArg nI (congrArg Prod.fst (kS_no (d := d) (fun q => (b2i_0.mp c_22) q.1))).symm)) hl
          refine lv_iinc (v := pz (gPB σ) n (d + 1)) (lv' := [(4, .int (pz (gPB σ) n (d + 1))), (0, .ref (aj 0)), (1, .ref (ad 0)), (2, .int (nI n)), (3, .int (nI ((kS (alC (R 18) n) (fun d => gPB σ + 1 - n - 1 - d) (cuC σ n) (d + 1)).1)))]) hx hb dX0_listLate_58 hl (k := 4) rfl (by rw [show gPB σ + 1 - n - 1 - d = gPB σ - n - d by omega, ← pz_pos hle]; exact pz_dec) (by decide) rfl (fun ls hl => ?_)
          refine lv_goto (tgt := 10) hx hb dX0_listLate_61 (by decide) ?_
          exact ih10 (d + 1) LA (by omega) (by omega) ((by rw [kS_no (d := d) (fun q => (b2i_0.mp c_22) q.1)]; exact hLA)) _ _ hP hD hS _ (lv_sub hl [1, 2, 3, 4, 0] rfl)
        · refine lv_iload_n hx hb dX0_listLate_25 rfl (lv_at hl 3 rfl) ?_
          refine x_if_eq (tgt := 47) hx hb (by omega) dX0_listLate_26 (by decide) (fun c_26 => ?_) (fun c_26 => ?_)
          · refine lv_aload_n hx hb dX0_listLate_47 rfl (lv_at hl 0 rfl) ?_
            refine va_get (D := G.1) (ci := 0) (v := .ref (aj 7)) (C := RX0) (T := TX0) (N := 8) hx hb hts inX0 hown hK.1 hP 0 rfl rfl 6 (by decide) fl31 (fun _ h9 => h9) rfl dX0_listLate_48 ?_
            refine lv_iload_n hx hb dX0_listLate_51 rfl (lv_at hl 3 rfl) ?_
            refine lv_iload hx hb dX0_listLate_52 (lv_at hl 4 rfl) ?_
            refine x_iast hx hb hK.1 hP hD hS 4 0 (n := 64) (f := LA) rfl rfl (k := (kS (alC (R 18) n) (fun d => gPB σ + 1 - n - 1 - d) (cuC σ n) d).1) (by omega) (by omega) dX0_listLate_54 ((JW G aj FJ (va_up RJ 6 (upd LA ((kS (alC (R 18) n) (fun d => gPB σ + 1 - n - 1 - d) (cuC σ n) d).1) (nI (gPB σ + 1 - n - 1 - d))))) ++ (SW G ad F R)) rfl (fun H locs hP hD hS => ?_)
            refine x_iinc (lv' := [(3, .int (nI ((kS (alC (R 18) n) (fun d => gPB σ + 1 - n - 1 - d) (cuC σ n) d).1 + 1))), (0, .ref (aj 0)), (1, .ref (ad 0)), (2, .int (nI n)), (4, .int (nI (gPB σ + 1 - n - 1 - d)))]) hx hb dX0_listLate_55 hl (k := 3) rfl (x_inc1 _) (by decide) rfl (fun ls hl => ?_)
            have hl : lv_has ls 5 [(3, .int (nI ((kS (alC (R 18) n) (fun d => gPB σ + 1 - n - 1 - d) (cuC σ n) (d + 1)).1))), (0, .ref (aj 0)), (1, .ref (ad 0)), (2, .int (nI n)), (4, .int (nI (gPB σ + 1 - n - 1 - d)))] := Eq.mp (congrArg (fun z9 : Int32 => lv_has ls 5 [(3, .int z9), (0, .ref (aj 0)), (1, .ref (ad 0)), (2, .int (nI n)), (4, .int (nI (gPB σ + 1 - n - 1 - d)))]) (show nI ((kS (alC (R 18) n) (fun d => gPB σ + 1 - n - 1 - d) (cuC σ n) d).1 + 1) = nI ((kS (alC (R 18) n) (fun d => gPB σ + 1 - n - 1 - d) (cuC σ n) (d + 1)).1) from congrArg nI (congrArg Prod.fst (kS_yes (d := d) ⟨Classical.not_not.mp (fun q => c_22 (b2i_0.mpr q)), Or.inl c_26⟩)).symm)) hl
            refine lv_iinc (v := pz (gPB σ) n (d + 1)) (lv' := [(4, .int (pz (gPB σ) n (d + 1))), (3, .int (nI ((kS (alC (R 18) n) (fun d => gPB σ + 1 - n - 1 - d) (cuC σ n) (d + 1)).1))), (0, .ref (aj 0)), (1, .ref (ad 0)), (2, .int (nI n))]) hx hb dX0_listLate_58 hl (k := 4) rfl (by rw [show gPB σ + 1 - n - 1 - d = gPB σ - n - d by omega, ← pz_pos hle]; exact pz_dec) (by decide) rfl (fun ls hl => ?_)
            refine lv_goto (tgt := 10) hx hb dX0_listLate_61 (by decide) ?_
            exact ih10 (d + 1) (upd LA ((kS (alC (R 18) n) (fun d => gPB σ + 1 - n - 1 - d) (cuC σ n) d).1) (nI (gPB σ + 1 - n - 1 - d))) (by omega) (by omega) (late_s hLA ⟨Classical.not_not.mp (fun q => c_22 (b2i_0.mpr q)), Or.inl c_26⟩) _ _ hP hD hS _ (lv_sub hl [2, 3, 4, 1, 0] rfl)
          · refine lv_aload_n hx hb dX0_listLate_29 rfl (lv_at hl 1 rfl) ?_
            refine lv_iload hx hb dX0_listLate_30 (lv_at hl 4 rfl) ?_
            refine lv_aload_n hx hb dX0_listLate_32 rfl (lv_at hl 0 rfl) ?_
            refine va_get (D := G.1) (ci := 0) (v := .ref (aj 7)) (C := RX0) (T := TX0) (N := 8) hx hb hts inX0 hown hK.1 hP 0 rfl rfl 6 (by decide) fl31 (fun _ h9 => h9) rfl dX0_listLate_33 ?_
            refine lv_iload_n hx hb dX0_listLate_36 rfl (lv_at hl 3 rfl) ?_
            refine lv_iconst (v := nI 1) hx hb dX0_listLate_37 (by decide) ?_
            refine x_isub (r := (kS (alC (R 18) n) (fun d => gPB σ + 1 - n - 1 - d) (cuC σ n) d).1 - 1) hx hb dX0_listLate_38 (by omega) ?_
            refine x_iald hx hb hK.1 hP 4 0 (n := 64) (f := LA) rfl rfl (k := (kS (alC (R 18) n) (fun d => gPB σ + 1 - n - 1 - d) (cuC σ n) d).1 - 1) (by omega) (by omega) dX0_listLate_39 ?_
            refine x_top (y := nI ((kS (alC (R 18) n) (fun d => gPB σ + 1 - n - 1 - d) (cuC σ n) d).2 ((kS (alC (R 18) n) (fun d => gPB σ + 1 - n - 1 - d) (cuC σ n) d).1 - 1))) (hLA _ (by omega)) ?_
            refine lv_iload_n hx hb dX0_listLate_40 rfl (lv_at hl 2 rfl) ?_
            obtain ⟨e9, he9, hx9, -⟩ := kS_mem (al := alC (R 18) n) (x := fun d => gPB σ + 1 - n - 1 - d) (cd := cuC σ n) d ((kS (alC (R 18) n) (fun d => gPB σ + 1 - n - 1 - d) (cuC σ n) d).1 - 1) (by omega)
            have hx9 : (kS (alC (R 18) n) (fun d => gPB σ + 1 - n - 1 - d) (cuC σ n) d).2 ((kS (alC (R 18) n) (fun d => gPB σ + 1 - n - 1 - d) (cuC σ n) d).1 - 1) = gPB σ + 1 - n - 1 - e9 := hx9
            refine mx_callRO (v := .int (alikeV (R 18) (gPB σ + 1 - n - 1 - d) ((kS (alC (R 18) n) (fun d => gPB σ + 1 - n - 1 - d) (cuC σ n) d).2 ((kS (alC (R 18) n) (fun d => gPB σ + 1 - n - 1 - d) (cuC σ n) d).1 - 1)) n)) (va_runV (As := [.int (nI (gPB σ + 1 - n - 1 - d)), .int (nI ((kS (alC (R 18) n) (fun d => gPB σ + 1 - n - 1 - d) (cuC σ n) d).2 ((kS (alC (R 18) n) (fun d => gPB σ + 1 - n - 1 - d) (cuC σ n) d).1 - 1))), .int (nI n)]) (rest := []) ⟨hx, hb, hml, hown, hts⟩ (c_X3_soundsAlike l G ad F R σ (gPB σ + 1 - n - 1 - d) ((kS (alC (R 18) n) (fun d => gPB σ + 1 - n - 1 - d) (cuC σ n) d).2 ((kS (alC (R 18) n) (fun d => gPB σ + 1 - n - 1 - d) (cuC σ n) d).1 - 1)) n (by omega) (by omega)) (cwV 3 hts gX0_listLate_X3_soundsAlike rfl rfl rfl (by decide +kernel) ⟨Nat.le_of_ble_eq_true rfl, Nat.le_of_ble_eq_true rfl⟩) (mx_preV hK (mx_Psub hP (fun q9 => fun h => List.mem_append_right _ (h))) (va_recv hK.1 hP (ci := 3) (q0 := 6) rfl rfl)) rfl rfl hl.1 rfl (lv_room (Nat.le_of_ble_eq_true rfl)) dX0_listLate_41 ⟨Nat.zero_le _, Nat.zero_le _⟩) ?_
            refine lv_if_ne (tgt := 58) hx hb dX0_listLate_44 (by decide) (fun c_44 => ?_) (fun c_44 => ?_)
            · have hl : lv_has ls 5 [(0, .ref (aj 0)), (1, .ref (ad 0)), (2, .int (nI n)), (3, .int (nI ((kS (alC (R 18) n) (fun d => gPB σ + 1 - n - 1 - d) (cuC σ n) (d + 1)).1))), (4, .int (nI (gPB σ + 1 - n - 1 - d)))] := Eq.mp (congrArg (fun z9 : Int32 => lv_has ls 5 [(0, .ref (aj 0)), (1, .ref (ad 0)), (2, .int (nI n)), (3, .int z9), (4, .int (nI (gPB σ + 1 - n - 1 - d)))]) (show nI ((kS (alC (R 18) n) (fun d => gPB σ + 1 - n - 1 - d) (cuC σ n) d).1) = nI ((kS (alC (R 18) n) (fun d => gPB σ + 1 - n - 1 - d) (cuC σ n) (d + 1)).1) from congrArg nI (congrArg Prod.fst (kS_no (d := d) (fun q => q.2.elim c_26 (fun z => c_44 (alikeV_0.mpr z))))).symm)) hl
              refine lv_iinc (v := pz (gPB σ) n (d + 1)) (lv' := [(4, .int (pz (gPB σ) n (d + 1))), (0, .ref (aj 0)), (1, .ref (ad 0)), (2, .int (nI n)), (3, .int (nI ((kS (alC (R 18) n) (fun d => gPB σ + 1 - n - 1 - d) (cuC σ n) (d + 1)).1)))]) hx hb dX0_listLate_58 hl (k := 4) rfl (by rw [show gPB σ + 1 - n - 1 - d = gPB σ - n - d by omega, ← pz_pos hle]; exact pz_dec) (by decide) rfl (fun ls hl => ?_)
              refine lv_goto (tgt := 10) hx hb dX0_listLate_61 (by decide) ?_
              exact ih10 (d + 1) LA (by omega) (by omega) ((by rw [kS_no (d := d) (fun q => q.2.elim c_26 (fun z => c_44 (alikeV_0.mpr z)))]; exact hLA)) _ _ hP hD hS _ (lv_sub hl [1, 2, 3, 4, 0] rfl)
            · refine lv_aload_n hx hb dX0_listLate_47 rfl (lv_at hl 0 rfl) ?_
              refine va_get (D := G.1) (ci := 0) (v := .ref (aj 7)) (C := RX0) (T := TX0) (N := 8) hx hb hts inX0 hown hK.1 hP 0 rfl rfl 6 (by decide) fl31 (fun _ h9 => h9) rfl dX0_listLate_48 ?_
              refine lv_iload_n hx hb dX0_listLate_51 rfl (lv_at hl 3 rfl) ?_
              refine lv_iload hx hb dX0_listLate_52 (lv_at hl 4 rfl) ?_
              refine x_iast hx hb hK.1 hP hD hS 4 0 (n := 64) (f := LA) rfl rfl (k := (kS (alC (R 18) n) (fun d => gPB σ + 1 - n - 1 - d) (cuC σ n) d).1) (by omega) (by omega) dX0_listLate_54 ((JW G aj FJ (va_up RJ 6 (upd LA ((kS (alC (R 18) n) (fun d => gPB σ + 1 - n - 1 - d) (cuC σ n) d).1) (nI (gPB σ + 1 - n - 1 - d))))) ++ (SW G ad F R)) rfl (fun H locs hP hD hS => ?_)
              refine x_iinc (lv' := [(3, .int (nI ((kS (alC (R 18) n) (fun d => gPB σ + 1 - n - 1 - d) (cuC σ n) d).1 + 1))), (0, .ref (aj 0)), (1, .ref (ad 0)), (2, .int (nI n)), (4, .int (nI (gPB σ + 1 - n - 1 - d)))]) hx hb dX0_listLate_55 hl (k := 3) rfl (x_inc1 _) (by decide) rfl (fun ls hl => ?_)
              have hl : lv_has ls 5 [(3, .int (nI ((kS (alC (R 18) n) (fun d => gPB σ + 1 - n - 1 - d) (cuC σ n) (d + 1)).1))), (0, .ref (aj 0)), (1, .ref (ad 0)), (2, .int (nI n)), (4, .int (nI (gPB σ + 1 - n - 1 - d)))] := Eq.mp (congrArg (fun z9 : Int32 => lv_has ls 5 [(3, .int z9), (0, .ref (aj 0)), (1, .ref (ad 0)), (2, .int (nI n)), (4, .int (nI (gPB σ + 1 - n - 1 - d)))]) (show nI ((kS (alC (R 18) n) (fun d => gPB σ + 1 - n - 1 - d) (cuC σ n) d).1 + 1) = nI ((kS (alC (R 18) n) (fun d => gPB σ + 1 - n - 1 - d) (cuC σ n) (d + 1)).1) from congrArg nI (congrArg Prod.fst (kS_yes (d := d) ⟨Classical.not_not.mp (fun q => c_22 (b2i_0.mpr q)), Or.inr (alikeV_0.mp c_44)⟩)).symm)) hl
              refine lv_iinc (v := pz (gPB σ) n (d + 1)) (lv' := [(4, .int (pz (gPB σ) n (d + 1))), (3, .int (nI ((kS (alC (R 18) n) (fun d => gPB σ + 1 - n - 1 - d) (cuC σ n) (d + 1)).1))), (0, .ref (aj 0)), (1, .ref (ad 0)), (2, .int (nI n))]) hx hb dX0_listLate_58 hl (k := 4) rfl (by rw [show gPB σ + 1 - n - 1 - d = gPB σ - n - d by omega, ← pz_pos hle]; exact pz_dec) (by decide) rfl (fun ls hl => ?_)
              refine lv_goto (tgt := 10) hx hb dX0_listLate_61 (by decide) ?_
              exact ih10 (d + 1) (upd LA ((kS (alC (R 18) n) (fun d => gPB σ + 1 - n - 1 - d) (cuC σ n) d).1) (nI (gPB σ + 1 - n - 1 - d))) (by omega) (by omega) (late_s hLA ⟨Classical.not_not.mp (fun q => c_22 (b2i_0.mpr q)), Or.inr (alikeV_0.mp c_44)⟩) _ _ hP hD hS _ (lv_sub hl [2, 3, 4, 1, 0] rfl)
  exact lp10 (gPB σ + 1 - n - 0 + 1) 0 (RJ 6) (Nat.lt_succ_self _) (by omega) (fun i hi => absurd hi (Nat.not_lt_zero _)) _ _ hP hD hS _ (lv_sub hl [2, 3, 4, 1, 0] rfl)

set_option maxHeartbeats 4000000 in
set_option maxRecDepth 100000 in
theorem c_X0_listEarly (l : Launch) (G : mx_G) (aj : Nat → Nat) (FJ : Nat → Int32) (RJ : Nat → Nat → Int32)(ad : Nat → Nat) (F : Nat → Int32) (R : Nat → Nat → Int32) (σ : Sg) (n : Nat) (hN : soN F σ) (ok : sgOk σ) (hQ : soQ F R σ) (h1 : 1 ≤ n) (hn : n ≤ 8) (sz : Nat) : mx_EF l yX0_listEarly wsX0_listEarly 2 43 0 0 G [.ref (aj 0), .ref (ad 0), .int (nI n)] sz ((JW G aj FJ RJ) ++ (SW G ad F R)) (fun _ : Nat → Int32 => some (.int (nI (kS (alC (R 18) n) (fun d => d) (cuC σ n) (gPB σ + 1 - n)).1))) (fun u : Nat → Int32 => ∀ i, i < (kS (alC (R 18) n) (fun d => d) (cuC σ n) (gPB σ + 1 - n)).1 → u i = nI ((kS (alC (R 18) n) (fun d => d) (cuC σ n) (gPB σ + 1 - n)).2 i)) (fun u : Nat → Int32 => JW G aj FJ (va_up RJ 7 u) ++ (SW G ad F R)) := by
  refine Met.ofW (cc := cX0_listEarly) (maxL := 5) (ret := (some .int)) (by decide) rfl ?_
  intro p e s m args below meth c s₁ BB hml hv
  obtain ⟨rfl, ⟨hsz, hP, hD0⟩, hK⟩ := hv
  have hx := BB.exec
  have hb := BB.bytes
  have hr := BB.returns
  have hts := atoms_spec (ws := wsX0_listEarly) BB.pre
  have hown : s.vm.findClass RX0 = some m.cls := findClass_of_methodNamed BB.named
  have hlocks := BB.notSynchronized
  subst hsz
  have hD := hD0.self (sz := s.heap.size)
  have hA : ∀ q : Nat, s.heap.size ≤ q → va_A ((JW G aj FJ RJ) ++ (SW G ad F R)) s.heap.size q := fun q h => Or.inr h
  have hS : va_S (va_A ((JW G aj FJ RJ) ++ (SW G ad F R)) s.heap.size) s.heap s.heap [] := va_S.rf
  have hpb := gPB_le ok
  have fl34 := hts (.fieldLink RX0 34 "MixDesk$Joins" "early" "[I") (by decide +kernel)
  have fl98 := hts (.fieldLink RX0 98 "MixDesk$Song" "playedBars" "I") (by decide +kernel)
  have inX0 : ∀ w ∈ wsX00, w ∈ wsX0_listEarly := by decide +kernel
  have inX3 : ∀ w ∈ wsX30, w ∈ wsX0_listEarly := by decide +kernel
  have hl := lv_entry ([.ref (aj 0), .ref (ad 0), .int (nI n)]) (n := 5) (Nat.le_of_ble_eq_true rfl)
  rw [lg_entry_eq]
  generalize (lg_sl ([.ref (aj 0), .ref (ad 0), .int (nI n)]) ++ List.replicate (5 - (lg_sl ([.ref (aj 0), .ref (ad 0), .int (nI n)])).length) Slot.unset).toArray = ls at hl ⊢
  have hl : lv_has ls 5 [(0, .ref (aj 0)), (1, .ref (ad 0)), (2, .int (nI n))] := hl
  refine lv_iconst (v := nI 0) hx hb dX0_listEarly_0 (by decide) ?_
  refine lv_istore_n (lv' := [(3, .int (nI 0)), (0, .ref (aj 0)), (1, .ref (ad 0)), (2, .int (nI n))]) hx hb dX0_listEarly_1 rfl hl (by decide) rfl (fun ls hl => ?_)
  refine lv_iconst (v := nI 0) hx hb dX0_listEarly_2 (by decide) ?_
  refine lv_istore (lv' := [(4, .int (nI 0)), (3, .int (nI 0)), (0, .ref (aj 0)), (1, .ref (ad 0)), (2, .int (nI n))]) hx hb dX0_listEarly_3 hl (by decide) rfl (fun ls hl => ?_)
  have lp5 : ∀ (nn : Nat) (d : Nat) (LA : Nat → Int32), gPB σ + 1 - n - d < nn → (d ≤ gPB σ + 1 - n) → (∀ i, i < (kS (alC (R 18) n) (fun d => d) (cuC σ n) d).1 → LA i = nI ((kS (alC (R 18) n) (fun d => d) (cuC σ n) d).2 i)) → ∀ (H : Heap) (locs : List Loc), va_P G.1 vwCl ((JW G aj FJ (va_up RJ 7 LA)) ++ (SW G ad F R)) H → va_D (va_A ((JW G aj FJ RJ) ++ (SW G ad F R)) s.heap.size) ((JW G aj FJ (va_up RJ 7 LA)) ++ (SW G ad F R)) → va_S (va_A ((JW G aj FJ RJ) ++ (SW G ad F R)) s.heap.size) s.heap H locs → ∀ ls : Array Slot, lv_has ls 5 [(0, .ref (aj 0)), (1, .ref (ad 0)), (2, .int (nI n)), (3, .int (nI ((kS (alC (R 18) n) (fun d => d) (cuC σ n) d).1))), (4, .int (nI d))] → mx_WE l wsX0_listEarly 2 43 0 0 G p e s m (([.ref (aj 0), .ref (ad 0), .int (nI n)] : List Value).toArray) below meth c ((JW G aj FJ RJ) ++ (SW G ad F R)) (fun _ : Nat → Int32 => some (.int (nI (kS (alC (R 18) n) (fun d => d) (cuC σ n) (gPB σ + 1 - n)).1))) (fun u : Nat → Int32 => ∀ i, i < (kS (alC (R 18) n) (fun d => d) (cuC σ n) (gPB σ + 1 - n)).1 → u i = nI ((kS (alC (R 18) n) (fun d => d) (cuC σ n) (gPB σ + 1 - n)).2 i)) (fun u : Nat → Int32 => JW G aj FJ (va_up RJ 7 u) ++ (SW G ad F R)) H locs 0 0 (F0 m 5 ls []) := by
    intro nn
    induction nn with
    | zero => intro d LA hmu; exact absurd hmu (Nat.not_lt_zero _)
    | succ nn ih5 =>
      intro d LA hmu hd hLA H locs hP hD hS ls hl
      refine lv_iload hx hb dX0_listEarly_5 (lv_at hl 4 rfl) ?_
      refine lv_aload_n hx hb dX0_listEarly_7 rfl (lv_at hl 1 rfl) ?_
      refine va_get (D := G.1) (ci := 3) (v := .int (F 11)) (C := RX3) (T := TX3) (N := 19) hx hb hts inX3 hown hK.1 hP 6 rfl rfl 11 (by decide) fl98 (fun _ h9 => h9) rfl dX0_listEarly_8 ?_
      refine x_top (y := nI (gPB σ)) (hQ.1) ?_
      refine lv_iload_n hx hb dX0_listEarly_11 rfl (lv_at hl 2 rfl) ?_
      refine lv_isub hx hb dX0_listEarly_12 ?_
      refine lv_icmp_gt (tgt := 65) hx hb dX0_listEarly_13 (by decide) (fun c_13 => ?_) (fun c_13 => ?_)
      · have hgt := (sub_ltI (P := gPB σ) (n := n) (d := d) (by omega) (by omega) (by omega)).mp c_13
        have ed : d = gPB σ + 1 - n := by omega
        have hl : lv_has ls 5 [(0, .ref (aj 0)), (1, .ref (ad 0)), (2, .int (nI n)), (3, .int (nI ((kS (alC (R 18) n) (fun d => d) (cuC σ n) (gPB σ + 1 - n)).1))), (4, .int (nI d))] := Eq.mp (congrArg (fun z9 : Int32 => lv_has ls 5 [(0, .ref (aj 0)), (1, .ref (ad 0)), (2, .int (nI n)), (3, .int z9), (4, .int (nI d))]) (show nI ((kS (alC (R 18) n) (fun d => d) (cuC σ n) d).1) = nI ((kS (alC (R 18) n) (fun d => d) (cuC σ n) (gPB σ + 1 - n)).1) from by rw [ed])) hl
        refine lv_iload_n hx hb dX0_listEarly_65 rfl (lv_at hl 3 rfl) ?_
        refine x_top (y := nI (kS (alC (R 18) n) (fun d => d) (cuC σ n) (gPB σ + 1 - n)).1) (by rfl) ?_
        exact W.iret (v := nI (kS (alC (R 18) n) (fun d => d) (cuC σ n) (gPB σ + 1 - n)).1) hx hb hr (fun t9 ht9 hW9 => ⟨⟨LA, rfl, (by have h9 := hLA; rw [ed] at h9; exact h9), by rw [ht9]; exact hP, hD⟩, hS.F ht9⟩) hS.2.2 dX0_listEarly_66
      · have hle : n + d ≤ gPB σ := by have := mt (sub_ltI (P := gPB σ) (n := n) (d := d) (by omega) (by omega) (by omega)).mpr c_13; omega
        have hkl := kS_le (al := alC (R 18) n) (x := fun d => d) (cd := cuC σ n) d
        refine lv_aload_n hx hb dX0_listEarly_16 rfl (lv_at hl 1 rfl) ?_
        refine lv_iload hx hb dX0_listEarly_17 (lv_at hl 4 rfl) ?_
        refine lv_iload_n hx hb dX0_listEarly_19 rfl (lv_at hl 2 rfl) ?_
        refine mx_callRO (v := .int (b2i (cuC σ n d))) (va_runS (As := [.ref (ad 0), .int (nI d), .int (nI n)]) (rest := []) ⟨hx, hb, hml, hown, hts⟩ (c_X0_canBegin l G ad F R σ d n hN ok hQ (by omega) hn) (va_cwS 3 hts gX0_listEarly_X0_canBegin rfl rfl rfl (by decide +kernel) ⟨Nat.le_of_ble_eq_true rfl, Nat.le_of_ble_eq_true rfl⟩) (mx_preS hK (mx_Psub hP (fun q9 => fun h => List.mem_append_right _ (h)))) rfl rfl hl.1 rfl (lv_room (Nat.le_of_ble_eq_true rfl)) dX0_listEarly_20 ⟨Nat.zero_le _, Nat.zero_le _⟩) ?_
        refine lv_if_eq (tgt := 59) hx hb dX0_listEarly_23 (by decide) (fun c_23 => ?_) (fun c_23 => ?_)
        · have hl : lv_has ls 5 [(0, .ref (aj 0)), (1, .ref (ad 0)), (2, .int (nI n)), (3, .int (nI ((kS (alC (R 18) n) (fun d => d) (cuC σ n) (d + 1)).1))), (4, .int (nI d))] := Eq.mp (congrArg (fun z9 : Int32 => lv_has ls 5 [(0, .ref (aj 0)), (1, .ref (ad 0)), (2, .int (nI n)), (3, .int z9), (4, .int (nI d))]) (show nI ((kS (alC (R 18) n) (fun d => d) (cuC σ n) d).1) = nI ((kS (alC (R 18) n) (fun d => d) (cuC σ n) (d + 1)).1) from congrArg nI (congrArg Prod.fst (kS_no (d := d) (fun q => (b2i_0.mp c_23) q.1))).symm)) hl
          refine x_iinc (lv' := [(4, .int (nI (d + 1))), (0, .ref (aj 0)), (1, .ref (ad 0)), (2, .int (nI n)), (3, .int (nI ((kS (alC (R 18) n) (fun d => d) (cuC σ n) (d + 1)).1)))]) hx hb dX0_listEarly_59 hl (k := 4) rfl (x_inc1 _) (by decide) rfl (fun ls hl => ?_)
          refine lv_goto (tgt := 5) hx hb dX0_listEarly_62 (by decide) ?_
          exact ih5 (d + 1) LA (by omega) (by omega) ((by rw [kS_no (d := d) (fun q => (b2i_0.mp c_23) q.1)]; exact hLA)) _ _ hP hD hS _ (lv_sub hl [1, 2, 3, 4, 0] rfl)
        · refine lv_iload_n hx hb dX0_listEarly_26 rfl (lv_at hl 3 rfl) ?_
          refine x_if_eq (tgt := 48) hx hb (by omega) dX0_listEarly_27 (by decide) (fun c_27 => ?_) (fun c_27 => ?_)
          · refine lv_aload_n hx hb dX0_listEarly_48 rfl (lv_at hl 0 rfl) ?_
            refine va_get (D := G.1) (ci := 0) (v := .ref (aj 8)) (C := RX0) (T := TX0) (N := 8) hx hb hts inX0 hown hK.1 hP 0 rfl rfl 7 (by decide) fl34 (fun _ h9 => h9) rfl dX0_listEarly_49 ?_
            refine lv_iload_n hx hb dX0_listEarly_52 rfl (lv_at hl 3 rfl) ?_
            refine lv_iload hx hb dX0_listEarly_53 (lv_at hl 4 rfl) ?_
            refine x_iast hx hb hK.1 hP hD hS 5 0 (n := 64) (f := LA) rfl rfl (k := (kS (alC (R 18) n) (fun d => d) (cuC σ n) d).1) (by omega) (by omega) dX0_listEarly_55 ((JW G aj FJ (va_up RJ 7 (upd LA ((kS (alC (R 18) n) (fun d => d) (cuC σ n) d).1) (nI d)))) ++ (SW G ad F R)) rfl (fun H locs hP hD hS => ?_)
            refine x_iinc (lv' := [(3, .int (nI ((kS (alC (R 18) n) (fun d => d) (cuC σ n) d).1 + 1))), (0, .ref (aj 0)), (1, .ref (ad 0)), (2, .int (nI n)), (4, .int (nI d))]) hx hb dX0_listEarly_56 hl (k := 3) rfl (x_inc1 _) (by decide) rfl (fun ls hl => ?_)
            have hl : lv_has ls 5 [(3, .int (nI ((kS (alC (R 18) n) (fun d => d) (cuC σ n) (d + 1)).1))), (0, .ref (aj 0)), (1, .ref (ad 0)), (2, .int (nI n)), (4, .int (nI d))] := Eq.mp (congrArg (fun z9 : Int32 => lv_has ls 5 [(3, .int z9), (0, .ref (aj 0)), (1, .ref (ad 0)), (2, .int (nI n)), (4, .int (nI d))]) (show nI ((kS (alC (R 18) n) (fun d => d) (cuC σ n) d).1 + 1) = nI ((kS (alC (R 18) n) (fun d => d) (cuC σ n) (d + 1)).1) from congrArg nI (congrArg Prod.fst (kS_yes (d := d) ⟨Classical.not_not.mp (fun q => c_23 (b2i_0.mpr q)), Or.inl c_27⟩)).symm)) hl
            refine x_iinc (lv' := [(4, .int (nI (d + 1))), (3, .int (nI ((kS (alC (R 18) n) (fun d => d) (cuC σ n) (d + 1)).1))), (0, .ref (aj 0)), (1, .ref (ad 0)), (2, .int (nI n))]) hx hb dX0_listEarly_59 hl (k := 4) rfl (x_inc1 _) (by decide) rfl (fun ls hl => ?_)
            refine lv_goto (tgt := 5) hx hb dX0_listEarly_62 (by decide) ?_
            exact ih5 (d + 1) (upd LA ((kS (alC (R 18) n) (fun d => d) (cuC σ n) d).1) (nI d)) (by omega) (by omega) (late_s hLA ⟨Classical.not_not.mp (fun q => c_23 (b2i_0.mpr q)), Or.inl c_27⟩) _ _ hP hD hS _ (lv_sub hl [2, 3, 4, 1, 0] rfl)
          · refine lv_aload_n hx hb dX0_listEarly_30 rfl (lv_at hl 1 rfl) ?_
            refine lv_iload hx hb dX0_listEarly_31 (lv_at hl 4 rfl) ?_
            refine lv_aload_n hx hb dX0_listEarly_33 rfl (lv_at hl 0 rfl) ?_
            refine va_get (D := G.1) (ci := 0) (v := .ref (aj 8)) (C := RX0) (T := TX0) (N := 8) hx hb hts inX0 hown hK.1 hP 0 rfl rfl 7 (by decide) fl34 (fun _ h9 => h9) rfl dX0_listEarly_34 ?_
            refine lv_iload_n hx hb dX0_listEarly_37 rfl (lv_at hl 3 rfl) ?_
            refine lv_iconst (v := nI 1) hx hb dX0_listEarly_38 (by decide) ?_
            refine x_isub (r := (kS (alC (R 18) n) (fun d => d) (cuC σ n) d).1 - 1) hx hb dX0_listEarly_39 (by omega) ?_
            refine x_iald hx hb hK.1 hP 5 0 (n := 64) (f := LA) rfl rfl (k := (kS (alC (R 18) n) (fun d => d) (cuC σ n) d).1 - 1) (by omega) (by omega) dX0_listEarly_40 ?_
            refine x_top (y := nI ((kS (alC (R 18) n) (fun d => d) (cuC σ n) d).2 ((kS (alC (R 18) n) (fun d => d) (cuC σ n) d).1 - 1))) (hLA _ (by omega)) ?_
            refine lv_iload_n hx hb dX0_listEarly_41 rfl (lv_at hl 2 rfl) ?_
            obtain ⟨e9, he9, hx9, -⟩ := kS_mem (al := alC (R 18) n) (x := fun d => d) (cd := cuC σ n) d ((kS (alC (R 18) n) (fun d => d) (cuC σ n) d).1 - 1) (by omega)
            have hx9 : (kS (alC (R 18) n) (fun d => d) (cuC σ n) d).2 ((kS (alC (R 18) n) (fun d => d) (cuC σ n) d).1 - 1) = e9 := hx9
            refine mx_callRO (v := .int (alikeV (R 18) d ((kS (alC (R 18) n) (fun d => d) (cuC σ n) d).2 ((kS (alC (R 18) n) (fun d => d) (cuC σ n) d).1 - 1)) n)) (va_runV (As := [.int (nI d), .int (nI ((kS (alC (R 18) n) (fun d => d) (cuC σ n) d).2 ((kS (alC (R 18) n) (fun d => d) (cuC σ n) d).1 - 1))), .int (nI n)]) (rest := []) ⟨hx, hb, hml, hown, hts⟩ (c_X3_soundsAlike l G ad F R σ d ((kS (alC (R 18) n) (fun d => d) (cuC σ n) d).2 ((kS (alC (R 18) n) (fun d => d) (cuC σ n) d).1 - 1)) n (by omega) (by omega)) (cwV 3 hts gX0_listEarly_X3_soundsAlike rfl rfl rfl (by decide +kernel) ⟨Nat.le_of_ble_eq_true rfl, Nat.le_of_ble_eq_true rfl⟩) (mx_preV hK (mx_Psub hP (fun q9 => fun h => List.mem_append_right _ (h))) (va_recv hK.1 hP (ci := 3) (q0 := 6) rfl rfl)) rfl rfl hl.1 rfl (lv_room (Nat.le_of_ble_eq_true rfl)) dX0_listEarly_42 ⟨Nat.zero_le _, Nat.zero_le _⟩) ?_
            refine lv_if_ne (tgt := 59) hx hb dX0_listEarly_45 (by decide) (fun c_45 => ?_) (fun c_45 => ?_)
            · have hl : lv_has ls 5 [(0, .ref (aj 0)), (1, .ref (ad 0)), (2, .int (nI n)), (3, .int (nI ((kS (alC (R 18) n) (fun d => d) (cuC σ n) (d + 1)).1))), (4, .int (nI d))] := Eq.mp (congrArg (fun z9 : Int32 => lv_has ls 5 [(0, .ref (aj 0)), (1, .ref (ad 0)), (2, .int (nI n)), (3, .int z9), (4, .int (nI d))]) (show nI ((kS (alC (R 18) n) (fun d => d) (cuC σ n) d).1) = nI ((kS (alC (R 18) n) (fun d => d) (cuC σ n) (d + 1)).1) from congrArg nI (congrArg Prod.fst (kS_no (d := d) (fun q => q.2.elim c_27 (fun z => c_45 (alikeV_0.mpr z))))).symm)) hl
              refine x_iinc (lv' := [(4, .int (nI (d + 1))), (0, .ref (aj 0)), (1, .ref (ad 0)), (2, .int (nI n)), (3, .int (nI ((kS (alC (R 18) n) (fun d => d) (cuC σ n) (d + 1)).1)))]) hx hb dX0_listEarly_59 hl (k := 4) rfl (x_inc1 _) (by decide) rfl (fun ls hl => ?_)
              refine lv_goto (tgt := 5) hx hb dX0_listEarly_62 (by decide) ?_
              exact ih5 (d + 1) LA (by omega) (by omega) ((by rw [kS_no (d := d) (fun q => q.2.elim c_27 (fun z => c_45 (alikeV_0.mpr z)))]; exact hLA)) _ _ hP hD hS _ (lv_sub hl [1, 2, 3, 4, 0] rfl)
            · refine lv_aload_n hx hb dX0_listEarly_48 rfl (lv_at hl 0 rfl) ?_
              refine va_get (D := G.1) (ci := 0) (v := .ref (aj 8)) (C := RX0) (T := TX0) (N := 8) hx hb hts inX0 hown hK.1 hP 0 rfl rfl 7 (by decide) fl34 (fun _ h9 => h9) rfl dX0_listEarly_49 ?_
              refine lv_iload_n hx hb dX0_listEarly_52 rfl (lv_at hl 3 rfl) ?_
              refine lv_iload hx hb dX0_listEarly_53 (lv_at hl 4 rfl) ?_
              refine x_iast hx hb hK.1 hP hD hS 5 0 (n := 64) (f := LA) rfl rfl (k := (kS (alC (R 18) n) (fun d => d) (cuC σ n) d).1) (by omega) (by omega) dX0_listEarly_55 ((JW G aj FJ (va_up RJ 7 (upd LA ((kS (alC (R 18) n) (fun d => d) (cuC σ n) d).1) (nI d)))) ++ (SW G ad F R)) rfl (fun H locs hP hD hS => ?_)
              refine x_iinc (lv' := [(3, .int (nI ((kS (alC (R 18) n) (fun d => d) (cuC σ n) d).1 + 1))), (0, .ref (aj 0)), (1, .ref (ad 0)), (2, .int (nI n)), (4, .int (nI d))]) hx hb dX0_listEarly_56 hl (k := 3) rfl (x_inc1 _) (by decide) rfl (fun ls hl => ?_)
              have hl : lv_has ls 5 [(3, .int (nI ((kS (alC (R 18) n) (fun d => d) (cuC σ n) (d + 1)).1))), (0, .ref (aj 0)), (1, .ref (ad 0)), (2, .int (nI n)), (4, .int (nI d))] := Eq.mp (congrArg (fun z9 : Int32 => lv_has ls 5 [(3, .int z9), (0, .ref (aj 0)), (1, .ref (ad 0)), (2, .int (nI n)), (4, .int (nI d))]) (show nI ((kS (alC (R 18) n) (fun d => d) (cuC σ n) d).1 + 1) = nI ((kS (alC (R 18) n) (fun d => d) (cuC σ n) (d + 1)).1) from congrArg nI (congrArg Prod.fst (kS_yes (d := d) ⟨Classical.not_not.mp (fun q => c_23 (b2i_0.mpr q)), Or.inr (alikeV_0.mp c_45)⟩)).symm)) hl
              refine x_iinc (lv' := [(4, .int (nI (d + 1))), (3, .int (nI ((kS (alC (R 18) n) (fun d => d) (cuC σ n) (d + 1)).1))), (0, .ref (aj 0)), (1, .ref (ad 0)), (2, .int (nI n))]) hx hb dX0_listEarly_59 hl (k := 4) rfl (x_inc1 _) (by decide) rfl (fun ls hl => ?_)
              refine lv_goto (tgt := 5) hx hb dX0_listEarly_62 (by decide) ?_
              exact ih5 (d + 1) (upd LA ((kS (alC (R 18) n) (fun d => d) (cuC σ n) d).1) (nI d)) (by omega) (by omega) (late_s hLA ⟨Classical.not_not.mp (fun q => c_23 (b2i_0.mpr q)), Or.inr (alikeV_0.mp c_45)⟩) _ _ hP hD hS _ (lv_sub hl [2, 3, 4, 1, 0] rfl)
  exact lp5 (gPB σ + 1 - n - 0 + 1) 0 (RJ 7) (Nat.lt_succ_self _) (by omega) (fun i hi => absurd hi (Nat.not_lt_zero _)) _ _ hP hD hS _ (lv_sub hl [2, 3, 4, 1, 0] rfl)
