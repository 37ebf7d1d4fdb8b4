set_option maxHeartbeats 4000000 in
set_option maxRecDepth 100000 in
theorem c_X1_keep (l : Launch) (G : mx_G) (aq : Nat → Nat) (FT : Nat → Int32) (RT : Nat → Nat → Int32)(a1 : Nat → Nat) (F1 : Nat → Int32) (R1 : Nat → Nat → Int32)(a2 : Nat → Nat) (F2 : Nat → Int32) (R2 : Nat → Nat → Int32) (σ τ : Sg) (n u w : Nat) (ok : sgOk σ) (ok2 : sgOk τ) (h1 : 1 ≤ n) (hn : n ≤ 8) (hu : u + n ≤ 64) (hw : w + n ≤ 64) (hX : ∀ j, j < 4 * n → R1 18 (4 * u + j) = gRow σ (4 * u + j)) (hY : ∀ j, j < 4 * n → R2 18 (4 * w + j) = gRow τ (4 * w + j)) (sz : Nat) : mx_EF l yX1_keep wsX1_keep 2 45 0 0 G [.ref (aq 0), .ref (a1 0), .ref (a2 0), .int (nI n), .int (nI u), .int (nI w)] sz ((TW G aq FT RT) ++ ((SW G a1 F1 R1) ++ (SW G a2 F2 R2))) (fun _ : (Nat → Int32) × (Nat → Int32) × (Nat → Int32) => none) (fun u9 : (Nat → Int32) × (Nat → Int32) × (Nat → Int32) => (∀ z, z ≤ 4 * n → u9.1 z = isum (mlast (fun j => gRow σ (4 * u + j)) (fun j => gRow τ (4 * w + j)) n) z) ∧ ∀ z, z < 4 * n → u9.2.1 z = (mlast (fun j => gRow σ (4 * u + j)) (fun j => gRow τ (4 * w + j)) n) z ∧ u9.2.2 z = mbend ((mlast (fun j => gRow σ (4 * u + j)) (fun j => gRow τ (4 * w + j)) n) z) (gRow σ (4 * u + z)) (gRow τ (4 * w + z))) (fun u9 : (Nat → Int32) × (Nat → Int32) × (Nat → Int32) => TW G aq (va_up FT 0 (nI (4 * n))) (va_up (va_up (va_up RT 1 u9.1) 2 u9.2.1) 3 u9.2.2) ++ (SW G a1 F1 R1 ++ (SW G a2 F2 R2))) := by
  refine Met.ofW (cc := cX1_keep) (maxL := 9) (ret := none) (by decide) rfl ?_
  intro p e s m args below meth c s₁ BB hml hv
  obtain ⟨rfl, ⟨hsz, hP, hD0⟩, hK⟩ := hv
  have hx := BB.exec
  have hb := BB.bytes
  have hr := BB.returns
  have hts := atoms_spec (ws := wsX1_keep) BB.pre
  have hown : s.vm.findClass RX1 = some m.cls := findClass_of_methodNamed BB.named
  have hlocks := BB.notSynchronized
  subst hsz
  have hD := hD0.self (sz := s.heap.size)
  have hA : ∀ q : Nat, s.heap.size ≤ q → va_A ((TW G aq FT RT) ++ ((SW G a1 F1 R1) ++ (SW G a2 F2 R2))) s.heap.size q := fun q h => Or.inr h
  have hS : va_S (va_A ((TW G aq FT RT) ++ ((SW G a1 F1 R1) ++ (SW G a2 F2 R2))) s.heap.size) s.heap s.heap [] := va_S.rf
  have fl15 := hts (.fieldLink RX1 15 "MixDesk$Meeting" "begins" "[I") (by decide +kernel)
  have fl19 := hts (.fieldLink RX1 19 "MixDesk$Meeting" "lasts" "[I") (by decide +kernel)
  have fl22 := hts (.fieldLink RX1 22 "MixDesk$Meeting" "bends" "[I") (by decide +kernel)
  have fl25 := hts (.fieldLink RX1 25 "MixDesk$Song" "lastsAt" "[I") (by decide +kernel)
  have fl9 := hts (.fieldLink RX1 9 "MixDesk$Meeting" "beats" "I") (by decide +kernel)
  have inX1 : ∀ w ∈ wsX10, w ∈ wsX1_keep := by decide +kernel
  have inX3 : ∀ w ∈ wsX30, w ∈ wsX1_keep := by decide +kernel
  have hl := lv_entry ([.ref (aq 0), .ref (a1 0), .ref (a2 0), .int (nI n), .int (nI u), .int (nI w)]) (n := 9) (Nat.le_of_ble_eq_true rfl)
  rw [lg_entry_eq]
  generalize (lg_sl ([.ref (aq 0), .ref (a1 0), .ref (a2 0), .int (nI n), .int (nI u), .int (nI w)]) ++ List.replicate (9 - (lg_sl ([.ref (aq 0), .ref (a1 0), .ref (a2 0), .int (nI n), .int (nI u), .int (nI w)])).length) Slot.unset).toArray = ls at hl ⊢
  have hl : lv_has ls 9 [(0, .ref (aq 0)), (1, .ref (a1 0)), (2, .ref (a2 0)), (3, .int (nI n)), (4, .int (nI u)), (5, .int (nI w))] := hl
  refine lv_aload_n hx hb dX1_keep_0 rfl (lv_at hl 0 rfl) ?_
  refine lv_iconst (v := nI 4) hx hb dX1_keep_1 (by decide) ?_
  refine lv_iload_n hx hb dX1_keep_2 rfl (lv_at hl 3 rfl) ?_
  refine x_imul (r := 4 * n) hx hb dX1_keep_3 (rfl) ?_
  refine va_put (D := G.1) (ci := 1) (v := .int (nI (4 * n))) (ty := .int) (C := RX1) (T := TX1) (N := 4) hx hb hts inX1 tyX1 tyX1_ok nmX1 hown hK.1 hP hD hS 0 rfl rfl 0 (by decide) fl9 (fun _ h9 => h9) rfl (by decide +kernel) rfl rfl (Nat.le_of_ble_eq_true rfl) dX1_keep_4 (fun H locs hP hD hS => ?_)
  have hP : va_P G.1 vwCl ((TW G aq (va_up FT 0 (nI (4 * n))) RT) ++ ((SW G a1 F1 R1) ++ (SW G a2 F2 R2))) H := hP
  have hD : va_D _ ((TW G aq (va_up FT 0 (nI (4 * n))) RT) ++ ((SW G a1 F1 R1) ++ (SW G a2 F2 R2))) := hD
  refine lv_aload_n hx hb dX1_keep_7 rfl (lv_at hl 0 rfl) ?_
  refine va_get (D := G.1) (ci := 1) (v := .ref (aq 2)) (C := RX1) (T := TX1) (N := 4) hx hb hts inX1 hown hK.1 hP 0 rfl rfl 1 (by decide) fl15 (fun _ h9 => h9) rfl dX1_keep_8 ?_
  refine lv_iconst (v := nI 0) hx hb dX1_keep_11 (by decide) ?_
  refine lv_iconst (v := nI 0) hx hb dX1_keep_12 (by decide) ?_
  refine x_iast hx hb hK.1 hP hD hS 1 0 (n := 33) (f := RT 1) rfl rfl (k := 0) (by omega) (by omega) dX1_keep_13 ((TW G aq (va_up FT 0 (nI (4 * n))) (va_up RT 1 (upd (RT 1) 0 (nI 0)))) ++ ((SW G a1 F1 R1) ++ (SW G a2 F2 R2))) rfl (fun H locs hP hD hS => ?_)
  refine lv_iconst (v := nI 0) hx hb dX1_keep_14 (by decide) ?_
  refine lv_istore (lv' := [(6, .int (nI 0)), (0, .ref (aq 0)), (1, .ref (a1 0)), (2, .ref (a2 0)), (3, .int (nI n)), (4, .int (nI u)), (5, .int (nI w))]) hx hb dX1_keep_15 hl (by decide) rfl (fun ls hl => ?_)
  have lp17 : ∀ (nn : Nat) (j : Nat) (BG : Nat → Int32) (LZ : Nat → Int32) (BZ : Nat → Int32), 4 * n - j < nn → (j ≤ 4 * n) → (∀ z, z ≤ j → BG z = isum (mlast (fun j => gRow σ (4 * u + j)) (fun j => gRow τ (4 * w + j)) n) z) → (∀ z, z < j → LZ z = (mlast (fun j => gRow σ (4 * u + j)) (fun j => gRow τ (4 * w + j)) n) z ∧ BZ z = mbend ((mlast (fun j => gRow σ (4 * u + j)) (fun j => gRow τ (4 * w + j)) n) z) (gRow σ (4 * u + z)) (gRow τ (4 * w + z))) → ∀ (H : Heap) (locs : List Loc), va_P G.1 vwCl ((TW G aq (va_up FT 0 (nI (4 * n))) (va_up (va_up (va_up RT 1 BG) 2 LZ) 3 BZ)) ++ ((SW G a1 F1 R1) ++ (SW G a2 F2 R2))) H → va_D (va_A ((TW G aq FT RT) ++ ((SW G a1 F1 R1) ++ (SW G a2 F2 R2))) s.heap.size) ((TW G aq (va_up FT 0 (nI (4 * n))) (va_up (va_up (va_up RT 1 BG) 2 LZ) 3 BZ)) ++ ((SW G a1 F1 R1) ++ (SW G a2 F2 R2))) → va_S (va_A ((TW G aq FT RT) ++ ((SW G a1 F1 R1) ++ (SW G a2 F2 R2))) s.heap.size) s.heap H locs → ∀ ls : Array Slot, lv_has ls 9 [(0, .ref (aq 0)), (1, .ref (a1 0)), (2, .ref (a2 0)), (3, .int (nI n)), (4, .int (nI u)), (5, .int (nI w)), (6, .int (nI j))] → mx_WE l wsX1_keep 2 45 0 0 G p e s m (([.ref (aq 0), .ref (a1 0), .ref (a2 0), .int (nI n), .int (nI u), .int (nI w)] : List Value).toArray) below meth c ((TW G aq FT RT) ++ ((SW G a1 F1 R1) ++ (SW G a2 F2 R2))) (fun _ : (Nat → Int32) × (Nat → Int32) × (Nat → Int32) => none) (fun u9 : (Nat → Int32) × (Nat → Int32) × (Nat → Int32) => (∀ z, z ≤ 4 * n → u9.1 z = isum (mlast (fun j => gRow σ (4 * u + j)) (fun j => gRow τ (4 * w + j)) n) z) ∧ ∀ z, z < 4 * n → u9.2.1 z = (mlast (fun j => gRow σ (4 * u + j)) (fun j => gRow τ (4 * w + j)) n) z ∧ u9.2.2 z = mbend ((mlast (fun j => gRow σ (4 * u + j)) (fun j => gRow τ (4 * w + j)) n) z) (gRow σ (4 * u + z)) (gRow τ (4 * w + z))) (fun u9 : (Nat → Int32) × (Nat → Int32) × (Nat → Int32) => TW G aq (va_up FT 0 (nI (4 * n))) (va_up (va_up (va_up RT 1 u9.1) 2 u9.2.1) 3 u9.2.2) ++ (SW G a1 F1 R1 ++ (SW G a2 F2 R2))) H locs 0 0 (F0 m 17 ls []) := by
    intro nn
    induction nn with
    | zero => intro j BG LZ BZ hmu; exact absurd hmu (Nat.not_lt_zero _)
    | succ nn ih17 =>
      intro j BG LZ BZ hmu hj hBg hLs H locs hP hD hS ls hl
      refine lv_iload hx hb dX1_keep_17 (lv_at hl 6 rfl) ?_
      refine lv_aload_n hx hb dX1_keep_19 rfl (lv_at hl 0 rfl) ?_
      refine va_get (D := G.1) (ci := 1) (v := .int (nI (4 * n))) (C := RX1) (T := TX1) (N := 4) hx hb hts inX1 hown hK.1 hP 0 rfl rfl 0 (by decide) fl9 (fun _ h9 => h9) rfl dX1_keep_20 ?_
      refine x_icmp_ge (tgt := 122) hx hb (by omega) (by omega) dX1_keep_23 (by decide) (fun c_23 => ?_) (fun c_23 => ?_)
      · exact W.vret hx hb hr (fun t9 ht9 hW9 => ⟨⟨(BG, LZ, BZ), rfl, ⟨fun z hz => hBg z (by omega), fun z hz => hLs z (by omega)⟩, by rw [ht9]; exact hP, hD⟩, hS.F ht9⟩) hS.2.2 dX1_keep_122
      · refine lv_aload_n hx hb dX1_keep_26 rfl (lv_at hl 1 rfl) ?_
        refine va_get (D := G.1) (ci := 3) (v := .ref (a1 19)) (C := RX3) (T := TX3) (N := 19) hx hb hts inX3 hown hK.1 hP 4 rfl rfl 18 (by decide) fl25 (fun _ h9 => h9) rfl dX1_keep_27 ?_
        refine lv_iconst (v := nI 4) hx hb dX1_keep_30 (by decide) ?_
        refine lv_iload hx hb dX1_keep_31 (lv_at hl 4 rfl) ?_
        refine x_imul (r := 4 * u) hx hb dX1_keep_33 (rfl) ?_
        refine lv_iload hx hb dX1_keep_34 (lv_at hl 6 rfl) ?_
        refine x_iadd (r := 4 * u + j) hx hb dX1_keep_36 (rfl) ?_
        refine x_iald hx hb hK.1 hP 11 0 (n := 256) (f := R1 18) rfl rfl (k := 4 * u + j) (by omega) (by omega) dX1_keep_37 ?_
        refine x_top (y := gRow σ (4 * u + j)) (hX _ (by omega)) ?_
        refine lv_istore (lv' := [(7, .int (gRow σ (4 * u + j))), (0, .ref (aq 0)), (1, .ref (a1 0)), (2, .ref (a2 0)), (3, .int (nI n)), (4, .int (nI u)), (5, .int (nI w)), (6, .int (nI j))]) hx hb dX1_keep_38 hl (by decide) rfl (fun ls hl => ?_)
        refine lv_aload_n hx hb dX1_keep_40 rfl (lv_at hl 3 rfl) ?_
        refine va_get (D := G.1) (ci := 3) (v := .ref (a2 19)) (C := RX3) (T := TX3) (N := 19) hx hb hts inX3 hown hK.1 hP 12 rfl rfl 18 (by decide) fl25 (fun _ h9 => h9) rfl dX1_keep_41 ?_
        refine lv_iconst (v := nI 4) hx hb dX1_keep_44 (by decide) ?_
        refine lv_iload hx hb dX1_keep_45 (lv_at hl 6 rfl) ?_
        refine x_imul (r := 4 * w) hx hb dX1_keep_47 (rfl) ?_
        refine lv_iload hx hb dX1_keep_48 (lv_at hl 7 rfl) ?_
        refine x_iadd (r := 4 * w + j) hx hb dX1_keep_50 (rfl) ?_
        refine x_iald hx hb hK.1 hP 19 0 (n := 256) (f := R2 18) rfl rfl (k := 4 * w + j) (by omega) (by omega) dX1_keep_51 ?_
        refine x_top (y := gRow τ (4 * w + j)) (hY _ (by omega)) ?_
        refine lv_istore (lv' := [(8, .int (gRow τ (4 * w + j))), (7, .int (gRow σ (4 * u + j))), (0, .ref (aq 0)), (1, .ref (a1 0)), (2, .ref (a2 0)), (3, .int (nI n)), (4, .int (nI u)), (5, .int (nI w)), (6, .int (nI j))]) hx hb dX1_keep_52 hl (by decide) rfl (fun ls hl => ?_)
        refine lv_aload_n hx hb dX1_keep_54 rfl (lv_at hl 2 rfl) ?_
        refine va_get (D := G.1) (ci := 1) (v := .ref (aq 3)) (C := RX1) (T := TX1) (N := 4) hx hb hts inX1 hown hK.1 hP 0 rfl rfl 2 (by decide) fl19 (fun _ h9 => h9) rfl dX1_keep_55 ?_
        refine lv_iload hx hb dX1_keep_58 (lv_at hl 8 rfl) ?_
        refine lv_iload hx hb dX1_keep_60 (lv_at hl 1 rfl) ?_
        refine lv_iload hx hb dX1_keep_62 (lv_at hl 0 rfl) ?_
        refine lv_iload hx hb dX1_keep_64 (lv_at hl 8 rfl) ?_
        refine lv_iload_n hx hb dX1_keep_66 rfl (lv_at hl 5 rfl) ?_
        refine mx_callRO (v := .int (mjoin (gRow σ (4 * u + j)) (gRow τ (4 * w + j)) j n)) (va_runSN (As := [.int (gRow σ (4 * u + j)), .int (gRow τ (4 * w + j)), .int (nI j), .int (nI n)]) (rest := [.int (nI j), .ref (aq 3)]) ⟨hx, hb, hml, hown, hts⟩ (c_X5_blend l G (gRow σ (4 * u + j)) (gRow τ (4 * w + j)) j n (gRow_b ok _) (gRow_b ok2 _) (by omega) h1 hn) ⟨va_cnB 4 hts gX1_keep_X5_blend_n30 rfl rfl rfl (hK.2.1 ("MixDesk$Meeting", 30, yX5_blend, "MixDesk") (by decide +kernel)) (hts (.initialized RX5) (by decide +kernel)) (by decide +kernel) ⟨Nat.le_of_ble_eq_true rfl, Nat.le_of_ble_eq_true rfl⟩, hts (.static yX5_blend) (by decide +kernel), trivial⟩ (mx_preS hK trivial) rfl rfl hl.1 rfl (lv_room (Nat.le_of_ble_eq_true rfl)) dX1_keep_67 ⟨Nat.zero_le _, Nat.zero_le _⟩) ?_
        refine x_top (y := (mlast (fun j => gRow σ (4 * u + j)) (fun j => gRow τ (4 * w + j)) n) j) (rfl) ?_
        refine x_iast hx hb hK.1 hP hD hS 2 0 (n := 32) (f := LZ) rfl rfl (k := j) (by omega) (by omega) dX1_keep_70 ((TW G aq (va_up FT 0 (nI (4 * n))) (va_up (va_up (va_up RT 1 BG) 3 BZ) 2 (upd LZ j ((mlast (fun j => gRow σ (4 * u + j)) (fun j => gRow τ (4 * w + j)) n) j)))) ++ ((SW G a1 F1 R1) ++ (SW G a2 F2 R2))) rfl (fun H locs hP hD hS => ?_)
        refine lv_aload_n hx hb dX1_keep_71 rfl (lv_at hl 2 rfl) ?_
        refine va_get (D := G.1) (ci := 1) (v := .ref (aq 4)) (C := RX1) (T := TX1) (N := 4) hx hb hts inX1 hown hK.1 hP 0 rfl rfl 3 (by decide) fl22 (fun _ h9 => h9) rfl dX1_keep_72 ?_
        refine lv_iload hx hb dX1_keep_75 (lv_at hl 8 rfl) ?_
        refine lv_iload hx hb dX1_keep_77 (lv_at hl 1 rfl) ?_
        refine lv_iload hx hb dX1_keep_79 (lv_at hl 0 rfl) ?_
        refine lv_aload_n hx hb dX1_keep_81 rfl (lv_at hl 2 rfl) ?_
        refine va_get (D := G.1) (ci := 1) (v := .ref (aq 3)) (C := RX1) (T := TX1) (N := 4) hx hb hts inX1 hown hK.1 hP 0 rfl rfl 2 (by decide) fl19 (fun _ h9 => h9) rfl dX1_keep_82 ?_
        refine lv_iload hx hb dX1_keep_85 (lv_at hl 8 rfl) ?_
        refine x_iald hx hb hK.1 hP 2 0 (n := 32) (f := upd LZ j ((mlast (fun j => gRow σ (4 * u + j)) (fun j => gRow τ (4 * w + j)) n) j)) rfl rfl (k := j) (by omega) (by omega) dX1_keep_87 ?_
        refine x_top (y := (mlast (fun j => gRow σ (4 * u + j)) (fun j => gRow τ (4 * w + j)) n) j) (if_pos rfl) ?_
        refine mx_callRO (v := .int (mbend ((mlast (fun j => gRow σ (4 * u + j)) (fun j => gRow τ (4 * w + j)) n) j) (gRow σ (4 * u + j)) (gRow τ (4 * w + j)))) (va_runSN (As := [.int (gRow σ (4 * u + j)), .int (gRow τ (4 * w + j)), .int ((mlast (fun j => gRow σ (4 * u + j)) (fun j => gRow τ (4 * w + j)) n) j)]) (rest := [.int (nI j), .ref (aq 4)]) ⟨hx, hb, hml, hown, hts⟩ (c_X5_bendOf l G (gRow σ (4 * u + j)) (gRow τ (4 * w + j)) ((mlast (fun j => gRow σ (4 * u + j)) (fun j => gRow τ (4 * w + j)) n) j) (gRow_ne ok _) (gRow_ne ok2 _)) ⟨va_cnB 3 hts gX1_keep_X5_bendOf_n34 rfl rfl rfl (hK.2.1 ("MixDesk$Meeting", 34, yX5_bendOf, "MixDesk") (by decide +kernel)) (hts (.initialized RX5) (by decide +kernel)) (by decide +kernel) ⟨Nat.le_of_ble_eq_true rfl, Nat.le_of_ble_eq_true rfl⟩, hts (.static yX5_bendOf) (by decide +kernel), trivial⟩ (mx_preS hK trivial) rfl rfl hl.1 rfl (lv_room (Nat.le_of_ble_eq_true rfl)) dX1_keep_88 ⟨Nat.zero_le _, Nat.zero_le _⟩) ?_
        refine x_top (y := mbend ((mlast (fun j => gRow σ (4 * u + j)) (fun j => gRow τ (4 * w + j)) n) j) (gRow σ (4 * u + j)) (gRow τ (4 * w + j))) (rfl) ?_
        refine x_iast hx hb hK.1 hP hD hS 3 0 (n := 32) (f := BZ) rfl rfl (k := j) (by omega) (by omega) dX1_keep_91 ((TW G aq (va_up FT 0 (nI (4 * n))) (va_up (va_up (va_up RT 1 BG) 2 (upd LZ j ((mlast (fun j => gRow σ (4 * u + j)) (fun j => gRow τ (4 * w + j)) n) j))) 3 (upd BZ j (mbend ((mlast (fun j => gRow σ (4 * u + j)) (fun j => gRow τ (4 * w + j)) n) j) (gRow σ (4 * u + j)) (gRow τ (4 * w + j)))))) ++ ((SW G a1 F1 R1) ++ (SW G a2 F2 R2))) rfl (fun H locs hP hD hS => ?_)
        refine lv_aload_n hx hb dX1_keep_92 rfl (lv_at hl 2 rfl) ?_
        refine va_get (D := G.1) (ci := 1) (v := .ref (aq 2)) (C := RX1) (T := TX1) (N := 4) hx hb hts inX1 hown hK.1 hP 0 rfl rfl 1 (by decide) fl15 (fun _ h9 => h9) rfl dX1_keep_93 ?_
        refine lv_iload hx hb dX1_keep_96 (lv_at hl 8 rfl) ?_
        refine lv_iconst (v := nI 1) hx hb dX1_keep_98 (by decide) ?_
        refine x_iadd (r := j + 1) hx hb dX1_keep_99 (rfl) ?_
        refine lv_aload_n hx hb dX1_keep_100 rfl (lv_at hl 2 rfl) ?_
        refine va_get (D := G.1) (ci := 1) (v := .ref (aq 2)) (C := RX1) (T := TX1) (N := 4) hx hb hts inX1 hown hK.1 hP 0 rfl rfl 1 (by decide) fl15 (fun _ h9 => h9) rfl dX1_keep_101 ?_
        refine lv_iload hx hb dX1_keep_104 (lv_at hl 8 rfl) ?_
        refine x_iald hx hb hK.1 hP 1 0 (n := 33) (f := BG) rfl rfl (k := j) (by omega) (by omega) dX1_keep_106 ?_
        refine x_top (y := isum (mlast (fun j => gRow σ (4 * u + j)) (fun j => gRow τ (4 * w + j)) n) j) (hBg j (by omega)) ?_
        refine lv_aload_n hx hb dX1_keep_107 rfl (lv_at hl 2 rfl) ?_
        refine va_get (D := G.1) (ci := 1) (v := .ref (aq 3)) (C := RX1) (T := TX1) (N := 4) hx hb hts inX1 hown hK.1 hP 0 rfl rfl 2 (by decide) fl19 (fun _ h9 => h9) rfl dX1_keep_108 ?_
        refine lv_iload hx hb dX1_keep_111 (lv_at hl 8 rfl) ?_
        refine x_iald hx hb hK.1 hP 2 0 (n := 32) (f := upd LZ j ((mlast (fun j => gRow σ (4 * u + j)) (fun j => gRow τ (4 * w + j)) n) j)) rfl rfl (k := j) (by omega) (by omega) dX1_keep_113 ?_
        refine x_top (y := (mlast (fun j => gRow σ (4 * u + j)) (fun j => gRow τ (4 * w + j)) n) j) (if_pos rfl) ?_
        refine lv_iadd hx hb dX1_keep_114 ?_
        refine x_top (y := isum (mlast (fun j => gRow σ (4 * u + j)) (fun j => gRow τ (4 * w + j)) n) (j + 1)) (rfl) ?_
        refine x_iast hx hb hK.1 hP hD hS 1 0 (n := 33) (f := BG) rfl rfl (k := j + 1) (by omega) (by omega) dX1_keep_115 ((TW G aq (va_up FT 0 (nI (4 * n))) (va_up (va_up (va_up RT 2 (upd LZ j ((mlast (fun j => gRow σ (4 * u + j)) (fun j => gRow τ (4 * w + j)) n) j))) 3 (upd BZ j (mbend ((mlast (fun j => gRow σ (4 * u + j)) (fun j => gRow τ (4 * w + j)) n) j) (gRow σ (4 * u + j)) (gRow τ (4 * w + j))))) 1 (upd BG (j + 1) (isum (mlast (fun j => gRow σ (4 * u + j)) (fun j => gRow τ (4 * w + j)) n) (j + 1))))) ++ ((SW G a1 F1 R1) ++ (SW G a2 F2 R2))) rfl (fun H locs hP hD hS => ?_)
        refine x_iinc (lv' := [(6, .int (nI (j + 1))), (8, .int (gRow τ (4 * w + j))), (7, .int (gRow σ (4 * u + j))), (0, .ref (aq 0)), (1, .ref (a1 0)), (2, .ref (a2 0)), (3, .int (nI n)), (4, .int (nI u)), (5, .int (nI w))]) hx hb dX1_keep_116 hl (k := 8) rfl (x_inc1 _) (by decide) rfl (fun ls hl => ?_)
        refine lv_goto (tgt := 17) hx hb dX1_keep_119 (by decide) ?_
        exact ih17 (j + 1) (upd BG (j + 1) (isum (mlast (fun j => gRow σ (4 * u + j)) (fun j => gRow τ (4 * w + j)) n) (j + 1))) (upd LZ j ((mlast (fun j => gRow σ (4 * u + j)) (fun j => gRow τ (4 * w + j)) n) j)) (upd BZ j (mbend ((mlast (fun j => gRow σ (4 * u + j)) (fun j => gRow τ (4 * w + j)) n) j) (gRow σ (4 * u + j)) (gRow τ (4 * w + j)))) (by omega) (by omega) (fun z hz => by unfold upd; by_cases e : z = j + 1; (· rw [if_pos e, e]); (· rw [if_neg e]; exact hBg z (by omega))) (pair_s hLs rfl rfl) _ _ hP hD hS _ (lv_sub hl [3, 4, 5, 6, 7, 8, 0] rfl)
  exact lp17 (4 * n - 0 + 1) 0 (upd (RT 1) 0 (nI 0)) (RT 2) (RT 3) (Nat.lt_succ_self _) (by omega) (fun z hz => by unfold upd; rw [if_pos (by omega), show z = 0 by omega]; rfl) (fun z hz => absurd hz (Nat.not_lt_zero _)) _ _ hP hD hS _ (lv_sub hl [1, 2, 3, 4, 5, 6, 0] rfl)

set_option maxHeartbeats 4000000 in
set_option maxRecDepth 100000 in
theorem c_X1_tell (l : Launch) (G : mx_G) (aq : Nat → Nat) (FT : Nat → Int32) (RT : Nat → Nat → Int32) (M : Nat) (L B : Nat → Int32) (x w : Int32) (hF : FT 0 = nI M) (hM : M ≤ 32) (hme : meOk M RT L B) : mx_RO l yX1_tell wsX1_tell 1 22 G [.ref (aq 0), .int x, .int w] (fun H => va_P G.1 vwCl (TW G aq FT RT) H) (.int (aMeets M L B x w)) := by
  refine Met.ofW (cc := cX1_tell) (maxL := 3) (ret := (some .int)) (by decide) rfl ?_
  intro p e s m args below meth c s₁ BB hml hv
  obtain ⟨rfl, hP, hK⟩ := hv
  have hx := BB.exec
  have hb := BB.bytes
  have hr := BB.returns
  have hts := atoms_spec (ws := wsX1_tell) BB.pre
  have hown : s.vm.findClass RX1 = some m.cls := findClass_of_methodNamed BB.named
  have hlocks := BB.notSynchronized
  have hP : va_P G.1 vwCl (TW G aq FT RT) s.heap := hP
  have fl15 := hts (.fieldLink RX1 15 "MixDesk$Meeting" "begins" "[I") (by decide +kernel)
  have fl19 := hts (.fieldLink RX1 19 "MixDesk$Meeting" "lasts" "[I") (by decide +kernel)
  have fl22 := hts (.fieldLink RX1 22 "MixDesk$Meeting" "bends" "[I") (by decide +kernel)
  have fl9 := hts (.fieldLink RX1 9 "MixDesk$Meeting" "beats" "I") (by decide +kernel)
  have inX1 : ∀ w ∈ wsX10, w ∈ wsX1_tell := by decide +kernel
  have hl := lv_entry ([.ref (aq 0), .int x, .int w]) (n := 3) (Nat.le_of_ble_eq_true rfl)
  rw [lg_entry_eq]
  generalize (lg_sl ([.ref (aq 0), .int x, .int w]) ++ List.replicate (3 - (lg_sl ([.ref (aq 0), .int x, .int w])).length) Slot.unset).toArray = ls at hl ⊢
  have hl : lv_has ls 3 [(0, .ref (aq 0)), (1, .int x), (2, .int w)] := hl
  show mx_WR l wsX1_tell 1 22 p e s m (([.ref (aq 0), .int x, .int w] : List Value).toArray) below meth c (.int (aMeets M L B x w)) (F0 m 0 ls [])
  refine lv_aload_n hx hb dX1_tell_0 rfl (lv_at hl 0 rfl) ?_
  refine va_get (D := G.1) (ci := 1) (v := .int (FT 0)) (C := RX1) (T := TX1) (N := 4) hx hb hts inX1 hown hK.1 hP 0 rfl rfl 0 (by decide) fl9 (fun _ h9 => h9) rfl dX1_tell_1 ?_
  refine x_top (y := nI M) (hF) ?_
  refine x_if_eq (tgt := 32) hx hb (by omega) dX1_tell_4 (by decide) (fun c_4 => ?_) (fun c_4 => ?_)
  · refine lv_iconst (v := (-1)) hx hb dX1_tell_32 (by decide) ?_
    refine x_top (y := aMeets M L B x w) (by unfold aMeets; rw [if_pos c_4]; split <;> rfl) ?_
    exact W.iret (v := aMeets M L B x w) hx hb hr (fun t9 ht9 hW9 => ⟨rfl, ht9⟩) (fun _ h => by cases h) dX1_tell_33
  · refine lv_iload_n hx hb dX1_tell_7 rfl (lv_at hl 1 rfl) ?_
    refine lv_iconst (v := nI 0) hx hb dX1_tell_8 (by decide) ?_
    refine lv_iload_n hx hb dX1_tell_9 rfl (lv_at hl 2 rfl) ?_
    refine lv_if_ne (tgt := 20) hx hb dX1_tell_10 (by decide) (fun c_10 => ?_) (fun c_10 => ?_)
    · refine lv_aload_n hx hb dX1_tell_20 rfl (lv_at hl 0 rfl) ?_
      refine va_get (D := G.1) (ci := 1) (v := .int (FT 0)) (C := RX1) (T := TX1) (N := 4) hx hb hts inX1 hown hK.1 hP 0 rfl rfl 0 (by decide) fl9 (fun _ h9 => h9) rfl dX1_tell_21 ?_
      refine x_top (y := nI M) (hF) ?_
      refine lv_iconst (v := nI 1) hx hb dX1_tell_24 (by decide) ?_
      refine x_isub (r := M - 1) hx hb dX1_tell_25 (by omega) ?_
      refine mx_callRO (v := .int (wi x (nI 0) (nI (M - 1)))) (va_runSN (As := [.int x, .int (nI 0), .int (nI (M - 1))]) (rest := []) ⟨hx, hb, hml, hown, hts⟩ (c_X5_within l G x (nI 0) (nI (M - 1))) ⟨va_cnB 3 hts gX1_tell_X5_within_n38 rfl rfl rfl (hK.2.1 ("MixDesk$Meeting", 38, yX5_within, "MixDesk") (by decide +kernel)) (hts (.initialized RX5) (by decide +kernel)) (by decide +kernel) ⟨Nat.le_of_ble_eq_true rfl, Nat.le_of_ble_eq_true rfl⟩, hts (.static yX5_within) (by decide +kernel), trivial⟩ (mx_preS hK trivial) rfl rfl hl.1 rfl (lv_room (Nat.le_of_ble_eq_true rfl)) dX1_tell_26 ⟨Nat.zero_le _, Nat.zero_le _⟩) ?_
      refine lv_if_ne (tgt := 34) hx hb dX1_tell_29 (by decide) (fun c_29 => ?_) (fun c_29 => ?_)
      · obtain ⟨i, hi, rfl⟩ := le_of (n := M - 1) (by omega) (wi_1 c_29).1 (wi_1 c_29).2
        refine lv_iload_n hx hb dX1_tell_34 rfl (lv_at hl 2 rfl) ?_
        rcases sw_of 3 (by omega) w with ⟨kk, hkk, e_35⟩ | h_35
        · rcases (show kk = 0 ∨ kk = 1 ∨ kk = 2 by omega) with rfl | rfl | rfl
          · subst e_35
            refine lv_tableIn (x := nI 0) hx hb dX1_tell_35 (by decide) (by decide) (off := 25) (by decide) (tgt := 60) (by decide) ?_
            refine lv_aload_n hx hb dX1_tell_60 rfl (lv_at hl 0 rfl) ?_
            refine va_get (D := G.1) (ci := 1) (v := .ref (aq 2)) (C := RX1) (T := TX1) (N := 4) hx hb hts inX1 hown hK.1 hP 0 rfl rfl 1 (by decide) fl15 (fun _ h9 => h9) rfl dX1_tell_61 ?_
            refine lv_iload_n hx hb dX1_tell_64 rfl (lv_at hl 1 rfl) ?_
            refine x_iald hx hb hK.1 hP 1 0 (n := 33) (f := RT 1) rfl rfl (k := i) (by omega) (by omega) dX1_tell_65 ?_
            refine x_top (y := aMeets M L B (nI i) (nI 0)) (absurd rfl c_10) ?_
            exact W.iret (v := aMeets M L B (nI i) (nI 0)) hx hb hr (fun t9 ht9 hW9 => ⟨rfl, ht9⟩) (fun _ h => by cases h) dX1_tell_66
          · subst e_35
            refine lv_tableIn (x := nI 1) hx hb dX1_tell_35 (by decide) (by decide) (off := 32) (by decide) (tgt := 67) (by decide) ?_
            refine lv_aload_n hx hb dX1_tell_67 rfl (lv_at hl 0 rfl) ?_
            refine va_get (D := G.1) (ci := 1) (v := .ref (aq 3)) (C := RX1) (T := TX1) (N := 4) hx hb hts inX1 hown hK.1 hP 0 rfl rfl 2 (by decide) fl19 (fun _ h9 => h9) rfl dX1_tell_68 ?_
            refine lv_iload_n hx hb dX1_tell_71 rfl (lv_at hl 1 rfl) ?_
            refine x_iald hx hb hK.1 hP 2 0 (n := 32) (f := RT 2) rfl rfl (k := i) (by omega) (by omega) dX1_tell_72 ?_
            refine x_top (y := aMeets M L B (nI i) (nI 1)) (by rw [meets_in hM c_4 (by omega) (Or.inr (by omega))]; exact (hme.2 i (by omega)).1) ?_
            exact W.iret (v := aMeets M L B (nI i) (nI 1)) hx hb hr (fun t9 ht9 hW9 => ⟨rfl, ht9⟩) (fun _ h => by cases h) dX1_tell_73
          · subst e_35
            refine lv_tableIn (x := nI 2) hx hb dX1_tell_35 (by decide) (by decide) (off := 39) (by decide) (tgt := 74) (by decide) ?_
            refine lv_aload_n hx hb dX1_tell_74 rfl (lv_at hl 0 rfl) ?_
            refine va_get (D := G.1) (ci := 1) (v := .ref (aq 4)) (C := RX1) (T := TX1) (N := 4) hx hb hts inX1 hown hK.1 hP 0 rfl rfl 3 (by decide) fl22 (fun _ h9 => h9) rfl dX1_tell_75 ?_
            refine lv_iload_n hx hb dX1_tell_78 rfl (lv_at hl 1 rfl) ?_
            refine x_iald hx hb hK.1 hP 3 0 (n := 32) (f := RT 3) rfl rfl (k := i) (by omega) (by omega) dX1_tell_79 ?_
            refine x_top (y := aMeets M L B (nI i) (nI 2)) (by rw [meets_in hM c_4 (by omega) (Or.inr (by omega))]; exact (hme.2 i (by omega)).2) ?_
            exact W.iret (v := aMeets M L B (nI i) (nI 2)) hx hb hr (fun t9 ht9 hW9 => ⟨rfl, ht9⟩) (fun _ h => by cases h) dX1_tell_80
        · refine lv_tableOut (tgt := 81) hx hb dX1_tell_35 h_35 (by decide) ?_
          refine lv_iconst (v := (-1)) hx hb dX1_tell_81 (by decide) ?_
          refine x_top (y := aMeets M L B (nI i) w) (by rw [meets_in hM c_4 (by omega) (Or.inr (by omega))]; exact tell_out h_35) ?_
          exact W.iret (v := aMeets M L B (nI i) w) hx hb hr (fun t9 ht9 hW9 => ⟨rfl, ht9⟩) (fun _ h => by cases h) dX1_tell_82
      · refine lv_iconst (v := (-1)) hx hb dX1_tell_32 (by decide) ?_
        refine x_top (y := aMeets M L B x w) ((tell_w1 hM c_4 c_10 c_29).symm) ?_
        exact W.iret (v := aMeets M L B x w) hx hb hr (fun t9 ht9 hW9 => ⟨rfl, ht9⟩) (fun _ h => by cases h) dX1_tell_33
    · refine lv_aload_n hx hb dX1_tell_13 rfl (lv_at hl 0 rfl) ?_
      refine va_get (D := G.1) (ci := 1) (v := .int (FT 0)) (C := RX1) (T := TX1) (N := 4) hx hb hts inX1 hown hK.1 hP 0 rfl rfl 0 (by decide) fl9 (fun _ h9 => h9) rfl dX1_tell_14 ?_
      refine x_top (y := nI M) (hF) ?_
      refine lv_goto (tgt := 26) hx hb dX1_tell_17 (by decide) ?_
      refine mx_callRO (v := .int (wi x (nI 0) (nI M))) (va_runSN (As := [.int x, .int (nI 0), .int (nI M)]) (rest := []) ⟨hx, hb, hml, hown, hts⟩ (c_X5_within l G x (nI 0) (nI M)) ⟨va_cnB 3 hts gX1_tell_X5_within_n38 rfl rfl rfl (hK.2.1 ("MixDesk$Meeting", 38, yX5_within, "MixDesk") (by decide +kernel)) (hts (.initialized RX5) (by decide +kernel)) (by decide +kernel) ⟨Nat.le_of_ble_eq_true rfl, Nat.le_of_ble_eq_true rfl⟩, hts (.static yX5_within) (by decide +kernel), trivial⟩ (mx_preS hK trivial) rfl rfl hl.1 rfl (lv_room (Nat.le_of_ble_eq_true rfl)) dX1_tell_26 ⟨Nat.zero_le _, Nat.zero_le _⟩) ?_
      refine lv_if_ne (tgt := 34) hx hb dX1_tell_29 (by decide) (fun c_29 => ?_) (fun c_29 => ?_)
      · obtain ⟨i, hi, rfl⟩ := le_of (n := M) (by omega) (wi_1 c_29).1 (wi_1 c_29).2
        refine lv_iload_n hx hb dX1_tell_34 rfl (lv_at hl 2 rfl) ?_
        rcases sw_of 3 (by omega) w with ⟨kk, hkk, e_35⟩ | h_35
        · rcases (show kk = 0 ∨ kk = 1 ∨ kk = 2 by omega) with rfl | rfl | rfl
          · subst e_35
            refine lv_tableIn (x := nI 0) hx hb dX1_tell_35 (by decide) (by decide) (off := 25) (by decide) (tgt := 60) (by decide) ?_
            refine lv_aload_n hx hb dX1_tell_60 rfl (lv_at hl 0 rfl) ?_
            refine va_get (D := G.1) (ci := 1) (v := .ref (aq 2)) (C := RX1) (T := TX1) (N := 4) hx hb hts inX1 hown hK.1 hP 0 rfl rfl 1 (by decide) fl15 (fun _ h9 => h9) rfl dX1_tell_61 ?_
            refine lv_iload_n hx hb dX1_tell_64 rfl (lv_at hl 1 rfl) ?_
            refine x_iald hx hb hK.1 hP 1 0 (n := 33) (f := RT 1) rfl rfl (k := i) (by omega) (by omega) dX1_tell_65 ?_
            refine x_top (y := aMeets M L B (nI i) (nI 0)) (by rw [meets_in hM c_4 (by omega) (Or.inl (by first | exact c_10 | rfl))]; exact hme.1 i (by omega)) ?_
            exact W.iret (v := aMeets M L B (nI i) (nI 0)) hx hb hr (fun t9 ht9 hW9 => ⟨rfl, ht9⟩) (fun _ h => by cases h) dX1_tell_66
          · subst e_35
            refine lv_tableIn (x := nI 1) hx hb dX1_tell_35 (by decide) (by decide) (off := 32) (by decide) (tgt := 67) (by decide) ?_
            refine lv_aload_n hx hb dX1_tell_67 rfl (lv_at hl 0 rfl) ?_
            refine va_get (D := G.1) (ci := 1) (v := .ref (aq 3)) (C := RX1) (T := TX1) (N := 4) hx hb hts inX1 hown hK.1 hP 0 rfl rfl 2 (by decide) fl19 (fun _ h9 => h9) rfl dX1_tell_68 ?_
            refine lv_iload_n hx hb dX1_tell_71 rfl (lv_at hl 1 rfl) ?_
            refine x_iald hx hb hK.1 hP 2 0 (n := 32) (f := RT 2) rfl rfl (k := i) (absurd c_10 (by decide)) (by omega) dX1_tell_72 ?_
            refine x_top (y := aMeets M L B (nI i) (nI 1)) (absurd c_10 (by decide)) ?_
            exact W.iret (v := aMeets M L B (nI i) (nI 1)) hx hb hr (fun t9 ht9 hW9 => ⟨rfl, ht9⟩) (fun _ h => by cases h) dX1_tell_73
          · subst e_35
            refine lv_tableIn (x := nI 2) hx hb dX1_tell_35 (by decide) (by decide) (off := 39) (by decide) (tgt := 74) (by decide) ?_
            refine lv_aload_n hx hb dX1_tell_74 rfl (lv_at hl 0 rfl) ?_
            refine va_get (D := G.1) (ci := 1) (v := .ref (aq 4)) (C := RX1) (T := TX1) (N := 4) hx hb hts inX1 hown hK.1 hP 0 rfl rfl 3 (by decide) fl22 (fun _ h9 => h9) rfl dX1_tell_75 ?_
            refine lv_iload_n hx hb dX1_tell_78 rfl (lv_at hl 1 rfl) ?_
            refine x_iald hx hb hK.1 hP 3 0 (n := 32) (f := RT 3) rfl rfl (k := i) (absurd c_10 (by decide)) (by omega) dX1_tell_79 ?_
            refine x_top (y := aMeets M L B (nI i) (nI 2)) (absurd c_10 (by decide)) ?_
            exact W.iret (v := aMeets M L B (nI i) (nI 2)) hx hb hr (fun t9 ht9 hW9 => ⟨rfl, ht9⟩) (fun _ h => by cases h) dX1_tell_80
        · refine lv_tableOut (tgt := 81) hx hb dX1_tell_35 h_35 (by decide) ?_
          refine lv_iconst (v := (-1)) hx hb dX1_tell_81 (by decide) ?_
          refine x_top (y := aMeets M L B (nI i) w) (by rw [meets_in hM c_4 (by omega) (Or.inl c_10)]; exact tell_out h_35) ?_
          exact W.iret (v := aMeets M L B (nI i) w) hx hb hr (fun t9 ht9 hW9 => ⟨rfl, ht9⟩) (fun _ h => by cases h) dX1_tell_82
      · refine lv_iconst (v := (-1)) hx hb dX1_tell_32 (by decide) ?_
        refine x_top (y := aMeets M L B x w) ((tell_w0 hM c_10 c_29).symm) ?_
        exact W.iret (v := aMeets M L B x w) hx hb hr (fun t9 ht9 hW9 => ⟨rfl, ht9⟩) (fun _ h => by cases h) dX1_tell_33

set_option maxHeartbeats 4000000 in
set_option maxRecDepth 100000 in
theorem c_X3_init (l : Launch) (G : mx_G) (h0 : Nat) (j n : Nat) (k st x : Int32) (ok : sgOk (newSg k n st x)) (sz : Nat) : mx_EF l yX3_init wsX3_init 3 67 7 836 G [.ref h0, .int (nI j), .int k, .int (nI n), .int st, .int x] sz ([(h0, .inr (3, [.int (nI 0), .int (nI 0), .int (nI 0), .int (nI 0), .int (nI 0), .int (nI 0), .int (nI 0), .int (nI 0), .int (nI 0), .int (nI 0), .int (nI 0), .int (nI 0), .null, .null, .null, .null, .null, .null, .null]))]) (fun _ : (Nat → Nat) × (Nat → Int32) × (Nat → Nat → Int32) => none) (fun u : (Nat → Nat) × (Nat → Int32) × (Nat → Nat → Int32) => u.1 0 = h0 ∧ soAll u.2.1 u.2.2 (newSg k n st x) ∧ u.2.1 0 = nI j) (fun u : (Nat → Nat) × (Nat → Int32) × (Nat → Nat → Int32) => SW G u.1 u.2.1 u.2.2) := by
  refine Met.ofW (cc := cX3_init) (maxL := 6) (ret := none) (by decide) rfl ?_
  intro p e s m args below meth c s₁ BB hml hv
  obtain ⟨rfl, ⟨hsz, hP, hD0⟩, hK⟩ := hv
  have hx := BB.exec
  have hb := BB.bytes
  have hr := BB.returns
  have hts := atoms_spec (ws := wsX3_init) BB.pre
  have hown : s.vm.findClass RX3 = some m.cls := findClass_of_methodNamed BB.named
  have hlocks := BB.notSynchronized
  have hin : meth.name = "<init>" := (name_of_methodNamed BB.named BB.method).1
  subst hsz
  have hD := hD0.self (sz := s.heap.size)
  have hA : ∀ q : Nat, s.heap.size ≤ q → va_A ([(h0, .inr (3, [.int (nI 0), .int (nI 0), .int (nI 0), .int (nI 0), .int (nI 0), .int (nI 0), .int (nI 0), .int (nI 0), .int (nI 0), .int (nI 0), .int (nI 0), .int (nI 0), .null, .null, .null, .null, .null, .null, .null]))]) s.heap.size q := fun q h => Or.inr h
  have hS : va_S (va_A ([(h0, .inr (3, [.int (nI 0), .int (nI 0), .int (nI 0), .int (nI 0), .int (nI 0), .int (nI 0), .int (nI 0), .int (nI 0), .int (nI 0), .int (nI 0), .int (nI 0), .int (nI 0), .null, .null, .null, .null, .null, .null, .null]))]) s.heap.size) s.heap s.heap [] := va_S.rf
  have fl15 := hts (.fieldLink RX3 15 "MixDesk$Song" "heat" "I") (by decide +kernel)
  have fl18 := hts (.fieldLink RX3 18 "MixDesk$Song" "phrase" "I") (by decide +kernel)
  have fl21 := hts (.fieldLink RX3 21 "MixDesk$Song" "loopFrom" "I") (by decide +kernel)
  have fl24 := hts (.fieldLink RX3 24 "MixDesk$Song" "loopTo" "I") (by decide +kernel)
  have fl27 := hts (.fieldLink RX3 27 "MixDesk$Song" "loopTimes" "I") (by decide +kernel)
  have fl30 := hts (.fieldLink RX3 30 "MixDesk$Song" "beatsOf" "[I") (by decide +kernel)
  have fl34 := hts (.fieldLink RX3 34 "MixDesk$Song" "firstOf" "[I") (by decide +kernel)
  have fl37 := hts (.fieldLink RX3 37 "MixDesk$Song" "tickOf" "[I") (by decide +kernel)
  have fl40 := hts (.fieldLink RX3 40 "MixDesk$Song" "barAt" "[I") (by decide +kernel)
  have fl43 := hts (.fieldLink RX3 43 "MixDesk$Song" "tickAt" "[I") (by decide +kernel)
  have fl46 := hts (.fieldLink RX3 46 "MixDesk$Song" "wholeFrom" "[I") (by decide +kernel)
  have fl49 := hts (.fieldLink RX3 49 "MixDesk$Song" "lastsAt" "[I") (by decide +kernel)
  have fl52 := hts (.fieldLink RX3 52 "MixDesk$Song" "number" "I") (by decide +kernel)
  have fl55 := hts (.fieldLink RX3 55 "MixDesk$Song" "kind" "I") (by decide +kernel)
  have fl58 := hts (.fieldLink RX3 58 "MixDesk$Song" "bars" "I") (by decide +kernel)
  have fl61 := hts (.fieldLink RX3 61 "MixDesk$Song" "step" "I") (by decide +kernel)
  have fl64 := hts (.fieldLink RX3 64 "MixDesk$Song" "more" "I") (by decide +kernel)
  have fl9 := hts (.fieldLink RX3 9 "MixDesk$Song" "key" "I") (by decide +kernel)
  have inX3 : ∀ w ∈ wsX30, w ∈ wsX3_init := by decide +kernel
  have hl := lv_entry ([.ref h0, .int (nI j), .int k, .int (nI n), .int st, .int x]) (n := 6) (Nat.le_of_ble_eq_true rfl)
  rw [lg_entry_eq]
  generalize (lg_sl ([.ref h0, .int (nI j), .int k, .int (nI n), .int st, .int x]) ++ List.replicate (6 - (lg_sl ([.ref h0, .int (nI j), .int k, .int (nI n), .int st, .int x])).length) Slot.unset).toArray = ls at hl ⊢
  have hl : lv_has ls 6 [(0, .ref h0), (1, .int (nI j)), (2, .int k), (3, .int (nI n)), (4, .int st), (5, .int x)] := hl
  refine lv_aload_n hx hb dX3_init_0 rfl (lv_at hl 0 rfl) ?_
  refine W.objInit hx hb hown (hts (.methodLink RX3 3 objectInit) (by decide +kernel)) (hts (.instanceMethod objectInit) (by decide +kernel)) (hts (.code objectInit ⟨#[0xb1]⟩ 1 none) (by decide +kernel)) rfl (by rw [hml]; exact hl.1) rfl dX3_init_1 (Nat.le_of_ble_eq_true rfl) (Nat.le_of_ble_eq_true rfl) ?_
  refine W.eq (g2 := F0 m 4 ls []) rfl ?_
  refine lv_aload_n hx hb dX3_init_4 rfl (lv_at hl 0 rfl) ?_
  refine lv_iconst (v := nI 0) hx hb dX3_init_5 (by decide) ?_
  refine va_put (D := G.1) (ci := 3) (v := .int (nI 0)) (ty := .int) (C := RX3) (T := TX3) (N := 19) hx hb hts inX3 tyX3 tyX3_ok nmX3 hown hK.1 hP hD hS 0 rfl rfl 5 (by decide) fl9 (fun _ h9 => h9) rfl (by decide +kernel) rfl rfl (Nat.le_of_ble_eq_true rfl) dX3_init_6 (fun H locs hP hD hS => ?_)
  have hP : va_P G.1 vwCl ([(h0, .inr (3, [.int (nI 0), .int (nI 0), .int (nI 0), .int (nI 0), .int (nI 0), .int (nI 0), .int (nI 0), .int (nI 0), .int (nI 0), .int (nI 0), .int (nI 0), .int (nI 0), .null, .null, .null, .null, .null, .null, .null]))]) H := hP
  have hD : va_D _ ([(h0, .inr (3, [.int (nI 0), .int (nI 0), .int (nI 0), .int (nI 0), .int (nI 0), .int (nI 0), .int (nI 0), .int (nI 0), .int (nI 0), .int (nI 0), .int (nI 0), .int (nI 0), .null, .null, .null, .null, .null, .null, .null]))]) := hD
  refine lv_aload_n hx hb dX3_init_9 rfl (lv_at hl 0 rfl) ?_
  refine lv_iconst (v := nI 0) hx hb dX3_init_10 (by decide) ?_
  refine va_put (D := G.1) (ci := 3) (v := .int (nI 0)) (ty := .int) (C := RX3) (T := TX3) (N := 19) hx hb hts inX3 tyX3 tyX3_ok nmX3 hown hK.1 hP hD hS 0 rfl rfl 6 (by decide) fl15 (fun _ h9 => h9) rfl (by decide +kernel) rfl rfl (Nat.le_of_ble_eq_true rfl) dX3_init_11 (fun H locs hP hD hS => ?_)
  have hP : va_P G.1 vwCl ([(h0, .inr (3, [.int (nI 0), .int (nI 0), .int (nI 0), .int (nI 0), .int (nI 0), .int (nI 0), .int (nI 0), .int (nI 0), .int (nI 0), .int (nI 0), .int (nI 0), .int (nI 0), .null, .null, .null, .null, .null, .null, .null]))]) H := hP
  have hD : va_D _ ([(h0, .inr (3, [.int (nI 0), .int (nI 0), .int (nI 0), .int (nI 0), .int (nI 0), .int (nI 0), .int (nI 0), .int (nI 0), .int (nI 0), .int (nI 0), .int (nI 0), .int (nI 0), .null, .null, .null, .null, .null, .null, .null]))]) := hD
  refine lv_aload_n hx hb dX3_init_14 rfl (lv_at hl 0 rfl) ?_
  refine lv_iconst (v := nI 4) hx hb dX3_init_15 (by decide) ?_
  refine va_put (D := G.1) (ci := 3) (v := .int (nI 4)) (ty := .int) (C := RX3) (T := TX3) (N := 19) hx hb hts inX3 tyX3 tyX3_ok nmX3 hown hK.1 hP hD hS 0 rfl rfl 7 (by decide) fl18 (fun _ h9 => h9) rfl (by decide +kernel) rfl rfl (Nat.le_of_ble_eq_true rfl) dX3_init_16 (fun H locs hP hD hS => ?_)
  have hP : va_P G.1 vwCl ([(h0, .inr (3, [.int (nI 0), .int (nI 0), .int (nI 0), .int (nI 0), .int (nI 0), .int (nI 0), .int (nI 0), .int (nI 4), .int (nI 0), .int (nI 0), .int (nI 0), .int (nI 0), .null, .null, .null, .null, .null, .null, .null]))]) H := hP
  have hD : va_D _ ([(h0, .inr (3, [.int (nI 0), .int (nI 0), .int (nI 0), .int (nI 0), .int (nI 0), .int (nI 0), .int (nI 0), .int (nI 4), .int (nI 0), .int (nI 0), .int (nI 0), .int (nI 0), .null, .null, .null, .null, .null, .null, .null]))]) := hD
  refine lv_aload_n hx hb dX3_init_19 rfl (lv_at hl 0 rfl) ?_
  refine lv_iconst (v := nI 0) hx hb dX3_init_20 (by decide) ?_
  refine va_put (D := G.1) (ci := 3) (v := .int (nI 0)) (ty := .int) (C := RX3) (T := TX3) (N := 19) hx hb hts inX3 tyX3 tyX3_ok nmX3 hown hK.1 hP hD hS 0 rfl rfl 8 (by decide) fl21 (fun _ h9 => h9) rfl (by decide +kernel) rfl rfl (Nat.le_of_ble_eq_true rfl) dX3_init_21 (fun H locs hP hD hS => ?_)
  have hP : va_P G.1 vwCl ([(h0, .inr (3, [.int (nI 0), .int (nI 0), .int (nI 0), .int (nI 0), .int (nI 0), .int (nI 0), .int (nI 0), .int (nI 4), .int (nI 0), .int (nI 0), .int (nI 0), .int (nI 0), .null, .null, .null, .null, .null, .null, .null]))]) H := hP
  have hD : va_D _ ([(h0, .inr (3, [.int (nI 0), .int (nI 0), .int (nI 0), .int (nI 0), .int (nI 0), .int (nI 0), .int (nI 0), .int (nI 4), .int (nI 0), .int (nI 0), .int (nI 0), .int (nI 0), .null, .null, .null, .null, .null, .null, .null]))]) := hD
  refine lv_aload_n hx hb dX3_init_24 rfl (lv_at hl 0 rfl) ?_
  refine lv_iconst (v := nI 0) hx hb dX3_init_25 (by decide) ?_
  refine va_put (D := G.1) (ci := 3) (v := .int (nI 0)) (ty := .int) (C := RX3) (T := TX3) (N := 19) hx hb hts inX3 tyX3 tyX3_ok nmX3 hown hK.1 hP hD hS 0 rfl rfl 9 (by decide) fl24 (fun _ h9 => h9) rfl (by decide +kernel) rfl rfl (Nat.le_of_ble_eq_true rfl) dX3_init_26 (fun H locs hP hD hS => ?_)
  have hP : va_P G.1 vwCl ([(h0, .inr (3, [.int (nI 0), .int (nI 0), .int (nI 0), .int (nI 0), .int (nI 0), .int (nI 0), .int (nI 0), .int (nI 4), .int (nI 0), .int (nI 0), .int (nI 0), .int (nI 0), .null, .null, .null, .null, .null, .null, .null]))]) H := hP
  have hD : va_D _ ([(h0, .inr (3, [.int (nI 0), .int (nI 0), .int (nI 0), .int (nI 0), .int (nI 0), .int (nI 0), .int (nI 0), .int (nI 4), .int (nI 0), .int (nI 0), .int (nI 0), .int (nI 0), .null, .null, .null, .null, .null, .null, .null]))]) := hD
  refine lv_aload_n hx hb dX3_init_29 rfl (lv_at hl 0 rfl) ?_
  refine lv_iconst (v := nI 1) hx hb dX3_init_30 (by decide) ?_
  refine va_put (D := G.1) (ci := 3) (v := .int (nI 1)) (ty := .int) (C := RX3) (T := TX3) (N := 19) hx hb hts inX3 tyX3 tyX3_ok nmX3 hown hK.1 hP hD hS 0 rfl rfl 10 (by decide) fl27 (fun _ h9 => h9) rfl (by decide +kernel) rfl rfl (Nat.le_of_ble_eq_true rfl) dX3_init_31 (fun H locs hP hD hS => ?_)
  have hP : va_P G.1 vwCl ([(h0, .inr (3, [.int (nI 0), .int (nI 0), .int (nI 0), .int (nI 0), .int (nI 0), .int (nI 0), .int (nI 0), .int (nI 4), .int (nI 0), .int (nI 0), .int (nI 1), .int (nI 0), .null, .null, .null, .null, .null, .null, .null]))]) H := hP
  have hD : va_D _ ([(h0, .inr (3, [.int (nI 0), .int (nI 0), .int (nI 0), .int (nI 0), .int (nI 0), .int (nI 0), .int (nI 0), .int (nI 4), .int (nI 0), .int (nI 0), .int (nI 1), .int (nI 0), .null, .null, .null, .null, .null, .null, .null]))]) := hD
  refine lv_aload_n hx hb dX3_init_34 rfl (lv_at hl 0 rfl) ?_
  refine lv_bipush (v := nI 64) hx hb dX3_init_35 (by decide) ?_
  refine x_newI hx hb (hts (.arrayClass .int) (by decide +kernel)) hK hP hD hS hA (n := 64) (by omega) (Nat.le_of_ble_eq_true rfl) (Nat.le_of_ble_eq_true rfl) dX3_init_37 (fun q1 H hP hD hS => ?_)
  have hP : va_P G.1 vwCl ([(h0, .inr (3, [.int (nI 0), .int (nI 0), .int (nI 0), .int (nI 0), .int (nI 0), .int (nI 0), .int (nI 0), .int (nI 4), .int (nI 0), .int (nI 0), .int (nI 1), .int (nI 0), .null, .null, .null, .null, .null, .null, .null])), (q1, .inl (G.2.1, 64, .inl (fun _ => nI 0)))]) H := hP
  have hD : va_D _ ([(h0, .inr (3, [.int (nI 0), .int (nI 0), .int (nI 0), .int (nI 0), .int (nI 0), .int (nI 0), .int (nI 0), .int (nI 4), .int (nI 0), .int (nI 0), .int (nI 1), .int (nI 0), .null, .null, .null, .null, .null, .null, .null])), (q1, .inl (G.2.1, 64, .inl (fun _ => nI 0)))]) := hD
  refine va_putF (D := G.1) (ci := 3) (v := .ref q1) (ty := .array .int) (C := RX3) (T := TX3) (N := 19) hx hb hts inX3 tyX3 tyX3_ok nmX3 hown hK.1 hP hD hS 0 rfl rfl 12 (by decide) fl30 (fun _ h9 => h9) rfl hin rfl (by decide +kernel) rfl rfl (Nat.le_of_ble_eq_true rfl) dX3_init_39 (fun H locs hP hD hS => ?_)
  have hP : va_P G.1 vwCl ([(h0, .inr (3, [.int (nI 0), .int (nI 0), .int (nI 0), .int (nI 0), .int (nI 0), .int (nI 0), .int (nI 0), .int (nI 4), .int (nI 0), .int (nI 0), .int (nI 1), .int (nI 0), .ref q1, .null, .null, .null, .null, .null, .null])), (q1, .inl (G.2.1, 64, .inl (fun _ => nI 0)))]) H := hP
  have hD : va_D _ ([(h0, .inr (3, [.int (nI 0), .int (nI 0), .int (nI 0), .int (nI 0), .int (nI 0), .int (nI 0), .int (nI 0), .int (nI 4), .int (nI 0), .int (nI 0), .int (nI 1), .int (nI 0), .ref q1, .null, .null, .null, .null, .null, .null])), (q1, .inl (G.2.1, 64, .inl (fun _ => nI 0)))]) := hD
  refine lv_aload_n hx hb dX3_init_42 rfl (lv_at hl 0 rfl) ?_
  refine lv_bipush (v := nI 65) hx hb dX3_init_43 (by decide) ?_
  refine x_newI hx hb (hts (.arrayClass .int) (by decide +kernel)) hK hP hD hS hA (n := 65) (by omega) (Nat.le_of_ble_eq_true rfl) (Nat.le_of_ble_eq_true rfl) dX3_init_45 (fun q2 H hP hD hS => ?_)
  have hP : va_P G.1 vwCl ([(h0, .inr (3, [.int (nI 0), .int (nI 0), .int (nI 0), .int (nI 0), .int (nI 0), .int (nI 0), .int (nI 0), .int (nI 4), .int (nI 0), .int (nI 0), .int (nI 1), .int (nI 0), .ref q1, .null, .null, .null, .null, .null, .null])), (q1, .inl (G.2.1, 64, .inl (fun _ => nI 0))), (q2, .inl (G.2.1, 65, .inl (fun _ => nI 0)))]) H := hP
  have hD : va_D _ ([(h0, .inr (3, [.int (nI 0), .int (nI 0), .int (nI 0), .int (nI 0), .int (nI 0), .int (nI 0), .int (nI 0), .int (nI 4), .int (nI 0), .int (nI 0), .int (nI 1), .int (nI 0), .ref q1, .null, .null, .null, .null, .null, .null])), (q1, .inl (G.2.1, 64, .inl (fun _ => nI 0))), (q2, .inl (G.2.1, 65, .inl (fun _ => nI 0)))]) := hD
  refine va_putF (D := G.1) (ci := 3) (v := .ref q2) (ty := .array .int) (C := RX3) (T := TX3) (N := 19) hx hb hts inX3 tyX3 tyX3_ok nmX3 hown hK.1 hP hD hS 0 rfl rfl 13 (by decide) fl34 (fun _ h9 => h9) rfl hin rfl (by decide +kernel) rfl rfl (Nat.le_of_ble_eq_true rfl) dX3_init_47 (fun H locs hP hD hS => ?_)
  have hP : va_P G.1 vwCl ([(h0, .inr (3, [.int (nI 0), .int (nI 0), .int (nI 0), .int (nI 0), .int (nI 0), .int (nI 0), .int (nI 0), .int (nI 4), .int (nI 0), .int (nI 0), .int (nI 1), .int (nI 0), .ref q1, .ref q2, .null, .null, .null, .null, .null])), (q1, .inl (G.2.1, 64, .inl (fun _ => nI 0))), (q2, .inl (G.2.1, 65, .inl (fun _ => nI 0)))]) H := hP
  have hD : va_D _ ([(h0, .inr (3, [.int (nI 0), .int (nI 0), .int (nI 0), .int (nI 0), .int (nI 0), .int (nI 0), .int (nI 0), .int (nI 4), .int (nI 0), .int (nI 0), .int (nI 1), .int (nI 0), .ref q1, .ref q2, .null, .null, .null, .null, .null])), (q1, .inl (G.2.1, 64, .inl (fun _ => nI 0))), (q2, .inl (G.2.1, 65, .inl (fun _ => nI 0)))]) := hD
  refine lv_aload_n hx hb dX3_init_50 rfl (lv_at hl 0 rfl) ?_
  refine lv_sipush (v := nI 257) hx hb dX3_init_51 (by decide) ?_
  refine x_newI hx hb (hts (.arrayClass .int) (by decide +kernel)) hK hP hD hS hA (n := 257) (by omega) (Nat.le_of_ble_eq_true rfl) (Nat.le_of_ble_eq_true rfl) dX3_init_54 (fun q3 H hP hD hS => ?_)
  have hP : va_P G.1 vwCl ([(h0, .inr (3, [.int (nI 0), .int (nI 0), .int (nI 0), .int (nI 0), .int (nI 0), .int (nI 0), .int (nI 0), .int (nI 4), .int (nI 0), .int (nI 0), .int (nI 1), .int (nI 0), .ref q1, .ref q2, .null, .null, .null, .null, .null])), (q1, .inl (G.2.1, 64, .inl (fun _ => nI 0))), (q2, .inl (G.2.1, 65, .inl (fun _ => nI 0))), (q3, .inl (G.2.1, 257, .inl (fun _ => nI 0)))]) H := hP
  have hD : va_D _ ([(h0, .inr (3, [.int (nI 0), .int (nI 0), .int (nI 0), .int (nI 0), .int (nI 0), .int (nI 0), .int (nI 0), .int (nI 4), .int (nI 0), .int (nI 0), .int (nI 1), .int (nI 0), .ref q1, .ref q2, .null, .null, .null, .null, .null])), (q1, .inl (G.2.1, 64, .inl (fun _ => nI 0))), (q2, .inl (G.2.1, 65, .inl (fun _ => nI 0))), (q3, .inl (G.2.1, 257, .inl (fun _ => nI 0)))]) := hD
  refine va_putF (D := G.1) (ci := 3) (v := .ref q3) (ty := .array .int) (C := RX3) (T := TX3) (N := 19) hx hb hts inX3 tyX3 tyX3_ok nmX3 hown hK.1 hP hD hS 0 rfl rfl 14 (by decide) fl37 (fun _ h9 => h9) rfl hin rfl (by decide +kernel) rfl rfl (Nat.le_of_ble_eq_true rfl) dX3_init_56 (fun H locs hP hD hS => ?_)
  have hP : va_P G.1 vwCl ([(h0, .inr (3, [.int (nI 0), .int (nI 0), .int (nI 0), .int (nI 0), .int (nI 0), .int (nI 0), .int (nI 0), .int (nI 4), .int (nI 0), .int (nI 0), .int (nI 1), .int (nI 0), .ref q1, .ref q2, .ref q3, .null, .null, .null, .null])), (q1, .inl (G.2.1, 64, .inl (fun _ => nI 0))), (q2, .inl (G.2.1, 65, .inl (fun _ => nI 0))), (q3, .inl (G.2.1, 257, .inl (fun _ => nI 0)))]) H := hP
  have hD : va_D _ ([(h0, .inr (3, [.int (nI 0), .int (nI 0), .int (nI 0), .int (nI 0), .int (nI 0), .int (nI 0), .int (nI 0), .int (nI 4), .int (nI 0), .int (nI 0), .int (nI 1), .int (nI 0), .ref q1, .ref q2, .ref q3, .null, .null, .null, .null])), (q1, .inl (G.2.1, 64, .inl (fun _ => nI 0))), (q2, .inl (G.2.1, 65, .inl (fun _ => nI 0))), (q3, .inl (G.2.1, 257, .inl (fun _ => nI 0)))]) := hD
  refine lv_aload_n hx hb dX3_init_59 rfl (lv_at hl 0 rfl) ?_
  refine lv_bipush (v := nI 64) hx hb dX3_init_60 (by decide) ?_
  refine x_newI hx hb (hts (.arrayClass .int) (by decide +kernel)) hK hP hD hS hA (n := 64) (by omega) (Nat.le_of_ble_eq_true rfl) (Nat.le_of_ble_eq_true rfl) dX3_init_62 (fun q4 H hP hD hS => ?_)
  have hP : va_P G.1 vwCl ([(h0, .inr (3, [.int (nI 0), .int (nI 0), .int (nI 0), .int (nI 0), .int (nI 0), .int (nI 0), .int (nI 0), .int (nI 4), .int (nI 0), .int (nI 0), .int (nI 1), .int (nI 0), .ref q1, .ref q2, .ref q3, .null, .null, .null, .null])), (q1, .inl (G.2.1, 64, .inl (fun _ => nI 0))), (q2, .inl (G.2.1, 65, .inl (fun _ => nI 0))), (q3, .inl (G.2.1, 257, .inl (fun _ => nI 0))), (q4, .inl (G.2.1, 64, .inl (fun _ => nI 0)))]) H := hP
  have hD : va_D _ ([(h0, .inr (3, [.int (nI 0), .int (nI 0), .int (nI 0), .int (nI 0), .int (nI 0), .int (nI 0), .int (nI 0), .int (nI 4), .int (nI 0), .int (nI 0), .int (nI 1), .int (nI 0), .ref q1, .ref q2, .ref q3, .null, .null, .null, .null])), (q1, .inl (G.2.1, 64, .inl (fun _ => nI 0))), (q2, .inl (G.2.1, 65, .inl (fun _ => nI 0))), (q3, .inl (G.2.1, 257, .inl (fun _ => nI 0))), (q4, .inl (G.2.1, 64, .inl (fun _ => nI 0)))]) := hD
  refine va_putF (D := G.1) (ci := 3) (v := .ref q4) (ty := .array .int) (C := RX3) (T := TX3) (N := 19) hx hb hts inX3 tyX3 tyX3_ok nmX3 hown hK.1 hP hD hS 0 rfl rfl 15 (by decide) fl40 (fun _ h9 => h9) rfl hin rfl (by decide +kernel) rfl rfl (Nat.le_of_ble_eq_true rfl) dX3_init_64 (fun H locs hP hD hS => ?_)
  have hP : va_P G.1 vwCl ([(h0, .inr (3, [.int (nI 0), .int (nI 0), .int (nI 0), .int (nI 0), .int (nI 0), .int (nI 0), .int (nI 0), .int (nI 4), .int (nI 0), .int (nI 0), .int (nI 1), .int (nI 0), .ref q1, .ref q2, .ref q3, .ref q4, .null, .null, .null])), (q1, .inl (G.2.1, 64, .inl (fun _ => nI 0))), (q2, .inl (G.2.1, 65, .inl (fun _ => nI 0))), (q3, .inl (G.2.1, 257, .inl (fun _ => nI 0))), (q4, .inl (G.2.1, 64, .inl (fun _ => nI 0)))]) H := hP
  have hD : va_D _ ([(h0, .inr (3, [.int (nI 0), .int (nI 0), .int (nI 0), .int (nI 0), .int (nI 0), .int (nI 0), .int (nI 0), .int (nI 4), .int (nI 0), .int (nI 0), .int (nI 1), .int (nI 0), .ref q1, .ref q2, .ref q3, .ref q4, .null, .null, .null])), (q1, .inl (G.2.1, 64, .inl (fun _ => nI 0))), (q2, .inl (G.2.1, 65, .inl (fun _ => nI 0))), (q3, .inl (G.2.1, 257, .inl (fun _ => nI 0))), (q4, .inl (G.2.1, 64, .inl (fun _ => nI 0)))]) := hD
  refine lv_aload_n hx hb dX3_init_67 rfl (lv_at hl 0 rfl) ?_
  refine lv_bipush (v := nI 65) hx hb dX3_init_68 (by decide) ?_
  refine x_newI hx hb (hts (.arrayClass .int) (by decide +kernel)) hK hP hD hS hA (n := 65) (by omega) (Nat.le_of_ble_eq_true rfl) (Nat.le_of_ble_eq_true rfl) dX3_init_70 (fun q5 H hP hD hS => ?_)
  have hP : va_P G.1 vwCl ([(h0, .inr (3, [.int (nI 0), .int (nI 0), .int (nI 0), .int (nI 0), .int (nI 0), .int (nI 0), .int (nI 0), .int (nI 4), .int (nI 0), .int (nI 0), .int (nI 1), .int (nI 0), .ref q1, .ref q2, .ref q3, .ref q4, .null, .null, .null])), (q1, .inl (G.2.1, 64, .inl (fun _ => nI 0))), (q2, .inl (G.2.1, 65, .inl (fun _ => nI 0))), (q3, .inl (G.2.1, 257, .inl (fun _ => nI 0))), (q4, .inl (G.2.1, 64, .inl (fun _ => nI 0))), (q5, .inl (G.2.1, 65, .inl (fun _ => nI 0)))]) H := hP
  have hD : va_D _ ([(h0, .inr (3, [.int (nI 0), .int (nI 0), .int (nI 0), .int (nI 0), .int (nI 0), .int (nI 0), .int (nI 0), .int (nI 4), .int (nI 0), .int (nI 0), .int (nI 1), .int (nI 0), .ref q1, .ref q2, .ref q3, .ref q4, .null, .null, .null])), (q1, .inl (G.2.1, 64, .inl (fun _ => nI 0))), (q2, .inl (G.2.1, 65, .inl (fun _ => nI 0))), (q3, .inl (G.2.1, 257, .inl (fun _ => nI 0))), (q4, .inl (G.2.1, 64, .inl (fun _ => nI 0))), (q5, .inl (G.2.1, 65, .inl (fun _ => nI 0)))]) := hD
  refine va_putF (D := G.1) (ci := 3) (v := .ref q5) (ty := .array .int) (C := RX3) (T := TX3) (N := 19) hx hb hts inX3 tyX3 tyX3_ok nmX3 hown hK.1 hP hD hS 0 rfl rfl 16 (by decide) fl43 (fun _ h9 => h9) rfl hin rfl (by decide +kernel) rfl rfl (Nat.le_of_ble_eq_true rfl) dX3_init_72 (fun H locs hP hD hS => ?_)
  have hP : va_P G.1 vwCl ([(h0, .inr (3, [.int (nI 0), .int (nI 0), .int (nI 0), .int (nI 0), .int (nI 0), .int (nI 0), .int (nI 0), .int (nI 4), .int (nI 0), .int (nI 0), .int (nI 1), .int (nI 0), .ref q1, .ref q2, .ref q3, .ref q4, .ref q5, .null, .null])), (q1, .inl (G.2.1, 64, .inl (fun _ => nI 0))), (q2, .inl (G.2.1, 65, .inl (fun _ => nI 0))), (q3, .inl (G.2.1, 257, .inl (fun _ => nI 0))), (q4, .inl (G.2.1, 64, .inl (fun _ => nI 0))), (q5, .inl (G.2.1, 65, .inl (fun _ => nI 0)))]) H := hP
  have hD : va_D _ ([(h0, .inr (3, [.int (nI 0), .int (nI 0), .int (nI 0), .int (nI 0), .int (nI 0), .int (nI 0), .int (nI 0), .int (nI 4), .int (nI 0), .int (nI 0), .int (nI 1), .int (nI 0), .ref q1, .ref q2, .ref q3, .ref q4, .ref q5, .null, .null])), (q1, .inl (G.2.1, 64, .inl (fun _ => nI 0))), (q2, .inl (G.2.1, 65, .inl (fun _ => nI 0))), (q3, .inl (G.2.1, 257, .inl (fun _ => nI 0))), (q4, .inl (G.2.1, 64, .inl (fun _ => nI 0))), (q5, .inl (G.2.1, 65, .inl (fun _ => nI 0)))]) := hD
  refine lv_aload_n hx hb dX3_init_75 rfl (lv_at hl 0 rfl) ?_
  refine lv_bipush (v := nI 65) hx hb dX3_init_76 (by decide) ?_
  refine x_newI hx hb (hts (.arrayClass .int) (by decide +kernel)) hK hP hD hS hA (n := 65) (by omega) (Nat.le_of_ble_eq_true rfl) (Nat.le_of_ble_eq_true rfl) dX3_init_78 (fun q6 H hP hD hS => ?_)
  have hP : va_P G.1 vwCl ([(h0, .inr (3, [.int (nI 0), .int (nI 0), .int (nI 0), .int (nI 0), .int (nI 0), .int (nI 0), .int (nI 0), .int (nI 4), .int (nI 0), .int (nI 0), .int (nI 1), .int (nI 0), .ref q1, .ref q2, .ref q3, .ref q4, .ref q5, .null, .null])), (q1, .inl (G.2.1, 64, .inl (fun _ => nI 0))), (q2, .inl (G.2.1, 65, .inl (fun _ => nI 0))), (q3, .inl (G.2.1, 257, .inl (fun _ => nI 0))), (q4, .inl (G.2.1, 64, .inl (fun _ => nI 0))), (q5, .inl (G.2.1, 65, .inl (fun _ => nI 0))), (q6, .inl (G.2.1, 65, .inl (fun _ => nI 0)))]) H := hP
  have hD : va_D _ ([(h0, .inr (3, [.int (nI 0), .int (nI 0), .int (nI 0), .int (nI 0), .int (nI 0), .int (nI 0), .int (nI 0), .int (nI 4), .int (nI 0), .int (nI 0), .int (nI 1), .int (nI 0), .ref q1, .ref q2, .ref q3, .ref q4, .ref q5, .null, .null])), (q1, .inl (G.2.1, 64, .inl (fun _ => nI 0))), (q2, .inl (G.2.1, 65, .inl (fun _ => nI 0))), (q3, .inl (G.2.1, 257, .inl (fun _ => nI 0))), (q4, .inl (G.2.1, 64, .inl (fun _ => nI 0))), (q5, .inl (G.2.1, 65, .inl (fun _ => nI 0))), (q6, .inl (G.2.1, 65, .inl (fun _ => nI 0)))]) := hD
  refine va_putF (D := G.1) (ci := 3) (v := .ref q6) (ty := .array .int) (C := RX3) (T := TX3) (N := 19) hx hb hts inX3 tyX3 tyX3_ok nmX3 hown hK.1 hP hD hS 0 rfl rfl 17 (by decide) fl46 (fun _ h9 => h9) rfl hin rfl (by decide +kernel) rfl rfl (Nat.le_of_ble_eq_true rfl) dX3_init_80 (fun H locs hP hD hS => ?_)
  have hP : va_P G.1 vwCl ([(h0, .inr (3, [.int (nI 0), .int (nI 0), .int (nI 0), .int (nI 0), .int (nI 0), .int (nI 0), .int (nI 0), .int (nI 4), .int (nI 0), .int (nI 0), .int (nI 1), .int (nI 0), .ref q1, .ref q2, .ref q3, .ref q4, .ref q5, .ref q6, .null])), (q1, .inl (G.2.1, 64, .inl (fun _ => nI 0))), (q2, .inl (G.2.1, 65, .inl (fun _ => nI 0))), (q3, .inl (G.2.1, 257, .inl (fun _ => nI 0))), (q4, .inl (G.2.1, 64, .inl (fun _ => nI 0))), (q5, .inl (G.2.1, 65, .inl (fun _ => nI 0))), (q6, .inl (G.2.1, 65, .inl (fun _ => nI 0)))]) H := hP
  have hD : va_D _ ([(h0, .inr (3, [.int (nI 0), .int (nI 0), .int (nI 0), .int (nI 0), .int (nI 0), .int (nI 0), .int (nI 0), .int (nI 4), .int (nI 0), .int (nI 0), .int (nI 1), .int (nI 0), .ref q1, .ref q2, .ref q3, .ref q4, .ref q5, .ref q6, .null])), (q1, .inl (G.2.1, 64, .inl (fun _ => nI 0))), (q2, .inl (G.2.1, 65, .inl (fun _ => nI 0))), (q3, .inl (G.2.1, 257, .inl (fun _ => nI 0))), (q4, .inl (G.2.1, 64, .inl (fun _ => nI 0))), (q5, .inl (G.2.1, 65, .inl (fun _ => nI 0))), (q6, .inl (G.2.1, 65, .inl (fun _ => nI 0)))]) := hD
  refine lv_aload_n hx hb dX3_init_83 rfl (lv_at hl 0 rfl) ?_
  refine lv_sipush (v := nI 256) hx hb dX3_init_84 (by decide) ?_
  refine x_newI hx hb (hts (.arrayClass .int) (by decide +kernel)) hK hP hD hS hA (n := 256) (by omega) (Nat.le_of_ble_eq_true rfl) (Nat.le_of_ble_eq_true rfl) dX3_init_87 (fun q7 H hP hD hS => ?_)
  have hP : va_P G.1 vwCl ([(h0, .inr (3, [.int (nI 0), .int (nI 0), .int (nI 0), .int (nI 0), .int (nI 0), .int (nI 0), .int (nI 0), .int (nI 4), .int (nI 0), .int (nI 0), .int (nI 1), .int (nI 0), .ref q1, .ref q2, .ref q3, .ref q4, .ref q5, .ref q6, .null])), (q1, .inl (G.2.1, 64, .inl (fun _ => nI 0))), (q2, .inl (G.2.1, 65, .inl (fun _ => nI 0))), (q3, .inl (G.2.1, 257, .inl (fun _ => nI 0))), (q4, .inl (G.2.1, 64, .inl (fun _ => nI 0))), (q5, .inl (G.2.1, 65, .inl (fun _ => nI 0))), (q6, .inl (G.2.1, 65, .inl (fun _ => nI 0))), (q7, .inl (G.2.1, 256, .inl (fun _ => nI 0)))]) H := hP
  have hD : va_D _ ([(h0, .inr (3, [.int (nI 0), .int (nI 0), .int (nI 0), .int (nI 0), .int (nI 0), .int (nI 0), .int (nI 0), .int (nI 4), .int (nI 0), .int (nI 0), .int (nI 1), .int (nI 0), .ref q1, .ref q2, .ref q3, .ref q4, .ref q5, .ref q6, .null])), (q1, .inl (G.2.1, 64, .inl (fun _ => nI 0))), (q2, .inl (G.2.1, 65, .inl (fun _ => nI 0))), (q3, .inl (G.2.1, 257, .inl (fun _ => nI 0))), (q4, .inl (G.2.1, 64, .inl (fun _ => nI 0))), (q5, .inl (G.2.1, 65, .inl (fun _ => nI 0))), (q6, .inl (G.2.1, 65, .inl (fun _ => nI 0))), (q7, .inl (G.2.1, 256, .inl (fun _ => nI 0)))]) := hD
  refine va_putF (D := G.1) (ci := 3) (v := .ref q7) (ty := .array .int) (C := RX3) (T := TX3) (N := 19) hx hb hts inX3 tyX3 tyX3_ok nmX3 hown hK.1 hP hD hS 0 rfl rfl 18 (by decide) fl49 (fun _ h9 => h9) rfl hin rfl (by decide +kernel) rfl rfl (Nat.le_of_ble_eq_true rfl) dX3_init_89 (fun H locs hP hD hS => ?_)
  have hP : va_P G.1 vwCl ([(h0, .inr (3, [.int (nI 0), .int (nI 0), .int (nI 0), .int (nI 0), .int (nI 0), .int (nI 0), .int (nI 0), .int (nI 4), .int (nI 0), .int (nI 0), .int (nI 1), .int (nI 0), .ref q1, .ref q2, .ref q3, .ref q4, .ref q5, .ref q6, .ref q7])), (q1, .inl (G.2.1, 64, .inl (fun _ => nI 0))), (q2, .inl (G.2.1, 65, .inl (fun _ => nI 0))), (q3, .inl (G.2.1, 257, .inl (fun _ => nI 0))), (q4, .inl (G.2.1, 64, .inl (fun _ => nI 0))), (q5, .inl (G.2.1, 65, .inl (fun _ => nI 0))), (q6, .inl (G.2.1, 65, .inl (fun _ => nI 0))), (q7, .inl (G.2.1, 256, .inl (fun _ => nI 0)))]) H := hP
  have hD : va_D _ ([(h0, .inr (3, [.int (nI 0), .int (nI 0), .int (nI 0), .int (nI 0), .int (nI 0), .int (nI 0), .int (nI 0), .int (nI 4), .int (nI 0), .int (nI 0), .int (nI 1), .int (nI 0), .ref q1, .ref q2, .ref q3, .ref q4, .ref q5, .ref q6, .ref q7])), (q1, .inl (G.2.1, 64, .inl (fun _ => nI 0))), (q2, .inl (G.2.1, 65, .inl (fun _ => nI 0))), (q3, .inl (G.2.1, 257, .inl (fun _ => nI 0))), (q4, .inl (G.2.1, 64, .inl (fun _ => nI 0))), (q5, .inl (G.2.1, 65, .inl (fun _ => nI 0))), (q6, .inl (G.2.1, 65, .inl (fun _ => nI 0))), (q7, .inl (G.2.1, 256, .inl (fun _ => nI 0)))]) := hD
  refine lv_aload_n hx hb dX3_init_92 rfl (lv_at hl 0 rfl) ?_
  refine lv_iload_n hx hb dX3_init_93 rfl (lv_at hl 1 rfl) ?_
  refine va_putF (D := G.1) (ci := 3) (v := .int (nI j)) (ty := .int) (C := RX3) (T := TX3) (N := 19) hx hb hts inX3 tyX3 tyX3_ok nmX3 hown hK.1 hP hD hS 0 rfl rfl 0 (by decide) fl52 (fun _ h9 => h9) rfl hin rfl (by decide +kernel) rfl rfl (Nat.le_of_ble_eq_true rfl) dX3_init_94 (fun H locs hP hD hS => ?_)
  have hP : va_P G.1 vwCl ([(h0, .inr (3, [.int (nI j), .int (nI 0), .int (nI 0), .int (nI 0), .int (nI 0), .int (nI 0), .int (nI 0), .int (nI 4), .int (nI 0), .int (nI 0), .int (nI 1), .int (nI 0), .ref q1, .ref q2, .ref q3, .ref q4, .ref q5, .ref q6, .ref q7])), (q1, .inl (G.2.1, 64, .inl (fun _ => nI 0))), (q2, .inl (G.2.1, 65, .inl (fun _ => nI 0))), (q3, .inl (G.2.1, 257, .inl (fun _ => nI 0))), (q4, .inl (G.2.1, 64, .inl (fun _ => nI 0))), (q5, .inl (G.2.1, 65, .inl (fun _ => nI 0))), (q6, .inl (G.2.1, 65, .inl (fun _ => nI 0))), (q7, .inl (G.2.1, 256, .inl (fun _ => nI 0)))]) H := hP
  have hD : va_D _ ([(h0, .inr (3, [.int (nI j), .int (nI 0), .int (nI 0), .int (nI 0), .int (nI 0), .int (nI 0), .int (nI 0), .int (nI 4), .int (nI 0), .int (nI 0), .int (nI 1), .int (nI 0), .ref q1, .ref q2, .ref q3, .ref q4, .ref q5, .ref q6, .ref q7])), (q1, .inl (G.2.1, 64, .inl (fun _ => nI 0))), (q2, .inl (G.2.1, 65, .inl (fun _ => nI 0))), (q3, .inl (G.2.1, 257, .inl (fun _ => nI 0))), (q4, .inl (G.2.1, 64, .inl (fun _ => nI 0))), (q5, .inl (G.2.1, 65, .inl (fun _ => nI 0))), (q6, .inl (G.2.1, 65, .inl (fun _ => nI 0))), (q7, .inl (G.2.1, 256, .inl (fun _ => nI 0)))]) := hD
  refine lv_aload_n hx hb dX3_init_97 rfl (lv_at hl 0 rfl) ?_
  refine lv_iload_n hx hb dX3_init_98 rfl (lv_at hl 2 rfl) ?_
  refine va_putF (D := G.1) (ci := 3) (v := .int k) (ty := .int) (C := RX3) (T := TX3) (N := 19) hx hb hts inX3 tyX3 tyX3_ok nmX3 hown hK.1 hP hD hS 0 rfl rfl 1 (by decide) fl55 (fun _ h9 => h9) rfl hin rfl (by decide +kernel) rfl rfl (Nat.le_of_ble_eq_true rfl) dX3_init_99 (fun H locs hP hD hS => ?_)
  have hP : va_P G.1 vwCl ([(h0, .inr (3, [.int (nI j), .int k, .int (nI 0), .int (nI 0), .int (nI 0), .int (nI 0), .int (nI 0), .int (nI 4), .int (nI 0), .int (nI 0), .int (nI 1), .int (nI 0), .ref q1, .ref q2, .ref q3, .ref q4, .ref q5, .ref q6, .ref q7])), (q1, .inl (G.2.1, 64, .inl (fun _ => nI 0))), (q2, .inl (G.2.1, 65, .inl (fun _ => nI 0))), (q3, .inl (G.2.1, 257, .inl (fun _ => nI 0))), (q4, .inl (G.2.1, 64, .inl (fun _ => nI 0))), (q5, .inl (G.2.1, 65, .inl (fun _ => nI 0))), (q6, .inl (G.2.1, 65, .inl (fun _ => nI 0))), (q7, .inl (G.2.1, 256, .inl (fun _ => nI 0)))]) H := hP
  have hD : va_D _ ([(h0, .inr (3, [.int (nI j), .int k, .int (nI 0), .int (nI 0), .int (nI 0), .int (nI 0), .int (nI 0), .int (nI 4), .int (nI 0), .int (nI 0), .int (nI 1), .int (nI 0), .ref q1, .ref q2, .ref q3, .ref q4, .ref q5, .ref q6, .ref q7])), (q1, .inl (G.2.1, 64, .inl (fun _ => nI 0))), (q2, .inl (G.2.1, 65, .inl (fun _ => nI 0))), (q3, .inl (G.2.1, 257, .inl (fun _ => nI 0))), (q4, .inl (G.2.1, 64, .inl (fun _ => nI 0))), (q5, .inl (G.2.1, 65, .inl (fun _ => nI 0))), (q6, .inl (G.2.1, 65, .inl (fun _ => nI 0))), (q7, .inl (G.2.1, 256, .inl (fun _ => nI 0)))]) := hD
  refine lv_aload_n hx hb dX3_init_102 rfl (lv_at hl 0 rfl) ?_
  refine lv_iload_n hx hb dX3_init_103 rfl (lv_at hl 3 rfl) ?_
  refine va_putF (D := G.1) (ci := 3) (v := .int (nI n)) (ty := .int) (C := RX3) (T := TX3) (N := 19) hx hb hts inX3 tyX3 tyX3_ok nmX3 hown hK.1 hP hD hS 0 rfl rfl 2 (by decide) fl58 (fun _ h9 => h9) rfl hin rfl (by decide +kernel) rfl rfl (Nat.le_of_ble_eq_true rfl) dX3_init_104 (fun H locs hP hD hS => ?_)
  have hP : va_P G.1 vwCl ([(h0, .inr (3, [.int (nI j), .int k, .int (nI n), .int (nI 0), .int (nI 0), .int (nI 0), .int (nI 0), .int (nI 4), .int (nI 0), .int (nI 0), .int (nI 1), .int (nI 0), .ref q1, .ref q2, .ref q3, .ref q4, .ref q5, .ref q6, .ref q7])), (q1, .inl (G.2.1, 64, .inl (fun _ => nI 0))), (q2, .inl (G.2.1, 65, .inl (fun _ => nI 0))), (q3, .inl (G.2.1, 257, .inl (fun _ => nI 0))), (q4, .inl (G.2.1, 64, .inl (fun _ => nI 0))), (q5, .inl (G.2.1, 65, .inl (fun _ => nI 0))), (q6, .inl (G.2.1, 65, .inl (fun _ => nI 0))), (q7, .inl (G.2.1, 256, .inl (fun _ => nI 0)))]) H := hP
  have hD : va_D _ ([(h0, .inr (3, [.int (nI j), .int k, .int (nI n), .int (nI 0), .int (nI 0), .int (nI 0), .int (nI 0), .int (nI 4), .int (nI 0), .int (nI 0), .int (nI 1), .int (nI 0), .ref q1, .ref q2, .ref q3, .ref q4, .ref q5, .ref q6, .ref q7])), (q1, .inl (G.2.1, 64, .inl (fun _ => nI 0))), (q2, .inl (G.2.1, 65, .inl (fun _ => nI 0))), (q3, .inl (G.2.1, 257, .inl (fun _ => nI 0))), (q4, .inl (G.2.1, 64, .inl (fun _ => nI 0))), (q5, .inl (G.2.1, 65, .inl (fun _ => nI 0))), (q6, .inl (G.2.1, 65, .inl (fun _ => nI 0))), (q7, .inl (G.2.1, 256, .inl (fun _ => nI 0)))]) := hD
  refine lv_aload_n hx hb dX3_init_107 rfl (lv_at hl 0 rfl) ?_
  refine lv_iload hx hb dX3_init_108 (lv_at hl 4 rfl) ?_
  refine va_putF (D := G.1) (ci := 3) (v := .int st) (ty := .int) (C := RX3) (T := TX3) (N := 19) hx hb hts inX3 tyX3 tyX3_ok nmX3 hown hK.1 hP hD hS 0 rfl rfl 3 (by decide) fl61 (fun _ h9 => h9) rfl hin rfl (by decide +kernel) rfl rfl (Nat.le_of_ble_eq_true rfl) dX3_init_110 (fun H locs hP hD hS => ?_)
  have hP : va_P G.1 vwCl ([(h0, .inr (3, [.int (nI j), .int k, .int (nI n), .int st, .int (nI 0), .int (nI 0), .int (nI 0), .int (nI 4), .int (nI 0), .int (nI 0), .int (nI 1), .int (nI 0), .ref q1, .ref q2, .ref q3, .ref q4, .ref q5, .ref q6, .ref q7])), (q1, .inl (G.2.1, 64, .inl (fun _ => nI 0))), (q2, .inl (G.2.1, 65, .inl (fun _ => nI 0))), (q3, .inl (G.2.1, 257, .inl (fun _ => nI 0))), (q4, .inl (G.2.1, 64, .inl (fun _ => nI 0))), (q5, .inl (G.2.1, 65, .inl (fun _ => nI 0))), (q6, .inl (G.2.1, 65, .inl (fun _ => nI 0))), (q7, .inl (G.2.1, 256, .inl (fun _ => nI 0)))]) H := hP
  have hD : va_D _ ([(h0, .inr (3, [.int (nI j), .int k, .int (nI n), .int st, .int (nI 0), .int (nI 0), .int (nI 0), .int (nI 4), .int (nI 0), .int (nI 0), .int (nI 1), .int (nI 0), .ref q1, .ref q2, .ref q3, .ref q4, .ref q5, .ref q6, .ref q7])), (q1, .inl (G.2.1, 64, .inl (fun _ => nI 0))), (q2, .inl (G.2.1, 65, .inl (fun _ => nI 0))), (q3, .inl (G.2.1, 257, .inl (fun _ => nI 0))), (q4, .inl (G.2.1, 64, .inl (fun _ => nI 0))), (q5, .inl (G.2.1, 65, .inl (fun _ => nI 0))), (q6, .inl (G.2.1, 65, .inl (fun _ => nI 0))), (q7, .inl (G.2.1, 256, .inl (fun _ => nI 0)))]) := hD
  refine lv_aload_n hx hb dX3_init_113 rfl (lv_at hl 0 rfl) ?_
  refine lv_iload_n hx hb dX3_init_114 rfl (lv_at hl 2 rfl) ?_
  refine lv_if_ne (tgt := 122) hx hb dX3_init_115 (by decide) (fun c_115 => ?_) (fun c_115 => ?_)
  · refine lv_iload hx hb dX3_init_122 (lv_at hl 5 rfl) ?_
    refine va_putF (D := G.1) (ci := 3) (v := .int x) (ty := .int) (C := RX3) (T := TX3) (N := 19) hx hb hts inX3 tyX3 tyX3_ok nmX3 hown hK.1 hP hD hS 0 rfl rfl 4 (by decide) fl64 (fun _ h9 => h9) rfl hin rfl (by decide +kernel) rfl rfl (Nat.le_of_ble_eq_true rfl) dX3_init_124 (fun H locs hP hD hS => ?_)
    have hP : va_P G.1 vwCl ([(h0, .inr (3, [.int (nI j), .int k, .int (nI n), .int st, .int x, .int (nI 0), .int (nI 0), .int (nI 4), .int (nI 0), .int (nI 0), .int (nI 1), .int (nI 0), .ref q1, .ref q2, .ref q3, .ref q4, .ref q5, .ref q6, .ref q7])), (q1, .inl (G.2.1, 64, .inl (fun _ => nI 0))), (q2, .inl (G.2.1, 65, .inl (fun _ => nI 0))), (q3, .inl (G.2.1, 257, .inl (fun _ => nI 0))), (q4, .inl (G.2.1, 64, .inl (fun _ => nI 0))), (q5, .inl (G.2.1, 65, .inl (fun _ => nI 0))), (q6, .inl (G.2.1, 65, .inl (fun _ => nI 0))), (q7, .inl (G.2.1, 256, .inl (fun _ => nI 0)))]) H := hP
    have hD : va_D _ ([(h0, .inr (3, [.int (nI j), .int k, .int (nI n), .int st, .int x, .int (nI 0), .int (nI 0), .int (nI 4), .int (nI 0), .int (nI 0), .int (nI 1), .int (nI 0), .ref q1, .ref q2, .ref q3, .ref q4, .ref q5, .ref q6, .ref q7])), (q1, .inl (G.2.1, 64, .inl (fun _ => nI 0))), (q2, .inl (G.2.1, 65, .inl (fun _ => nI 0))), (q3, .inl (G.2.1, 257, .inl (fun _ => nI 0))), (q4, .inl (G.2.1, 64, .inl (fun _ => nI 0))), (q5, .inl (G.2.1, 65, .inl (fun _ => nI 0))), (q6, .inl (G.2.1, 65, .inl (fun _ => nI 0))), (q7, .inl (G.2.1, 256, .inl (fun _ => nI 0)))]) := hD
    refine lv_aload_n hx hb dX3_init_127 rfl (lv_at hl 0 rfl) ?_
    refine va_get (D := G.1) (ci := 3) (v := .ref q1) (C := RX3) (T := TX3) (N := 19) hx hb hts inX3 hown hK.1 hP 0 rfl rfl 12 (by decide) fl30 (fun _ h9 => h9) rfl dX3_init_128 ?_
    refine lv_iconst (v := nI 4) hx hb dX3_init_131 (by decide) ?_
    refine mx_callEv (va_runS (As := [.ref q1, .int (nI 4)]) (rest := []) ⟨hx, hb, hml, hown, hts⟩ (c_J7_fill l G q1 64 (fun _ => nI 0) (nI 4) (by omega) _) (va_cwS 2 hts gX3_init_J7_fill_53178 rfl rfl rfl (by decide +kernel) ⟨Nat.le_of_ble_eq_true rfl, Nat.le_of_ble_eq_true rfl⟩) (mx_preS hK ⟨rfl, mx_cut (a := ([(q1, .inl (G.2.1, 64, .inl (fun _ => nI 0)))] : va_W)) (b := ([(h0, .inr (3, [.int (nI j), .int k, .int (nI n), .int st, .int x, .int (nI 0), .int (nI 0), .int (nI 4), .int (nI 0), .int (nI 0), .int (nI 1), .int (nI 0), .ref q1, .ref q2, .ref q3, .ref q4, .ref q5, .ref q6, .ref q7]))] : va_W) ++ ([(q2, .inl (G.2.1, 65, .inl (fun _ => nI 0))), (q3, .inl (G.2.1, 257, .inl (fun _ => nI 0))), (q4, .inl (G.2.1, 64, .inl (fun _ => nI 0))), (q5, .inl (G.2.1, 65, .inl (fun _ => nI 0))), (q6, .inl (G.2.1, 65, .inl (fun _ => nI 0))), (q7, .inl (G.2.1, 256, .inl (fun _ => nI 0)))] : va_W)) hP hD (mx_perm (fun n9 hn9 => by simp only [hn9]; omega) : List.Perm (([(h0, .inr (3, [.int (nI j), .int k, .int (nI n), .int st, .int x, .int (nI 0), .int (nI 0), .int (nI 4), .int (nI 0), .int (nI 0), .int (nI 1), .int (nI 0), .ref q1, .ref q2, .ref q3, .ref q4, .ref q5, .ref q6, .ref q7]))] : va_W) ++ (([(q1, .inl (G.2.1, 64, .inl (fun _ => nI 0)))] : va_W) ++ ([(q2, .inl (G.2.1, 65, .inl (fun _ => nI 0))), (q3, .inl (G.2.1, 257, .inl (fun _ => nI 0))), (q4, .inl (G.2.1, 64, .inl (fun _ => nI 0))), (q5, .inl (G.2.1, 65, .inl (fun _ => nI 0))), (q6, .inl (G.2.1, 65, .inl (fun _ => nI 0))), (q7, .inl (G.2.1, 256, .inl (fun _ => nI 0)))] : va_W))) (([(q1, .inl (G.2.1, 64, .inl (fun _ => nI 0)))] : va_W) ++ (([(h0, .inr (3, [.int (nI j), .int k, .int (nI n), .int st, .int x, .int (nI 0), .int (nI 0), .int (nI 4), .int (nI 0), .int (nI 0), .int (nI 1), .int (nI 0), .ref q1, .ref q2, .ref q3, .ref q4, .ref q5, .ref q6, .ref q7]))] : va_W) ++ ([(q2, .inl (G.2.1, 65, .inl (fun _ => nI 0))), (q3, .inl (G.2.1, 257, .inl (fun _ => nI 0))), (q4, .inl (G.2.1, 64, .inl (fun _ => nI 0))), (q5, .inl (G.2.1, 65, .inl (fun _ => nI 0))), (q6, .inl (G.2.1, 65, .inl (fun _ => nI 0))), (q7, .inl (G.2.1, 256, .inl (fun _ => nI 0)))] : va_W))))⟩) rfl rfl hl.1 rfl (lv_room (Nat.le_of_ble_eq_true rfl)) dX3_init_132 ⟨Nat.le_of_ble_eq_true rfl, Nat.le_of_ble_eq_true rfl⟩) hP hD hS hA ((mx_perm (fun n9 hn9 => by simp only [hn9]; omega) : List.Perm (([(h0, .inr (3, [.int (nI j), .int k, .int (nI n), .int st, .int x, .int (nI 0), .int (nI 0), .int (nI 4), .int (nI 0), .int (nI 0), .int (nI 1), .int (nI 0), .ref q1, .ref q2, .ref q3, .ref q4, .ref q5, .ref q6, .ref q7]))] : va_W) ++ (([(q1, .inl (G.2.1, 64, .inl (fun _ => nI 0)))] : va_W) ++ ([(q2, .inl (G.2.1, 65, .inl (fun _ => nI 0))), (q3, .inl (G.2.1, 257, .inl (fun _ => nI 0))), (q4, .inl (G.2.1, 64, .inl (fun _ => nI 0))), (q5, .inl (G.2.1, 65, .inl (fun _ => nI 0))), (q6, .inl (G.2.1, 65, .inl (fun _ => nI 0))), (q7, .inl (G.2.1, 256, .inl (fun _ => nI 0)))] : va_W))) (([(q1, .inl (G.2.1, 64, .inl (fun _ => nI 0)))] : va_W) ++ (([(h0, .inr (3, [.int (nI j), .int k, .int (nI n), .int st, .int x, .int (nI 0), .int (nI 0), .int (nI 4), .int (nI 0), .int (nI 0), .int (nI 1), .int (nI 0), .ref q1, .ref q2, .ref q3, .ref q4, .ref q5, .ref q6, .ref q7]))] : va_W) ++ ([(q2, .inl (G.2.1, 65, .inl (fun _ => nI 0))), (q3, .inl (G.2.1, 257, .inl (fun _ => nI 0))), (q4, .inl (G.2.1, 64, .inl (fun _ => nI 0))), (q5, .inl (G.2.1, 65, .inl (fun _ => nI 0))), (q6, .inl (G.2.1, 65, .inl (fun _ => nI 0))), (q7, .inl (G.2.1, 256, .inl (fun _ => nI 0)))] : va_W))))) (fun uf H locs huf hP hD hS => ?_)
    have hP : va_P G.1 vwCl ([(h0, .inr (3, [.int (nI j), .int k, .int (nI n), .int st, .int x, .int (nI 0), .int (nI 0), .int (nI 4), .int (nI 0), .int (nI 0), .int (nI 1), .int (nI 0), .ref q1, .ref q2, .ref q3, .ref q4, .ref q5, .ref q6, .ref q7])), (q1, .inl (G.2.1, 64, .inl (uf))), (q2, .inl (G.2.1, 65, .inl (fun _ => nI 0))), (q3, .inl (G.2.1, 257, .inl (fun _ => nI 0))), (q4, .inl (G.2.1, 64, .inl (fun _ => nI 0))), (q5, .inl (G.2.1, 65, .inl (fun _ => nI 0))), (q6, .inl (G.2.1, 65, .inl (fun _ => nI 0))), (q7, .inl (G.2.1, 256, .inl (fun _ => nI 0)))]) H := mx_Pperm hP (mx_perm (fun n9 hn9 => by simp only [hn9]; omega) : List.Perm (([(q1, .inl (G.2.1, 64, .inl (uf)))] : va_W) ++ (([(h0, .inr (3, [.int (nI j), .int k, .int (nI n), .int st, .int x, .int (nI 0), .int (nI 0), .int (nI 4), .int (nI 0), .int (nI 0), .int (nI 1), .int (nI 0), .ref q1, .ref q2, .ref q3, .ref q4, .ref q5, .ref q6, .ref q7]))] : va_W) ++ ([(q2, .inl (G.2.1, 65, .inl (fun _ => nI 0))), (q3, .inl (G.2.1, 257, .inl (fun _ => nI 0))), (q4, .inl (G.2.1, 64, .inl (fun _ => nI 0))), (q5, .inl (G.2.1, 65, .inl (fun _ => nI 0))), (q6, .inl (G.2.1, 65, .inl (fun _ => nI 0))), (q7, .inl (G.2.1, 256, .inl (fun _ => nI 0)))] : va_W))) (([(h0, .inr (3, [.int (nI j), .int k, .int (nI n), .int st, .int x, .int (nI 0), .int (nI 0), .int (nI 4), .int (nI 0), .int (nI 0), .int (nI 1), .int (nI 0), .ref q1, .ref q2, .ref q3, .ref q4, .ref q5, .ref q6, .ref q7]))] : va_W) ++ (([(q1, .inl (G.2.1, 64, .inl (uf)))] : va_W) ++ ([(q2, .inl (G.2.1, 65, .inl (fun _ => nI 0))), (q3, .inl (G.2.1, 257, .inl (fun _ => nI 0))), (q4, .inl (G.2.1, 64, .inl (fun _ => nI 0))), (q5, .inl (G.2.1, 65, .inl (fun _ => nI 0))), (q6, .inl (G.2.1, 65, .inl (fun _ => nI 0))), (q7, .inl (G.2.1, 256, .inl (fun _ => nI 0)))] : va_W))))
    have hD : va_D _ ([(h0, .inr (3, [.int (nI j), .int k, .int (nI n), .int st, .int x, .int (nI 0), .int (nI 0), .int (nI 4), .int (nI 0), .int (nI 0), .int (nI 1), .int (nI 0), .ref q1, .ref q2, .ref q3, .ref q4, .ref q5, .ref q6, .ref q7])), (q1, .inl (G.2.1, 64, .inl (uf))), (q2, .inl (G.2.1, 65, .inl (fun _ => nI 0))), (q3, .inl (G.2.1, 257, .inl (fun _ => nI 0))), (q4, .inl (G.2.1, 64, .inl (fun _ => nI 0))), (q5, .inl (G.2.1, 65, .inl (fun _ => nI 0))), (q6, .inl (G.2.1, 65, .inl (fun _ => nI 0))), (q7, .inl (G.2.1, 256, .inl (fun _ => nI 0)))]) := mx_Dperm hD (mx_perm (fun n9 hn9 => by simp only [hn9]; omega) : List.Perm (([(q1, .inl (G.2.1, 64, .inl (uf)))] : va_W) ++ (([(h0, .inr (3, [.int (nI j), .int k, .int (nI n), .int st, .int x, .int (nI 0), .int (nI 0), .int (nI 4), .int (nI 0), .int (nI 0), .int (nI 1), .int (nI 0), .ref q1, .ref q2, .ref q3, .ref q4, .ref q5, .ref q6, .ref q7]))] : va_W) ++ ([(q2, .inl (G.2.1, 65, .inl (fun _ => nI 0))), (q3, .inl (G.2.1, 257, .inl (fun _ => nI 0))), (q4, .inl (G.2.1, 64, .inl (fun _ => nI 0))), (q5, .inl (G.2.1, 65, .inl (fun _ => nI 0))), (q6, .inl (G.2.1, 65, .inl (fun _ => nI 0))), (q7, .inl (G.2.1, 256, .inl (fun _ => nI 0)))] : va_W))) (([(h0, .inr (3, [.int (nI j), .int k, .int (nI n), .int st, .int x, .int (nI 0), .int (nI 0), .int (nI 4), .int (nI 0), .int (nI 0), .int (nI 1), .int (nI 0), .ref q1, .ref q2, .ref q3, .ref q4, .ref q5, .ref q6, .ref q7]))] : va_W) ++ (([(q1, .inl (G.2.1, 64, .inl (uf)))] : va_W) ++ ([(q2, .inl (G.2.1, 65, .inl (fun _ => nI 0))), (q3, .inl (G.2.1, 257, .inl (fun _ => nI 0))), (q4, .inl (G.2.1, 64, .inl (fun _ => nI 0))), (q5, .inl (G.2.1, 65, .inl (fun _ => nI 0))), (q6, .inl (G.2.1, 65, .inl (fun _ => nI 0))), (q7, .inl (G.2.1, 256, .inl (fun _ => nI 0)))] : va_W))))
    obtain ⟨ad, F, R, hP9, hD9, had, hN, hCC, hnum, hR13⟩ : ∃ (ad : Nat → Nat) (F : Nat → Int32) (R : Nat → Nat → Int32), va_P G.1 vwCl (SW G ad F R) H ∧ va_D (va_A _ s.heap.size) (SW G ad F R) ∧ h0 = ad 0 ∧ soN F (newSg k n st x) ∧ soC R (newSg k n st x) ∧ F 0 = nI j ∧ True := ⟨(fun i : Nat => match i with | 0 => h0 | 13 => q1 | 14 => q2 | 15 => q3 | 16 => q4 | 17 => q5 | 18 => q6 | 19 => q7 | _ => 0), (fun i : Nat => match i with | 0 => nI j | 1 => k | 2 => nI n | 3 => st | 4 => x | 5 => nI 0 | 6 => nI 0 | 7 => nI 4 | 8 => nI 0 | 9 => nI 0 | 10 => nI 1 | 11 => nI 0 | _ => nI 0), (fun i : Nat => match i with | 12 => uf | 13 => (fun _ => nI 0) | 14 => (fun _ => nI 0) | 15 => (fun _ => nI 0) | 16 => (fun _ => nI 0) | 17 => (fun _ => nI 0) | 18 => (fun _ => nI 0) | _ => (fun _ => nI 0)), hP, hD, rfl, ⟨rfl, rfl, rfl, (if_neg c_115).symm, rfl, rfl, rfl, rfl, rfl, rfl⟩, huf, rfl, trivial⟩
    subst had
    have hP := hP9
    have hD := hD9
    generalize hσ9 : newSg k n st x = σ at hN hCC ok
    refine lv_aload_n hx hb dX3_init_135 rfl (lv_at hl 0 rfl) ?_
    refine mx_callEv (va_runV (As := []) (rest := []) ⟨hx, hb, hml, hown, hts⟩ (c_X3_layOutBeats l G ad F R σ hN ok hCC _) (cwV 0 hts gX3_init_X3_layOutBeats rfl rfl rfl (by decide +kernel) ⟨Nat.le_of_ble_eq_true rfl, Nat.le_of_ble_eq_true rfl⟩) (mx_preV hK ⟨rfl, hP, mx_any hD (fun _ _ => trivial)⟩ (va_recv hK.1 hP (ci := 3) (q0 := 0) rfl rfl)) rfl rfl hl.1 rfl (lv_room (Nat.le_of_ble_eq_true rfl)) dX3_init_136 ⟨Nat.le_of_ble_eq_true rfl, Nat.le_of_ble_eq_true rfl⟩) hP hD hS hA (mx_perm0) (fun ub H locs hub hP hD hS => ?_)
    rw [List.append_nil] at hP hD
    have hP : va_P G.1 vwCl (SW G ad F (va_up (va_up R 13 ub.1) 14 ub.2)) H := hP
    have hD : va_D _ (SW G ad F (va_up (va_up R 13 ub.1) 14 ub.2)) := hD
    refine lv_aload_n hx hb dX3_init_139 rfl (lv_at hl 0 rfl) ?_
    refine mx_callEv (va_runV (As := []) (rest := []) ⟨hx, hb, hml, hown, hts⟩ (c_X3_layOutPlayedBars l G ad F (va_up (va_up R 13 ub.1) 14 ub.2) σ hN ok hCC hub _) (cwV 0 hts gX3_init_X3_layOutPlayedBars rfl rfl rfl (by decide +kernel) ⟨Nat.le_of_ble_eq_true rfl, Nat.le_of_ble_eq_true rfl⟩) (mx_preV hK ⟨rfl, hP, mx_any hD (fun _ _ => trivial)⟩ (va_recv hK.1 hP (ci := 3) (q0 := 0) rfl rfl)) rfl rfl hl.1 rfl (lv_room (Nat.le_of_ble_eq_true rfl)) dX3_init_140 ⟨Nat.le_of_ble_eq_true rfl, Nat.le_of_ble_eq_true rfl⟩) hP hD hS hA (mx_perm0) (fun uq H locs huq hP hD hS => ?_)
    rw [List.append_nil] at hP hD
    have hP : va_P G.1 vwCl (SW G ad (va_up F 11 (nI (gPB σ))) (va_up (va_up (va_up (va_up (va_up (va_up R 13 ub.1) 14 ub.2) 15 uq.1) 16 uq.2.1) 18 uq.2.2.1) 17 uq.2.2.2)) H := hP
    have hD : va_D _ (SW G ad (va_up F 11 (nI (gPB σ))) (va_up (va_up (va_up (va_up (va_up (va_up R 13 ub.1) 14 ub.2) 15 uq.1) 16 uq.2.1) 18 uq.2.2.1) 17 uq.2.2.2)) := hD
    refine W.widen (k := 7) (n := 836) (Nat.le_of_ble_eq_true rfl) (Nat.le_of_ble_eq_true rfl) ?_
    exact W.vret hx hb hr (fun t9 ht9 hW9 => ⟨⟨(ad, va_up F 11 (nI (gPB σ)), va_up (va_up (va_up (va_up (va_up (va_up R 13 ub.1) 14 ub.2) 15 uq.1) 16 uq.2.1) 18 uq.2.2.1) 17 uq.2.2.2), rfl, ⟨rfl, ⟨hN, hCC, hub, huq⟩, hnum⟩, by rw [ht9]; exact hP, hD⟩, hS.F ht9⟩) hS.2.2 dX3_init_143
  · refine lv_iconst (v := nI 0) hx hb dX3_init_118 (by decide) ?_
    refine lv_goto (tgt := 124) hx hb dX3_init_119 (by decide) ?_
    refine va_putF (D := G.1) (ci := 3) (v := .int (nI 0)) (ty := .int) (C := RX3) (T := TX3) (N := 19) hx hb hts inX3 tyX3 tyX3_ok nmX3 hown hK.1 hP hD hS 0 rfl rfl 4 (by decide) fl64 (fun _ h9 => h9) rfl hin rfl (by decide +kernel) rfl rfl (Nat.le_of_ble_eq_true rfl) dX3_init_124 (fun H locs hP hD hS => ?_)
    have hP : va_P G.1 vwCl ([(h0, .inr (3, [.int (nI j), .int k, .int (nI n), .int st, .int (nI 0), .int (nI 0), .int (nI 0), .int (nI 4), .int (nI 0), .int (nI 0), .int (nI 1), .int (nI 0), .ref q1, .ref q2, .ref q3, .ref q4, .ref q5, .ref q6, .ref q7])), (q1, .inl (G.2.1, 64, .inl (fun _ => nI 0))), (q2, .inl (G.2.1, 65, .inl (fun _ => nI 0))), (q3, .inl (G.2.1, 257, .inl (fun _ => nI 0))), (q4, .inl (G.2.1, 64, .inl (fun _ => nI 0))), (q5, .inl (G.2.1, 65, .inl (fun _ => nI 0))), (q6, .inl (G.2.1, 65, .inl (fun _ => nI 0))), (q7, .inl (G.2.1, 256, .inl (fun _ => nI 0)))]) H := hP
    have hD : va_D _ ([(h0, .inr (3, [.int (nI j), .int k, .int (nI n), .int st, .int (nI 0), .int (nI 0), .int (nI 0), .int (nI 4), .int (nI 0), .int (nI 0), .int (nI 1), .int (nI 0), .ref q1, .ref q2, .ref q3, .ref q4, .ref q5, .ref q6, .ref q7])), (q1, .inl (G.2.1, 64, .inl (fun _ => nI 0))), (q2, .inl (G.2.1, 65, .inl (fun _ => nI 0))), (q3, .inl (G.2.1, 257, .inl (fun _ => nI 0))), (q4, .inl (G.2.1, 64, .inl (fun _ => nI 0))), (q5, .inl (G.2.1, 65, .inl (fun _ => nI 0))), (q6, .inl (G.2.1, 65, .inl (fun _ => nI 0))), (q7, .inl (G.2.1, 256, .inl (fun _ => nI 0)))]) := hD
    refine lv_aload_n hx hb dX3_init_127 rfl (lv_at hl 0 rfl) ?_
    refine va_get (D := G.1) (ci := 3) (v := .ref q1) (C := RX3) (T := TX3) (N := 19) hx hb hts inX3 hown hK.1 hP 0 rfl rfl 12 (by decide) fl30 (fun _ h9 => h9) rfl dX3_init_128 ?_
    refine lv_iconst (v := nI 4) hx hb dX3_init_131 (by decide) ?_
    refine mx_callEv (va_runS (As := [.ref q1, .int (nI 4)]) (rest := []) ⟨hx, hb, hml, hown, hts⟩ (c_J7_fill l G q1 64 (fun _ => nI 0) (nI 4) (by omega) _) (va_cwS 2 hts gX3_init_J7_fill_53178 rfl rfl rfl (by decide +kernel) ⟨Nat.le_of_ble_eq_true rfl, Nat.le_of_ble_eq_true rfl⟩) (mx_preS hK ⟨rfl, mx_cut (a := ([(q1, .inl (G.2.1, 64, .inl (fun _ => nI 0)))] : va_W)) (b := ([(h0, .inr (3, [.int (nI j), .int k, .int (nI n), .int st, .int (nI 0), .int (nI 0), .int (nI 0), .int (nI 4), .int (nI 0), .int (nI 0), .int (nI 1), .int (nI 0), .ref q1, .ref q2, .ref q3, .ref q4, .ref q5, .ref q6, .ref q7]))] : va_W) ++ ([(q2, .inl (G.2.1, 65, .inl (fun _ => nI 0))), (q3, .inl (G.2.1, 257, .inl (fun _ => nI 0))), (q4, .inl (G.2.1, 64, .inl (fun _ => nI 0))), (q5, .inl (G.2.1, 65, .inl (fun _ => nI 0))), (q6, .inl (G.2.1, 65, .inl (fun _ => nI 0))), (q7, .inl (G.2.1, 256, .inl (fun _ => nI 0)))] : va_W)) hP hD (mx_perm (fun n9 hn9 => by simp only [hn9]; omega) : List.Perm (([(h0, .inr (3, [.int (nI j), .int k, .int (nI n), .int st, .int (nI 0), .int (nI 0), .int (nI 0), .int (nI 4), .int (nI 0), .int (nI 0), .int (nI 1), .int (nI 0), .ref q1, .ref q2, .ref q3, .ref q4, .ref q5, .ref q6, .ref q7]))] : va_W) ++ (([(q1, .inl (G.2.1, 64, .inl (fun _ => nI 0)))] : va_W) ++ ([(q2, .inl (G.2.1, 65, .inl (fun _ => nI 0))), (q3, .inl (G.2.1, 257, .inl (fun _ => nI 0))), (q4, .inl (G.2.1, 64, .inl (fun _ => nI 0))), (q5, .inl (G.2.1, 65, .inl (fun _ => nI 0))), (q6, .inl (G.2.1, 65, .inl (fun _ => nI 0))), (q7, .inl (G.2.1, 256, .inl (fun _ => nI 0)))] : va_W))) (([(q1, .inl (G.2.1, 64, .inl (fun _ => nI 0)))] : va_W) ++ (([(h0, .inr (3, [.int (nI j), .int k, .int (nI n), .int st, .int (nI 0), .int (nI 0), .int (nI 0), .int (nI 4), .int (nI 0), .int (nI 0), .int (nI 1), .int (nI 0), .ref q1, .ref q2, .ref q3, .ref q4, .ref q5, .ref q6, .ref q7]))] : va_W) ++ ([(q2, .inl (G.2.1, 65, .inl (fun _ => nI 0))), (q3, .inl (G.2.1, 257, .inl (fun _ => nI 0))), (q4, .inl (G.2.1, 64, .inl (fun _ => nI 0))), (q5, .inl (G.2.1, 65, .inl (fun _ => nI 0))), (q6, .inl (G.2.1, 65, .inl (fun _ => nI 0))), (q7, .inl (G.2.1, 256, .inl (fun _ => nI 0)))] : va_W))))⟩) rfl rfl hl.1 rfl (lv_room (Nat.le_of_ble_eq_true rfl)) dX3_init_132 ⟨Nat.le_of_ble_eq_true rfl, Nat.le_of_ble_eq_true rfl⟩) hP hD hS hA ((mx_perm (fun n9 hn9 => by simp only [hn9]; omega) : List.Perm (([(h0, .inr (3, [.int (nI j), .int k, .int (nI n), .int st, .int (nI 0), .int (nI 0), .int (nI 0), .int (nI 4), .int (nI 0), .int (nI 0), .int (nI 1), .int (nI 0), .ref q1, .ref q2, .ref q3, .ref q4, .ref q5, .ref q6, .ref q7]))] : va_W) ++ (([(q1, .inl (G.2.1, 64, .inl (fun _ => nI 0)))] : va_W) ++ ([(q2, .inl (G.2.1, 65, .inl (fun _ => nI 0))), (q3, .inl (G.2.1, 257, .inl (fun _ => nI 0))), (q4, .inl (G.2.1, 64, .inl (fun _ => nI 0))), (q5, .inl (G.2.1, 65, .inl (fun _ => nI 0))), (q6, .inl (G.2.1, 65, .inl (fun _ => nI 0))), (q7, .inl (G.2.1, 256, .inl (fun _ => nI 0)))] : va_W))) (([(q1, .inl (G.2.1, 64, .inl (fun _ => nI 0)))] : va_W) ++ (([(h0, .inr (3, [.int (nI j), .int k, .int (nI n), .int st, .int (nI 0), .int (nI 0), .int (nI 0), .int (nI 4), .int (nI 0), .int (nI 0), .int (nI 1), .int (nI 0), .ref q1, .ref q2, .ref q3, .ref q4, .ref q5, .ref q6, .ref q7]))] : va_W) ++ ([(q2, .inl (G.2.1, 65, .inl (fun _ => nI 0))), (q3, .inl (G.2.1, 257, .inl (fun _ => nI 0))), (q4, .inl (G.2.1, 64, .inl (fun _ => nI 0))), (q5, .inl (G.2.1, 65, .inl (fun _ => nI 0))), (q6, .inl (G.2.1, 65, .inl (fun _ => nI 0))), (q7, .inl (G.2.1, 256, .inl (fun _ => nI 0)))] : va_W))))) (fun uf H locs huf hP hD hS => ?_)
    have hP : va_P G.1 vwCl ([(h0, .inr (3, [.int (nI j), .int k, .int (nI n), .int st, .int (nI 0), .int (nI 0), .int (nI 0), .int (nI 4), .int (nI 0), .int (nI 0), .int (nI 1), .int (nI 0), .ref q1, .ref q2, .ref q3, .ref q4, .ref q5, .ref q6, .ref q7])), (q1, .inl (G.2.1, 64, .inl (uf))), (q2, .inl (G.2.1, 65, .inl (fun _ => nI 0))), (q3, .inl (G.2.1, 257, .inl (fun _ => nI 0))), (q4, .inl (G.2.1, 64, .inl (fun _ => nI 0))), (q5, .inl (G.2.1, 65, .inl (fun _ => nI 0))), (q6, .inl (G.2.1, 65, .inl (fun _ => nI 0))), (q7, .inl (G.2.1, 256, .inl (fun _ => nI 0)))]) H := mx_Pperm hP (mx_perm (fun n9 hn9 => by simp only [hn9]; omega) : List.Perm (([(q1, .inl (G.2.1, 64, .inl (uf)))] : va_W) ++ (([(h0, .inr (3, [.int (nI j), .int k, .int (nI n), .int st, .int (nI 0), .int (nI 0), .int (nI 0), .int (nI 4), .int (nI 0), .int (nI 0), .int (nI 1), .int (nI 0), .ref q1, .ref q2, .ref q3, .ref q4, .ref q5, .ref q6, .ref q7]))] : va_W) ++ ([(q2, .inl (G.2.1, 65, .inl (fun _ => nI 0))), (q3, .inl (G.2.1, 257, .inl (fun _ => nI 0))), (q4, .inl (G.2.1, 64, .inl (fun _ => nI 0))), (q5, .inl (G.2.1, 65, .inl (fun _ => nI 0))), (q6, .inl (G.2.1, 65, .inl (fun _ => nI 0))), (q7, .inl (G.2.1, 256, .inl (fun _ => nI 0)))] : va_W))) (([(h0, .inr (3, [.int (nI j), .int k, .int (nI n), .int st, .int (nI 0), .int (nI 0), .int (nI 0), .int (nI 4), .int (nI 0), .int (nI 0), .int (nI 1), .int (nI 0), .ref q1, .ref q2, .ref q3, .ref q4, .ref q5, .ref q6, .ref q7]))] : va_W) ++ (([(q1, .inl (G.2.1, 64, .inl (uf)))] : va_W) ++ ([(q2, .inl (G.2.1, 65, .inl (fun _ => nI 0))), (q3, .inl (G.2.1, 257, .inl (fun _ => nI 0))), (q4, .inl (G.2.1, 64, .inl (fun _ => nI 0))), (q5, .inl (G.2.1, 65, .inl (fun _ => nI 0))), (q6, .inl (G.2.1, 65, .inl (fun _ => nI 0))), (q7, .inl (G.2.1, 256, .inl (fun _ => nI 0)))] : va_W))))
    have hD : va_D _ ([(h0, .inr (3, [.int (nI j), .int k, .int (nI n), .int st, .int (nI 0), .int (nI 0), .int (nI 0), .int (nI 4), .int (nI 0), .int (nI 0), .int (nI 1), .int (nI 0), .ref q1, .ref q2, .ref q3, .ref q4, .ref q5, .ref q6, .ref q7])), (q1, .inl (G.2.1, 64, .inl (uf))), (q2, .inl (G.2.1, 65, .inl (fun _ => nI 0))), (q3, .inl (G.2.1, 257, .inl (fun _ => nI 0))), (q4, .inl (G.2.1, 64, .inl (fun _ => nI 0))), (q5, .inl (G.2.1, 65, .inl (fun _ => nI 0))), (q6, .inl (G.2.1, 65, .inl (fun _ => nI 0))), (q7, .inl (G.2.1, 256, .inl (fun _ => nI 0)))]) := mx_Dperm hD (mx_perm (fun n9 hn9 => by simp only [hn9]; omega) : List.Perm (([(q1, .inl (G.2.1, 64, .inl (uf)))] : va_W) ++ (([(h0, .inr (3, [.int (nI j), .int k, .int (nI n), .int st, .int (nI 0), .int (nI 0), .int (nI 0), .int (nI 4), .int (nI 0), .int (nI 0), .int (nI 1), .int (nI 0), .ref q1, .ref q2, .ref q3, .ref q4, .ref q5, .ref q6, .ref q7]))] : va_W) ++ ([(q2, .inl (G.2.1, 65, .inl (fun _ => nI 0))), (q3, .inl (G.2.1, 257, .inl (fun _ => nI 0))), (q4, .inl (G.2.1, 64, .inl (fun _ => nI 0))), (q5, .inl (G.2.1, 65, .inl (fun _ => nI 0))), (q6, .inl (G.2.1, 65, .inl (fun _ => nI 0))), (q7, .inl (G.2.1, 256, .inl (fun _ => nI 0)))] : va_W))) (([(h0, .inr (3, [.int (nI j), .int k, .int (nI n), .int st, .int (nI 0), .int (nI 0), .int (nI 0), .int (nI 4), .int (nI 0), .int (nI 0), .int (nI 1), .int (nI 0), .ref q1, .ref q2, .ref q3, .ref q4, .ref q5, .ref q6, .ref q7]))] : va_W) ++ (([(q1, .inl (G.2.1, 64, .inl (uf)))] : va_W) ++ ([(q2, .inl (G.2.1, 65, .inl (fun _ => nI 0))), (q3, .inl (G.2.1, 257, .inl (fun _ => nI 0))), (q4, .inl (G.2.1, 64, .inl (fun _ => nI 0))), (q5, .inl (G.2.1, 65, .inl (fun _ => nI 0))), (q6, .inl (G.2.1, 65, .inl (fun _ => nI 0))), (q7, .inl (G.2.1, 256, .inl (fun _ => nI 0)))] : va_W))))
    obtain ⟨ad, F, R, hP9, hD9, had, hN, hCC, hnum, hR13⟩ : ∃ (ad : Nat → Nat) (F : Nat → Int32) (R : Nat → Nat → Int32), va_P G.1 vwCl (SW G ad F R) H ∧ va_D (va_A _ s.heap.size) (SW G ad F R) ∧ h0 = ad 0 ∧ soN F (newSg k n st x) ∧ soC R (newSg k n st x) ∧ F 0 = nI j ∧ True := ⟨(fun i : Nat => match i with | 0 => h0 | 13 => q1 | 14 => q2 | 15 => q3 | 16 => q4 | 17 => q5 | 18 => q6 | 19 => q7 | _ => 0), (fun i : Nat => match i with | 0 => nI j | 1 => k | 2 => nI n | 3 => st | 4 => nI 0 | 5 => nI 0 | 6 => nI 0 | 7 => nI 4 | 8 => nI 0 | 9 => nI 0 | 10 => nI 1 | 11 => nI 0 | _ => nI 0), (fun i : Nat => match i with | 12 => uf | 13 => (fun _ => nI 0) | 14 => (fun _ => nI 0) | 15 => (fun _ => nI 0) | 16 => (fun _ => nI 0) | 17 => (fun _ => nI 0) | 18 => (fun _ => nI 0) | _ => (fun _ => nI 0)), hP, hD, rfl, ⟨rfl, rfl, rfl, (if_pos c_115).symm, rfl, rfl, rfl, rfl, rfl, rfl⟩, huf, rfl, trivial⟩
    subst had
    have hP := hP9
    have hD := hD9
    generalize hσ9 : newSg k n st x = σ at hN hCC ok
    refine lv_aload_n hx hb dX3_init_135 rfl (lv_at hl 0 rfl) ?_
    refine mx_callEv (va_runV (As := []) (rest := []) ⟨hx, hb, hml, hown, hts⟩ (c_X3_layOutBeats l G ad F R σ hN ok hCC _) (cwV 0 hts gX3_init_X3_layOutBeats rfl rfl rfl (by decide +kernel) ⟨Nat.le_of_ble_eq_true rfl, Nat.le_of_ble_eq_true rfl⟩) (mx_preV hK ⟨rfl, hP, mx_any hD (fun _ _ => trivial)⟩ (va_recv hK.1 hP (ci := 3) (q0 := 0) rfl rfl)) rfl rfl hl.1 rfl (lv_room (Nat.le_of_ble_eq_true rfl)) dX3_init_136 ⟨Nat.le_of_ble_eq_true rfl, Nat.le_of_ble_eq_true rfl⟩) hP hD hS hA (mx_perm0) (fun ub H locs hub hP hD hS => ?_)
    rw [List.append_nil] at hP hD
    have hP : va_P G.1 vwCl (SW G ad F (va_up (va_up R 13 ub.1) 14 ub.2)) H := hP
    have hD : va_D _ (SW G ad F (va_up (va_up R 13 ub.1) 14 ub.2)) := hD
    refine lv_aload_n hx hb dX3_init_139 rfl (lv_at hl 0 rfl) ?_
    refine mx_callEv (va_runV (As := []) (rest := []) ⟨hx, hb, hml, hown, hts⟩ (c_X3_layOutPlayedBars l G ad F (va_up (va_up R 13 ub.1) 14 ub.2) σ hN ok hCC hub _) (cwV 0 hts gX3_init_X3_layOutPlayedBars rfl rfl rfl (by decide +kernel) ⟨Nat.le_of_ble_eq_true rfl, Nat.le_of_ble_eq_true rfl⟩) (mx_preV hK ⟨rfl, hP, mx_any hD (fun _ _ => trivial)⟩ (va_recv hK.1 hP (ci := 3) (q0 := 0) rfl rfl)) rfl rfl hl.1 rfl (lv_room (Nat.le_of_ble_eq_true rfl)) dX3_init_140 ⟨Nat.le_of_ble_eq_true rfl, Nat.le_of_ble_eq_true rfl⟩) hP hD hS hA (mx_perm0) (fun uq H locs huq hP hD hS => ?_)
    rw [List.append_nil] at hP hD
    have hP : va_P G.1 vwCl (SW G ad (va_up F 11 (nI (gPB σ))) (va_up (va_up (va_up (va_up (va_up (va_up R 13 ub.1) 14 ub.2) 15 uq.1) 16 uq.2.1) 18 uq.2.2.1) 17 uq.2.2.2)) H := hP
    have hD : va_D _ (SW G ad (va_up F 11 (nI (gPB σ))) (va_up (va_up (va_up (va_up (va_up (va_up R 13 ub.1) 14 ub.2) 15 uq.1) 16 uq.2.1) 18 uq.2.2.1) 17 uq.2.2.2)) := hD
    refine W.widen (k := 7) (n := 836) (Nat.le_of_ble_eq_true rfl) (Nat.le_of_ble_eq_true rfl) ?_
    exact W.vret hx hb hr (fun t9 ht9 hW9 => ⟨⟨(ad, va_up F 11 (nI (gPB σ)), va_up (va_up (va_up (va_up (va_up (va_up R 13 ub.1) 14 ub.2) 15 uq.1) 16 uq.2.1) 18 uq.2.2.1) 17 uq.2.2.2), rfl, ⟨rfl, ⟨hN, hCC, hub, huq⟩, hnum⟩, by rw [ht9]; exact hP, hD⟩, hS.F ht9⟩) hS.2.2 dX3_init_143
