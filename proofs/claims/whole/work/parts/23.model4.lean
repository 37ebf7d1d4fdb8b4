set_option maxHeartbeats 4000000 in
set_option maxRecDepth 100000 in
theorem c_X6_beatsCost (l : Launch) (G : mx_G) (ad : Nat → Nat) (F : Nat → Int32) (R : Nat → Nat → Int32) (u w n : Nat) (hu : u + n ≤ 64) (hw : w + n ≤ 64) (hn0 : 0 < n) (hxr : ∀ j, j < 4 * n → ¬ R 21 (4 * u + j) = 0 ∧ ¬ R 22 (4 * w + j) = 0) : mx_RO l yX6_beatsCost wsX6_beatsCost 2 44 G [.ref (ad 0), .int (nI u), .int (nI w), .int (nI n)] (fun H => va_P G.1 vwCl (MW G ad F R) H) (.int (mcost (F 18) (fun j => R 21 (4 * u + j)) (fun j => R 22 (4 * w + j)) n)) := by
  refine Met.ofW (cc := cX6_beatsCost) (maxL := 9) (ret := (some .int)) (by decide) rfl ?_
  intro p e s m args below meth c s₁ BB hml hv
  obtain ⟨rfl, hP, hK⟩ := hv
  have hx := BB.exec
  have hb := BB.bytes
  have hr := BB.returns
  have hts := atoms_spec (ws := wsX6_beatsCost) BB.pre
  have hown : s.vm.findClass RX6 = some m.cls := findClass_of_methodNamed BB.named
  have hlocks := BB.notSynchronized
  have hP : va_P G.1 vwCl (MW G ad F R) s.heap := hP
  have fl59 := hts (.fieldLink RX6 59 "MixDeskModel" "bound" "I") (by decide +kernel)
  have fl69 := hts (.fieldLink RX6 69 "MixDeskModel" "rowX" "[I") (by decide +kernel)
  have fl72 := hts (.fieldLink RX6 72 "MixDeskModel" "rowY" "[I") (by decide +kernel)
  have inX6 : ∀ w ∈ wsX60, w ∈ wsX6_beatsCost := by decide +kernel
  have ck164 := hts (.constant RX6 164 (1000000000)) (by decide +kernel)
  have hl := lv_entry ([.ref (ad 0), .int (nI u), .int (nI w), .int (nI n)]) (n := 9) (Nat.le_of_ble_eq_true rfl)
  rw [lg_entry_eq]
  generalize (lg_sl ([.ref (ad 0), .int (nI u), .int (nI w), .int (nI n)]) ++ List.replicate (9 - (lg_sl ([.ref (ad 0), .int (nI u), .int (nI w), .int (nI n)])).length) Slot.unset).toArray = ls at hl ⊢
  have hl : lv_has ls 9 [(0, .ref (ad 0)), (1, .int (nI u)), (2, .int (nI w)), (3, .int (nI n))] := hl
  show mx_WR l wsX6_beatsCost 2 44 p e s m (([.ref (ad 0), .int (nI u), .int (nI w), .int (nI n)] : List Value).toArray) below meth c (.int (mcost (F 18) (fun j => R 21 (4 * u + j)) (fun j => R 22 (4 * w + j)) n)) (F0 m 0 ls [])
  refine lv_iconst (v := nI 0) hx hb dX6_beatsCost_0 (by decide) ?_
  refine lv_istore (lv' := [(4, .int (nI 0)), (0, .ref (ad 0)), (1, .int (nI u)), (2, .int (nI w)), (3, .int (nI n))]) hx hb dX6_beatsCost_1 hl (by decide) rfl (fun ls hl => ?_)
  refine lv_iconst (v := nI 0) hx hb dX6_beatsCost_3 (by decide) ?_
  refine lv_istore (lv' := [(5, .int (nI 0)), (4, .int (nI 0)), (0, .ref (ad 0)), (1, .int (nI u)), (2, .int (nI w)), (3, .int (nI n))]) hx hb dX6_beatsCost_4 hl (by decide) rfl (fun ls hl => ?_)
  have lp6 : ∀ (nn : Nat) (i : Nat), 4 * n - i < nn → (i ≤ 4 * n) → (∀ j, j < i → mbend (mlast (fun j => R 21 (4 * u + j)) (fun j => R 22 (4 * w + j)) n j) (R 21 (4 * u + j)) (R 22 (4 * w + j)) ≤ F 18) → ∀ ls : Array Slot, lv_has ls 9 [(0, .ref (ad 0)), (1, .int (nI u)), (2, .int (nI w)), (3, .int (nI n)), (4, .int (isum (mone (fun j => R 21 (4 * u + j)) (fun j => R 22 (4 * w + j)) n) i)), (5, .int (nI i))] → mx_WR l wsX6_beatsCost 2 44 p e s m (([.ref (ad 0), .int (nI u), .int (nI w), .int (nI n)] : List Value).toArray) below meth c (.int (mcost (F 18) (fun j => R 21 (4 * u + j)) (fun j => R 22 (4 * w + j)) n)) (F0 m 6 ls []) := by
    intro nn
    induction nn with
    | zero => intro i hmu; exact absurd hmu (Nat.not_lt_zero _)
    | succ nn ih6 =>
      intro i hmu hi hgood ls hl
      refine lv_iload hx hb dX6_beatsCost_6 (lv_at hl 5 rfl) ?_
      refine lv_iconst (v := nI 4) hx hb dX6_beatsCost_8 (by decide) ?_
      refine lv_iload_n hx hb dX6_beatsCost_9 rfl (lv_at hl 3 rfl) ?_
      refine x_imul (r := 4 * n) hx hb dX6_beatsCost_10 (rfl) ?_
      refine x_icmp_ge (tgt := 99) hx hb (by omega) (by omega) dX6_beatsCost_11 (by decide) (fun c_11 => ?_) (fun c_11 => ?_)
      · refine lv_iload hx hb dX6_beatsCost_99 (lv_at hl 4 rfl) ?_
        refine x_top (y := mcost (F 18) (fun j => R 21 (4 * u + j)) (fun j => R 22 (4 * w + j)) n) (by unfold mcost; rw [if_pos (fun j hj => hgood j (by omega)), show i = 4 * n by omega]) ?_
        exact W.iret (v := mcost (F 18) (fun j => R 21 (4 * u + j)) (fun j => R 22 (4 * w + j)) n) hx hb hr (fun t9 ht9 hW9 => ⟨rfl, ht9⟩) (fun _ h => by cases h) dX6_beatsCost_101
      · obtain ⟨hx1, hy1⟩ := hxr i (by omega)
        refine lv_aload_n hx hb dX6_beatsCost_14 rfl (lv_at hl 0 rfl) ?_
        refine va_get (D := G.1) (ci := 6) (v := .ref (ad 22)) (C := RX6) (T := TX6) (N := 36) hx hb hts inX6 hown hK.1 hP 0 rfl rfl 21 (by decide) fl69 (fun _ h9 => h9) rfl dX6_beatsCost_15 ?_
        refine lv_iconst (v := nI 4) hx hb dX6_beatsCost_18 (by decide) ?_
        refine lv_iload_n hx hb dX6_beatsCost_19 rfl (lv_at hl 1 rfl) ?_
        refine x_imul (r := 4 * u) hx hb dX6_beatsCost_20 (rfl) ?_
        refine lv_iload hx hb dX6_beatsCost_21 (lv_at hl 5 rfl) ?_
        refine x_iadd (r := 4 * u + i) hx hb dX6_beatsCost_23 (rfl) ?_
        refine x_iald hx hb hK.1 hP 17 0 (n := 256) (f := R 21) rfl rfl (k := 4 * u + i) (by omega) (by omega) dX6_beatsCost_24 ?_
        refine lv_istore (lv' := [(6, .int (R 21 (4 * u + i))), (0, .ref (ad 0)), (1, .int (nI u)), (2, .int (nI w)), (3, .int (nI n)), (4, .int (isum (mone (fun j => R 21 (4 * u + j)) (fun j => R 22 (4 * w + j)) n) i)), (5, .int (nI i))]) hx hb dX6_beatsCost_25 hl (by decide) rfl (fun ls hl => ?_)
        refine lv_aload_n hx hb dX6_beatsCost_27 rfl (lv_at hl 1 rfl) ?_
        refine va_get (D := G.1) (ci := 6) (v := .ref (ad 23)) (C := RX6) (T := TX6) (N := 36) hx hb hts inX6 hown hK.1 hP 0 rfl rfl 22 (by decide) fl72 (fun _ h9 => h9) rfl dX6_beatsCost_28 ?_
        refine lv_iconst (v := nI 4) hx hb dX6_beatsCost_31 (by decide) ?_
        refine lv_iload_n hx hb dX6_beatsCost_32 rfl (lv_at hl 3 rfl) ?_
        refine x_imul (r := 4 * w) hx hb dX6_beatsCost_33 (rfl) ?_
        refine lv_iload hx hb dX6_beatsCost_34 (lv_at hl 6 rfl) ?_
        refine x_iadd (r := 4 * w + i) hx hb dX6_beatsCost_36 (rfl) ?_
        refine x_iald hx hb hK.1 hP 18 0 (n := 256) (f := R 22) rfl rfl (k := 4 * w + i) (by omega) (by omega) dX6_beatsCost_37 ?_
        refine lv_istore (lv' := [(7, .int (R 22 (4 * w + i))), (6, .int (R 21 (4 * u + i))), (0, .ref (ad 0)), (1, .int (nI u)), (2, .int (nI w)), (3, .int (nI n)), (4, .int (isum (mone (fun j => R 21 (4 * u + j)) (fun j => R 22 (4 * w + j)) n) i)), (5, .int (nI i))]) hx hb dX6_beatsCost_38 hl (by decide) rfl (fun ls hl => ?_)
        refine lv_iload hx hb dX6_beatsCost_40 (lv_at hl 1 rfl) ?_
        refine lv_iload hx hb dX6_beatsCost_42 (lv_at hl 0 rfl) ?_
        refine lv_iload hx hb dX6_beatsCost_44 (lv_at hl 7 rfl) ?_
        refine lv_iload_n hx hb dX6_beatsCost_46 rfl (lv_at hl 5 rfl) ?_
        refine mx_callRO (v := .int (mjoin (R 21 (4 * u + i)) (R 22 (4 * w + i)) i n)) (va_runS (As := [.int (R 21 (4 * u + i)), .int (R 22 (4 * w + i)), .int (nI i), .int (nI n)]) (rest := []) ⟨hx, hb, hml, hown, hts⟩ (c_X6_joined l G (R 21 (4 * u + i)) (R 22 (4 * w + i)) i n (by omega) (by omega)) (va_cwS 4 hts gX6_beatsCost_X6_joined rfl rfl rfl (by decide +kernel) ⟨Nat.le_of_ble_eq_true rfl, Nat.le_of_ble_eq_true rfl⟩) (mx_preS hK trivial) rfl rfl hl.1 rfl (lv_room (Nat.le_of_ble_eq_true rfl)) dX6_beatsCost_47 ⟨Nat.zero_le _, Nat.zero_le _⟩) ?_
        refine lv_istore (lv' := [(8, .int (mjoin (R 21 (4 * u + i)) (R 22 (4 * w + i)) i n)), (7, .int (R 22 (4 * w + i))), (6, .int (R 21 (4 * u + i))), (0, .ref (ad 0)), (1, .int (nI u)), (2, .int (nI w)), (3, .int (nI n)), (4, .int (isum (mone (fun j => R 21 (4 * u + j)) (fun j => R 22 (4 * w + j)) n) i)), (5, .int (nI i))]) hx hb dX6_beatsCost_50 hl (by decide) rfl (fun ls hl => ?_)
        refine lv_iload hx hb dX6_beatsCost_52 (lv_at hl 0 rfl) ?_
        refine lv_iload hx hb dX6_beatsCost_54 (lv_at hl 2 rfl) ?_
        refine lv_iload hx hb dX6_beatsCost_56 (lv_at hl 1 rfl) ?_
        refine mx_callRO (v := .int (mbend (mjoin (R 21 (4 * u + i)) (R 22 (4 * w + i)) i n) (R 21 (4 * u + i)) (R 22 (4 * w + i)))) (va_runS (As := [.int (mjoin (R 21 (4 * u + i)) (R 22 (4 * w + i)) i n), .int (R 21 (4 * u + i)), .int (R 22 (4 * w + i))]) (rest := []) ⟨hx, hb, hml, hown, hts⟩ (c_X6_bend l G (mjoin (R 21 (4 * u + i)) (R 22 (4 * w + i)) i n) (R 21 (4 * u + i)) (R 22 (4 * w + i)) hx1 hy1) (va_cwS 3 hts gX6_beatsCost_X6_bend rfl rfl rfl (by decide +kernel) ⟨Nat.le_of_ble_eq_true rfl, Nat.le_of_ble_eq_true rfl⟩) (mx_preS hK trivial) rfl rfl hl.1 rfl (lv_room (Nat.le_of_ble_eq_true rfl)) dX6_beatsCost_58 ⟨Nat.zero_le _, Nat.zero_le _⟩) ?_
        refine lv_aload_n hx hb dX6_beatsCost_61 rfl (lv_at hl 3 rfl) ?_
        refine va_get (D := G.1) (ci := 6) (v := .int (F 18)) (C := RX6) (T := TX6) (N := 36) hx hb hts inX6 hown hK.1 hP 0 rfl rfl 18 (by decide) fl59 (fun _ h9 => h9) rfl dX6_beatsCost_62 ?_
        refine lv_icmp_le (tgt := 71) hx hb dX6_beatsCost_65 (by decide) (fun c_65 => ?_) (fun c_65 => ?_)
        · refine lv_iload hx hb dX6_beatsCost_71 (lv_at hl 7 rfl) ?_
          refine lv_iload hx hb dX6_beatsCost_73 (lv_at hl 0 rfl) ?_
          refine lv_iload hx hb dX6_beatsCost_75 (lv_at hl 2 rfl) ?_
          refine lv_isub hx hb dX6_beatsCost_77 ?_
          refine mx_callRO (v := .int (msize ((mjoin (R 21 (4 * u + i)) (R 22 (4 * w + i)) i n) - (R 21 (4 * u + i))))) (va_runS (As := [.int ((mjoin (R 21 (4 * u + i)) (R 22 (4 * w + i)) i n) - (R 21 (4 * u + i)))]) (rest := [.int (isum (mone (fun j => R 21 (4 * u + j)) (fun j => R 22 (4 * w + j)) n) i)]) ⟨hx, hb, hml, hown, hts⟩ (c_X6_size l G ((mjoin (R 21 (4 * u + i)) (R 22 (4 * w + i)) i n) - (R 21 (4 * u + i)))) (va_cwS 1 hts gX6_beatsCost_X6_size rfl rfl rfl (by decide +kernel) ⟨Nat.le_of_ble_eq_true rfl, Nat.le_of_ble_eq_true rfl⟩) (mx_preS hK trivial) rfl rfl hl.1 rfl (lv_room (Nat.le_of_ble_eq_true rfl)) dX6_beatsCost_78 ⟨Nat.zero_le _, Nat.zero_le _⟩) ?_
          refine lv_iload hx hb dX6_beatsCost_81 (lv_at hl 0 rfl) ?_
          refine lv_iload hx hb dX6_beatsCost_83 (lv_at hl 1 rfl) ?_
          refine lv_isub hx hb dX6_beatsCost_85 ?_
          refine mx_callRO (v := .int (msize ((mjoin (R 21 (4 * u + i)) (R 22 (4 * w + i)) i n) - (R 22 (4 * w + i))))) (va_runS (As := [.int ((mjoin (R 21 (4 * u + i)) (R 22 (4 * w + i)) i n) - (R 22 (4 * w + i)))]) (rest := [.int (msize ((mjoin (R 21 (4 * u + i)) (R 22 (4 * w + i)) i n) - (R 21 (4 * u + i)))), .int (isum (mone (fun j => R 21 (4 * u + j)) (fun j => R 22 (4 * w + j)) n) i)]) ⟨hx, hb, hml, hown, hts⟩ (c_X6_size l G ((mjoin (R 21 (4 * u + i)) (R 22 (4 * w + i)) i n) - (R 22 (4 * w + i)))) (va_cwS 1 hts gX6_beatsCost_X6_size rfl rfl rfl (by decide +kernel) ⟨Nat.le_of_ble_eq_true rfl, Nat.le_of_ble_eq_true rfl⟩) (mx_preS hK trivial) rfl rfl hl.1 rfl (lv_room (Nat.le_of_ble_eq_true rfl)) dX6_beatsCost_86 ⟨Nat.zero_le _, Nat.zero_le _⟩) ?_
          refine lv_iadd hx hb dX6_beatsCost_89 ?_
          refine lv_iadd hx hb dX6_beatsCost_90 ?_
          refine lv_istore (lv' := [(4, .int ((isum (mone (fun j => R 21 (4 * u + j)) (fun j => R 22 (4 * w + j)) n) i) + ((msize ((mjoin (R 21 (4 * u + i)) (R 22 (4 * w + i)) i n) - (R 21 (4 * u + i)))) + (msize ((mjoin (R 21 (4 * u + i)) (R 22 (4 * w + i)) i n) - (R 22 (4 * w + i))))))), (8, .int (mjoin (R 21 (4 * u + i)) (R 22 (4 * w + i)) i n)), (7, .int (R 22 (4 * w + i))), (6, .int (R 21 (4 * u + i))), (0, .ref (ad 0)), (1, .int (nI u)), (2, .int (nI w)), (3, .int (nI n)), (5, .int (nI i))]) hx hb dX6_beatsCost_91 hl (by decide) rfl (fun ls hl => ?_)
          refine x_iinc (lv' := [(5, .int (nI (i + 1))), (4, .int ((isum (mone (fun j => R 21 (4 * u + j)) (fun j => R 22 (4 * w + j)) n) i) + ((msize ((mjoin (R 21 (4 * u + i)) (R 22 (4 * w + i)) i n) - (R 21 (4 * u + i)))) + (msize ((mjoin (R 21 (4 * u + i)) (R 22 (4 * w + i)) i n) - (R 22 (4 * w + i))))))), (8, .int (mjoin (R 21 (4 * u + i)) (R 22 (4 * w + i)) i n)), (7, .int (R 22 (4 * w + i))), (6, .int (R 21 (4 * u + i))), (0, .ref (ad 0)), (1, .int (nI u)), (2, .int (nI w)), (3, .int (nI n))]) hx hb dX6_beatsCost_93 hl (k := 8) rfl (x_inc1 _) (by decide) rfl (fun ls hl => ?_)
          refine lv_goto (tgt := 6) hx hb dX6_beatsCost_96 (by decide) ?_
          exact ih6 (i + 1) (by omega) (by omega) (lt_s hgood c_65) _ (lv_sub hl [5, 6, 7, 8, 1, 0] rfl)
        · refine lv_ldc hx hb hown ck164 dX6_beatsCost_68 ?_
          refine x_top (y := nI 1000000000) (by decide) ?_
          refine x_top (y := mcost (F 18) (fun j => R 21 (4 * u + j)) (fun j => R 22 (4 * w + j)) n) (by unfold mcost; rw [if_neg (fun h => c_65 (h i (by omega)))]) ?_
          exact W.iret (v := mcost (F 18) (fun j => R 21 (4 * u + j)) (fun j => R 22 (4 * w + j)) n) hx hb hr (fun t9 ht9 hW9 => ⟨rfl, ht9⟩) (fun _ h => by cases h) dX6_beatsCost_70
  exact lp6 (4 * n - 0 + 1) 0 (Nat.lt_succ_self _) (by omega) (lt_0) _ (lv_sub hl [2, 3, 4, 5, 1, 0] rfl)

set_option maxHeartbeats 4000000 in
set_option maxRecDepth 100000 in
theorem c_X6_meets (l : Launch) (G : mx_G) (ad : Nat → Nat) (F : Nat → Int32) (R : Nat → Nat → Int32) (M : Nat) (x w : Int32) (hM : F 27 = nI M) (hM32 : M ≤ 32) : mx_RO l yX6_meets wsX6_meets 0 0 G [.ref (ad 0), .int x, .int w] (fun H => va_P G.1 vwCl (MW G ad F R) H) (.int (aMeets M (R 28) (R 29) x w)) := by
  refine Met.ofW (cc := cX6_meets) (maxL := 5) (ret := (some .int)) (by decide) rfl ?_
  intro p e s m args below meth c s₁ BB hml hv
  obtain ⟨rfl, hP, hK⟩ := hv
  have hx := BB.exec
  have hb := BB.bytes
  have hr := BB.returns
  have hts := atoms_spec (ws := wsX6_meets) BB.pre
  have hown : s.vm.findClass RX6 = some m.cls := findClass_of_methodNamed BB.named
  have hlocks := BB.notSynchronized
  have hP : va_P G.1 vwCl (MW G ad F R) s.heap := hP
  have fl180 := hts (.fieldLink RX6 180 "MixDeskModel" "meetMany" "I") (by decide +kernel)
  have fl87 := hts (.fieldLink RX6 87 "MixDeskModel" "meetLong" "[I") (by decide +kernel)
  have fl90 := hts (.fieldLink RX6 90 "MixDeskModel" "meetBend" "[I") (by decide +kernel)
  have inX6 : ∀ w ∈ wsX60, w ∈ wsX6_meets := by decide +kernel
  have hl := lv_entry ([.ref (ad 0), .int x, .int w]) (n := 5) (Nat.le_of_ble_eq_true rfl)
  rw [lg_entry_eq]
  generalize (lg_sl ([.ref (ad 0), .int x, .int w]) ++ List.replicate (5 - (lg_sl ([.ref (ad 0), .int x, .int w])).length) Slot.unset).toArray = ls at hl ⊢
  have hl : lv_has ls 5 [(0, .ref (ad 0)), (1, .int x), (2, .int w)] := hl
  show mx_WR l wsX6_meets 0 0 p e s m (([.ref (ad 0), .int x, .int w] : List Value).toArray) below meth c (.int (aMeets M (R 28) (R 29) x w)) (F0 m 0 ls [])
  refine lv_iload_n hx hb dX6_meets_0 rfl (lv_at hl 1 rfl) ?_
  refine lv_if_lt (tgt := 40) hx hb dX6_meets_1 (by decide) (fun c_1 => ?_) (fun c_1 => ?_)
  · refine lv_iconst (v := (-1)) hx hb dX6_meets_40 (by decide) ?_
    refine x_top (y := aMeets M (R 28) (R 29) x w) (by unfold aMeets; rw [if_pos c_1]) ?_
    exact W.iret (v := aMeets M (R 28) (R 29) x w) hx hb hr (fun t9 ht9 hW9 => ⟨rfl, ht9⟩) (fun _ h => by cases h) dX6_meets_41
  · refine lv_aload_n hx hb dX6_meets_4 rfl (lv_at hl 0 rfl) ?_
    refine va_get (D := G.1) (ci := 6) (v := .int (F 27)) (C := RX6) (T := TX6) (N := 36) hx hb hts inX6 hown hK.1 hP 0 rfl rfl 27 (by decide) fl180 (fun _ h9 => h9) rfl dX6_meets_5 ?_
    refine x_top (y := nI M) (hM) ?_
    refine x_if_eq (tgt := 40) hx hb (by omega) dX6_meets_8 (by decide) (fun c_8 => ?_) (fun c_8 => ?_)
    · refine lv_iconst (v := (-1)) hx hb dX6_meets_40 (by decide) ?_
      refine x_top (y := aMeets M (R 28) (R 29) x w) (by unfold aMeets; rw [if_neg c_1, if_pos c_8]) ?_
      exact W.iret (v := aMeets M (R 28) (R 29) x w) hx hb hr (fun t9 ht9 hW9 => ⟨rfl, ht9⟩) (fun _ h => by cases h) dX6_meets_41
    · refine lv_iload_n hx hb dX6_meets_11 rfl (lv_at hl 1 rfl) ?_
      refine lv_aload_n hx hb dX6_meets_12 rfl (lv_at hl 0 rfl) ?_
      refine va_get (D := G.1) (ci := 6) (v := .int (F 27)) (C := RX6) (T := TX6) (N := 36) hx hb hts inX6 hown hK.1 hP 0 rfl rfl 27 (by decide) fl180 (fun _ h9 => h9) rfl dX6_meets_13 ?_
      refine x_top (y := nI M) (hM) ?_
      refine lv_icmp_gt (tgt := 40) hx hb dX6_meets_16 (by decide) (fun c_16 => ?_) (fun c_16 => ?_)
      · refine lv_iconst (v := (-1)) hx hb dX6_meets_40 (by decide) ?_
        refine x_top (y := aMeets M (R 28) (R 29) x w) (by unfold aMeets; rw [if_neg c_1, if_neg c_8, if_pos c_16]) ?_
        exact W.iret (v := aMeets M (R 28) (R 29) x w) hx hb hr (fun t9 ht9 hW9 => ⟨rfl, ht9⟩) (fun _ h => by cases h) dX6_meets_41
      · refine lv_iload_n hx hb dX6_meets_19 rfl (lv_at hl 1 rfl) ?_
        refine lv_aload_n hx hb dX6_meets_20 rfl (lv_at hl 0 rfl) ?_
        refine va_get (D := G.1) (ci := 6) (v := .int (F 27)) (C := RX6) (T := TX6) (N := 36) hx hb hts inX6 hown hK.1 hP 0 rfl rfl 27 (by decide) fl180 (fun _ h9 => h9) rfl dX6_meets_21 ?_
        refine x_top (y := nI M) (hM) ?_
        refine lv_icmp_ne (tgt := 31) hx hb dX6_meets_24 (by decide) (fun c_24 => ?_) (fun c_24 => ?_)
        · refine lv_iload_n hx hb dX6_meets_31 rfl (lv_at hl 2 rfl) ?_
          refine lv_if_lt (tgt := 40) hx hb dX6_meets_32 (by decide) (fun c_32 => ?_) (fun c_32 => ?_)
          · refine lv_iconst (v := (-1)) hx hb dX6_meets_40 (by decide) ?_
            refine x_top (y := aMeets M (R 28) (R 29) x w) (by unfold aMeets; rw [if_neg c_1, if_neg c_8, if_neg c_16, if_neg (fun h => c_24 h.1), if_pos c_32]) ?_
            exact W.iret (v := aMeets M (R 28) (R 29) x w) hx hb hr (fun t9 ht9 hW9 => ⟨rfl, ht9⟩) (fun _ h => by cases h) dX6_meets_41
          · refine lv_iload_n hx hb dX6_meets_35 rfl (lv_at hl 2 rfl) ?_
            refine lv_iconst (v := nI 2) hx hb dX6_meets_36 (by decide) ?_
            refine lv_icmp_le (tgt := 42) hx hb dX6_meets_37 (by decide) (fun c_37 => ?_) (fun c_37 => ?_)
            · obtain ⟨x0, hx0, rfl⟩ := le_of (by omega) c_1 c_16
              refine lv_iload_n hx hb dX6_meets_42 rfl (lv_at hl 2 rfl) ?_
              refine lv_iconst (v := nI 1) hx hb dX6_meets_43 (by decide) ?_
              refine lv_icmp_ne (tgt := 54) hx hb dX6_meets_44 (by decide) (fun c_44 => ?_) (fun c_44 => ?_)
              · refine lv_iload_n hx hb dX6_meets_54 rfl (lv_at hl 2 rfl) ?_
                refine lv_iconst (v := nI 2) hx hb dX6_meets_55 (by decide) ?_
                refine lv_icmp_ne (tgt := 66) hx hb dX6_meets_56 (by decide) (fun c_56 => ?_) (fun c_56 => ?_)
                · refine lv_iconst (v := nI 0) hx hb dX6_meets_66 (by decide) ?_
                  refine lv_istore_n (lv' := [(3, .int (nI 0)), (0, .ref (ad 0)), (1, .int (nI x0)), (2, .int w)]) hx hb dX6_meets_67 rfl hl (by decide) rfl (fun ls hl => ?_)
                  refine lv_iconst (v := nI 0) hx hb dX6_meets_68 (by decide) ?_
                  refine lv_istore (lv' := [(4, .int (nI 0)), (3, .int (nI 0)), (0, .ref (ad 0)), (1, .int (nI x0)), (2, .int w)]) hx hb dX6_meets_69 hl (by decide) rfl (fun ls hl => ?_)
                  have lp71 : ∀ (nn : Nat) (i : Nat), x0 - i < nn → (i ≤ x0) → ∀ ls : Array Slot, lv_has ls 5 [(0, .ref (ad 0)), (1, .int (nI x0)), (2, .int w), (3, .int (isum (R 28) i)), (4, .int (nI i))] → mx_WR l wsX6_meets 0 0 p e s m (([.ref (ad 0), .int (nI x0), .int w] : List Value).toArray) below meth c (.int (aMeets M (R 28) (R 29) (nI x0) w)) (F0 m 71 ls []) := by
                    intro nn
                    induction nn with
                    | zero => intro i hmu; exact absurd hmu (Nat.not_lt_zero _)
                    | succ nn ih71 =>
                      intro i hmu hi ls hl
                      refine lv_iload hx hb dX6_meets_71 (lv_at hl 4 rfl) ?_
                      refine lv_iload_n hx hb dX6_meets_73 rfl (lv_at hl 1 rfl) ?_
                      refine x_icmp_ge (tgt := 93) hx hb (by omega) (by omega) dX6_meets_74 (by decide) (fun c_74 => ?_) (fun c_74 => ?_)
                      · refine lv_iload_n hx hb dX6_meets_93 rfl (lv_at hl 3 rfl) ?_
                        refine x_top (y := aMeets M (R 28) (R 29) (nI x0) w) (by unfold aMeets; rw [if_neg c_1, if_neg c_8, if_neg c_16, if_neg (fun h => c_24 h.1), if_neg c_32, if_neg (Int32.not_lt.mpr c_37), if_neg c_44, if_neg c_56, nI_clamp (by omega), show i = x0 by omega]) ?_
                        exact W.iret (v := aMeets M (R 28) (R 29) (nI x0) w) hx hb hr (fun t9 ht9 hW9 => ⟨rfl, ht9⟩) (fun _ h => by cases h) dX6_meets_94
                      · refine lv_iload_n hx hb dX6_meets_77 rfl (lv_at hl 3 rfl) ?_
                        refine lv_aload_n hx hb dX6_meets_78 rfl (lv_at hl 0 rfl) ?_
                        refine va_get (D := G.1) (ci := 6) (v := .ref (ad 29)) (C := RX6) (T := TX6) (N := 36) hx hb hts inX6 hown hK.1 hP 0 rfl rfl 28 (by decide) fl87 (fun _ h9 => h9) rfl dX6_meets_79 ?_
                        refine lv_iload hx hb dX6_meets_82 (lv_at hl 4 rfl) ?_
                        refine x_iald hx hb hK.1 hP 23 0 (n := 32) (f := R 28) rfl rfl (k := i) (by omega) (by omega) dX6_meets_84 ?_
                        refine lv_iadd hx hb dX6_meets_85 ?_
                        refine lv_istore_n (lv' := [(3, .int ((isum (R 28) i) + (R 28 i))), (0, .ref (ad 0)), (1, .int (nI x0)), (2, .int w), (4, .int (nI i))]) hx hb dX6_meets_86 rfl hl (by decide) rfl (fun ls hl => ?_)
                        refine x_iinc (lv' := [(4, .int (nI (i + 1))), (3, .int ((isum (R 28) i) + (R 28 i))), (0, .ref (ad 0)), (1, .int (nI x0)), (2, .int w)]) hx hb dX6_meets_87 hl (k := 4) rfl (x_inc1 _) (by decide) rfl (fun ls hl => ?_)
                        refine lv_goto (tgt := 71) hx hb dX6_meets_90 (by decide) ?_
                        exact ih71 (i + 1) (by omega) (by omega) _ (lv_sub hl [2, 3, 4, 1, 0] rfl)
                  exact lp71 (x0 - 0 + 1) 0 (Nat.lt_succ_self _) (by omega) _ (lv_sub hl [2, 3, 4, 1, 0] rfl)
                · refine lv_aload_n hx hb dX6_meets_59 rfl (lv_at hl 0 rfl) ?_
                  refine va_get (D := G.1) (ci := 6) (v := .ref (ad 30)) (C := RX6) (T := TX6) (N := 36) hx hb hts inX6 hown hK.1 hP 0 rfl rfl 29 (by decide) fl90 (fun _ h9 => h9) rfl dX6_meets_60 ?_
                  have hlt : x0 < M := by
                    exact Nat.lt_of_le_of_ne hx0 (fun q => c_24 (congrArg nI q))
                  refine lv_iload_n hx hb dX6_meets_63 rfl (lv_at hl 1 rfl) ?_
                  refine x_iald hx hb hK.1 hP 24 0 (n := 32) (f := R 29) rfl rfl (k := x0) (by omega) (by omega) dX6_meets_64 ?_
                  refine x_top (y := aMeets M (R 28) (R 29) (nI x0) w) (by unfold aMeets; rw [if_neg c_1, if_neg c_8, if_neg c_16, if_neg (fun h => c_24 h.1), if_neg c_32, if_neg (Int32.not_lt.mpr c_37), if_neg c_44, if_pos c_56, nI_clamp (by omega)]) ?_
                  exact W.iret (v := aMeets M (R 28) (R 29) (nI x0) w) hx hb hr (fun t9 ht9 hW9 => ⟨rfl, ht9⟩) (fun _ h => by cases h) dX6_meets_65
              · refine lv_aload_n hx hb dX6_meets_47 rfl (lv_at hl 0 rfl) ?_
                refine va_get (D := G.1) (ci := 6) (v := .ref (ad 29)) (C := RX6) (T := TX6) (N := 36) hx hb hts inX6 hown hK.1 hP 0 rfl rfl 28 (by decide) fl87 (fun _ h9 => h9) rfl dX6_meets_48 ?_
                have hlt : x0 < M := by
                  exact Nat.lt_of_le_of_ne hx0 (fun q => c_24 (congrArg nI q))
                refine lv_iload_n hx hb dX6_meets_51 rfl (lv_at hl 1 rfl) ?_
                refine x_iald hx hb hK.1 hP 23 0 (n := 32) (f := R 28) rfl rfl (k := x0) (by omega) (by omega) dX6_meets_52 ?_
                refine x_top (y := aMeets M (R 28) (R 29) (nI x0) w) (by unfold aMeets; rw [if_neg c_1, if_neg c_8, if_neg c_16, if_neg (fun h => c_24 h.1), if_neg c_32, if_neg (Int32.not_lt.mpr c_37), if_pos c_44, nI_clamp (by omega)]) ?_
                exact W.iret (v := aMeets M (R 28) (R 29) (nI x0) w) hx hb hr (fun t9 ht9 hW9 => ⟨rfl, ht9⟩) (fun _ h => by cases h) dX6_meets_53
            · refine lv_iconst (v := (-1)) hx hb dX6_meets_40 (by decide) ?_
              refine x_top (y := aMeets M (R 28) (R 29) x w) (by unfold aMeets; rw [if_neg c_1, if_neg c_8, if_neg c_16, if_neg (fun h => c_24 h.1), if_neg c_32, if_pos (Int32.not_le.mp c_37)]) ?_
              exact W.iret (v := aMeets M (R 28) (R 29) x w) hx hb hr (fun t9 ht9 hW9 => ⟨rfl, ht9⟩) (fun _ h => by cases h) dX6_meets_41
        · refine lv_iload_n hx hb dX6_meets_27 rfl (lv_at hl 2 rfl) ?_
          refine lv_if_ne (tgt := 40) hx hb dX6_meets_28 (by decide) (fun c_28 => ?_) (fun c_28 => ?_)
          · refine lv_iconst (v := (-1)) hx hb dX6_meets_40 (by decide) ?_
            refine x_top (y := aMeets M (R 28) (R 29) x w) (by unfold aMeets; rw [if_neg c_1, if_neg c_8, if_neg c_16, if_pos ⟨c_24, c_28⟩]) ?_
            exact W.iret (v := aMeets M (R 28) (R 29) x w) hx hb hr (fun t9 ht9 hW9 => ⟨rfl, ht9⟩) (fun _ h => by cases h) dX6_meets_41
          · refine lv_iload_n hx hb dX6_meets_31 rfl (lv_at hl 2 rfl) ?_
            refine lv_if_lt (tgt := 40) hx hb dX6_meets_32 (by decide) (fun c_32 => ?_) (fun c_32 => ?_)
            · refine lv_iconst (v := (-1)) hx hb dX6_meets_40 (by decide) ?_
              refine x_top (y := aMeets M (R 28) (R 29) x w) (by unfold aMeets; rw [if_neg c_1, if_neg c_8, if_neg c_16, if_neg (fun h => h.2 c_28), if_pos c_32]) ?_
              exact W.iret (v := aMeets M (R 28) (R 29) x w) hx hb hr (fun t9 ht9 hW9 => ⟨rfl, ht9⟩) (fun _ h => by cases h) dX6_meets_41
            · refine lv_iload_n hx hb dX6_meets_35 rfl (lv_at hl 2 rfl) ?_
              refine lv_iconst (v := nI 2) hx hb dX6_meets_36 (by decide) ?_
              refine lv_icmp_le (tgt := 42) hx hb dX6_meets_37 (by decide) (fun c_37 => ?_) (fun c_37 => ?_)
              · obtain ⟨x0, hx0, rfl⟩ := le_of (by omega) c_1 c_16
                refine lv_iload_n hx hb dX6_meets_42 rfl (lv_at hl 2 rfl) ?_
                refine lv_iconst (v := nI 1) hx hb dX6_meets_43 (by decide) ?_
                refine lv_icmp_ne (tgt := 54) hx hb dX6_meets_44 (by decide) (fun c_44 => ?_) (fun c_44 => ?_)
                · refine lv_iload_n hx hb dX6_meets_54 rfl (lv_at hl 2 rfl) ?_
                  refine lv_iconst (v := nI 2) hx hb dX6_meets_55 (by decide) ?_
                  refine lv_icmp_ne (tgt := 66) hx hb dX6_meets_56 (by decide) (fun c_56 => ?_) (fun c_56 => ?_)
                  · refine lv_iconst (v := nI 0) hx hb dX6_meets_66 (by decide) ?_
                    refine lv_istore_n (lv' := [(3, .int (nI 0)), (0, .ref (ad 0)), (1, .int (nI x0)), (2, .int w)]) hx hb dX6_meets_67 rfl hl (by decide) rfl (fun ls hl => ?_)
                    refine lv_iconst (v := nI 0) hx hb dX6_meets_68 (by decide) ?_
                    refine lv_istore (lv' := [(4, .int (nI 0)), (3, .int (nI 0)), (0, .ref (ad 0)), (1, .int (nI x0)), (2, .int w)]) hx hb dX6_meets_69 hl (by decide) rfl (fun ls hl => ?_)
                    have lp71 : ∀ (nn : Nat) (i : Nat), x0 - i < nn → (i ≤ x0) → ∀ ls : Array Slot, lv_has ls 5 [(0, .ref (ad 0)), (1, .int (nI x0)), (2, .int w), (3, .int (isum (R 28) i)), (4, .int (nI i))] → mx_WR l wsX6_meets 0 0 p e s m (([.ref (ad 0), .int (nI x0), .int w] : List Value).toArray) below meth c (.int (aMeets M (R 28) (R 29) (nI x0) w)) (F0 m 71 ls []) := by
                      intro nn
                      induction nn with
                      | zero => intro i hmu; exact absurd hmu (Nat.not_lt_zero _)
                      | succ nn ih71 =>
                        intro i hmu hi ls hl
                        refine lv_iload hx hb dX6_meets_71 (lv_at hl 4 rfl) ?_
                        refine lv_iload_n hx hb dX6_meets_73 rfl (lv_at hl 1 rfl) ?_
                        refine x_icmp_ge (tgt := 93) hx hb (by omega) (by omega) dX6_meets_74 (by decide) (fun c_74 => ?_) (fun c_74 => ?_)
                        · refine lv_iload_n hx hb dX6_meets_93 rfl (lv_at hl 3 rfl) ?_
                          refine x_top (y := aMeets M (R 28) (R 29) (nI x0) w) (by unfold aMeets; rw [if_neg c_1, if_neg c_8, if_neg c_16, if_neg (fun h => h.2 c_28), if_neg c_32, if_neg (Int32.not_lt.mpr c_37), if_neg c_44, if_neg c_56, nI_clamp (by omega), show i = x0 by omega]) ?_
                          exact W.iret (v := aMeets M (R 28) (R 29) (nI x0) w) hx hb hr (fun t9 ht9 hW9 => ⟨rfl, ht9⟩) (fun _ h => by cases h) dX6_meets_94
                        · refine lv_iload_n hx hb dX6_meets_77 rfl (lv_at hl 3 rfl) ?_
                          refine lv_aload_n hx hb dX6_meets_78 rfl (lv_at hl 0 rfl) ?_
                          refine va_get (D := G.1) (ci := 6) (v := .ref (ad 29)) (C := RX6) (T := TX6) (N := 36) hx hb hts inX6 hown hK.1 hP 0 rfl rfl 28 (by decide) fl87 (fun _ h9 => h9) rfl dX6_meets_79 ?_
                          refine lv_iload hx hb dX6_meets_82 (lv_at hl 4 rfl) ?_
                          refine x_iald hx hb hK.1 hP 23 0 (n := 32) (f := R 28) rfl rfl (k := i) (by omega) (by omega) dX6_meets_84 ?_
                          refine lv_iadd hx hb dX6_meets_85 ?_
                          refine lv_istore_n (lv' := [(3, .int ((isum (R 28) i) + (R 28 i))), (0, .ref (ad 0)), (1, .int (nI x0)), (2, .int w), (4, .int (nI i))]) hx hb dX6_meets_86 rfl hl (by decide) rfl (fun ls hl => ?_)
                          refine x_iinc (lv' := [(4, .int (nI (i + 1))), (3, .int ((isum (R 28) i) + (R 28 i))), (0, .ref (ad 0)), (1, .int (nI x0)), (2, .int w)]) hx hb dX6_meets_87 hl (k := 4) rfl (x_inc1 _) (by decide) rfl (fun ls hl => ?_)
                          refine lv_goto (tgt := 71) hx hb dX6_meets_90 (by decide) ?_
                          exact ih71 (i + 1) (by omega) (by omega) _ (lv_sub hl [2, 3, 4, 1, 0] rfl)
                    exact lp71 (x0 - 0 + 1) 0 (Nat.lt_succ_self _) (by omega) _ (lv_sub hl [2, 3, 4, 1, 0] rfl)
                  · refine lv_aload_n hx hb dX6_meets_59 rfl (lv_at hl 0 rfl) ?_
                    refine va_get (D := G.1) (ci := 6) (v := .ref (ad 30)) (C := RX6) (T := TX6) (N := 36) hx hb hts inX6 hown hK.1 hP 0 rfl rfl 29 (by decide) fl90 (fun _ h9 => h9) rfl dX6_meets_60 ?_
                    have hlt : x0 < M := by
                      exact absurd (c_56.symm.trans c_28) (by decide)
                    refine lv_iload_n hx hb dX6_meets_63 rfl (lv_at hl 1 rfl) ?_
                    refine x_iald hx hb hK.1 hP 24 0 (n := 32) (f := R 29) rfl rfl (k := x0) (by omega) (by omega) dX6_meets_64 ?_
                    refine x_top (y := aMeets M (R 28) (R 29) (nI x0) w) (by unfold aMeets; rw [if_neg c_1, if_neg c_8, if_neg c_16, if_neg (fun h => h.2 c_28), if_neg c_32, if_neg (Int32.not_lt.mpr c_37), if_neg c_44, if_pos c_56, nI_clamp (by omega)]) ?_
                    exact W.iret (v := aMeets M (R 28) (R 29) (nI x0) w) hx hb hr (fun t9 ht9 hW9 => ⟨rfl, ht9⟩) (fun _ h => by cases h) dX6_meets_65
                · refine lv_aload_n hx hb dX6_meets_47 rfl (lv_at hl 0 rfl) ?_
                  refine va_get (D := G.1) (ci := 6) (v := .ref (ad 29)) (C := RX6) (T := TX6) (N := 36) hx hb hts inX6 hown hK.1 hP 0 rfl rfl 28 (by decide) fl87 (fun _ h9 => h9) rfl dX6_meets_48 ?_
                  have hlt : x0 < M := by
                    exact absurd (c_44.symm.trans c_28) (by decide)
                  refine lv_iload_n hx hb dX6_meets_51 rfl (lv_at hl 1 rfl) ?_
                  refine x_iald hx hb hK.1 hP 23 0 (n := 32) (f := R 28) rfl rfl (k := x0) (by omega) (by omega) dX6_meets_52 ?_
                  refine x_top (y := aMeets M (R 28) (R 29) (nI x0) w) (by unfold aMeets; rw [if_neg c_1, if_neg c_8, if_neg c_16, if_neg (fun h => h.2 c_28), if_neg c_32, if_neg (Int32.not_lt.mpr c_37), if_pos c_44, nI_clamp (by omega)]) ?_
                  exact W.iret (v := aMeets M (R 28) (R 29) (nI x0) w) hx hb hr (fun t9 ht9 hW9 => ⟨rfl, ht9⟩) (fun _ h => by cases h) dX6_meets_53
              · refine lv_iconst (v := (-1)) hx hb dX6_meets_40 (by decide) ?_
                refine x_top (y := aMeets M (R 28) (R 29) x w) (by unfold aMeets; rw [if_neg c_1, if_neg c_8, if_neg c_16, if_neg (fun h => h.2 c_28), if_neg c_32, if_pos (Int32.not_le.mp c_37)]) ?_
                exact W.iret (v := aMeets M (R 28) (R 29) x w) hx hb hr (fun t9 ht9 hW9 => ⟨rfl, ht9⟩) (fun _ h => by cases h) dX6_meets_41

set_option maxHeartbeats 4000000 in
set_option maxRecDepth 100000 in
theorem c_X6_order (l : Launch) (G : mx_G) (ad : Nat → Nat) (F : Nat → Int32) (R : Nat → Nat → Int32) (n : Nat) (x : Int32) (hF : F 34 = nI n) (hn : n ≤ 12) : mx_RO l yX6_order wsX6_order 0 0 G [.ref (ad 0), .int x] (fun H => va_P G.1 vwCl (MW G ad F R) H) (.int (aRow n (R 35) x)) := by
  refine Met.ofW (cc := cX6_order) (maxL := 2) (ret := (some .int)) (by decide) rfl ?_
  intro p e s m args below meth c s₁ BB hml hv
  obtain ⟨rfl, hP, hK⟩ := hv
  have hx := BB.exec
  have hb := BB.bytes
  have hr := BB.returns
  have hts := atoms_spec (ws := wsX6_order) BB.pre
  have hown : s.vm.findClass RX6 = some m.cls := findClass_of_methodNamed BB.named
  have hlocks := BB.notSynchronized
  have hP : va_P G.1 vwCl (MW G ad F R) s.heap := hP
  have fl100 := hts (.fieldLink RX6 100 "MixDeskModel" "ordered" "[I") (by decide +kernel)
  have fl209 := hts (.fieldLink RX6 209 "MixDeskModel" "orders" "I") (by decide +kernel)
  have inX6 : ∀ w ∈ wsX60, w ∈ wsX6_order := by decide +kernel
  have hl := lv_entry ([.ref (ad 0), .int x]) (n := 2) (Nat.le_of_ble_eq_true rfl)
  rw [lg_entry_eq]
  generalize (lg_sl ([.ref (ad 0), .int x]) ++ List.replicate (2 - (lg_sl ([.ref (ad 0), .int x])).length) Slot.unset).toArray = ls at hl ⊢
  have hl : lv_has ls 2 [(0, .ref (ad 0)), (1, .int x)] := hl
  show mx_WR l wsX6_order 0 0 p e s m (([.ref (ad 0), .int x] : List Value).toArray) below meth c (.int (aRow n (R 35) x)) (F0 m 0 ls [])
  refine lv_iload_n hx hb dX6_order_0 rfl (lv_at hl 1 rfl) ?_
  refine lv_if_lt (tgt := 21) hx hb dX6_order_1 (by decide) (fun c_1 => ?_) (fun c_1 => ?_)
  · refine lv_iconst (v := (-1)) hx hb dX6_order_21 (by decide) ?_
    refine x_top (y := aRow n (R 35) x) (by unfold aRow; rw [if_pos c_1]) ?_
    exact W.iret (v := aRow n (R 35) x) hx hb hr (fun t9 ht9 hW9 => ⟨rfl, ht9⟩) (fun _ h => by cases h) dX6_order_22
  · refine lv_iload_n hx hb dX6_order_4 rfl (lv_at hl 1 rfl) ?_
    refine lv_aload_n hx hb dX6_order_5 rfl (lv_at hl 0 rfl) ?_
    refine va_get (D := G.1) (ci := 6) (v := .int (F 34)) (C := RX6) (T := TX6) (N := 36) hx hb hts inX6 hown hK.1 hP 0 rfl rfl 34 (by decide) fl209 (fun _ h9 => h9) rfl dX6_order_6 ?_
    refine x_top (y := nI n) (hF) ?_
    refine lv_icmp_ge (tgt := 21) hx hb dX6_order_9 (by decide) (fun c_9 => ?_) (fun c_9 => ?_)
    · refine lv_iconst (v := (-1)) hx hb dX6_order_21 (by decide) ?_
      refine x_top (y := aRow n (R 35) x) (by unfold aRow; rw [if_neg c_1, if_pos c_9]) ?_
      exact W.iret (v := aRow n (R 35) x) hx hb hr (fun t9 ht9 hW9 => ⟨rfl, ht9⟩) (fun _ h => by cases h) dX6_order_22
    · refine lv_aload_n hx hb dX6_order_12 rfl (lv_at hl 0 rfl) ?_
      refine va_get (D := G.1) (ci := 6) (v := .ref (ad 36)) (C := RX6) (T := TX6) (N := 36) hx hb hts inX6 hown hK.1 hP 0 rfl rfl 35 (by decide) fl100 (fun _ h9 => h9) rfl dX6_order_13 ?_
      refine lv_iload_n hx hb dX6_order_16 rfl (lv_at hl 1 rfl) ?_
      refine va_iald hx hb hK.1 hP 27 0 (n := 12) (f := R 35) rfl rfl (in_le hn (by omega) c_1 c_9) dX6_order_17 ?_
      refine lv_goto (tgt := 22) hx hb dX6_order_18 (by decide) ?_
      refine x_top (y := aRow n (R 35) x) (by unfold aRow; rw [if_neg c_1, if_neg c_9]) ?_
      exact W.iret (v := aRow n (R 35) x) hx hb hr (fun t9 ht9 hW9 => ⟨rfl, ht9⟩) (fun _ h => by cases h) dX6_order_22

set_option maxHeartbeats 4000000 in
set_option maxRecDepth 100000 in
theorem c_X6_found (l : Launch) (G : mx_G) (ad : Nat → Nat) (F : Nat → Int32) (R : Nat → Nat → Int32) (n : Nat) (x : Int32) (hF : F 16 = nI n) (hn : n ≤ 60) : mx_RO l yX6_found wsX6_found 0 0 G [.ref (ad 0), .int x] (fun H => va_P G.1 vwCl (MW G ad F R) H) (.int (aRow n (R 17) x)) := by
  refine Met.ofW (cc := cX6_found) (maxL := 2) (ret := (some .int)) (by decide) rfl ?_
  intro p e s m args below meth c s₁ BB hml hv
  obtain ⟨rfl, hP, hK⟩ := hv
  have hx := BB.exec
  have hb := BB.bytes
  have hr := BB.returns
  have hts := atoms_spec (ws := wsX6_found) BB.pre
  have hown : s.vm.findClass RX6 = some m.cls := findClass_of_methodNamed BB.named
  have hlocks := BB.notSynchronized
  have hP : va_P G.1 vwCl (MW G ad F R) s.heap := hP
  have fl151 := hts (.fieldLink RX6 151 "MixDeskModel" "founds" "I") (by decide +kernel)
  have fl56 := hts (.fieldLink RX6 56 "MixDeskModel" "foundOnes" "[I") (by decide +kernel)
  have inX6 : ∀ w ∈ wsX60, w ∈ wsX6_found := by decide +kernel
  have hl := lv_entry ([.ref (ad 0), .int x]) (n := 2) (Nat.le_of_ble_eq_true rfl)
  rw [lg_entry_eq]
  generalize (lg_sl ([.ref (ad 0), .int x]) ++ List.replicate (2 - (lg_sl ([.ref (ad 0), .int x])).length) Slot.unset).toArray = ls at hl ⊢
  have hl : lv_has ls 2 [(0, .ref (ad 0)), (1, .int x)] := hl
  show mx_WR l wsX6_found 0 0 p e s m (([.ref (ad 0), .int x] : List Value).toArray) below meth c (.int (aRow n (R 17) x)) (F0 m 0 ls [])
  refine lv_iload_n hx hb dX6_found_0 rfl (lv_at hl 1 rfl) ?_
  refine lv_if_lt (tgt := 21) hx hb dX6_found_1 (by decide) (fun c_1 => ?_) (fun c_1 => ?_)
  · refine lv_iconst (v := (-1)) hx hb dX6_found_21 (by decide) ?_
    refine x_top (y := aRow n (R 17) x) (by unfold aRow; rw [if_pos c_1]) ?_
    exact W.iret (v := aRow n (R 17) x) hx hb hr (fun t9 ht9 hW9 => ⟨rfl, ht9⟩) (fun _ h => by cases h) dX6_found_22
  · refine lv_iload_n hx hb dX6_found_4 rfl (lv_at hl 1 rfl) ?_
    refine lv_aload_n hx hb dX6_found_5 rfl (lv_at hl 0 rfl) ?_
    refine va_get (D := G.1) (ci := 6) (v := .int (F 16)) (C := RX6) (T := TX6) (N := 36) hx hb hts inX6 hown hK.1 hP 0 rfl rfl 16 (by decide) fl151 (fun _ h9 => h9) rfl dX6_found_6 ?_
    refine x_top (y := nI n) (hF) ?_
    refine lv_icmp_ge (tgt := 21) hx hb dX6_found_9 (by decide) (fun c_9 => ?_) (fun c_9 => ?_)
    · refine lv_iconst (v := (-1)) hx hb dX6_found_21 (by decide) ?_
      refine x_top (y := aRow n (R 17) x) (by unfold aRow; rw [if_neg c_1, if_pos c_9]) ?_
      exact W.iret (v := aRow n (R 17) x) hx hb hr (fun t9 ht9 hW9 => ⟨rfl, ht9⟩) (fun _ h => by cases h) dX6_found_22
    · refine lv_aload_n hx hb dX6_found_12 rfl (lv_at hl 0 rfl) ?_
      refine va_get (D := G.1) (ci := 6) (v := .ref (ad 18)) (C := RX6) (T := TX6) (N := 36) hx hb hts inX6 hown hK.1 hP 0 rfl rfl 17 (by decide) fl56 (fun _ h9 => h9) rfl dX6_found_13 ?_
      refine lv_iload_n hx hb dX6_found_16 rfl (lv_at hl 1 rfl) ?_
      refine va_iald hx hb hK.1 hP 16 0 (n := 60) (f := R 17) rfl rfl (in_le hn (by omega) c_1 c_9) dX6_found_17 ?_
      refine lv_goto (tgt := 22) hx hb dX6_found_18 (by decide) ?_
      refine x_top (y := aRow n (R 17) x) (by unfold aRow; rw [if_neg c_1, if_neg c_9]) ?_
      exact W.iret (v := aRow n (R 17) x) hx hb hr (fun t9 ht9 hW9 => ⟨rfl, ht9⟩) (fun _ h => by cases h) dX6_found_22

set_option maxHeartbeats 4000000 in
set_option maxRecDepth 100000 in
theorem c_X6_apart (l : Launch) (G : mx_G) (d gap miss : Nat) (hd : d ≤ 1000000) (hg0 : 10 ≤ gap) (hg : gap ≤ 1000) : mx_RO l yX6_apart wsX6_apart 1 20 G [.int (nI d), .int (nI gap), .int (nI miss)] (fun _ => True) (.int (gapV d gap miss)) := by
  refine Met.ofW (cc := cX6_apart) (maxL := 4) (ret := (some .int)) (by decide) rfl ?_
  intro p e s m args below meth c s₁ BB hml hv
  obtain ⟨rfl, -, hK⟩ := hv
  have hx := BB.exec
  have hb := BB.bytes
  have hr := BB.returns
  have hts := atoms_spec (ws := wsX6_apart) BB.pre
  have hown : s.vm.findClass RX6 = some m.cls := findClass_of_methodNamed BB.named
  have hlocks := BB.notSynchronized
  have hdg : d / gap * gap ≤ d := Nat.div_mul_le_self d gap
  have hdl : d / gap ≤ d := Nat.div_le_self d gap
  have hl := lv_entry ([.int (nI d), .int (nI gap), .int (nI miss)]) (n := 4) (Nat.le_of_ble_eq_true rfl)
  rw [lg_entry_eq]
  generalize (lg_sl ([.int (nI d), .int (nI gap), .int (nI miss)]) ++ List.replicate (4 - (lg_sl ([.int (nI d), .int (nI gap), .int (nI miss)])).length) Slot.unset).toArray = ls at hl ⊢
  have hl : lv_has ls 4 [(0, .int (nI d)), (1, .int (nI gap)), (2, .int (nI miss))] := hl
  show mx_WR l wsX6_apart 1 20 p e s m (([.int (nI d), .int (nI gap), .int (nI miss)] : List Value).toArray) below meth c (.int (gapV d gap miss)) (F0 m 0 ls [])
  refine lv_iload_n hx hb dX6_apart_0 rfl (lv_at hl 0 rfl) ?_
  refine lv_iload_n hx hb dX6_apart_1 rfl (lv_at hl 1 rfl) ?_
  refine x_idiv (r := d / gap) hx hb dX6_apart_2 (by omega) (by omega) (by omega) (rfl) ?_
  refine lv_istore_n (lv' := [(3, .int (nI (d / gap))), (0, .int (nI d)), (1, .int (nI gap)), (2, .int (nI miss))]) hx hb dX6_apart_3 rfl hl (by decide) rfl (fun ls hl => ?_)
  refine lv_iconst (v := nI 2) hx hb dX6_apart_4 (by decide) ?_
  refine lv_iload_n hx hb dX6_apart_5 rfl (lv_at hl 1 rfl) ?_
  refine lv_iload_n hx hb dX6_apart_6 rfl (lv_at hl 0 rfl) ?_
  refine lv_iload_n hx hb dX6_apart_7 rfl (lv_at hl 2 rfl) ?_
  refine x_imul (r := (d / gap) * gap) hx hb dX6_apart_8 (rfl) ?_
  refine x_isub (r := d - d / gap * gap) hx hb dX6_apart_9 (by omega) ?_
  refine x_imul (r := 2 * (d - d / gap * gap)) hx hb dX6_apart_10 (rfl) ?_
  refine lv_iload_n hx hb dX6_apart_11 rfl (lv_at hl 2 rfl) ?_
  refine x_icmp_le (tgt := 18) hx hb (by omega) (by omega) dX6_apart_12 (by decide) (fun c_12 => ?_) (fun c_12 => ?_)
  · refine lv_iload_n hx hb dX6_apart_18 rfl (lv_at hl 0 rfl) ?_
    refine lv_iconst (v := nI 1) hx hb dX6_apart_19 (by decide) ?_
    refine x_icmp_ge (tgt := 25) hx hb (by omega) (by omega) dX6_apart_20 (by decide) (fun c_20 => ?_) (fun c_20 => ?_)
    · refine lv_iload_n hx hb dX6_apart_25 rfl (lv_at hl 1 rfl) ?_
      refine lv_iload_n hx hb dX6_apart_26 rfl (lv_at hl 0 rfl) ?_
      refine lv_iload_n hx hb dX6_apart_27 rfl (lv_at hl 2 rfl) ?_
      refine x_imul (r := (d / gap) * gap) hx hb dX6_apart_28 (rfl) ?_
      refine lv_isub hx hb dX6_apart_29 ?_
      refine mx_callRO (v := .int (msize ((nI d) - (nI ((d / gap) * gap))))) (va_runS (As := [.int ((nI d) - (nI ((d / gap) * gap)))]) (rest := []) ⟨hx, hb, hml, hown, hts⟩ (c_X6_size l G ((nI d) - (nI ((d / gap) * gap)))) (va_cwS 1 hts gX6_apart_X6_size rfl rfl rfl (by decide +kernel) ⟨Nat.le_of_ble_eq_true rfl, Nat.le_of_ble_eq_true rfl⟩) (mx_preS hK trivial) rfl rfl hl.1 rfl (lv_room (Nat.le_of_ble_eq_true rfl)) dX6_apart_30 ⟨Nat.zero_le _, Nat.zero_le _⟩) ?_
      refine lv_iload_n hx hb dX6_apart_33 rfl (lv_at hl 0 rfl) ?_
      refine lv_iconst (v := nI 1) hx hb dX6_apart_34 (by decide) ?_
      refine x_isub (r := d / gap - 1) hx hb dX6_apart_35 (by omega) ?_
      refine lv_iload_n hx hb dX6_apart_36 rfl (lv_at hl 3 rfl) ?_
      refine x_imul (r := (d / gap - 1) * miss) hx hb dX6_apart_37 (rfl) ?_
      refine lv_iadd hx hb dX6_apart_38 ?_
      refine x_top (y := gapV d gap miss) (by have e0 : mq0 d gap = d / gap := if_pos c_12; have e1 : mq d gap = d / gap := (by unfold mq; rw [e0, if_pos c_20]); unfold gapV; rw [e1]) ?_
      exact W.iret (v := gapV d gap miss) hx hb hr (fun t9 ht9 hW9 => ⟨rfl, ht9⟩) (fun _ h => by cases h) dX6_apart_39
    · refine lv_iconst (v := nI 1) hx hb dX6_apart_23 (by decide) ?_
      refine lv_istore_n (lv' := [(3, .int (nI 1)), (0, .int (nI d)), (1, .int (nI gap)), (2, .int (nI miss))]) hx hb dX6_apart_24 rfl hl (by decide) rfl (fun ls hl => ?_)
      refine lv_iload_n hx hb dX6_apart_25 rfl (lv_at hl 1 rfl) ?_
      refine lv_iload_n hx hb dX6_apart_26 rfl (lv_at hl 0 rfl) ?_
      refine lv_iload_n hx hb dX6_apart_27 rfl (lv_at hl 2 rfl) ?_
      refine x_imul (r := 1 * gap) hx hb dX6_apart_28 (rfl) ?_
      refine lv_isub hx hb dX6_apart_29 ?_
      refine mx_callRO (v := .int (msize ((nI d) - (nI (1 * gap))))) (va_runS (As := [.int ((nI d) - (nI (1 * gap)))]) (rest := []) ⟨hx, hb, hml, hown, hts⟩ (c_X6_size l G ((nI d) - (nI (1 * gap)))) (va_cwS 1 hts gX6_apart_X6_size rfl rfl rfl (by decide +kernel) ⟨Nat.le_of_ble_eq_true rfl, Nat.le_of_ble_eq_true rfl⟩) (mx_preS hK trivial) rfl rfl hl.1 rfl (lv_room (Nat.le_of_ble_eq_true rfl)) dX6_apart_30 ⟨Nat.zero_le _, Nat.zero_le _⟩) ?_
      refine lv_iload_n hx hb dX6_apart_33 rfl (lv_at hl 0 rfl) ?_
      refine lv_iconst (v := nI 1) hx hb dX6_apart_34 (by decide) ?_
      refine x_isub (r := 0) hx hb dX6_apart_35 (by omega) ?_
      refine lv_iload_n hx hb dX6_apart_36 rfl (lv_at hl 3 rfl) ?_
      refine x_imul (r := 0 * miss) hx hb dX6_apart_37 (rfl) ?_
      refine lv_iadd hx hb dX6_apart_38 ?_
      refine x_top (y := gapV d gap miss) (by have e0 : mq0 d gap = d / gap := if_pos c_12; have e1 : mq d gap = 1 := (by unfold mq; rw [e0, if_neg c_20]); unfold gapV; rw [e1]) ?_
      exact W.iret (v := gapV d gap miss) hx hb hr (fun t9 ht9 hW9 => ⟨rfl, ht9⟩) (fun _ h => by cases h) dX6_apart_39
  · refine x_iinc (lv' := [(3, .int (nI (d / gap + 1))), (0, .int (nI d)), (1, .int (nI gap)), (2, .int (nI miss))]) hx hb dX6_apart_15 hl (k := 0) rfl (x_inc1 _) (by decide) rfl (fun ls hl => ?_)
    refine lv_iload_n hx hb dX6_apart_18 rfl (lv_at hl 0 rfl) ?_
    refine lv_iconst (v := nI 1) hx hb dX6_apart_19 (by decide) ?_
    refine x_icmp_ge (tgt := 25) hx hb (by omega) (by omega) dX6_apart_20 (by decide) (fun c_20 => ?_) (fun c_20 => ?_)
    · refine lv_iload_n hx hb dX6_apart_25 rfl (lv_at hl 1 rfl) ?_
      refine lv_iload_n hx hb dX6_apart_26 rfl (lv_at hl 0 rfl) ?_
      refine lv_iload_n hx hb dX6_apart_27 rfl (lv_at hl 2 rfl) ?_
      refine x_imul (r := (d / gap + 1) * gap) hx hb dX6_apart_28 (rfl) ?_
      refine lv_isub hx hb dX6_apart_29 ?_
      refine mx_callRO (v := .int (msize ((nI d) - (nI ((d / gap + 1) * gap))))) (va_runS (As := [.int ((nI d) - (nI ((d / gap + 1) * gap)))]) (rest := []) ⟨hx, hb, hml, hown, hts⟩ (c_X6_size l G ((nI d) - (nI ((d / gap + 1) * gap)))) (va_cwS 1 hts gX6_apart_X6_size rfl rfl rfl (by decide +kernel) ⟨Nat.le_of_ble_eq_true rfl, Nat.le_of_ble_eq_true rfl⟩) (mx_preS hK trivial) rfl rfl hl.1 rfl (lv_room (Nat.le_of_ble_eq_true rfl)) dX6_apart_30 ⟨Nat.zero_le _, Nat.zero_le _⟩) ?_
      refine lv_iload_n hx hb dX6_apart_33 rfl (lv_at hl 0 rfl) ?_
      refine lv_iconst (v := nI 1) hx hb dX6_apart_34 (by decide) ?_
      refine x_isub (r := d / gap + 1 - 1) hx hb dX6_apart_35 (by omega) ?_
      refine lv_iload_n hx hb dX6_apart_36 rfl (lv_at hl 3 rfl) ?_
      refine x_imul (r := (d / gap + 1 - 1) * miss) hx hb dX6_apart_37 (rfl) ?_
      refine lv_iadd hx hb dX6_apart_38 ?_
      refine x_top (y := gapV d gap miss) (by have e0 : mq0 d gap = d / gap + 1 := if_neg c_12; have e1 : mq d gap = d / gap + 1 := (by unfold mq; rw [e0, if_pos c_20]); unfold gapV; rw [e1]) ?_
      exact W.iret (v := gapV d gap miss) hx hb hr (fun t9 ht9 hW9 => ⟨rfl, ht9⟩) (fun _ h => by cases h) dX6_apart_39
    · refine lv_iconst (v := nI 1) hx hb dX6_apart_23 (by decide) ?_
      refine lv_istore_n (lv' := [(3, .int (nI 1)), (0, .int (nI d)), (1, .int (nI gap)), (2, .int (nI miss))]) hx hb dX6_apart_24 rfl hl (by decide) rfl (fun ls hl => ?_)
      refine lv_iload_n hx hb dX6_apart_25 rfl (lv_at hl 1 rfl) ?_
      refine lv_iload_n hx hb dX6_apart_26 rfl (lv_at hl 0 rfl) ?_
      refine lv_iload_n hx hb dX6_apart_27 rfl (lv_at hl 2 rfl) ?_
      refine x_imul (r := 1 * gap) hx hb dX6_apart_28 (rfl) ?_
      refine lv_isub hx hb dX6_apart_29 ?_
      refine mx_callRO (v := .int (msize ((nI d) - (nI (1 * gap))))) (va_runS (As := [.int ((nI d) - (nI (1 * gap)))]) (rest := []) ⟨hx, hb, hml, hown, hts⟩ (c_X6_size l G ((nI d) - (nI (1 * gap)))) (va_cwS 1 hts gX6_apart_X6_size rfl rfl rfl (by decide +kernel) ⟨Nat.le_of_ble_eq_true rfl, Nat.le_of_ble_eq_true rfl⟩) (mx_preS hK trivial) rfl rfl hl.1 rfl (lv_room (Nat.le_of_ble_eq_true rfl)) dX6_apart_30 ⟨Nat.zero_le _, Nat.zero_le _⟩) ?_
      refine lv_iload_n hx hb dX6_apart_33 rfl (lv_at hl 0 rfl) ?_
      refine lv_iconst (v := nI 1) hx hb dX6_apart_34 (by decide) ?_
      refine x_isub (r := 0) hx hb dX6_apart_35 (by omega) ?_
      refine lv_iload_n hx hb dX6_apart_36 rfl (lv_at hl 3 rfl) ?_
      refine x_imul (r := 0 * miss) hx hb dX6_apart_37 (rfl) ?_
      refine lv_iadd hx hb dX6_apart_38 ?_
      refine x_top (y := gapV d gap miss) (by have e0 : mq0 d gap = d / gap + 1 := if_neg c_12; have e1 : mq d gap = 1 := (by unfold mq; rw [e0, if_neg c_20]); unfold gapV; rw [e1]) ?_
      exact W.iret (v := gapV d gap miss) hx hb hr (fun t9 ht9 hW9 => ⟨rfl, ht9⟩) (fun _ h => by cases h) dX6_apart_39

set_option maxHeartbeats 4000000 in
set_option maxRecDepth 100000 in
theorem c_X6_mend (l : Launch) (G : mx_G) (ad : Nat → Nat) (F : Nat → Int32) (R : Nat → Nat → Int32) (x st : Int32) : mx_RO l yX6_mend wsX6_mend 1 20 G [.ref (ad 0), .int x, .int st] (fun H => va_P G.1 vwCl (MW G ad F R) H) (.int (aMend (F 18) x st)) := by
  refine Met.ofW (cc := cX6_mend) (maxL := 5) (ret := (some .int)) (by decide) rfl ?_
  intro p e s m args below meth c s₁ BB hml hv
  obtain ⟨rfl, hP, hK⟩ := hv
  have hx := BB.exec
  have hb := BB.bytes
  have hr := BB.returns
  have hts := atoms_spec (ws := wsX6_mend) BB.pre
  have hown : s.vm.findClass RX6 = some m.cls := findClass_of_methodNamed BB.named
  have hlocks := BB.notSynchronized
  have hP : va_P G.1 vwCl (MW G ad F R) s.heap := hP
  have fl59 := hts (.fieldLink RX6 59 "MixDeskModel" "bound" "I") (by decide +kernel)
  have inX6 : ∀ w ∈ wsX60, w ∈ wsX6_mend := by decide +kernel
  have ck212 := hts (.constant RX6 212 (-100000)) (by decide +kernel)
  have ck213 := hts (.constant RX6 213 (100000)) (by decide +kernel)
  have hl := lv_entry ([.ref (ad 0), .int x, .int st]) (n := 5) (Nat.le_of_ble_eq_true rfl)
  rw [lg_entry_eq]
  generalize (lg_sl ([.ref (ad 0), .int x, .int st]) ++ List.replicate (5 - (lg_sl ([.ref (ad 0), .int x, .int st])).length) Slot.unset).toArray = ls at hl ⊢
  have hl : lv_has ls 5 [(0, .ref (ad 0)), (1, .int x), (2, .int st)] := hl
  show mx_WR l wsX6_mend 1 20 p e s m (([.ref (ad 0), .int x, .int st] : List Value).toArray) below meth c (.int (aMend (F 18) x st)) (F0 m 0 ls [])
  refine lv_iload_n hx hb dX6_mend_0 rfl (lv_at hl 1 rfl) ?_
  refine lv_ldc hx hb hown ck212 dX6_mend_1 ?_
  refine lv_icmp_lt (tgt := 25) hx hb dX6_mend_3 (by decide) (fun c_3 => ?_) (fun c_3 => ?_)
  · refine lv_iconst (v := (-1)) hx hb dX6_mend_25 (by decide) ?_
    refine x_top (y := aMend (F 18) x st) (by unfold aMend; rw [if_pos c_3]) ?_
    exact W.iret (v := aMend (F 18) x st) hx hb hr (fun t9 ht9 hW9 => ⟨rfl, ht9⟩) (fun _ h => by cases h) dX6_mend_26
  · refine lv_iload_n hx hb dX6_mend_6 rfl (lv_at hl 1 rfl) ?_
    refine lv_ldc hx hb hown ck213 dX6_mend_7 ?_
    refine x_top (y := nI 100000) (by decide) ?_
    refine lv_icmp_gt (tgt := 25) hx hb dX6_mend_9 (by decide) (fun c_9 => ?_) (fun c_9 => ?_)
    · refine lv_iconst (v := (-1)) hx hb dX6_mend_25 (by decide) ?_
      refine x_top (y := aMend (F 18) x st) (by unfold aMend; rw [if_neg c_3, if_pos c_9]) ?_
      exact W.iret (v := aMend (F 18) x st) hx hb hr (fun t9 ht9 hW9 => ⟨rfl, ht9⟩) (fun _ h => by cases h) dX6_mend_26
    · refine lv_iload_n hx hb dX6_mend_12 rfl (lv_at hl 2 rfl) ?_
      refine lv_bipush (v := nI 20) hx hb dX6_mend_13 (by decide) ?_
      refine lv_icmp_lt (tgt := 25) hx hb dX6_mend_15 (by decide) (fun c_15 => ?_) (fun c_15 => ?_)
      · refine lv_iconst (v := (-1)) hx hb dX6_mend_25 (by decide) ?_
        refine x_top (y := aMend (F 18) x st) (by unfold aMend; rw [if_neg c_3, if_neg c_9, if_pos c_15]) ?_
        exact W.iret (v := aMend (F 18) x st) hx hb hr (fun t9 ht9 hW9 => ⟨rfl, ht9⟩) (fun _ h => by cases h) dX6_mend_26
      · refine lv_iload_n hx hb dX6_mend_18 rfl (lv_at hl 2 rfl) ?_
        refine lv_sipush (v := nI 400) hx hb dX6_mend_19 (by decide) ?_
        refine lv_icmp_le (tgt := 27) hx hb dX6_mend_22 (by decide) (fun c_22 => ?_) (fun c_22 => ?_)
        · refine lv_iload_n hx hb dX6_mend_27 rfl (lv_at hl 2 rfl) ?_
          refine lv_aload_n hx hb dX6_mend_28 rfl (lv_at hl 0 rfl) ?_
          refine va_get (D := G.1) (ci := 6) (v := .int (F 18)) (C := RX6) (T := TX6) (N := 36) hx hb hts inX6 hown hK.1 hP 0 rfl rfl 18 (by decide) fl59 (fun _ h9 => h9) rfl dX6_mend_29 ?_
          refine lv_imul hx hb dX6_mend_32 ?_
          refine lv_sipush (v := nI 1000) hx hb dX6_mend_33 (by decide) ?_
          refine lv_idiv hx hb dX6_mend_36 (by decide) ?_
          refine lv_istore_n (lv' := [(3, .int ((st * (F 18)) / (nI 1000))), (0, .ref (ad 0)), (1, .int x), (2, .int st)]) hx hb dX6_mend_37 rfl hl (by decide) rfl (fun ls hl => ?_)
          refine lv_iload_n hx hb dX6_mend_38 rfl (lv_at hl 2 rfl) ?_
          refine lv_if_ne (tgt := 44) hx hb dX6_mend_39 (by decide) (fun c_39 => ?_) (fun c_39 => ?_)
          · refine lv_iload_n hx hb dX6_mend_44 rfl (lv_at hl 0 rfl) ?_
            refine lv_if_ne (tgt := 50) hx hb dX6_mend_45 (by decide) (fun c_45 => ?_) (fun c_45 => ?_)
            · refine lv_iload_n hx hb dX6_mend_50 rfl (lv_at hl 2 rfl) ?_
              refine mx_callRO (v := .int (msize x)) (va_runS (As := [.int x]) (rest := []) ⟨hx, hb, hml, hown, hts⟩ (c_X6_size l G x) (va_cwS 1 hts gX6_mend_X6_size rfl rfl rfl (by decide +kernel) ⟨Nat.le_of_ble_eq_true rfl, Nat.le_of_ble_eq_true rfl⟩) (mx_preS hK trivial) rfl rfl hl.1 rfl (lv_room (Nat.le_of_ble_eq_true rfl)) dX6_mend_51 ⟨Nat.zero_le _, Nat.zero_le _⟩) ?_
              refine lv_iload_n hx hb dX6_mend_54 rfl (lv_at hl 0 rfl) ?_
              refine lv_iadd hx hb dX6_mend_55 ?_
              refine lv_iconst (v := nI 1) hx hb dX6_mend_56 (by decide) ?_
              refine lv_isub hx hb dX6_mend_57 ?_
              refine lv_iload_n hx hb dX6_mend_58 rfl (lv_at hl 0 rfl) ?_
              refine lv_idiv hx hb dX6_mend_59 (c_45) ?_
              refine lv_istore (lv' := [(4, .int ((((msize x) + ((st * (F 18)) / (nI 1000))) - (nI 1)) / ((st * (F 18)) / (nI 1000)))), (3, .int ((st * (F 18)) / (nI 1000))), (0, .ref (ad 0)), (1, .int x), (2, .int st)]) hx hb dX6_mend_60 hl (by decide) rfl (fun ls hl => ?_)
              refine lv_iload hx hb dX6_mend_62 (lv_at hl 0 rfl) ?_
              refine lv_iconst (v := nI 3) hx hb dX6_mend_64 (by decide) ?_
              refine lv_iadd hx hb dX6_mend_65 ?_
              refine lv_iconst (v := nI 4) hx hb dX6_mend_66 (by decide) ?_
              refine lv_idiv hx hb dX6_mend_67 (by decide) ?_
              refine x_top (y := aMend (F 18) x st) (by unfold aMend; rw [if_neg c_3, if_neg c_9, if_neg c_15, if_neg (Int32.not_lt.mpr c_22), if_neg c_39, if_neg (show ¬ mby _ _ = 0 from c_45)]; rfl) ?_
              exact W.iret (v := aMend (F 18) x st) hx hb hr (fun t9 ht9 hW9 => ⟨rfl, ht9⟩) (fun _ h => by cases h) dX6_mend_68
            · refine lv_iconst (v := (-1)) hx hb dX6_mend_48 (by decide) ?_
              refine x_top (y := aMend (F 18) x st) (by unfold aMend; rw [if_neg c_3, if_neg c_9, if_neg c_15, if_neg (Int32.not_lt.mpr c_22), if_neg c_39, if_pos (show mby _ _ = 0 from c_45)]) ?_
              exact W.iret (v := aMend (F 18) x st) hx hb hr (fun t9 ht9 hW9 => ⟨rfl, ht9⟩) (fun _ h => by cases h) dX6_mend_49
          · refine lv_iconst (v := nI 0) hx hb dX6_mend_42 (by decide) ?_
            refine x_top (y := aMend (F 18) x st) (by unfold aMend; rw [if_neg c_3, if_neg c_9, if_neg c_15, if_neg (Int32.not_lt.mpr c_22), if_pos c_39]) ?_
            exact W.iret (v := aMend (F 18) x st) hx hb hr (fun t9 ht9 hW9 => ⟨rfl, ht9⟩) (fun _ h => by cases h) dX6_mend_43
        · refine lv_iconst (v := (-1)) hx hb dX6_mend_25 (by decide) ?_
          refine x_top (y := aMend (F 18) x st) (by unfold aMend; rw [if_neg c_3, if_neg c_9, if_neg c_15, if_pos (Int32.not_le.mp c_22)]) ?_
          exact W.iret (v := aMend (F 18) x st) hx hb hr (fun t9 ht9 hW9 => ⟨rfl, ht9⟩) (fun _ h => by cases h) dX6_mend_26

set_option maxHeartbeats 4000000 in
set_option maxRecDepth 100000 in
theorem c_X6_isBound (l : Launch) (G : mx_G) (ad : Nat → Nat) (F : Nat → Int32) (R : Nat → Nat → Int32) (j : Nat) (first : Int32) (hs : j < 12) : mx_RO l yX6_isBound wsX6_isBound 0 0 G [.ref (ad 0), .int (nI j), .int first] (fun H => va_P G.1 vwCl (MW G ad F R) H) (.int (boundV (R 12) j first)) := by
  refine Met.ofW (cc := cX6_isBound) (maxL := 4) (ret := (some .boolean)) (by decide) rfl ?_
  intro p e s m args below meth c s₁ BB hml hv
  obtain ⟨rfl, hP, hK⟩ := hv
  have hx := BB.exec
  have hb := BB.bytes
  have hr := BB.returns
  have hts := atoms_spec (ws := wsX6_isBound) BB.pre
  have hown : s.vm.findClass RX6 = some m.cls := findClass_of_methodNamed BB.named
  have hlocks := BB.notSynchronized
  have hP : va_P G.1 vwCl (MW G ad F R) s.heap := hP
  have fl47 := hts (.fieldLink RX6 47 "MixDeskModel" "musts" "[I") (by decide +kernel)
  have inX6 : ∀ w ∈ wsX60, w ∈ wsX6_isBound := by decide +kernel
  have hl := lv_entry ([.ref (ad 0), .int (nI j), .int first]) (n := 4) (Nat.le_of_ble_eq_true rfl)
  rw [lg_entry_eq]
  generalize (lg_sl ([.ref (ad 0), .int (nI j), .int first]) ++ List.replicate (4 - (lg_sl ([.ref (ad 0), .int (nI j), .int first])).length) Slot.unset).toArray = ls at hl ⊢
  have hl : lv_has ls 4 [(0, .ref (ad 0)), (1, .int (nI j)), (2, .int first)] := hl
  show mx_WR l wsX6_isBound 0 0 p e s m (([.ref (ad 0), .int (nI j), .int first] : List Value).toArray) below meth c (.int (boundV (R 12) j first)) (F0 m 0 ls [])
  refine lv_iconst (v := nI 0) hx hb dX6_isBound_0 (by decide) ?_
  refine lv_istore_n (lv' := [(3, .int (nI 0)), (0, .ref (ad 0)), (1, .int (nI j)), (2, .int first)]) hx hb dX6_isBound_1 rfl hl (by decide) rfl (fun ls hl => ?_)
  have lp2 : ∀ (nn : Nat) (i : Nat), 12 - i < nn → (i ≤ 12) → (∀ k, k < i → ¬ R 12 (bIx j first k) = nI 1) → ∀ ls : Array Slot, lv_has ls 4 [(0, .ref (ad 0)), (1, .int (nI j)), (2, .int first), (3, .int (nI i))] → mx_WR l wsX6_isBound 0 0 p e s m (([.ref (ad 0), .int (nI j), .int first] : List Value).toArray) below meth c (.int (boundV (R 12) j first)) (F0 m 2 ls []) := by
    intro nn
    induction nn with
    | zero => intro i hmu; exact absurd hmu (Nat.not_lt_zero _)
    | succ nn ih2 =>
      intro i hmu hi hno ls hl
      refine lv_iload_n hx hb dX6_isBound_2 rfl (lv_at hl 3 rfl) ?_
      refine lv_bipush (v := nI 12) hx hb dX6_isBound_3 (by decide) ?_
      refine x_icmp_ge (tgt := 44) hx hb (by omega) (by omega) dX6_isBound_5 (by decide) (fun c_5 => ?_) (fun c_5 => ?_)
      · refine lv_iconst (v := nI 0) hx hb dX6_isBound_44 (by decide) ?_
        refine x_top (y := boundV (R 12) j first) (by unfold boundV boundN; rw [if_pos (fun k hk => hno k (by omega))]) ?_
        exact W.zret (v := boundV (R 12) j first) hx hb hr (boundV_n) (fun t9 ht9 hW9 => ⟨rfl, ht9⟩) (fun _ h => by cases h) dX6_isBound_45
      · refine lv_aload_n hx hb dX6_isBound_8 rfl (lv_at hl 0 rfl) ?_
        refine va_get (D := G.1) (ci := 6) (v := .ref (ad 13)) (C := RX6) (T := TX6) (N := 36) hx hb hts inX6 hown hK.1 hP 0 rfl rfl 12 (by decide) fl47 (fun _ h9 => h9) rfl dX6_isBound_9 ?_
        refine lv_iload_n hx hb dX6_isBound_12 rfl (lv_at hl 2 rfl) ?_
        refine lv_if_eq (tgt := 25) hx hb dX6_isBound_13 (by decide) (fun c_13 => ?_) (fun c_13 => ?_)
        · refine lv_bipush (v := nI 12) hx hb dX6_isBound_25 (by decide) ?_
          refine lv_iload_n hx hb dX6_isBound_27 rfl (lv_at hl 1 rfl) ?_
          refine x_imul (r := 12 * j) hx hb dX6_isBound_28 (rfl) ?_
          refine lv_iload_n hx hb dX6_isBound_29 rfl (lv_at hl 3 rfl) ?_
          refine x_iadd (r := 12 * j + i) hx hb dX6_isBound_30 (rfl) ?_
          refine x_iald hx hb hK.1 hP 13 0 (n := 144) (f := R 12) rfl rfl (k := 12 * j + i) (by omega) (by omega) dX6_isBound_31 ?_
          refine x_top (y := R 12 (bIx j first i)) (by unfold bIx; rw [if_pos c_13]) ?_
          refine lv_iconst (v := nI 1) hx hb dX6_isBound_32 (by decide) ?_
          refine lv_icmp_ne (tgt := 38) hx hb dX6_isBound_33 (by decide) (fun c_33 => ?_) (fun c_33 => ?_)
          · refine x_iinc (lv' := [(3, .int (nI (i + 1))), (0, .ref (ad 0)), (1, .int (nI j)), (2, .int first)]) hx hb dX6_isBound_38 hl (k := 3) rfl (x_inc1 _) (by decide) rfl (fun ls hl => ?_)
            refine lv_goto (tgt := 2) hx hb dX6_isBound_41 (by decide) ?_
            exact ih2 (i + 1) (by omega) (by omega) (lt_s hno c_33) _ (lv_sub hl [1, 2, 3, 0] rfl)
          · refine lv_iconst (v := nI 1) hx hb dX6_isBound_36 (by decide) ?_
            refine x_top (y := boundV (R 12) j first) (by unfold boundV boundN; rw [if_neg (fun h => h i (by omega) c_33)]) ?_
            exact W.zret (v := boundV (R 12) j first) hx hb hr (boundV_n) (fun t9 ht9 hW9 => ⟨rfl, ht9⟩) (fun _ h => by cases h) dX6_isBound_37
        · refine lv_bipush (v := nI 12) hx hb dX6_isBound_16 (by decide) ?_
          refine lv_iload_n hx hb dX6_isBound_18 rfl (lv_at hl 3 rfl) ?_
          refine x_imul (r := 12 * i) hx hb dX6_isBound_19 (rfl) ?_
          refine lv_iload_n hx hb dX6_isBound_20 rfl (lv_at hl 1 rfl) ?_
          refine x_iadd (r := 12 * i + j) hx hb dX6_isBound_21 (rfl) ?_
          refine lv_goto (tgt := 31) hx hb dX6_isBound_22 (by decide) ?_
          refine x_iald hx hb hK.1 hP 13 0 (n := 144) (f := R 12) rfl rfl (k := 12 * i + j) (by omega) (by omega) dX6_isBound_31 ?_
          refine x_top (y := R 12 (bIx j first i)) (by unfold bIx; rw [if_neg c_13]) ?_
          refine lv_iconst (v := nI 1) hx hb dX6_isBound_32 (by decide) ?_
          refine lv_icmp_ne (tgt := 38) hx hb dX6_isBound_33 (by decide) (fun c_33 => ?_) (fun c_33 => ?_)
          · refine x_iinc (lv' := [(3, .int (nI (i + 1))), (0, .ref (ad 0)), (1, .int (nI j)), (2, .int first)]) hx hb dX6_isBound_38 hl (k := 3) rfl (x_inc1 _) (by decide) rfl (fun ls hl => ?_)
            refine lv_goto (tgt := 2) hx hb dX6_isBound_41 (by decide) ?_
            exact ih2 (i + 1) (by omega) (by omega) (lt_s hno c_33) _ (lv_sub hl [1, 2, 3, 0] rfl)
          · refine lv_iconst (v := nI 1) hx hb dX6_isBound_36 (by decide) ?_
            refine x_top (y := boundV (R 12) j first) (by unfold boundV boundN; rw [if_neg (fun h => h i (by omega) c_33)]) ?_
            exact W.zret (v := boundV (R 12) j first) hx hb hr (boundV_n) (fun t9 ht9 hW9 => ⟨rfl, ht9⟩) (fun _ h => by cases h) dX6_isBound_37
  exact lp2 (12 - 0 + 1) 0 (Nat.lt_succ_self _) (by omega) (lt_0) _ (lv_sub hl [1, 2, 3, 0] rfl)
