set_option maxHeartbeats 4000000 in
set_option maxRecDepth 100000 in
theorem c_X2_costOver (l : Launch) (G : mx_G) (an : Nat → Nat) (FN : Nat → Int32) (RN : Nat → Nat → Int32) (SR : Nat → Option Nat) (ra rl : Nat) (cnt : Nat) (q z j : Nat) (hF : FN 1 = nI cnt) (hc12 : cnt ≤ 12) (hrl : 2 ^ cnt * cnt ≤ rl) (hrl2 : rl < 2 ^ 27) (hq : q < 2 ^ cnt) (hz : z < cnt) (hj : j < cnt) : mx_RO l yX2_costOver wsX2_costOver 0 0 G [.ref (an 0), .int (nI q), .int (nI z), .int (nI j)] (fun H => va_P G.1 vwCl (NW G an FN RN SR ra rl) H) (.int (cO (eN (RN 2)) (wN cnt (RN 4)) q z j)) := by
  refine Met.ofW (cc := cX2_costOver) (maxL := 5) (ret := (some .int)) (by decide) rfl ?_
  intro p e s m args below meth c s₁ BB hml hv
  obtain ⟨rfl, hP, hK⟩ := hv
  have hx := BB.exec
  have hb := BB.bytes
  have hr := BB.returns
  have hts := atoms_spec (ws := wsX2_costOver) BB.pre
  have hown : s.vm.findClass RX2 = some m.cls := findClass_of_methodNamed BB.named
  have hlocks := BB.notSynchronized
  have hP : va_P G.1 vwCl (NW G an FN RN SR ra rl) s.heap := hP
  have hpw := pow_le hc12
  have hpc := pow_cnt hc12
  have hor := or_lt hq hj
  have hix := ix_lt hor hj hrl
  have fl17 := hts (.fieldLink RX2 17 "MixDesk$Nights" "count" "I") (by decide +kernel)
  have fl21 := hts (.fieldLink RX2 21 "MixDesk$Nights" "step" "[I") (by decide +kernel)
  have fl29 := hts (.fieldLink RX2 29 "MixDesk$Nights" "rest" "[I") (by decide +kernel)
  have inX2 : ∀ w ∈ wsX20, w ∈ wsX2_costOver := by decide +kernel
  have ck32 := hts (.constant RX2 32 (1073741824)) (by decide +kernel)
  have hl := lv_entry ([.ref (an 0), .int (nI q), .int (nI z), .int (nI j)]) (n := 5) (Nat.le_of_ble_eq_true rfl)
  rw [lg_entry_eq]
  generalize (lg_sl ([.ref (an 0), .int (nI q), .int (nI z), .int (nI j)]) ++ List.replicate (5 - (lg_sl ([.ref (an 0), .int (nI q), .int (nI z), .int (nI j)])).length) Slot.unset).toArray = ls at hl ⊢
  have hl : lv_has ls 5 [(0, .ref (an 0)), (1, .int (nI q)), (2, .int (nI z)), (3, .int (nI j))] := hl
  show mx_WR l wsX2_costOver 0 0 p e s m (([.ref (an 0), .int (nI q), .int (nI z), .int (nI j)] : List Value).toArray) below meth c (.int (cO (eN (RN 2)) (wN cnt (RN 4)) q z j)) (F0 m 0 ls [])
  refine lv_aload_n hx hb dX2_costOver_0 rfl (lv_at hl 0 rfl) ?_
  refine va_get (D := G.1) (ci := 2) (v := .ref ra) (C := RX2) (T := TX2) (N := 8) hx hb hts inX2 hown hK.1 hP 0 rfl rfl 4 (by decide) fl29 (fun _ h9 => h9) rfl dX2_costOver_1 ?_
  refine lv_iload_n hx hb dX2_costOver_4 rfl (lv_at hl 1 rfl) ?_
  refine lv_iconst (v := nI 1) hx hb dX2_costOver_5 (by decide) ?_
  refine lv_iload_n hx hb dX2_costOver_6 rfl (lv_at hl 3 rfl) ?_
  refine lv_ishl hx hb dX2_costOver_7 ?_
  refine x_top (y := nI (2 ^ j)) (zz_pow (by omega)) ?_
  refine lv_ior hx hb dX2_costOver_8 ?_
  refine x_top (y := nI (q ||| 2 ^ j)) (zz_or _ _) ?_
  refine lv_aload_n hx hb dX2_costOver_9 rfl (lv_at hl 0 rfl) ?_
  refine va_get (D := G.1) (ci := 2) (v := .int (FN 1)) (C := RX2) (T := TX2) (N := 8) hx hb hts inX2 hown hK.1 hP 0 rfl rfl 1 (by decide) fl17 (fun _ h9 => h9) rfl dX2_costOver_10 ?_
  refine x_top (y := nI cnt) (hF) ?_
  refine x_imul (r := (q ||| 2 ^ j) * cnt) hx hb dX2_costOver_13 (rfl) ?_
  refine lv_iload_n hx hb dX2_costOver_14 rfl (lv_at hl 3 rfl) ?_
  refine x_iadd (r := (q ||| 2 ^ j) * cnt + j) hx hb dX2_costOver_15 (rfl) ?_
  refine x_iald hx hb hK.1 hP 4 0 (n := rl) (f := RN 4) rfl rfl (k := (q ||| 2 ^ j) * cnt + j) (by omega) (by omega) dX2_costOver_16 ?_
  refine lv_istore (lv' := [(4, .int (RN 4 ((q ||| 2 ^ j) * cnt + j))), (0, .ref (an 0)), (1, .int (nI q)), (2, .int (nI z)), (3, .int (nI j))]) hx hb dX2_costOver_17 hl (by decide) rfl (fun ls hl => ?_)
  refine lv_iload hx hb dX2_costOver_19 (lv_at hl 0 rfl) ?_
  refine lv_ldc hx hb hown ck32 dX2_costOver_21 ?_
  refine x_top (y := nI 1073741824) (by decide) ?_
  refine lv_icmp_ne (tgt := 31) hx hb dX2_costOver_23 (by decide) (fun c_23 => ?_) (fun c_23 => ?_)
  · refine lv_aload_n hx hb dX2_costOver_31 rfl (lv_at hl 1 rfl) ?_
    refine va_get (D := G.1) (ci := 2) (v := .ref (an 3)) (C := RX2) (T := TX2) (N := 8) hx hb hts inX2 hown hK.1 hP 0 rfl rfl 2 (by decide) fl21 (fun _ h9 => h9) rfl dX2_costOver_32 ?_
    refine lv_iload_n hx hb dX2_costOver_35 rfl (lv_at hl 3 rfl) ?_
    refine lv_bipush (v := nI 12) hx hb dX2_costOver_36 (by decide) ?_
    refine x_imul (r := z * 12) hx hb dX2_costOver_38 (rfl) ?_
    refine lv_iload_n hx hb dX2_costOver_39 rfl (lv_at hl 4 rfl) ?_
    refine x_iadd (r := z * 12 + j) hx hb dX2_costOver_40 (rfl) ?_
    refine x_iald hx hb hK.1 hP 2 0 (n := 144) (f := RN 2) rfl rfl (k := z * 12 + j) (by omega) (by omega) dX2_costOver_41 ?_
    refine lv_iload hx hb dX2_costOver_42 (lv_at hl 0 rfl) ?_
    refine lv_iadd hx hb dX2_costOver_44 ?_
    refine x_top (y := cO (eN (RN 2)) (wN cnt (RN 4)) q z j) ((if_neg c_23).symm) ?_
    exact W.iret (v := cO (eN (RN 2)) (wN cnt (RN 4)) q z j) hx hb hr (fun t9 ht9 hW9 => ⟨rfl, ht9⟩) (fun _ h => by cases h) dX2_costOver_45
  · refine lv_ldc hx hb hown ck32 dX2_costOver_26 ?_
    refine x_top (y := nI 1073741824) (by decide) ?_
    refine lv_goto (tgt := 45) hx hb dX2_costOver_28 (by decide) ?_
    refine x_top (y := cO (eN (RN 2)) (wN cnt (RN 4)) q z j) ((if_pos c_23).symm) ?_
    exact W.iret (v := cO (eN (RN 2)) (wN cnt (RN 4)) q z j) hx hb hr (fun t9 ht9 hW9 => ⟨rfl, ht9⟩) (fun _ h => by cases h) dX2_costOver_45

set_option maxHeartbeats 4000000 in
set_option maxRecDepth 100000 in
theorem c_X2_leastNext (l : Launch) (G : mx_G) (an : Nat → Nat) (FN : Nat → Int32) (RN : Nat → Nat → Int32) (SR : Nat → Option Nat) (ra rl : Nat) (cnt : Nat) (q z : Nat) (hF : FN 1 = nI cnt) (hc12 : cnt ≤ 12) (hrl : 2 ^ cnt * cnt ≤ rl) (hrl2 : rl < 2 ^ 27) (hq : q < 2 ^ cnt) (hz : z < cnt) : mx_RO l yX2_leastNext wsX2_leastNext 1 24 G [.ref (an 0), .int (nI q), .int (nI z)] (fun H => va_P G.1 vwCl (NW G an FN RN SR ra rl) H) (.int ((nLn (eN (RN 2)) (wN cnt (RN 4)) q z cnt).2)) := by
  refine Met.ofW (cc := cX2_leastNext) (maxL := 7) (ret := (some .int)) (by decide) rfl ?_
  intro p e s m args below meth c s₁ BB hml hv
  obtain ⟨rfl, hP, hK⟩ := hv
  have hx := BB.exec
  have hb := BB.bytes
  have hr := BB.returns
  have hts := atoms_spec (ws := wsX2_leastNext) BB.pre
  have hown : s.vm.findClass RX2 = some m.cls := findClass_of_methodNamed BB.named
  have hlocks := BB.notSynchronized
  have hP : va_P G.1 vwCl (NW G an FN RN SR ra rl) s.heap := hP
  have hpw := pow_le hc12
  have hpc := pow_cnt hc12
  have fl17 := hts (.fieldLink RX2 17 "MixDesk$Nights" "count" "I") (by decide +kernel)
  have fl21 := hts (.fieldLink RX2 21 "MixDesk$Nights" "step" "[I") (by decide +kernel)
  have inX2 : ∀ w ∈ wsX20, w ∈ wsX2_leastNext := by decide +kernel
  have ck32 := hts (.constant RX2 32 (1073741824)) (by decide +kernel)
  have hl := lv_entry ([.ref (an 0), .int (nI q), .int (nI z)]) (n := 7) (Nat.le_of_ble_eq_true rfl)
  rw [lg_entry_eq]
  generalize (lg_sl ([.ref (an 0), .int (nI q), .int (nI z)]) ++ List.replicate (7 - (lg_sl ([.ref (an 0), .int (nI q), .int (nI z)])).length) Slot.unset).toArray = ls at hl ⊢
  have hl : lv_has ls 7 [(0, .ref (an 0)), (1, .int (nI q)), (2, .int (nI z))] := hl
  show mx_WR l wsX2_leastNext 1 24 p e s m (([.ref (an 0), .int (nI q), .int (nI z)] : List Value).toArray) below meth c (.int ((nLn (eN (RN 2)) (wN cnt (RN 4)) q z cnt).2)) (F0 m 0 ls [])
  refine lv_iconst (v := (-1)) hx hb dX2_leastNext_0 (by decide) ?_
  refine lv_istore_n (lv' := [(3, .int (-1)), (0, .ref (an 0)), (1, .int (nI q)), (2, .int (nI z))]) hx hb dX2_leastNext_1 rfl hl (by decide) rfl (fun ls hl => ?_)
  refine lv_ldc hx hb hown ck32 dX2_leastNext_2 ?_
  refine x_top (y := nI 1073741824) (by decide) ?_
  refine lv_istore (lv' := [(4, .int (nI 1073741824)), (3, .int (-1)), (0, .ref (an 0)), (1, .int (nI q)), (2, .int (nI z))]) hx hb dX2_leastNext_4 hl (by decide) rfl (fun ls hl => ?_)
  have hl : lv_has ls 7 [(4, .int (nI 1073741824)), (3, .int ((nLn (eN (RN 2)) (wN cnt (RN 4)) q z 0).2)), (0, .ref (an 0)), (1, .int (nI q)), (2, .int (nI z))] := Eq.mp (congrArg (fun z9 : Int32 => lv_has ls 7 [(4, .int (nI 1073741824)), (3, .int z9), (0, .ref (an 0)), (1, .int (nI q)), (2, .int (nI z))]) (show (-1) = (nLn (eN (RN 2)) (wN cnt (RN 4)) q z 0).2 from rfl)) hl
  have hl : lv_has ls 7 [(4, .int ((nLn (eN (RN 2)) (wN cnt (RN 4)) q z 0).1)), (3, .int ((nLn (eN (RN 2)) (wN cnt (RN 4)) q z 0).2)), (0, .ref (an 0)), (1, .int (nI q)), (2, .int (nI z))] := Eq.mp (congrArg (fun z9 : Int32 => lv_has ls 7 [(4, .int z9), (3, .int ((nLn (eN (RN 2)) (wN cnt (RN 4)) q z 0).2)), (0, .ref (an 0)), (1, .int (nI q)), (2, .int (nI z))]) (show nI 1073741824 = (nLn (eN (RN 2)) (wN cnt (RN 4)) q z 0).1 from rfl)) hl
  refine lv_iconst (v := nI 0) hx hb dX2_leastNext_6 (by decide) ?_
  refine lv_istore (lv' := [(5, .int (nI 0)), (4, .int ((nLn (eN (RN 2)) (wN cnt (RN 4)) q z 0).1)), (3, .int ((nLn (eN (RN 2)) (wN cnt (RN 4)) q z 0).2)), (0, .ref (an 0)), (1, .int (nI q)), (2, .int (nI z))]) hx hb dX2_leastNext_7 hl (by decide) rfl (fun ls hl => ?_)
  have lp9 : ∀ (nn : Nat) (j : Nat), cnt - j < nn → (j ≤ cnt) → ∀ ls : Array Slot, lv_has ls 7 [(0, .ref (an 0)), (1, .int (nI q)), (2, .int (nI z)), (3, .int ((nLn (eN (RN 2)) (wN cnt (RN 4)) q z j).2)), (4, .int ((nLn (eN (RN 2)) (wN cnt (RN 4)) q z j).1)), (5, .int (nI j))] → mx_WR l wsX2_leastNext 1 24 p e s m (([.ref (an 0), .int (nI q), .int (nI z)] : List Value).toArray) below meth c (.int ((nLn (eN (RN 2)) (wN cnt (RN 4)) q z cnt).2)) (F0 m 9 ls []) := by
    intro nn
    induction nn with
    | zero => intro j hmu; exact absurd hmu (Nat.not_lt_zero _)
    | succ nn ih9 =>
      intro j hmu hj ls hl
      refine lv_iload hx hb dX2_leastNext_9 (lv_at hl 5 rfl) ?_
      refine lv_aload_n hx hb dX2_leastNext_11 rfl (lv_at hl 0 rfl) ?_
      refine va_get (D := G.1) (ci := 2) (v := .int (FN 1)) (C := RX2) (T := TX2) (N := 8) hx hb hts inX2 hown hK.1 hP 0 rfl rfl 1 (by decide) fl17 (fun _ h9 => h9) rfl dX2_leastNext_12 ?_
      refine x_top (y := nI cnt) (hF) ?_
      refine x_icmp_ge (tgt := 74) hx hb (by omega) (by omega) dX2_leastNext_15 (by decide) (fun c_15 => ?_) (fun c_15 => ?_)
      · refine lv_iload_n hx hb dX2_leastNext_74 rfl (lv_at hl 3 rfl) ?_
        refine x_top (y := (nLn (eN (RN 2)) (wN cnt (RN 4)) q z cnt).2) (by rw [show j = cnt by omega]) ?_
        exact W.iret (v := (nLn (eN (RN 2)) (wN cnt (RN 4)) q z cnt).2) hx hb hr (fun t9 ht9 hW9 => ⟨rfl, ht9⟩) (fun _ h => by cases h) dX2_leastNext_75
      · refine lv_iload_n hx hb dX2_leastNext_18 rfl (lv_at hl 1 rfl) ?_
        refine lv_iload hx hb dX2_leastNext_19 (lv_at hl 5 rfl) ?_
        refine lv_ishr hx hb dX2_leastNext_21 ?_
        refine x_top (y := nI (q / 2 ^ j)) (zz_shr (by omega) (by omega)) ?_
        refine lv_iconst (v := nI 1) hx hb dX2_leastNext_22 (by decide) ?_
        refine lv_iand hx hb dX2_leastNext_23 ?_
        refine x_top (y := nI (q / 2 ^ j % 2)) (zz_bit (by omega)) ?_
        refine x_if_ne (tgt := 68) hx hb (by omega) dX2_leastNext_24 (by decide) (fun c_24 => ?_) (fun c_24 => ?_)
        · have hl : lv_has ls 7 [(0, .ref (an 0)), (1, .int (nI q)), (2, .int (nI z)), (3, .int ((nLn (eN (RN 2)) (wN cnt (RN 4)) q z (j + 1)).2)), (4, .int ((nLn (eN (RN 2)) (wN cnt (RN 4)) q z j).1)), (5, .int (nI j))] := Eq.mp (congrArg (fun z9 : Int32 => lv_has ls 7 [(0, .ref (an 0)), (1, .int (nI q)), (2, .int (nI z)), (3, .int z9), (4, .int ((nLn (eN (RN 2)) (wN cnt (RN 4)) q z j).1)), (5, .int (nI j))]) (show (nLn (eN (RN 2)) (wN cnt (RN 4)) q z j).2 = (nLn (eN (RN 2)) (wN cnt (RN 4)) q z (j + 1)).2 from (congrArg Prod.snd (nLn_no (fun x => c_24 x.1))).symm)) hl
          have hl : lv_has ls 7 [(0, .ref (an 0)), (1, .int (nI q)), (2, .int (nI z)), (3, .int ((nLn (eN (RN 2)) (wN cnt (RN 4)) q z (j + 1)).2)), (4, .int ((nLn (eN (RN 2)) (wN cnt (RN 4)) q z (j + 1)).1)), (5, .int (nI j))] := Eq.mp (congrArg (fun z9 : Int32 => lv_has ls 7 [(0, .ref (an 0)), (1, .int (nI q)), (2, .int (nI z)), (3, .int ((nLn (eN (RN 2)) (wN cnt (RN 4)) q z (j + 1)).2)), (4, .int z9), (5, .int (nI j))]) (show (nLn (eN (RN 2)) (wN cnt (RN 4)) q z j).1 = (nLn (eN (RN 2)) (wN cnt (RN 4)) q z (j + 1)).1 from (congrArg Prod.fst (nLn_no (fun x => c_24 x.1))).symm)) hl
          refine x_iinc (lv' := [(5, .int (nI (j + 1))), (0, .ref (an 0)), (1, .int (nI q)), (2, .int (nI z)), (3, .int ((nLn (eN (RN 2)) (wN cnt (RN 4)) q z (j + 1)).2)), (4, .int ((nLn (eN (RN 2)) (wN cnt (RN 4)) q z (j + 1)).1))]) hx hb dX2_leastNext_68 hl (k := 5) rfl (x_inc1 _) (by decide) rfl (fun ls hl => ?_)
          refine lv_goto (tgt := 9) hx hb dX2_leastNext_71 (by decide) ?_
          exact ih9 (j + 1) (by omega) (by omega) _ (lv_sub hl [1, 2, 3, 4, 5, 0] rfl)
        · refine lv_aload_n hx hb dX2_leastNext_27 rfl (lv_at hl 0 rfl) ?_
          refine va_get (D := G.1) (ci := 2) (v := .ref (an 3)) (C := RX2) (T := TX2) (N := 8) hx hb hts inX2 hown hK.1 hP 0 rfl rfl 2 (by decide) fl21 (fun _ h9 => h9) rfl dX2_leastNext_28 ?_
          refine lv_iload_n hx hb dX2_leastNext_31 rfl (lv_at hl 2 rfl) ?_
          refine lv_bipush (v := nI 12) hx hb dX2_leastNext_32 (by decide) ?_
          refine x_imul (r := z * 12) hx hb dX2_leastNext_34 (rfl) ?_
          refine lv_iload hx hb dX2_leastNext_35 (lv_at hl 5 rfl) ?_
          refine x_iadd (r := z * 12 + j) hx hb dX2_leastNext_37 (rfl) ?_
          refine x_iald hx hb hK.1 hP 2 0 (n := 144) (f := RN 2) rfl rfl (k := z * 12 + j) (by omega) (by omega) dX2_leastNext_38 ?_
          refine x_top (y := eN (RN 2) z j) (rfl) ?_
          refine lv_ldc hx hb hown ck32 dX2_leastNext_39 ?_
          refine x_top (y := nI 1073741824) (by decide) ?_
          refine lv_icmp_ge (tgt := 68) hx hb dX2_leastNext_41 (by decide) (fun c_41 => ?_) (fun c_41 => ?_)
          · have hl : lv_has ls 7 [(0, .ref (an 0)), (1, .int (nI q)), (2, .int (nI z)), (3, .int ((nLn (eN (RN 2)) (wN cnt (RN 4)) q z (j + 1)).2)), (4, .int ((nLn (eN (RN 2)) (wN cnt (RN 4)) q z j).1)), (5, .int (nI j))] := Eq.mp (congrArg (fun z9 : Int32 => lv_has ls 7 [(0, .ref (an 0)), (1, .int (nI q)), (2, .int (nI z)), (3, .int z9), (4, .int ((nLn (eN (RN 2)) (wN cnt (RN 4)) q z j).1)), (5, .int (nI j))]) (show (nLn (eN (RN 2)) (wN cnt (RN 4)) q z j).2 = (nLn (eN (RN 2)) (wN cnt (RN 4)) q z (j + 1)).2 from (congrArg Prod.snd (nLn_no (fun x => absurd x.2.1 (Int32.not_lt.mpr c_41)))).symm)) hl
            have hl : lv_has ls 7 [(0, .ref (an 0)), (1, .int (nI q)), (2, .int (nI z)), (3, .int ((nLn (eN (RN 2)) (wN cnt (RN 4)) q z (j + 1)).2)), (4, .int ((nLn (eN (RN 2)) (wN cnt (RN 4)) q z (j + 1)).1)), (5, .int (nI j))] := Eq.mp (congrArg (fun z9 : Int32 => lv_has ls 7 [(0, .ref (an 0)), (1, .int (nI q)), (2, .int (nI z)), (3, .int ((nLn (eN (RN 2)) (wN cnt (RN 4)) q z (j + 1)).2)), (4, .int z9), (5, .int (nI j))]) (show (nLn (eN (RN 2)) (wN cnt (RN 4)) q z j).1 = (nLn (eN (RN 2)) (wN cnt (RN 4)) q z (j + 1)).1 from (congrArg Prod.fst (nLn_no (fun x => absurd x.2.1 (Int32.not_lt.mpr c_41)))).symm)) hl
            refine x_iinc (lv' := [(5, .int (nI (j + 1))), (0, .ref (an 0)), (1, .int (nI q)), (2, .int (nI z)), (3, .int ((nLn (eN (RN 2)) (wN cnt (RN 4)) q z (j + 1)).2)), (4, .int ((nLn (eN (RN 2)) (wN cnt (RN 4)) q z (j + 1)).1))]) hx hb dX2_leastNext_68 hl (k := 5) rfl (x_inc1 _) (by decide) rfl (fun ls hl => ?_)
            refine lv_goto (tgt := 9) hx hb dX2_leastNext_71 (by decide) ?_
            exact ih9 (j + 1) (by omega) (by omega) _ (lv_sub hl [1, 2, 3, 4, 5, 0] rfl)
          · refine lv_aload_n hx hb dX2_leastNext_44 rfl (lv_at hl 0 rfl) ?_
            refine lv_iload_n hx hb dX2_leastNext_45 rfl (lv_at hl 1 rfl) ?_
            refine lv_iload_n hx hb dX2_leastNext_46 rfl (lv_at hl 2 rfl) ?_
            refine lv_iload hx hb dX2_leastNext_47 (lv_at hl 5 rfl) ?_
            refine mx_callRO (v := .int (cO (eN (RN 2)) (wN cnt (RN 4)) q z j)) (va_runV (As := [.int (nI q), .int (nI z), .int (nI j)]) (rest := []) ⟨hx, hb, hml, hown, hts⟩ (c_X2_costOver l G an FN RN SR ra rl cnt q z j hF hc12 hrl hrl2 hq hz (by omega)) (cwV 3 hts gX2_leastNext_X2_costOver rfl rfl rfl (by decide +kernel) ⟨Nat.le_of_ble_eq_true rfl, Nat.le_of_ble_eq_true rfl⟩) (mx_preV hK hP (va_recv hK.1 hP (ci := 2) (q0 := 0) rfl rfl)) rfl rfl hl.1 rfl (lv_room (Nat.le_of_ble_eq_true rfl)) dX2_leastNext_49 ⟨Nat.zero_le _, Nat.zero_le _⟩) ?_
            refine lv_istore (lv' := [(6, .int (cO (eN (RN 2)) (wN cnt (RN 4)) q z j)), (0, .ref (an 0)), (1, .int (nI q)), (2, .int (nI z)), (3, .int ((nLn (eN (RN 2)) (wN cnt (RN 4)) q z j).2)), (4, .int ((nLn (eN (RN 2)) (wN cnt (RN 4)) q z j).1)), (5, .int (nI j))]) hx hb dX2_leastNext_52 hl (by decide) rfl (fun ls hl => ?_)
            refine lv_iload hx hb dX2_leastNext_54 (lv_at hl 0 rfl) ?_
            refine lv_iload hx hb dX2_leastNext_56 (lv_at hl 5 rfl) ?_
            refine lv_icmp_ge (tgt := 68) hx hb dX2_leastNext_58 (by decide) (fun c_58 => ?_) (fun c_58 => ?_)
            · have hl : lv_has ls 7 [(6, .int (cO (eN (RN 2)) (wN cnt (RN 4)) q z j)), (0, .ref (an 0)), (1, .int (nI q)), (2, .int (nI z)), (3, .int ((nLn (eN (RN 2)) (wN cnt (RN 4)) q z (j + 1)).2)), (4, .int ((nLn (eN (RN 2)) (wN cnt (RN 4)) q z j).1)), (5, .int (nI j))] := Eq.mp (congrArg (fun z9 : Int32 => lv_has ls 7 [(6, .int (cO (eN (RN 2)) (wN cnt (RN 4)) q z j)), (0, .ref (an 0)), (1, .int (nI q)), (2, .int (nI z)), (3, .int z9), (4, .int ((nLn (eN (RN 2)) (wN cnt (RN 4)) q z j).1)), (5, .int (nI j))]) (show (nLn (eN (RN 2)) (wN cnt (RN 4)) q z j).2 = (nLn (eN (RN 2)) (wN cnt (RN 4)) q z (j + 1)).2 from (congrArg Prod.snd (nLn_no (fun x => absurd x.2.2 (Int32.not_lt.mpr c_58)))).symm)) hl
              have hl : lv_has ls 7 [(6, .int (cO (eN (RN 2)) (wN cnt (RN 4)) q z j)), (0, .ref (an 0)), (1, .int (nI q)), (2, .int (nI z)), (3, .int ((nLn (eN (RN 2)) (wN cnt (RN 4)) q z (j + 1)).2)), (4, .int ((nLn (eN (RN 2)) (wN cnt (RN 4)) q z (j + 1)).1)), (5, .int (nI j))] := Eq.mp (congrArg (fun z9 : Int32 => lv_has ls 7 [(6, .int (cO (eN (RN 2)) (wN cnt (RN 4)) q z j)), (0, .ref (an 0)), (1, .int (nI q)), (2, .int (nI z)), (3, .int ((nLn (eN (RN 2)) (wN cnt (RN 4)) q z (j + 1)).2)), (4, .int z9), (5, .int (nI j))]) (show (nLn (eN (RN 2)) (wN cnt (RN 4)) q z j).1 = (nLn (eN (RN 2)) (wN cnt (RN 4)) q z (j + 1)).1 from (congrArg Prod.fst (nLn_no (fun x => absurd x.2.2 (Int32.not_lt.mpr c_58)))).symm)) hl
              refine x_iinc (lv' := [(5, .int (nI (j + 1))), (6, .int (cO (eN (RN 2)) (wN cnt (RN 4)) q z j)), (0, .ref (an 0)), (1, .int (nI q)), (2, .int (nI z)), (3, .int ((nLn (eN (RN 2)) (wN cnt (RN 4)) q z (j + 1)).2)), (4, .int ((nLn (eN (RN 2)) (wN cnt (RN 4)) q z (j + 1)).1))]) hx hb dX2_leastNext_68 hl (k := 6) rfl (x_inc1 _) (by decide) rfl (fun ls hl => ?_)
              refine lv_goto (tgt := 9) hx hb dX2_leastNext_71 (by decide) ?_
              exact ih9 (j + 1) (by omega) (by omega) _ (lv_sub hl [2, 3, 4, 5, 6, 0] rfl)
            · refine lv_iload hx hb dX2_leastNext_61 (lv_at hl 0 rfl) ?_
              refine lv_istore (lv' := [(4, .int (cO (eN (RN 2)) (wN cnt (RN 4)) q z j)), (6, .int (cO (eN (RN 2)) (wN cnt (RN 4)) q z j)), (0, .ref (an 0)), (1, .int (nI q)), (2, .int (nI z)), (3, .int ((nLn (eN (RN 2)) (wN cnt (RN 4)) q z j).2)), (5, .int (nI j))]) hx hb dX2_leastNext_63 hl (by decide) rfl (fun ls hl => ?_)
              refine lv_iload hx hb dX2_leastNext_65 (lv_at hl 6 rfl) ?_
              refine lv_istore_n (lv' := [(3, .int (nI j)), (4, .int (cO (eN (RN 2)) (wN cnt (RN 4)) q z j)), (6, .int (cO (eN (RN 2)) (wN cnt (RN 4)) q z j)), (0, .ref (an 0)), (1, .int (nI q)), (2, .int (nI z)), (5, .int (nI j))]) hx hb dX2_leastNext_67 rfl hl (by decide) rfl (fun ls hl => ?_)
              have hl : lv_has ls 7 [(3, .int ((nLn (eN (RN 2)) (wN cnt (RN 4)) q z (j + 1)).2)), (4, .int (cO (eN (RN 2)) (wN cnt (RN 4)) q z j)), (6, .int (cO (eN (RN 2)) (wN cnt (RN 4)) q z j)), (0, .ref (an 0)), (1, .int (nI q)), (2, .int (nI z)), (5, .int (nI j))] := Eq.mp (congrArg (fun z9 : Int32 => lv_has ls 7 [(3, .int z9), (4, .int (cO (eN (RN 2)) (wN cnt (RN 4)) q z j)), (6, .int (cO (eN (RN 2)) (wN cnt (RN 4)) q z j)), (0, .ref (an 0)), (1, .int (nI q)), (2, .int (nI z)), (5, .int (nI j))]) (show nI j = (nLn (eN (RN 2)) (wN cnt (RN 4)) q z (j + 1)).2 from (congrArg Prod.snd (nLn_yes ⟨c_24, Int32.not_le.mp c_41, Int32.not_le.mp c_58⟩)).symm)) hl
              have hl : lv_has ls 7 [(3, .int ((nLn (eN (RN 2)) (wN cnt (RN 4)) q z (j + 1)).2)), (4, .int ((nLn (eN (RN 2)) (wN cnt (RN 4)) q z (j + 1)).1)), (6, .int (cO (eN (RN 2)) (wN cnt (RN 4)) q z j)), (0, .ref (an 0)), (1, .int (nI q)), (2, .int (nI z)), (5, .int (nI j))] := Eq.mp (congrArg (fun z9 : Int32 => lv_has ls 7 [(3, .int ((nLn (eN (RN 2)) (wN cnt (RN 4)) q z (j + 1)).2)), (4, .int z9), (6, .int (cO (eN (RN 2)) (wN cnt (RN 4)) q z j)), (0, .ref (an 0)), (1, .int (nI q)), (2, .int (nI z)), (5, .int (nI j))]) (show cO (eN (RN 2)) (wN cnt (RN 4)) q z j = (nLn (eN (RN 2)) (wN cnt (RN 4)) q z (j + 1)).1 from (congrArg Prod.fst (nLn_yes ⟨c_24, Int32.not_le.mp c_41, Int32.not_le.mp c_58⟩)).symm)) hl
              refine x_iinc (lv' := [(5, .int (nI (j + 1))), (3, .int ((nLn (eN (RN 2)) (wN cnt (RN 4)) q z (j + 1)).2)), (4, .int ((nLn (eN (RN 2)) (wN cnt (RN 4)) q z (j + 1)).1)), (6, .int (cO (eN (RN 2)) (wN cnt (RN 4)) q z j)), (0, .ref (an 0)), (1, .int (nI q)), (2, .int (nI z))]) hx hb dX2_leastNext_68 hl (k := 6) rfl (x_inc1 _) (by decide) rfl (fun ls hl => ?_)
              refine lv_goto (tgt := 9) hx hb dX2_leastNext_71 (by decide) ?_
              exact ih9 (j + 1) (by omega) (by omega) _ (lv_sub hl [4, 5, 6, 1, 2, 0] rfl)
  exact lp9 (cnt - 0 + 1) 0 (Nat.lt_succ_self _) (by omega) _ (lv_sub hl [3, 4, 5, 2, 1, 0] rfl)

set_option maxHeartbeats 4000000 in
set_option maxRecDepth 100000 in
theorem c_X2_weighSet (l : Launch) (G : mx_G) (an : Nat → Nat) (FN : Nat → Int32) (RN : Nat → Nat → Int32) (SR : Nat → Option Nat) (ra rl : Nat) (cnt : Nat) (q : Nat) (hF : FN 1 = nI cnt) (hc12 : cnt ≤ 12) (hrl : 2 ^ cnt * cnt ≤ rl) (hrl2 : rl < 2 ^ 27) (hq : q < 2 ^ cnt) (sz : Nat) : mx_EF l yX2_weighSet wsX2_weighSet 2 50 0 0 G [.ref (an 0), .int (nI q)] sz (NW G an FN RN SR ra rl) (fun _ : Nat → Int32 => none) (fun u : Nat → Int32 => (∀ k, k < cnt → ¬ q / 2 ^ k % 2 = 0 → u (q * cnt + k) = (nLn (eN (RN 2)) (wN cnt (RN 4)) q k cnt).1) ∧ ∀ i, (∀ k, k < cnt → ¬ i = q * cnt + k) → u i = RN 4 i) (fun u : Nat → Int32 => NW G an FN (va_up RN 4 u) SR ra rl) := by
  refine Met.ofW (cc := cX2_weighSet) (maxL := 4) (ret := none) (by decide) rfl ?_
  intro p e s m args below meth c s₁ BB hml hv
  obtain ⟨rfl, ⟨hsz, hP, hD0⟩, hK⟩ := hv
  have hx := BB.exec
  have hb := BB.bytes
  have hr := BB.returns
  have hts := atoms_spec (ws := wsX2_weighSet) BB.pre
  have hown : s.vm.findClass RX2 = some m.cls := findClass_of_methodNamed BB.named
  have hlocks := BB.notSynchronized
  subst hsz
  have hD := hD0.self (sz := s.heap.size)
  have hA : ∀ q : Nat, s.heap.size ≤ q → va_A (NW G an FN RN SR ra rl) s.heap.size q := fun q h => Or.inr h
  have hS : va_S (va_A (NW G an FN RN SR ra rl) s.heap.size) s.heap s.heap [] := va_S.rf
  have hpw := pow_le hc12
  have hpc := pow_cnt hc12
  have fl17 := hts (.fieldLink RX2 17 "MixDesk$Nights" "count" "I") (by decide +kernel)
  have fl29 := hts (.fieldLink RX2 29 "MixDesk$Nights" "rest" "[I") (by decide +kernel)
  have inX2 : ∀ w ∈ wsX20, w ∈ wsX2_weighSet := by decide +kernel
  have ck32 := hts (.constant RX2 32 (1073741824)) (by decide +kernel)
  have hl := lv_entry ([.ref (an 0), .int (nI q)]) (n := 4) (Nat.le_of_ble_eq_true rfl)
  rw [lg_entry_eq]
  generalize (lg_sl ([.ref (an 0), .int (nI q)]) ++ List.replicate (4 - (lg_sl ([.ref (an 0), .int (nI q)])).length) Slot.unset).toArray = ls at hl ⊢
  have hl : lv_has ls 4 [(0, .ref (an 0)), (1, .int (nI q))] := hl
  refine lv_iconst (v := nI 0) hx hb dX2_weighSet_0 (by decide) ?_
  refine lv_istore_n (lv' := [(2, .int (nI 0)), (0, .ref (an 0)), (1, .int (nI q))]) hx hb dX2_weighSet_1 rfl hl (by decide) rfl (fun ls hl => ?_)
  have lp2 : ∀ (nn : Nat) (z : Nat) (RR : Nat → Int32), cnt - z < nn → (z ≤ cnt) → (∀ k, k < z → ¬ q / 2 ^ k % 2 = 0 → RR (q * cnt + k) = (nLn (eN (RN 2)) (wN cnt (RN 4)) q k cnt).1) → (∀ i, (∀ k, k < cnt → ¬ i = q * cnt + k) → RR i = RN 4 i) → ∀ (H : Heap) (locs : List Loc), va_P G.1 vwCl (NW G an FN (va_up RN 4 RR) SR ra rl) H → va_D (va_A (NW G an FN RN SR ra rl) s.heap.size) (NW G an FN (va_up RN 4 RR) SR ra rl) → va_S (va_A (NW G an FN RN SR ra rl) s.heap.size) s.heap H locs → ∀ ls : Array Slot, lv_has ls 4 [(0, .ref (an 0)), (1, .int (nI q)), (2, .int (nI z))] → mx_WE l wsX2_weighSet 2 50 0 0 G p e s m (([.ref (an 0), .int (nI q)] : List Value).toArray) below meth c (NW G an FN RN SR ra rl) (fun _ : Nat → Int32 => none) (fun u : Nat → Int32 => (∀ k, k < cnt → ¬ q / 2 ^ k % 2 = 0 → u (q * cnt + k) = (nLn (eN (RN 2)) (wN cnt (RN 4)) q k cnt).1) ∧ ∀ i, (∀ k, k < cnt → ¬ i = q * cnt + k) → u i = RN 4 i) (fun u : Nat → Int32 => NW G an FN (va_up RN 4 u) SR ra rl) H locs 0 0 (F0 m 2 ls []) := by
    intro nn
    induction nn with
    | zero => intro z RR hmu; exact absurd hmu (Nat.not_lt_zero _)
    | succ nn ih2 =>
      intro z RR hmu hz hw9 hk9 H locs hP hD hS ls hl
      refine lv_iload_n hx hb dX2_weighSet_2 rfl (lv_at hl 2 rfl) ?_
      refine lv_aload_n hx hb dX2_weighSet_3 rfl (lv_at hl 0 rfl) ?_
      refine va_get (D := G.1) (ci := 2) (v := .int (FN 1)) (C := RX2) (T := TX2) (N := 8) hx hb hts inX2 hown hK.1 hP 0 rfl rfl 1 (by decide) fl17 (fun _ h9 => h9) rfl dX2_weighSet_4 ?_
      refine x_top (y := nI cnt) (hF) ?_
      refine x_icmp_ge (tgt := 62) hx hb (by omega) (by omega) dX2_weighSet_7 (by decide) (fun c_7 => ?_) (fun c_7 => ?_)
      · exact W.vret hx hb hr (fun t9 ht9 hW9 => ⟨⟨RR, rfl, ⟨fun k hk hb9 => hw9 k (by omega) hb9, hk9⟩, by rw [ht9]; exact hP, hD⟩, hS.F ht9⟩) hS.2.2 dX2_weighSet_62
      · refine lv_iload_n hx hb dX2_weighSet_10 rfl (lv_at hl 1 rfl) ?_
        refine lv_iload_n hx hb dX2_weighSet_11 rfl (lv_at hl 2 rfl) ?_
        refine lv_ishr hx hb dX2_weighSet_12 ?_
        refine x_top (y := nI (q / 2 ^ z)) (zz_shr (by omega) (by omega)) ?_
        refine lv_iconst (v := nI 1) hx hb dX2_weighSet_13 (by decide) ?_
        refine lv_iand hx hb dX2_weighSet_14 ?_
        refine x_top (y := nI (q / 2 ^ z % 2)) (zz_bit (by omega)) ?_
        refine lv_iconst (v := nI 1) hx hb dX2_weighSet_15 (by decide) ?_
        refine x_icmp_ne (tgt := 56) hx hb (by omega) (by omega) dX2_weighSet_16 (by decide) (fun c_16 => ?_) (fun c_16 => ?_)
        · refine x_iinc (lv' := [(2, .int (nI (z + 1))), (0, .ref (an 0)), (1, .int (nI q))]) hx hb dX2_weighSet_56 hl (k := 2) rfl (x_inc1 _) (by decide) rfl (fun ls hl => ?_)
          refine lv_goto (tgt := 2) hx hb dX2_weighSet_59 (by decide) ?_
          exact ih2 (z + 1) RR (by omega) (by omega) (wei_n hw9 (fun x => absurd (nI_ne1 x) c_16)) (hk9) _ _ hP hD hS _ (lv_sub hl [1, 2, 0] rfl)
        · have hcg : ∀ j, j < cnt → q / 2 ^ j % 2 = 0 → wN cnt RR (q ||| 2 ^ j) j = wN cnt (RN 4) (q ||| 2 ^ j) j := fun j hj hb9 => hk9 _ (fun k hk e9 => by have h1 := or_gt hb9; have h2 : (q + 1) * cnt ≤ (q ||| 2 ^ j) * cnt := Nat.mul_le_mul_right _ h1; rw [Nat.add_mul] at h2; omega)
          refine lv_aload_n hx hb dX2_weighSet_19 rfl (lv_at hl 0 rfl) ?_
          refine lv_iload_n hx hb dX2_weighSet_20 rfl (lv_at hl 1 rfl) ?_
          refine lv_iload_n hx hb dX2_weighSet_21 rfl (lv_at hl 2 rfl) ?_
          refine mx_callRO (v := .int ((nLn (eN (RN 2)) (wN cnt (RR)) q z cnt).2)) (va_runV (As := [.int (nI q), .int (nI z)]) (rest := []) ⟨hx, hb, hml, hown, hts⟩ (c_X2_leastNext l G an FN (va_up RN 4 RR) SR ra rl cnt q z hF hc12 hrl hrl2 hq (by omega)) (cwV 2 hts gX2_weighSet_X2_leastNext rfl rfl rfl (by decide +kernel) ⟨Nat.le_of_ble_eq_true rfl, Nat.le_of_ble_eq_true rfl⟩) (mx_preV hK hP (va_recv hK.1 hP (ci := 2) (q0 := 0) rfl rfl)) rfl rfl hl.1 rfl (lv_room (Nat.le_of_ble_eq_true rfl)) dX2_weighSet_22 ⟨Nat.zero_le _, Nat.zero_le _⟩) ?_
          refine x_top (y := (nLn (eN (RN 2)) (wN cnt (RN 4)) q z cnt).2) (by rw [nLn_congr cnt hcg]) ?_
          refine lv_istore_n (lv' := [(3, .int ((nLn (eN (RN 2)) (wN cnt (RN 4)) q z cnt).2)), (0, .ref (an 0)), (1, .int (nI q)), (2, .int (nI z))]) hx hb dX2_weighSet_25 rfl hl (by decide) rfl (fun ls hl => ?_)
          refine lv_aload_n hx hb dX2_weighSet_26 rfl (lv_at hl 1 rfl) ?_
          refine va_get (D := G.1) (ci := 2) (v := .ref ra) (C := RX2) (T := TX2) (N := 8) hx hb hts inX2 hown hK.1 hP 0 rfl rfl 4 (by decide) fl29 (fun _ h9 => h9) rfl dX2_weighSet_27 ?_
          refine lv_iload_n hx hb dX2_weighSet_30 rfl (lv_at hl 2 rfl) ?_
          refine lv_aload_n hx hb dX2_weighSet_31 rfl (lv_at hl 1 rfl) ?_
          refine va_get (D := G.1) (ci := 2) (v := .int (FN 1)) (C := RX2) (T := TX2) (N := 8) hx hb hts inX2 hown hK.1 hP 0 rfl rfl 1 (by decide) fl17 (fun _ h9 => h9) rfl dX2_weighSet_32 ?_
          refine x_top (y := nI cnt) (hF) ?_
          refine x_imul (r := q * cnt) hx hb dX2_weighSet_35 (rfl) ?_
          refine lv_iload_n hx hb dX2_weighSet_36 rfl (lv_at hl 3 rfl) ?_
          refine x_iadd (r := q * cnt + z) hx hb dX2_weighSet_37 (rfl) ?_
          refine lv_iload_n hx hb dX2_weighSet_38 rfl (lv_at hl 0 rfl) ?_
          refine lv_iconst (v := (-1)) hx hb dX2_weighSet_39 (by decide) ?_
          refine lv_icmp_ne (tgt := 48) hx hb dX2_weighSet_40 (by decide) (fun c_40 => ?_) (fun c_40 => ?_)
          · have hend := (nLn_end (E := eN (RN 2)) (Wf := wN cnt (RN 4)) (q := q) (z := z) cnt (by omega)).resolve_left (fun x => c_40 x.1)
            obtain ⟨x9, hx1, hx2, hx3, hx4, hx5, -⟩ := hend
            have hl : lv_has ls 4 [(3, .int (nI x9)), (0, .ref (an 0)), (1, .int (nI q)), (2, .int (nI z))] := Eq.mp (congrArg (fun z9 : Int32 => lv_has ls 4 [(3, .int z9), (0, .ref (an 0)), (1, .int (nI q)), (2, .int (nI z))]) (show (nLn (eN (RN 2)) (wN cnt (RN 4)) q z cnt).2 = nI x9 from hx2)) hl
            refine lv_aload_n hx hb dX2_weighSet_48 rfl (lv_at hl 1 rfl) ?_
            refine lv_iload_n hx hb dX2_weighSet_49 rfl (lv_at hl 2 rfl) ?_
            refine lv_iload_n hx hb dX2_weighSet_50 rfl (lv_at hl 3 rfl) ?_
            refine lv_iload_n hx hb dX2_weighSet_51 rfl (lv_at hl 0 rfl) ?_
            refine mx_callRO (v := .int (cO (eN (RN 2)) (wN cnt (RR)) q z x9)) (va_runV (As := [.int (nI q), .int (nI z), .int (nI x9)]) (rest := [.int (nI (q * cnt + z)), .ref ra]) ⟨hx, hb, hml, hown, hts⟩ (c_X2_costOver l G an FN (va_up RN 4 RR) SR ra rl cnt q z x9 hF hc12 hrl hrl2 hq (by omega) (by omega)) (cwV 3 hts gX2_weighSet_X2_costOver rfl rfl rfl (by decide +kernel) ⟨Nat.le_of_ble_eq_true rfl, Nat.le_of_ble_eq_true rfl⟩) (mx_preV hK hP (va_recv hK.1 hP (ci := 2) (q0 := 0) rfl rfl)) rfl rfl hl.1 rfl (lv_room (Nat.le_of_ble_eq_true rfl)) dX2_weighSet_52 ⟨Nat.zero_le _, Nat.zero_le _⟩) ?_
            refine x_top (y := (nLn (eN (RN 2)) (wN cnt (RN 4)) q z cnt).1) (by rw [hx5]; unfold cO; rw [hcg x9 hx1 hx3]) ?_
            have hval : (nLn (eN (RN 2)) (wN cnt (RN 4)) q z cnt).1 = (nLn (eN (RN 2)) (wN cnt (RN 4)) q z cnt).1 := rfl
            refine x_iast hx hb hK.1 hP hD hS 4 0 (n := rl) (f := RR) rfl rfl (k := q * cnt + z) (ix_lt hq (by omega) hrl) (by omega) dX2_weighSet_55 (NW G an FN (va_up RN 4 (upd RR (q * cnt + z) ((nLn (eN (RN 2)) (wN cnt (RN 4)) q z cnt).1))) SR ra rl) rfl (fun H locs hP hD hS => ?_)
            refine x_iinc (lv' := [(2, .int (nI (z + 1))), (3, .int (nI x9)), (0, .ref (an 0)), (1, .int (nI q))]) hx hb dX2_weighSet_56 hl (k := 3) rfl (x_inc1 _) (by decide) rfl (fun ls hl => ?_)
            refine lv_goto (tgt := 2) hx hb dX2_weighSet_59 (by decide) ?_
            exact ih2 (z + 1) (upd RR (q * cnt + z) ((nLn (eN (RN 2)) (wN cnt (RN 4)) q z cnt).1)) (by omega) (by omega) (wei_s hw9 hval) (fun i hi => (if_neg (hi z (by omega))).trans (hk9 i hi)) _ _ hP hD hS _ (lv_sub hl [2, 3, 0] rfl)
          · refine lv_ldc hx hb hown ck32 dX2_weighSet_43 ?_
            refine x_top (y := nI 1073741824) (by decide) ?_
            refine lv_goto (tgt := 55) hx hb dX2_weighSet_45 (by decide) ?_
            have hval : nI 1073741824 = (nLn (eN (RN 2)) (wN cnt (RN 4)) q z cnt).1 := nLn_m1 c_40
            refine x_iast hx hb hK.1 hP hD hS 4 0 (n := rl) (f := RR) rfl rfl (k := q * cnt + z) (ix_lt hq (by omega) hrl) (by omega) dX2_weighSet_55 (NW G an FN (va_up RN 4 (upd RR (q * cnt + z) (nI 1073741824))) SR ra rl) rfl (fun H locs hP hD hS => ?_)
            refine x_iinc (lv' := [(2, .int (nI (z + 1))), (3, .int ((nLn (eN (RN 2)) (wN cnt (RN 4)) q z cnt).2)), (0, .ref (an 0)), (1, .int (nI q))]) hx hb dX2_weighSet_56 hl (k := 3) rfl (x_inc1 _) (by decide) rfl (fun ls hl => ?_)
            refine lv_goto (tgt := 2) hx hb dX2_weighSet_59 (by decide) ?_
            exact ih2 (z + 1) (upd RR (q * cnt + z) (nI 1073741824)) (by omega) (by omega) (wei_s hw9 hval) (fun i hi => (if_neg (hi z (by omega))).trans (hk9 i hi)) _ _ hP hD hS _ (lv_sub hl [2, 3, 0] rfl)
  exact lp2 (cnt - 0 + 1) 0 (RN 4) (Nat.lt_succ_self _) (by omega) (fun k hk => absurd hk (Nat.not_lt_zero _)) (fun i _ => rfl) _ _ hP hD hS _ (lv_sub hl [1, 2, 0] rfl)

set_option maxHeartbeats 4000000 in
set_option maxRecDepth 100000 in
theorem c_X2_leastFirst (l : Launch) (G : mx_G) (an : Nat → Nat) (FN : Nat → Int32) (RN : Nat → Nat → Int32) (SR : Nat → Option Nat) (ra rl : Nat) (cnt : Nat) (hF : FN 1 = nI cnt) (hc12 : cnt ≤ 12) (hrl : 2 ^ cnt * cnt ≤ rl) (hrl2 : rl < 2 ^ 27) : mx_RO l yX2_leastFirst wsX2_leastFirst 0 0 G [.ref (an 0)] (fun H => va_P G.1 vwCl (NW G an FN RN SR ra rl) H) (.int ((lF (RN 3) (wN cnt (RN 4)) cnt).2)) := by
  refine Met.ofW (cc := cX2_leastFirst) (maxL := 5) (ret := (some .int)) (by decide) rfl ?_
  intro p e s m args below meth c s₁ BB hml hv
  obtain ⟨rfl, hP, hK⟩ := hv
  have hx := BB.exec
  have hb := BB.bytes
  have hr := BB.returns
  have hts := atoms_spec (ws := wsX2_leastFirst) BB.pre
  have hown : s.vm.findClass RX2 = some m.cls := findClass_of_methodNamed BB.named
  have hlocks := BB.notSynchronized
  have hP : va_P G.1 vwCl (NW G an FN RN SR ra rl) s.heap := hP
  have hpw := pow_le hc12
  have hpc := pow_cnt hc12
  have fl17 := hts (.fieldLink RX2 17 "MixDesk$Nights" "count" "I") (by decide +kernel)
  have fl25 := hts (.fieldLink RX2 25 "MixDesk$Nights" "mayBegin" "[Z") (by decide +kernel)
  have fl29 := hts (.fieldLink RX2 29 "MixDesk$Nights" "rest" "[I") (by decide +kernel)
  have inX2 : ∀ w ∈ wsX20, w ∈ wsX2_leastFirst := by decide +kernel
  have ck32 := hts (.constant RX2 32 (1073741824)) (by decide +kernel)
  have hl := lv_entry ([.ref (an 0)]) (n := 5) (Nat.le_of_ble_eq_true rfl)
  rw [lg_entry_eq]
  generalize (lg_sl ([.ref (an 0)]) ++ List.replicate (5 - (lg_sl ([.ref (an 0)])).length) Slot.unset).toArray = ls at hl ⊢
  have hl : lv_has ls 5 [(0, .ref (an 0))] := hl
  show mx_WR l wsX2_leastFirst 0 0 p e s m (([.ref (an 0)] : List Value).toArray) below meth c (.int ((lF (RN 3) (wN cnt (RN 4)) cnt).2)) (F0 m 0 ls [])
  refine lv_iconst (v := (-1)) hx hb dX2_leastFirst_0 (by decide) ?_
  refine lv_istore_n (lv' := [(1, .int (-1)), (0, .ref (an 0))]) hx hb dX2_leastFirst_1 rfl hl (by decide) rfl (fun ls hl => ?_)
  refine lv_ldc hx hb hown ck32 dX2_leastFirst_2 ?_
  refine x_top (y := nI 1073741824) (by decide) ?_
  refine lv_istore_n (lv' := [(2, .int (nI 1073741824)), (1, .int (-1)), (0, .ref (an 0))]) hx hb dX2_leastFirst_4 rfl hl (by decide) rfl (fun ls hl => ?_)
  have hl : lv_has ls 5 [(2, .int (nI 1073741824)), (1, .int ((lF (RN 3) (wN cnt (RN 4)) 0).2)), (0, .ref (an 0))] := Eq.mp (congrArg (fun z9 : Int32 => lv_has ls 5 [(2, .int (nI 1073741824)), (1, .int z9), (0, .ref (an 0))]) (show (-1) = (lF (RN 3) (wN cnt (RN 4)) 0).2 from rfl)) hl
  have hl : lv_has ls 5 [(2, .int ((lF (RN 3) (wN cnt (RN 4)) 0).1)), (1, .int ((lF (RN 3) (wN cnt (RN 4)) 0).2)), (0, .ref (an 0))] := Eq.mp (congrArg (fun z9 : Int32 => lv_has ls 5 [(2, .int z9), (1, .int ((lF (RN 3) (wN cnt (RN 4)) 0).2)), (0, .ref (an 0))]) (show nI 1073741824 = (lF (RN 3) (wN cnt (RN 4)) 0).1 from rfl)) hl
  refine lv_iconst (v := nI 0) hx hb dX2_leastFirst_5 (by decide) ?_
  refine lv_istore_n (lv' := [(3, .int (nI 0)), (2, .int ((lF (RN 3) (wN cnt (RN 4)) 0).1)), (1, .int ((lF (RN 3) (wN cnt (RN 4)) 0).2)), (0, .ref (an 0))]) hx hb dX2_leastFirst_6 rfl hl (by decide) rfl (fun ls hl => ?_)
  have lp7 : ∀ (nn : Nat) (i : Nat), cnt - i < nn → (i ≤ cnt) → ∀ ls : Array Slot, lv_has ls 5 [(0, .ref (an 0)), (1, .int ((lF (RN 3) (wN cnt (RN 4)) i).2)), (2, .int ((lF (RN 3) (wN cnt (RN 4)) i).1)), (3, .int (nI i))] → mx_WR l wsX2_leastFirst 0 0 p e s m (([.ref (an 0)] : List Value).toArray) below meth c (.int ((lF (RN 3) (wN cnt (RN 4)) cnt).2)) (F0 m 7 ls []) := by
    intro nn
    induction nn with
    | zero => intro i hmu; exact absurd hmu (Nat.not_lt_zero _)
    | succ nn ih7 =>
      intro i hmu hi ls hl
      refine lv_iload_n hx hb dX2_leastFirst_7 rfl (lv_at hl 3 rfl) ?_
      refine lv_aload_n hx hb dX2_leastFirst_8 rfl (lv_at hl 0 rfl) ?_
      refine va_get (D := G.1) (ci := 2) (v := .int (FN 1)) (C := RX2) (T := TX2) (N := 8) hx hb hts inX2 hown hK.1 hP 0 rfl rfl 1 (by decide) fl17 (fun _ h9 => h9) rfl dX2_leastFirst_9 ?_
      refine x_top (y := nI cnt) (hF) ?_
      refine x_icmp_ge (tgt := 58) hx hb (by omega) (by omega) dX2_leastFirst_12 (by decide) (fun c_12 => ?_) (fun c_12 => ?_)
      · refine lv_iload_n hx hb dX2_leastFirst_58 rfl (lv_at hl 1 rfl) ?_
        refine x_top (y := (lF (RN 3) (wN cnt (RN 4)) cnt).2) (by rw [show i = cnt by omega]) ?_
        exact W.iret (v := (lF (RN 3) (wN cnt (RN 4)) cnt).2) hx hb hr (fun t9 ht9 hW9 => ⟨rfl, ht9⟩) (fun _ h => by cases h) dX2_leastFirst_59
      · refine lv_aload_n hx hb dX2_leastFirst_15 rfl (lv_at hl 0 rfl) ?_
        refine va_get (D := G.1) (ci := 2) (v := .ref ra) (C := RX2) (T := TX2) (N := 8) hx hb hts inX2 hown hK.1 hP 0 rfl rfl 4 (by decide) fl29 (fun _ h9 => h9) rfl dX2_leastFirst_16 ?_
        refine lv_iconst (v := nI 1) hx hb dX2_leastFirst_19 (by decide) ?_
        refine lv_iload_n hx hb dX2_leastFirst_20 rfl (lv_at hl 3 rfl) ?_
        refine lv_ishl hx hb dX2_leastFirst_21 ?_
        refine x_top (y := nI (2 ^ i)) (zz_pow (by omega)) ?_
        refine lv_aload_n hx hb dX2_leastFirst_22 rfl (lv_at hl 0 rfl) ?_
        refine va_get (D := G.1) (ci := 2) (v := .int (FN 1)) (C := RX2) (T := TX2) (N := 8) hx hb hts inX2 hown hK.1 hP 0 rfl rfl 1 (by decide) fl17 (fun _ h9 => h9) rfl dX2_leastFirst_23 ?_
        refine x_top (y := nI cnt) (hF) ?_
        refine x_imul (r := 2 ^ i * cnt) hx hb dX2_leastFirst_26 (rfl) ?_
        refine lv_iload_n hx hb dX2_leastFirst_27 rfl (lv_at hl 3 rfl) ?_
        refine x_iadd (r := 2 ^ i * cnt + i) hx hb dX2_leastFirst_28 (rfl) ?_
        refine x_iald hx hb hK.1 hP 4 0 (n := rl) (f := RN 4) rfl rfl (k := 2 ^ i * cnt + i) (ix_lt (Nat.pow_lt_pow_right (by omega) (by omega)) (by omega) hrl) (by omega) dX2_leastFirst_29 ?_
        refine x_top (y := wN cnt (RN 4) (2 ^ i) i) (rfl) ?_
        refine lv_istore (lv' := [(4, .int (wN cnt (RN 4) (2 ^ i) i)), (0, .ref (an 0)), (1, .int ((lF (RN 3) (wN cnt (RN 4)) i).2)), (2, .int ((lF (RN 3) (wN cnt (RN 4)) i).1)), (3, .int (nI i))]) hx hb dX2_leastFirst_30 hl (by decide) rfl (fun ls hl => ?_)
        refine lv_aload_n hx hb dX2_leastFirst_32 rfl (lv_at hl 1 rfl) ?_
        refine va_get (D := G.1) (ci := 2) (v := .ref (an 4)) (C := RX2) (T := TX2) (N := 8) hx hb hts inX2 hown hK.1 hP 0 rfl rfl 3 (by decide) fl25 (fun _ h9 => h9) rfl dX2_leastFirst_33 ?_
        refine lv_iload_n hx hb dX2_leastFirst_36 rfl (lv_at hl 4 rfl) ?_
        refine x_zald hx hb hK.1 hP 3 1 (n := 12) (f := RN 3) rfl rfl (k := i) (by omega) (by omega) dX2_leastFirst_37 ?_
        refine lv_if_eq (tgt := 52) hx hb dX2_leastFirst_38 (by decide) (fun c_38 => ?_) (fun c_38 => ?_)
        · have hl : lv_has ls 5 [(4, .int (wN cnt (RN 4) (2 ^ i) i)), (0, .ref (an 0)), (1, .int ((lF (RN 3) (wN cnt (RN 4)) (i + 1)).2)), (2, .int ((lF (RN 3) (wN cnt (RN 4)) i).1)), (3, .int (nI i))] := Eq.mp (congrArg (fun z9 : Int32 => lv_has ls 5 [(4, .int (wN cnt (RN 4) (2 ^ i) i)), (0, .ref (an 0)), (1, .int z9), (2, .int ((lF (RN 3) (wN cnt (RN 4)) i).1)), (3, .int (nI i))]) (show (lF (RN 3) (wN cnt (RN 4)) i).2 = (lF (RN 3) (wN cnt (RN 4)) (i + 1)).2 from (congrArg Prod.snd (lF_no (fun x => x.1 c_38))).symm)) hl
          have hl : lv_has ls 5 [(4, .int (wN cnt (RN 4) (2 ^ i) i)), (0, .ref (an 0)), (1, .int ((lF (RN 3) (wN cnt (RN 4)) (i + 1)).2)), (2, .int ((lF (RN 3) (wN cnt (RN 4)) (i + 1)).1)), (3, .int (nI i))] := Eq.mp (congrArg (fun z9 : Int32 => lv_has ls 5 [(4, .int (wN cnt (RN 4) (2 ^ i) i)), (0, .ref (an 0)), (1, .int ((lF (RN 3) (wN cnt (RN 4)) (i + 1)).2)), (2, .int z9), (3, .int (nI i))]) (show (lF (RN 3) (wN cnt (RN 4)) i).1 = (lF (RN 3) (wN cnt (RN 4)) (i + 1)).1 from (congrArg Prod.fst (lF_no (fun x => x.1 c_38))).symm)) hl
          refine x_iinc (lv' := [(3, .int (nI (i + 1))), (4, .int (wN cnt (RN 4) (2 ^ i) i)), (0, .ref (an 0)), (1, .int ((lF (RN 3) (wN cnt (RN 4)) (i + 1)).2)), (2, .int ((lF (RN 3) (wN cnt (RN 4)) (i + 1)).1))]) hx hb dX2_leastFirst_52 hl (k := 4) rfl (x_inc1 _) (by decide) rfl (fun ls hl => ?_)
          refine lv_goto (tgt := 7) hx hb dX2_leastFirst_55 (by decide) ?_
          exact ih7 (i + 1) (by omega) (by omega) _ (lv_sub hl [2, 3, 4, 0] rfl)
        · refine lv_iload hx hb dX2_leastFirst_41 (lv_at hl 0 rfl) ?_
          refine lv_iload_n hx hb dX2_leastFirst_43 rfl (lv_at hl 3 rfl) ?_
          refine lv_icmp_ge (tgt := 52) hx hb dX2_leastFirst_44 (by decide) (fun c_44 => ?_) (fun c_44 => ?_)
          · have hl : lv_has ls 5 [(4, .int (wN cnt (RN 4) (2 ^ i) i)), (0, .ref (an 0)), (1, .int ((lF (RN 3) (wN cnt (RN 4)) (i + 1)).2)), (2, .int ((lF (RN 3) (wN cnt (RN 4)) i).1)), (3, .int (nI i))] := Eq.mp (congrArg (fun z9 : Int32 => lv_has ls 5 [(4, .int (wN cnt (RN 4) (2 ^ i) i)), (0, .ref (an 0)), (1, .int z9), (2, .int ((lF (RN 3) (wN cnt (RN 4)) i).1)), (3, .int (nI i))]) (show (lF (RN 3) (wN cnt (RN 4)) i).2 = (lF (RN 3) (wN cnt (RN 4)) (i + 1)).2 from (congrArg Prod.snd (lF_no (fun x => absurd x.2 (Int32.not_lt.mpr c_44)))).symm)) hl
            have hl : lv_has ls 5 [(4, .int (wN cnt (RN 4) (2 ^ i) i)), (0, .ref (an 0)), (1, .int ((lF (RN 3) (wN cnt (RN 4)) (i + 1)).2)), (2, .int ((lF (RN 3) (wN cnt (RN 4)) (i + 1)).1)), (3, .int (nI i))] := Eq.mp (congrArg (fun z9 : Int32 => lv_has ls 5 [(4, .int (wN cnt (RN 4) (2 ^ i) i)), (0, .ref (an 0)), (1, .int ((lF (RN 3) (wN cnt (RN 4)) (i + 1)).2)), (2, .int z9), (3, .int (nI i))]) (show (lF (RN 3) (wN cnt (RN 4)) i).1 = (lF (RN 3) (wN cnt (RN 4)) (i + 1)).1 from (congrArg Prod.fst (lF_no (fun x => absurd x.2 (Int32.not_lt.mpr c_44)))).symm)) hl
            refine x_iinc (lv' := [(3, .int (nI (i + 1))), (4, .int (wN cnt (RN 4) (2 ^ i) i)), (0, .ref (an 0)), (1, .int ((lF (RN 3) (wN cnt (RN 4)) (i + 1)).2)), (2, .int ((lF (RN 3) (wN cnt (RN 4)) (i + 1)).1))]) hx hb dX2_leastFirst_52 hl (k := 4) rfl (x_inc1 _) (by decide) rfl (fun ls hl => ?_)
            refine lv_goto (tgt := 7) hx hb dX2_leastFirst_55 (by decide) ?_
            exact ih7 (i + 1) (by omega) (by omega) _ (lv_sub hl [2, 3, 4, 0] rfl)
          · refine lv_iload hx hb dX2_leastFirst_47 (lv_at hl 0 rfl) ?_
            refine lv_istore_n (lv' := [(2, .int (wN cnt (RN 4) (2 ^ i) i)), (4, .int (wN cnt (RN 4) (2 ^ i) i)), (0, .ref (an 0)), (1, .int ((lF (RN 3) (wN cnt (RN 4)) i).2)), (3, .int (nI i))]) hx hb dX2_leastFirst_49 rfl hl (by decide) rfl (fun ls hl => ?_)
            refine lv_iload_n hx hb dX2_leastFirst_50 rfl (lv_at hl 4 rfl) ?_
            refine lv_istore_n (lv' := [(1, .int (nI i)), (2, .int (wN cnt (RN 4) (2 ^ i) i)), (4, .int (wN cnt (RN 4) (2 ^ i) i)), (0, .ref (an 0)), (3, .int (nI i))]) hx hb dX2_leastFirst_51 rfl hl (by decide) rfl (fun ls hl => ?_)
            have hl : lv_has ls 5 [(1, .int ((lF (RN 3) (wN cnt (RN 4)) (i + 1)).2)), (2, .int (wN cnt (RN 4) (2 ^ i) i)), (4, .int (wN cnt (RN 4) (2 ^ i) i)), (0, .ref (an 0)), (3, .int (nI i))] := Eq.mp (congrArg (fun z9 : Int32 => lv_has ls 5 [(1, .int z9), (2, .int (wN cnt (RN 4) (2 ^ i) i)), (4, .int (wN cnt (RN 4) (2 ^ i) i)), (0, .ref (an 0)), (3, .int (nI i))]) (show nI i = (lF (RN 3) (wN cnt (RN 4)) (i + 1)).2 from (congrArg Prod.snd (lF_yes ⟨c_38, Int32.not_le.mp c_44⟩)).symm)) hl
            have hl : lv_has ls 5 [(1, .int ((lF (RN 3) (wN cnt (RN 4)) (i + 1)).2)), (2, .int ((lF (RN 3) (wN cnt (RN 4)) (i + 1)).1)), (4, .int (wN cnt (RN 4) (2 ^ i) i)), (0, .ref (an 0)), (3, .int (nI i))] := Eq.mp (congrArg (fun z9 : Int32 => lv_has ls 5 [(1, .int ((lF (RN 3) (wN cnt (RN 4)) (i + 1)).2)), (2, .int z9), (4, .int (wN cnt (RN 4) (2 ^ i) i)), (0, .ref (an 0)), (3, .int (nI i))]) (show wN cnt (RN 4) (2 ^ i) i = (lF (RN 3) (wN cnt (RN 4)) (i + 1)).1 from (congrArg Prod.fst (lF_yes ⟨c_38, Int32.not_le.mp c_44⟩)).symm)) hl
            refine x_iinc (lv' := [(3, .int (nI (i + 1))), (1, .int ((lF (RN 3) (wN cnt (RN 4)) (i + 1)).2)), (2, .int ((lF (RN 3) (wN cnt (RN 4)) (i + 1)).1)), (4, .int (wN cnt (RN 4) (2 ^ i) i)), (0, .ref (an 0))]) hx hb dX2_leastFirst_52 hl (k := 4) rfl (x_inc1 _) (by decide) rfl (fun ls hl => ?_)
            refine lv_goto (tgt := 7) hx hb dX2_leastFirst_55 (by decide) ?_
            exact ih7 (i + 1) (by omega) (by omega) _ (lv_sub hl [4, 1, 2, 0] rfl)
  exact lp7 (cnt - 0 + 1) 0 (Nat.lt_succ_self _) (by omega) _ (lv_sub hl [3, 2, 1, 0] rfl)

set_option maxHeartbeats 4000000 in
set_option maxRecDepth 100000 in
theorem c_X2_gather (l : Launch) (G : mx_G) (an : Nat → Nat) (FN : Nat → Int32) (RN : Nat → Nat → Int32) (SR : Nat → Option Nat) (ra rl : Nat) (cnt : Nat) (m12 : Nat) (so : So) (aS : Nat → Nat → Nat) (FS : Nat → Nat → Int32) (RS : Nat → Nat → Nat → Int32) (b0 : Nat) (SD : Nat → Option Nat) (hm12 : m12 = 12) (hSD : ∀ j, j < 12 → (so j = none → SD j = none) ∧ ∀ σ, so j = some σ → SD j = some (aS j 0)) (sz : Nat) : mx_EF l yX2_gather wsX2_gather 0 0 0 0 G [.ref (an 0), .ref b0] sz ((NW G an FN RN SR ra rl) ++ (([(b0, .inl (G.2.2.2, 12, .inr (.inr (.inr (.inr (SD))))))]) ++ (pool G so aS FS RS m12))) (fun _ : Nat → Option Nat => none) (fun u : Nat → Option Nat => ∀ i, i < (numS so m12).1 → u i = some (aS ((numS so m12).2 i) 0)) (fun u : Nat → Option Nat => NW G an (va_up FN 1 (nI (numS so m12).1)) RN u ra rl ++ ([(b0, .inl (G.2.2.2, 12, .inr (.inr (.inr (.inr SD)))))] ++ (pool G so aS FS RS m12))) := by
  refine Met.ofW (cc := cX2_gather) (maxL := 3) (ret := none) (by decide) rfl ?_
  intro p e s m args below meth c s₁ BB hml hv
  obtain ⟨rfl, ⟨hsz, hP, hD0⟩, hK⟩ := hv
  have hx := BB.exec
  have hb := BB.bytes
  have hr := BB.returns
  have hts := atoms_spec (ws := wsX2_gather) BB.pre
  have hown : s.vm.findClass RX2 = some m.cls := findClass_of_methodNamed BB.named
  have hlocks := BB.notSynchronized
  subst hsz
  have hD := hD0.self (sz := s.heap.size)
  have hA : ∀ q : Nat, s.heap.size ≤ q → va_A ((NW G an FN RN SR ra rl) ++ (([(b0, .inl (G.2.2.2, 12, .inr (.inr (.inr (.inr (SD))))))]) ++ (pool G so aS FS RS m12))) s.heap.size q := fun q h => Or.inr h
  have hS : va_S (va_A ((NW G an FN RN SR ra rl) ++ (([(b0, .inl (G.2.2.2, 12, .inr (.inr (.inr (.inr (SD))))))]) ++ (pool G so aS FS RS m12))) s.heap.size) s.heap s.heap [] := va_S.rf
  have fl11 := hts (.fieldLink RX2 11 "MixDesk$Nights" "songs" "[LMixDesk$Song;") (by decide +kernel)
  have fl17 := hts (.fieldLink RX2 17 "MixDesk$Nights" "count" "I") (by decide +kernel)
  have inX2 : ∀ w ∈ wsX20, w ∈ wsX2_gather := by decide +kernel
  have hl := lv_entry ([.ref (an 0), .ref b0]) (n := 3) (Nat.le_of_ble_eq_true rfl)
  rw [lg_entry_eq]
  generalize (lg_sl ([.ref (an 0), .ref b0]) ++ List.replicate (3 - (lg_sl ([.ref (an 0), .ref b0])).length) Slot.unset).toArray = ls at hl ⊢
  have hl : lv_has ls 3 [(0, .ref (an 0)), (1, .ref b0)] := hl
  refine lv_aload_n hx hb dX2_gather_0 rfl (lv_at hl 0 rfl) ?_
  refine lv_iconst (v := nI 0) hx hb dX2_gather_1 (by decide) ?_
  refine va_put (D := G.1) (ci := 2) (v := .int (nI 0)) (ty := .int) (C := RX2) (T := TX2) (N := 8) hx hb hts inX2 tyX2 tyX2_ok nmX2 hown hK.1 hP hD hS 0 rfl rfl 1 (by decide) fl17 (fun _ h9 => h9) rfl (by decide +kernel) rfl rfl (Nat.le_of_ble_eq_true rfl) dX2_gather_2 (fun H locs hP hD hS => ?_)
  have hP : va_P G.1 vwCl ((NW G an (va_up FN 1 (nI 0)) RN SR ra rl) ++ (([(b0, .inl (G.2.2.2, 12, .inr (.inr (.inr (.inr (SD))))))]) ++ (pool G so aS FS RS m12))) H := hP
  have hD : va_D _ ((NW G an (va_up FN 1 (nI 0)) RN SR ra rl) ++ (([(b0, .inl (G.2.2.2, 12, .inr (.inr (.inr (.inr (SD))))))]) ++ (pool G so aS FS RS m12))) := hD
  refine lv_iconst (v := nI 0) hx hb dX2_gather_5 (by decide) ?_
  refine lv_istore_n (lv' := [(2, .int (nI 0)), (0, .ref (an 0)), (1, .ref b0)]) hx hb dX2_gather_6 rfl hl (by decide) rfl (fun ls hl => ?_)
  have lp7 : ∀ (nn : Nat) (s9 : Nat) (SX : Nat → Option Nat), 12 - s9 < nn → (s9 ≤ 12) → (∀ i, i < (numS so s9).1 → SX i = some (aS ((numS so s9).2 i) 0)) → ∀ (H : Heap) (locs : List Loc), va_P G.1 vwCl ((NW G an (va_up FN 1 (nI ((numS so s9).1))) RN SX ra rl) ++ (([(b0, .inl (G.2.2.2, 12, .inr (.inr (.inr (.inr (SD))))))]) ++ (pool G so aS FS RS m12))) H → va_D (va_A ((NW G an FN RN SR ra rl) ++ (([(b0, .inl (G.2.2.2, 12, .inr (.inr (.inr (.inr (SD))))))]) ++ (pool G so aS FS RS m12))) s.heap.size) ((NW G an (va_up FN 1 (nI ((numS so s9).1))) RN SX ra rl) ++ (([(b0, .inl (G.2.2.2, 12, .inr (.inr (.inr (.inr (SD))))))]) ++ (pool G so aS FS RS m12))) → va_S (va_A ((NW G an FN RN SR ra rl) ++ (([(b0, .inl (G.2.2.2, 12, .inr (.inr (.inr (.inr (SD))))))]) ++ (pool G so aS FS RS m12))) s.heap.size) s.heap H locs → ∀ ls : Array Slot, lv_has ls 3 [(0, .ref (an 0)), (1, .ref b0), (2, .int (nI s9))] → mx_WE l wsX2_gather 0 0 0 0 G p e s m (([.ref (an 0), .ref b0] : List Value).toArray) below meth c ((NW G an FN RN SR ra rl) ++ (([(b0, .inl (G.2.2.2, 12, .inr (.inr (.inr (.inr (SD))))))]) ++ (pool G so aS FS RS m12))) (fun _ : Nat → Option Nat => none) (fun u : Nat → Option Nat => ∀ i, i < (numS so m12).1 → u i = some (aS ((numS so m12).2 i) 0)) (fun u : Nat → Option Nat => NW G an (va_up FN 1 (nI (numS so m12).1)) RN u ra rl ++ ([(b0, .inl (G.2.2.2, 12, .inr (.inr (.inr (.inr SD)))))] ++ (pool G so aS FS RS m12))) H locs 0 0 (F0 m 7 ls []) := by
    intro nn
    induction nn with
    | zero => intro s9 SX hmu; exact absurd hmu (Nat.not_lt_zero _)
    | succ nn ih7 =>
      intro s9 SX hmu hs9 hSX H locs hP hD hS ls hl
      refine lv_iload_n hx hb dX2_gather_7 rfl (lv_at hl 2 rfl) ?_
      refine lv_bipush (v := nI 12) hx hb dX2_gather_8 (by decide) ?_
      refine x_icmp_ge (tgt := 47) hx hb (by omega) (by omega) dX2_gather_10 (by decide) (fun c_10 => ?_) (fun c_10 => ?_)
      · have e12 : s9 = m12 := by omega
        rw [e12] at hP hD
        have hP : va_P G.1 vwCl ((NW G an (va_up FN 1 (nI ((numS so m12).1))) RN SX ra rl) ++ (([(b0, .inl (G.2.2.2, 12, .inr (.inr (.inr (.inr (SD))))))]) ++ (pool G so aS FS RS m12))) H := hP
        have hD : va_D _ ((NW G an (va_up FN 1 (nI ((numS so m12).1))) RN SX ra rl) ++ (([(b0, .inl (G.2.2.2, 12, .inr (.inr (.inr (.inr (SD))))))]) ++ (pool G so aS FS RS m12))) := hD
        exact W.vret hx hb hr (fun t9 ht9 hW9 => ⟨⟨SX, rfl, by rw [e12] at hSX; exact hSX, by rw [ht9]; exact hP, hD⟩, hS.F ht9⟩) hS.2.2 dX2_gather_47
      · refine lv_aload_n hx hb dX2_gather_13 rfl (lv_at hl 1 rfl) ?_
        refine lv_iload_n hx hb dX2_gather_14 rfl (lv_at hl 2 rfl) ?_
        refine x_aald hx hb hK.1 hP 6 2 (n := 12) (f := SD) rfl rfl (k := s9) (by omega) (by omega) dX2_gather_15 ?_
        rcases ho : so s9 with _ | σ
        · refine x_topV (y := .null) (by rw [(hSD s9 (by omega)).1 ho]; rfl) ?_
          refine lv_ifnullN (tgt := 41) hx hb dX2_gather_16 (by decide) ?_
          have e41 : (numS so s9).1 = (numS so (s9 + 1)).1 := by rw [numS_no ho]
          rw [e41] at hP hD
          have hP : va_P G.1 vwCl ((NW G an (va_up FN 1 (nI ((numS so (s9 + 1)).1))) RN SX ra rl) ++ (([(b0, .inl (G.2.2.2, 12, .inr (.inr (.inr (.inr (SD))))))]) ++ (pool G so aS FS RS m12))) H := hP
          have hD : va_D _ ((NW G an (va_up FN 1 (nI ((numS so (s9 + 1)).1))) RN SX ra rl) ++ (([(b0, .inl (G.2.2.2, 12, .inr (.inr (.inr (.inr (SD))))))]) ++ (pool G so aS FS RS m12))) := hD
          refine x_iinc (lv' := [(2, .int (nI (s9 + 1))), (0, .ref (an 0)), (1, .ref b0)]) hx hb dX2_gather_41 hl (k := 2) rfl (x_inc1 _) (by decide) rfl (fun ls hl => ?_)
          refine lv_goto (tgt := 7) hx hb dX2_gather_44 (by decide) ?_
          exact ih7 (s9 + 1) SX (by omega) (by omega) (by rw [numS_no ho]; exact hSX) _ _ hP hD hS _ (lv_sub hl [1, 2, 0] rfl)
        · refine x_topV (y := .ref (aS s9 0)) (by rw [(hSD s9 (by omega)).2 σ ho]; rfl) ?_
          have hcl := numS_le so s9
          obtain ⟨qk, hqk⟩ := mx_mem (List.mem_append_right (NW G an (va_up FN 1 (nI (numS so s9).1)) RN SX ra rl) (List.mem_append_right [(b0, .inl (G.2.2.2, 12, .inr (.inr (.inr (.inr SD)))))] (pool_obj (G := G) (aS := aS) (FS := FS) (RS := RS) ho (show s9 < m12 by omega))))
          refine lv_ifnull hx hb dX2_gather_16 ?_
          refine lv_aload_n hx hb dX2_gather_19 rfl (lv_at hl 0 rfl) ?_
          refine va_get (D := G.1) (ci := 2) (v := .ref (an 1)) (C := RX2) (T := TX2) (N := 8) hx hb hts inX2 hown hK.1 hP 0 rfl rfl 0 (by decide) fl11 (fun _ h9 => h9) rfl dX2_gather_20 ?_
          refine lv_aload_n hx hb dX2_gather_23 rfl (lv_at hl 0 rfl) ?_
          refine va_get (D := G.1) (ci := 2) (v := .int (nI ((numS so s9).1))) (C := RX2) (T := TX2) (N := 8) hx hb hts inX2 hown hK.1 hP 0 rfl rfl 1 (by decide) fl17 (fun _ h9 => h9) rfl dX2_gather_24 ?_
          refine lv_aload_n hx hb dX2_gather_27 rfl (lv_at hl 1 rfl) ?_
          refine lv_iload_n hx hb dX2_gather_28 rfl (lv_at hl 2 rfl) ?_
          refine x_aald hx hb hK.1 hP 6 2 (n := 12) (f := SD) rfl rfl (k := s9) (by omega) (by omega) dX2_gather_29 ?_
          refine x_topV (y := .ref (aS s9 0)) (by rw [(hSD s9 (by omega)).2 σ ho]; rfl) ?_
          refine x_aast hx hb hK.1 hP hD hS 1 2 qk 3 (r := (RX3, TX3, 19)) (n := 12) (f := SX) rfl rfl hqk rfl (k := (numS so s9).1) (by omega) (by omega) dX2_gather_30 ((NW G an (va_up FN 1 (nI ((numS so s9).1))) RN (va_up SX ((numS so s9).1) (some (aS s9 0))) ra rl) ++ (([(b0, .inl (G.2.2.2, 12, .inr (.inr (.inr (.inr (SD))))))]) ++ (pool G so aS FS RS m12))) rfl (fun H locs hP hD hS => ?_)
          refine lv_aload_n hx hb dX2_gather_31 rfl (lv_at hl 0 rfl) ?_
          refine lv_dup hx hb dX2_gather_32 rfl ?_
          refine va_get (D := G.1) (ci := 2) (v := .int (nI ((numS so s9).1))) (C := RX2) (T := TX2) (N := 8) hx hb hts inX2 hown hK.1 hP 0 rfl rfl 1 (by decide) fl17 (fun _ h9 => h9) rfl dX2_gather_33 ?_
          refine lv_iconst (v := nI 1) hx hb dX2_gather_36 (by decide) ?_
          refine x_iadd (r := (numS so s9).1 + 1) hx hb dX2_gather_37 (rfl) ?_
          refine va_put (D := G.1) (ci := 2) (v := .int (nI ((numS so s9).1 + 1))) (ty := .int) (C := RX2) (T := TX2) (N := 8) hx hb hts inX2 tyX2 tyX2_ok nmX2 hown hK.1 hP hD hS 0 rfl rfl 1 (by decide) fl17 (fun _ h9 => h9) rfl (by decide +kernel) rfl rfl (Nat.le_of_ble_eq_true rfl) dX2_gather_38 (fun H locs hP hD hS => ?_)
          have hP : va_P G.1 vwCl ((NW G an (va_up FN 1 (nI ((numS so s9).1 + 1))) RN (va_up SX ((numS so s9).1) (some (aS s9 0))) ra rl) ++ (([(b0, .inl (G.2.2.2, 12, .inr (.inr (.inr (.inr (SD))))))]) ++ (pool G so aS FS RS m12))) H := hP
          have hD : va_D _ ((NW G an (va_up FN 1 (nI ((numS so s9).1 + 1))) RN (va_up SX ((numS so s9).1) (some (aS s9 0))) ra rl) ++ (([(b0, .inl (G.2.2.2, 12, .inr (.inr (.inr (.inr (SD))))))]) ++ (pool G so aS FS RS m12))) := hD
          have e41 : (numS so s9).1 + 1 = (numS so (s9 + 1)).1 := by rw [numS_yes ho]
          rw [e41] at hP hD
          have hP : va_P G.1 vwCl ((NW G an (va_up FN 1 (nI ((numS so (s9 + 1)).1))) RN (va_up SX ((numS so s9).1) (some (aS s9 0))) ra rl) ++ (([(b0, .inl (G.2.2.2, 12, .inr (.inr (.inr (.inr (SD))))))]) ++ (pool G so aS FS RS m12))) H := hP
          have hD : va_D _ ((NW G an (va_up FN 1 (nI ((numS so (s9 + 1)).1))) RN (va_up SX ((numS so s9).1) (some (aS s9 0))) ra rl) ++ (([(b0, .inl (G.2.2.2, 12, .inr (.inr (.inr (.inr (SD))))))]) ++ (pool G so aS FS RS m12))) := hD
          refine x_iinc (lv' := [(2, .int (nI (s9 + 1))), (0, .ref (an 0)), (1, .ref b0)]) hx hb dX2_gather_41 hl (k := 2) rfl (x_inc1 _) (by decide) rfl (fun ls hl => ?_)
          refine lv_goto (tgt := 7) hx hb dX2_gather_44 (by decide) ?_
          exact ih7 (s9 + 1) (va_up SX ((numS so s9).1) (some (aS s9 0))) (by omega) (by omega) (gath_s hSX ho) _ _ hP hD hS _ (lv_sub hl [1, 2, 0] rfl)
  exact lp7 (12 - 0 + 1) 0 SR (Nat.lt_succ_self _) (by omega) (fun i hi => absurd hi (Nat.not_lt_zero _)) _ _ hP hD hS _ (lv_sub hl [1, 2, 0] rfl)

set_option maxHeartbeats 4000000 in
set_option maxRecDepth 100000 in
theorem c_X2_keepOrder (l : Launch) (G : mx_G) (an : Nat → Nat) (FN : Nat → Int32) (RN : Nat → Nat → Int32) (SR : Nat → Option Nat) (ra rl : Nat) (cnt : Nat) (m12 : Nat) (so : So) (aS : Nat → Nat → Nat) (FS : Nat → Nat → Int32) (RS : Nat → Nat → Nat → Int32) (x : Nat) (nm : Nat → Nat) (hF : FN 1 = nI cnt) (hc12 : cnt ≤ 12) (hrl : 2 ^ cnt * cnt ≤ rl) (hrl2 : rl < 2 ^ 27) (hm12 : m12 = 12) (hx9 : x < cnt) (hSR : ∀ i, i < cnt → nm i < m12 ∧ (∃ σ, so (nm i) = some σ) ∧ SR i = some (aS (nm i) 0) ∧ FS (nm i) 0 = nI (nm i)) (hok : ∀ i, i + 1 < cnt → ¬ (nLn (eN (RN 2)) (wN cnt (RN 4)) ((cSq (eN (RN 2)) (wN cnt (RN 4)) cnt x i).1) ((cSq (eN (RN 2)) (wN cnt (RN 4)) cnt x i).2) cnt).2 = (-1)) (sz : Nat) : mx_EF l yX2_keepOrder wsX2_keepOrder 2 50 0 0 G [.ref (an 0), .int (nI x)] sz ((NW G an FN RN SR ra rl) ++ (pool G so aS FS RS m12)) (fun _ : Nat → Int32 => none) (fun u : Nat → Int32 => ∀ i, i < cnt → u i = nI (nm (cSq (eN (RN 2)) (wN cnt (RN 4)) cnt x i).2)) (fun u : Nat → Int32 => NW G an (va_up FN 7 (nI cnt)) (va_up RN 6 u) SR ra rl ++ (pool G so aS FS RS m12)) := by
  refine Met.ofW (cc := cX2_keepOrder) (maxL := 6) (ret := none) (by decide) rfl ?_
  intro p e s m args below meth c s₁ BB hml hv
  obtain ⟨rfl, ⟨hsz, hP, hD0⟩, hK⟩ := hv
  have hx := BB.exec
  have hb := BB.bytes
  have hr := BB.returns
  have hts := atoms_spec (ws := wsX2_keepOrder) BB.pre
  have hown : s.vm.findClass RX2 = some m.cls := findClass_of_methodNamed BB.named
  have hlocks := BB.notSynchronized
  subst hsz
  have hD := hD0.self (sz := s.heap.size)
  have hA : ∀ q : Nat, s.heap.size ≤ q → va_A ((NW G an FN RN SR ra rl) ++ (pool G so aS FS RS m12)) s.heap.size q := fun q h => Or.inr h
  have hS : va_S (va_A ((NW G an FN RN SR ra rl) ++ (pool G so aS FS RS m12)) s.heap.size) s.heap s.heap [] := va_S.rf
  have hpw := pow_le hc12
  have hpc := pow_cnt hc12
  have hsq := cSq_b hc12 hx9 hok
  have fl11 := hts (.fieldLink RX2 11 "MixDesk$Nights" "songs" "[LMixDesk$Song;") (by decide +kernel)
  have fl17 := hts (.fieldLink RX2 17 "MixDesk$Nights" "count" "I") (by decide +kernel)
  have fl36 := hts (.fieldLink RX2 36 "MixDesk$Nights" "order" "[I") (by decide +kernel)
  have fl39 := hts (.fieldLink RX2 39 "MixDesk$Nights" "told" "I") (by decide +kernel)
  have fl61 := hts (.fieldLink RX2 61 "MixDesk$Song" "number" "I") (by decide +kernel)
  have inX2 : ∀ w ∈ wsX20, w ∈ wsX2_keepOrder := by decide +kernel
  have inX3 : ∀ w ∈ wsX30, w ∈ wsX2_keepOrder := by decide +kernel
  have hl := lv_entry ([.ref (an 0), .int (nI x)]) (n := 6) (Nat.le_of_ble_eq_true rfl)
  rw [lg_entry_eq]
  generalize (lg_sl ([.ref (an 0), .int (nI x)]) ++ List.replicate (6 - (lg_sl ([.ref (an 0), .int (nI x)])).length) Slot.unset).toArray = ls at hl ⊢
  have hl : lv_has ls 6 [(0, .ref (an 0)), (1, .int (nI x))] := hl
  refine lv_iconst (v := nI 1) hx hb dX2_keepOrder_0 (by decide) ?_
  refine lv_iload_n hx hb dX2_keepOrder_1 rfl (lv_at hl 1 rfl) ?_
  refine lv_ishl hx hb dX2_keepOrder_2 ?_
  refine x_top (y := nI (2 ^ x)) (zz_pow (by omega)) ?_
  refine lv_istore_n (lv' := [(2, .int (nI (2 ^ x))), (0, .ref (an 0)), (1, .int (nI x))]) hx hb dX2_keepOrder_3 rfl hl (by decide) rfl (fun ls hl => ?_)
  refine lv_iload_n hx hb dX2_keepOrder_4 rfl (lv_at hl 2 rfl) ?_
  refine lv_istore_n (lv' := [(3, .int (nI x)), (2, .int (nI (2 ^ x))), (0, .ref (an 0)), (1, .int (nI x))]) hx hb dX2_keepOrder_5 rfl hl (by decide) rfl (fun ls hl => ?_)
  obtain ⟨hn9, ⟨σ9, hso9⟩, hsr9, hfs9⟩ := hSR x hx9
  obtain ⟨qk, hqk⟩ := mx_mem (List.mem_append_right (NW G an FN RN SR ra rl) (pool_obj (G := G) (aS := aS) (FS := FS) (RS := RS) hso9 (show nm x < m12 by omega)))
  refine lv_aload_n hx hb dX2_keepOrder_6 rfl (lv_at hl 2 rfl) ?_
  refine va_get (D := G.1) (ci := 2) (v := .ref (an 7)) (C := RX2) (T := TX2) (N := 8) hx hb hts inX2 hown hK.1 hP 0 rfl rfl 6 (by decide) fl36 (fun _ h9 => h9) rfl dX2_keepOrder_7 ?_
  refine lv_iconst (v := nI 0) hx hb dX2_keepOrder_10 (by decide) ?_
  refine lv_aload_n hx hb dX2_keepOrder_11 rfl (lv_at hl 2 rfl) ?_
  refine va_get (D := G.1) (ci := 2) (v := .ref (an 1)) (C := RX2) (T := TX2) (N := 8) hx hb hts inX2 hown hK.1 hP 0 rfl rfl 0 (by decide) fl11 (fun _ h9 => h9) rfl dX2_keepOrder_12 ?_
  refine lv_iload_n hx hb dX2_keepOrder_15 rfl (lv_at hl 3 rfl) ?_
  refine x_aald hx hb hK.1 hP 1 2 (n := 12) (f := SR) rfl rfl (k := x) (by omega) (by omega) dX2_keepOrder_16 ?_
  refine x_topV (y := .ref (aS (nm x) 0)) (by rw [hsr9]; rfl) ?_
  refine va_get (D := G.1) (ci := 3) (v := .int (FS (nm x) 0)) (C := RX3) (T := TX3) (N := 19) hx hb hts inX3 hown hK.1 hP qk hqk rfl 0 (by decide) fl61 (fun _ h9 => h9) rfl dX2_keepOrder_17 ?_
  refine x_top (y := nI (nm x)) (hfs9) ?_
  refine x_iast hx hb hK.1 hP hD hS 5 0 (n := 12) (f := RN 6) rfl rfl (k := 0) (by omega) (by omega) dX2_keepOrder_20 ((NW G an FN (va_up RN 6 (upd (RN 6) 0 (nI (nm x)))) SR ra rl) ++ (pool G so aS FS RS m12)) rfl (fun H locs hP hD hS => ?_)
  refine lv_iconst (v := nI 1) hx hb dX2_keepOrder_21 (by decide) ?_
  refine lv_istore (lv' := [(4, .int (nI 1)), (3, .int (nI x)), (2, .int (nI (2 ^ x))), (0, .ref (an 0)), (1, .int (nI x))]) hx hb dX2_keepOrder_22 hl (by decide) rfl (fun ls hl => ?_)
  have lp24 : ∀ (nn : Nat) (i : Nat) (OR : Nat → Int32), cnt - i < nn → (i + 1 ≤ cnt) → (∀ z, z ≤ i → OR z = nI (nm (cSq (eN (RN 2)) (wN cnt (RN 4)) cnt x z).2)) → ∀ (H : Heap) (locs : List Loc), va_P G.1 vwCl ((NW G an FN (va_up RN 6 OR) SR ra rl) ++ (pool G so aS FS RS m12)) H → va_D (va_A ((NW G an FN RN SR ra rl) ++ (pool G so aS FS RS m12)) s.heap.size) ((NW G an FN (va_up RN 6 OR) SR ra rl) ++ (pool G so aS FS RS m12)) → va_S (va_A ((NW G an FN RN SR ra rl) ++ (pool G so aS FS RS m12)) s.heap.size) s.heap H locs → ∀ ls : Array Slot, lv_has ls 6 [(0, .ref (an 0)), (1, .int (nI x)), (2, .int (nI ((cSq (eN (RN 2)) (wN cnt (RN 4)) cnt x i).1))), (3, .int (nI ((cSq (eN (RN 2)) (wN cnt (RN 4)) cnt x i).2))), (4, .int (nI (i + 1)))] → mx_WE l wsX2_keepOrder 2 50 0 0 G p e s m (([.ref (an 0), .int (nI x)] : List Value).toArray) below meth c ((NW G an FN RN SR ra rl) ++ (pool G so aS FS RS m12)) (fun _ : Nat → Int32 => none) (fun u : Nat → Int32 => ∀ i, i < cnt → u i = nI (nm (cSq (eN (RN 2)) (wN cnt (RN 4)) cnt x i).2)) (fun u : Nat → Int32 => NW G an (va_up FN 7 (nI cnt)) (va_up RN 6 u) SR ra rl ++ (pool G so aS FS RS m12)) H locs 0 0 (F0 m 24 ls []) := by
    intro nn
    induction nn with
    | zero => intro i OR hmu; exact absurd hmu (Nat.not_lt_zero _)
    | succ nn ih24 =>
      intro i OR hmu hi hOR H locs hP hD hS ls hl
      refine lv_iload hx hb dX2_keepOrder_24 (lv_at hl 4 rfl) ?_
      refine lv_aload_n hx hb dX2_keepOrder_26 rfl (lv_at hl 0 rfl) ?_
      refine va_get (D := G.1) (ci := 2) (v := .int (FN 1)) (C := RX2) (T := TX2) (N := 8) hx hb hts inX2 hown hK.1 hP 0 rfl rfl 1 (by decide) fl17 (fun _ h9 => h9) rfl dX2_keepOrder_27 ?_
      refine x_top (y := nI cnt) (hF) ?_
      refine x_icmp_ge (tgt := 81) hx hb (by omega) (by omega) dX2_keepOrder_30 (by decide) (fun c_30 => ?_) (fun c_30 => ?_)
      · refine lv_aload_n hx hb dX2_keepOrder_81 rfl (lv_at hl 0 rfl) ?_
        refine lv_aload_n hx hb dX2_keepOrder_82 rfl (lv_at hl 0 rfl) ?_
        refine va_get (D := G.1) (ci := 2) (v := .int (FN 1)) (C := RX2) (T := TX2) (N := 8) hx hb hts inX2 hown hK.1 hP 0 rfl rfl 1 (by decide) fl17 (fun _ h9 => h9) rfl dX2_keepOrder_83 ?_
        refine x_top (y := nI cnt) (hF) ?_
        refine va_put (D := G.1) (ci := 2) (v := .int (nI cnt)) (ty := .int) (C := RX2) (T := TX2) (N := 8) hx hb hts inX2 tyX2 tyX2_ok nmX2 hown hK.1 hP hD hS 0 rfl rfl 7 (by decide) fl39 (fun _ h9 => h9) rfl (by decide +kernel) rfl rfl (Nat.le_of_ble_eq_true rfl) dX2_keepOrder_86 (fun H locs hP hD hS => ?_)
        have hP : va_P G.1 vwCl ((NW G an (va_up FN 7 (nI cnt)) (va_up RN 6 OR) SR ra rl) ++ (pool G so aS FS RS m12)) H := hP
        have hD : va_D _ ((NW G an (va_up FN 7 (nI cnt)) (va_up RN 6 OR) SR ra rl) ++ (pool G so aS FS RS m12)) := hD
        exact W.vret hx hb hr (fun t9 ht9 hW9 => ⟨⟨OR, rfl, fun z hz => hOR z (by omega), by rw [ht9]; exact hP, hD⟩, hS.F ht9⟩) hS.2.2 dX2_keepOrder_89
      · refine lv_aload_n hx hb dX2_keepOrder_33 rfl (lv_at hl 0 rfl) ?_
        refine lv_iload_n hx hb dX2_keepOrder_34 rfl (lv_at hl 2 rfl) ?_
        refine lv_iload_n hx hb dX2_keepOrder_35 rfl (lv_at hl 3 rfl) ?_
        refine mx_callRO (v := .int ((nLn (eN (RN 2)) (wN cnt (RN 4)) ((cSq (eN (RN 2)) (wN cnt (RN 4)) cnt x i).1) ((cSq (eN (RN 2)) (wN cnt (RN 4)) cnt x i).2) cnt).2)) (va_runV (As := [.int (nI ((cSq (eN (RN 2)) (wN cnt (RN 4)) cnt x i).1)), .int (nI ((cSq (eN (RN 2)) (wN cnt (RN 4)) cnt x i).2))]) (rest := []) ⟨hx, hb, hml, hown, hts⟩ (c_X2_leastNext l G an FN (va_up RN 6 OR) SR ra rl cnt ((cSq (eN (RN 2)) (wN cnt (RN 4)) cnt x i).1) ((cSq (eN (RN 2)) (wN cnt (RN 4)) cnt x i).2) hF hc12 hrl hrl2 (hsq i (by omega)).1 (hsq i (by omega)).2) (cwV 2 hts gX2_keepOrder_X2_leastNext rfl rfl rfl (by decide +kernel) ⟨Nat.le_of_ble_eq_true rfl, Nat.le_of_ble_eq_true rfl⟩) (mx_preV hK (mx_Psub hP (fun q9 => fun h => List.mem_append_left _ h)) (va_recv hK.1 hP (ci := 2) (q0 := 0) rfl rfl)) rfl rfl hl.1 rfl (lv_room (Nat.le_of_ble_eq_true rfl)) dX2_keepOrder_36 ⟨Nat.zero_le _, Nat.zero_le _⟩) ?_
        refine lv_istore (lv' := [(5, .int ((nLn (eN (RN 2)) (wN cnt (RN 4)) ((cSq (eN (RN 2)) (wN cnt (RN 4)) cnt x i).1) ((cSq (eN (RN 2)) (wN cnt (RN 4)) cnt x i).2) cnt).2)), (0, .ref (an 0)), (1, .int (nI x)), (2, .int (nI ((cSq (eN (RN 2)) (wN cnt (RN 4)) cnt x i).1))), (3, .int (nI ((cSq (eN (RN 2)) (wN cnt (RN 4)) cnt x i).2))), (4, .int (nI (i + 1)))]) hx hb dX2_keepOrder_39 hl (by decide) rfl (fun ls hl => ?_)
        refine lv_iload hx hb dX2_keepOrder_41 (lv_at hl 0 rfl) ?_
        refine lv_iconst (v := (-1)) hx hb dX2_keepOrder_43 (by decide) ?_
        refine lv_icmp_ne (tgt := 48) hx hb dX2_keepOrder_44 (by decide) (fun c_44 => ?_) (fun c_44 => absurd c_44 (hok i (by omega)))
        have hend := (nLn_end (E := eN (RN 2)) (Wf := wN cnt (RN 4)) (q := (cSq (eN (RN 2)) (wN cnt (RN 4)) cnt x i).1) (z := (cSq (eN (RN 2)) (wN cnt (RN 4)) cnt x i).2) cnt (by omega)).resolve_left (fun q9 => hok i (by omega) q9.1)
        obtain ⟨y9, hy1, hy2, hy3, hy4, hy5, -⟩ := hend
        have hey : (nLn (eN (RN 2)) (wN cnt (RN 4)) ((cSq (eN (RN 2)) (wN cnt (RN 4)) cnt x i).1) ((cSq (eN (RN 2)) (wN cnt (RN 4)) cnt x i).2) cnt).2.toNatClampNeg = y9 := by rw [hy2]; exact nI_clamp (by omega)
        have hnm9 : (cSq (eN (RN 2)) (wN cnt (RN 4)) cnt x (i + 1)).2 = y9 := hey
        have hnm8 : (cSq (eN (RN 2)) (wN cnt (RN 4)) cnt x (i + 1)).1 = (cSq (eN (RN 2)) (wN cnt (RN 4)) cnt x i).1 ||| 2 ^ y9 := by rw [← hey]; rfl
        have hl : lv_has ls 6 [(5, .int (nI y9)), (0, .ref (an 0)), (1, .int (nI x)), (2, .int (nI ((cSq (eN (RN 2)) (wN cnt (RN 4)) cnt x i).1))), (3, .int (nI ((cSq (eN (RN 2)) (wN cnt (RN 4)) cnt x i).2))), (4, .int (nI (i + 1)))] := Eq.mp (congrArg (fun z9 : Int32 => lv_has ls 6 [(5, .int z9), (0, .ref (an 0)), (1, .int (nI x)), (2, .int (nI ((cSq (eN (RN 2)) (wN cnt (RN 4)) cnt x i).1))), (3, .int (nI ((cSq (eN (RN 2)) (wN cnt (RN 4)) cnt x i).2))), (4, .int (nI (i + 1)))]) (show (nLn (eN (RN 2)) (wN cnt (RN 4)) ((cSq (eN (RN 2)) (wN cnt (RN 4)) cnt x i).1) ((cSq (eN (RN 2)) (wN cnt (RN 4)) cnt x i).2) cnt).2 = nI y9 from hy2)) hl
        refine lv_iload_n hx hb dX2_keepOrder_48 rfl (lv_at hl 3 rfl) ?_
        refine lv_iconst (v := nI 1) hx hb dX2_keepOrder_49 (by decide) ?_
        refine lv_iload hx hb dX2_keepOrder_50 (lv_at hl 0 rfl) ?_
        refine lv_ishl hx hb dX2_keepOrder_52 ?_
        refine x_top (y := nI (2 ^ y9)) (zz_pow (by omega)) ?_
        refine lv_ior hx hb dX2_keepOrder_53 ?_
        refine x_top (y := nI ((cSq (eN (RN 2)) (wN cnt (RN 4)) cnt x i).1 ||| 2 ^ y9)) (zz_or _ _) ?_
        refine lv_istore_n (lv' := [(2, .int (nI ((cSq (eN (RN 2)) (wN cnt (RN 4)) cnt x i).1 ||| 2 ^ y9))), (5, .int (nI y9)), (0, .ref (an 0)), (1, .int (nI x)), (3, .int (nI ((cSq (eN (RN 2)) (wN cnt (RN 4)) cnt x i).2))), (4, .int (nI (i + 1)))]) hx hb dX2_keepOrder_54 rfl hl (by decide) rfl (fun ls hl => ?_)
        refine lv_iload hx hb dX2_keepOrder_55 (lv_at hl 1 rfl) ?_
        refine lv_istore_n (lv' := [(3, .int (nI y9)), (2, .int (nI ((cSq (eN (RN 2)) (wN cnt (RN 4)) cnt x i).1 ||| 2 ^ y9))), (5, .int (nI y9)), (0, .ref (an 0)), (1, .int (nI x)), (4, .int (nI (i + 1)))]) hx hb dX2_keepOrder_57 rfl hl (by decide) rfl (fun ls hl => ?_)
        obtain ⟨hn9, ⟨σ9, hso9⟩, hsr9, hfs9⟩ := hSR y9 hy1
        obtain ⟨qk, hqk⟩ := mx_mem (List.mem_append_right (NW G an FN (va_up RN 6 OR) SR ra rl) (pool_obj (G := G) (aS := aS) (FS := FS) (RS := RS) hso9 (show nm y9 < m12 by omega)))
        refine lv_aload_n hx hb dX2_keepOrder_58 rfl (lv_at hl 3 rfl) ?_
        refine va_get (D := G.1) (ci := 2) (v := .ref (an 7)) (C := RX2) (T := TX2) (N := 8) hx hb hts inX2 hown hK.1 hP 0 rfl rfl 6 (by decide) fl36 (fun _ h9 => h9) rfl dX2_keepOrder_59 ?_
        refine lv_iload hx hb dX2_keepOrder_62 (lv_at hl 5 rfl) ?_
        refine lv_aload_n hx hb dX2_keepOrder_64 rfl (lv_at hl 3 rfl) ?_
        refine va_get (D := G.1) (ci := 2) (v := .ref (an 1)) (C := RX2) (T := TX2) (N := 8) hx hb hts inX2 hown hK.1 hP 0 rfl rfl 0 (by decide) fl11 (fun _ h9 => h9) rfl dX2_keepOrder_65 ?_
        refine lv_iload hx hb dX2_keepOrder_68 (lv_at hl 2 rfl) ?_
        refine x_aald hx hb hK.1 hP 1 2 (n := 12) (f := SR) rfl rfl (k := y9) (by omega) (by omega) dX2_keepOrder_70 ?_
        refine x_topV (y := .ref (aS (nm y9) 0)) (by rw [hsr9]; rfl) ?_
        refine va_get (D := G.1) (ci := 3) (v := .int (FS (nm y9) 0)) (C := RX3) (T := TX3) (N := 19) hx hb hts inX3 hown hK.1 hP qk hqk rfl 0 (by decide) fl61 (fun _ h9 => h9) rfl dX2_keepOrder_71 ?_
        refine x_top (y := nI (nm y9)) (hfs9) ?_
        refine x_iast hx hb hK.1 hP hD hS 5 0 (n := 12) (f := OR) rfl rfl (k := i + 1) (by omega) (by omega) dX2_keepOrder_74 ((NW G an FN (va_up RN 6 (upd OR (i + 1) (nI (nm y9)))) SR ra rl) ++ (pool G so aS FS RS m12)) rfl (fun H locs hP hD hS => ?_)
        have hl : lv_has ls 6 [(3, .int (nI y9)), (2, .int (nI ((cSq (eN (RN 2)) (wN cnt (RN 4)) cnt x (i + 1)).1))), (5, .int (nI y9)), (0, .ref (an 0)), (1, .int (nI x)), (4, .int (nI (i + 1)))] := Eq.mp (congrArg (fun z9 : Int32 => lv_has ls 6 [(3, .int (nI y9)), (2, .int z9), (5, .int (nI y9)), (0, .ref (an 0)), (1, .int (nI x)), (4, .int (nI (i + 1)))]) (show nI ((cSq (eN (RN 2)) (wN cnt (RN 4)) cnt x i).1 ||| 2 ^ y9) = nI ((cSq (eN (RN 2)) (wN cnt (RN 4)) cnt x (i + 1)).1) from by rw [hnm8])) hl
        have hl : lv_has ls 6 [(3, .int (nI ((cSq (eN (RN 2)) (wN cnt (RN 4)) cnt x (i + 1)).2))), (2, .int (nI ((cSq (eN (RN 2)) (wN cnt (RN 4)) cnt x (i + 1)).1))), (5, .int (nI y9)), (0, .ref (an 0)), (1, .int (nI x)), (4, .int (nI (i + 1)))] := Eq.mp (congrArg (fun z9 : Int32 => lv_has ls 6 [(3, .int z9), (2, .int (nI ((cSq (eN (RN 2)) (wN cnt (RN 4)) cnt x (i + 1)).1))), (5, .int (nI y9)), (0, .ref (an 0)), (1, .int (nI x)), (4, .int (nI (i + 1)))]) (show nI y9 = nI ((cSq (eN (RN 2)) (wN cnt (RN 4)) cnt x (i + 1)).2) from by rw [hnm9])) hl
        refine x_iinc (lv' := [(4, .int (nI (i + 1 + 1))), (3, .int (nI ((cSq (eN (RN 2)) (wN cnt (RN 4)) cnt x (i + 1)).2))), (2, .int (nI ((cSq (eN (RN 2)) (wN cnt (RN 4)) cnt x (i + 1)).1))), (5, .int (nI y9)), (0, .ref (an 0)), (1, .int (nI x))]) hx hb dX2_keepOrder_75 hl (k := 5) rfl (x_inc1 _) (by decide) rfl (fun ls hl => ?_)
        refine lv_goto (tgt := 24) hx hb dX2_keepOrder_78 (by decide) ?_
        exact ih24 (i + 1) (upd OR (i + 1) (nI (nm y9))) (by omega) (by omega) (night_s hOR (by rw [hnm9])) _ _ hP hD hS _ (lv_sub hl [4, 5, 2, 1, 0] rfl)
  exact lp24 (cnt - 0 + 1) 0 (upd (RN 6) 0 (nI (nm x))) (Nat.lt_succ_self _) (by omega) (fun z hz => by rw [show z = 0 by omega]; exact if_pos rfl) _ _ hP hD hS _ (lv_sub hl [3, 4, 2, 1, 0] rfl)

set_option maxHeartbeats 4000000 in
set_option maxRecDepth 100000 in
theorem c_X2_init (l : Launch) (G : mx_G) (h0 : Nat) (sz : Nat) : mx_EF l yX2_init wsX2_init 1 21 5 180 G [.ref h0] sz ([(h0, .inr (2, [.null, .int (nI 0), .null, .null, .null, .int (nI 0), .null, .int (nI 0)]))]) (fun _ : (Nat → Nat) × Nat => none) (fun u : (Nat → Nat) × Nat => u.1 0 = h0) (fun u : (Nat → Nat) × Nat => NW G u.1 nF0 (fun _ _ => nI 0) (fun _ => none) u.2 0) := by
  refine Met.ofW (cc := cX2_init) (maxL := 1) (ret := none) (by decide) rfl ?_
  intro p e s m args below meth c s₁ BB hml hv
  obtain ⟨rfl, ⟨hsz, hP, hD0⟩, hK⟩ := hv
  have hx := BB.exec
  have hb := BB.bytes
  have hr := BB.returns
  have hts := atoms_spec (ws := wsX2_init) BB.pre
  have hown : s.vm.findClass RX2 = some m.cls := findClass_of_methodNamed BB.named
  have hlocks := BB.notSynchronized
  have hin : meth.name = "<init>" := (name_of_methodNamed BB.named BB.method).1
  subst hsz
  have hD := hD0.self (sz := s.heap.size)
  have hA : ∀ q : Nat, s.heap.size ≤ q → va_A ([(h0, .inr (2, [.null, .int (nI 0), .null, .null, .null, .int (nI 0), .null, .int (nI 0)]))]) s.heap.size q := fun q h => Or.inr h
  have hS : va_S (va_A ([(h0, .inr (2, [.null, .int (nI 0), .null, .null, .null, .int (nI 0), .null, .int (nI 0)]))]) s.heap.size) s.heap s.heap [] := va_S.rf
  have fl11 := hts (.fieldLink RX2 11 "MixDesk$Nights" "songs" "[LMixDesk$Song;") (by decide +kernel)
  have fl17 := hts (.fieldLink RX2 17 "MixDesk$Nights" "count" "I") (by decide +kernel)
  have fl21 := hts (.fieldLink RX2 21 "MixDesk$Nights" "step" "[I") (by decide +kernel)
  have fl25 := hts (.fieldLink RX2 25 "MixDesk$Nights" "mayBegin" "[Z") (by decide +kernel)
  have fl29 := hts (.fieldLink RX2 29 "MixDesk$Nights" "rest" "[I") (by decide +kernel)
  have fl33 := hts (.fieldLink RX2 33 "MixDesk$Nights" "cost" "I") (by decide +kernel)
  have fl36 := hts (.fieldLink RX2 36 "MixDesk$Nights" "order" "[I") (by decide +kernel)
  have fl39 := hts (.fieldLink RX2 39 "MixDesk$Nights" "told" "I") (by decide +kernel)
  have inX2 : ∀ w ∈ wsX20, w ∈ wsX2_init := by decide +kernel
  have ck32 := hts (.constant RX2 32 (1073741824)) (by decide +kernel)
  have hl := lv_entry ([.ref h0]) (n := 1) (Nat.le_of_ble_eq_true rfl)
  rw [lg_entry_eq]
  generalize (lg_sl ([.ref h0]) ++ List.replicate (1 - (lg_sl ([.ref h0])).length) Slot.unset).toArray = ls at hl ⊢
  have hl : lv_has ls 1 [(0, .ref h0)] := hl
  refine lv_aload_n hx hb dX2_init_0 rfl (lv_at hl 0 rfl) ?_
  refine W.objInit hx hb hown (hts (.methodLink RX2 3 objectInit) (by decide +kernel)) (hts (.instanceMethod objectInit) (by decide +kernel)) (hts (.code objectInit ⟨#[0xb1]⟩ 1 none) (by decide +kernel)) rfl (by rw [hml]; exact hl.1) rfl dX2_init_1 (Nat.le_of_ble_eq_true rfl) (Nat.le_of_ble_eq_true rfl) ?_
  refine W.eq (g2 := F0 m 4 ls []) rfl ?_
  refine lv_aload_n hx hb dX2_init_4 rfl (lv_at hl 0 rfl) ?_
  refine lv_bipush (v := nI 12) hx hb dX2_init_5 (by decide) ?_
  refine x_newS hx hb hown (hts (.classLink RX2 9 RX3) (by decide +kernel)) hK hP hD hS hA (n := 12) (by omega) (Nat.le_of_ble_eq_true rfl) (Nat.le_of_ble_eq_true rfl) dX2_init_7 (fun q1 H hP hD hS => ?_)
  have hP : va_P G.1 vwCl ([(h0, .inr (2, [.null, .int (nI 0), .null, .null, .null, .int (nI 0), .null, .int (nI 0)])), (q1, .inl (G.2.2.2, 12, .inr (.inr (.inr (.inr (fun _ => none))))))]) H := hP
  have hD : va_D _ ([(h0, .inr (2, [.null, .int (nI 0), .null, .null, .null, .int (nI 0), .null, .int (nI 0)])), (q1, .inl (G.2.2.2, 12, .inr (.inr (.inr (.inr (fun _ => none))))))]) := hD
  refine va_putF (D := G.1) (ci := 2) (v := .ref q1) (ty := .array (.object "MixDesk$Song")) (C := RX2) (T := TX2) (N := 8) hx hb hts inX2 tyX2 tyX2_ok nmX2 hown hK.1 hP hD hS 0 rfl rfl 0 (by decide) fl11 (fun _ h9 => h9) rfl hin rfl (by decide +kernel) rfl rfl (Nat.le_of_ble_eq_true rfl) dX2_init_10 (fun H locs hP hD hS => ?_)
  have hP : va_P G.1 vwCl ([(h0, .inr (2, [.ref q1, .int (nI 0), .null, .null, .null, .int (nI 0), .null, .int (nI 0)])), (q1, .inl (G.2.2.2, 12, .inr (.inr (.inr (.inr (fun _ => none))))))]) H := hP
  have hD : va_D _ ([(h0, .inr (2, [.ref q1, .int (nI 0), .null, .null, .null, .int (nI 0), .null, .int (nI 0)])), (q1, .inl (G.2.2.2, 12, .inr (.inr (.inr (.inr (fun _ => none))))))]) := hD
  refine lv_aload_n hx hb dX2_init_13 rfl (lv_at hl 0 rfl) ?_
  refine lv_iconst (v := nI 0) hx hb dX2_init_14 (by decide) ?_
  refine va_put (D := G.1) (ci := 2) (v := .int (nI 0)) (ty := .int) (C := RX2) (T := TX2) (N := 8) hx hb hts inX2 tyX2 tyX2_ok nmX2 hown hK.1 hP hD hS 0 rfl rfl 1 (by decide) fl17 (fun _ h9 => h9) rfl (by decide +kernel) rfl rfl (Nat.le_of_ble_eq_true rfl) dX2_init_15 (fun H locs hP hD hS => ?_)
  have hP : va_P G.1 vwCl ([(h0, .inr (2, [.ref q1, .int (nI 0), .null, .null, .null, .int (nI 0), .null, .int (nI 0)])), (q1, .inl (G.2.2.2, 12, .inr (.inr (.inr (.inr (fun _ => none))))))]) H := hP
  have hD : va_D _ ([(h0, .inr (2, [.ref q1, .int (nI 0), .null, .null, .null, .int (nI 0), .null, .int (nI 0)])), (q1, .inl (G.2.2.2, 12, .inr (.inr (.inr (.inr (fun _ => none))))))]) := hD
  refine lv_aload_n hx hb dX2_init_18 rfl (lv_at hl 0 rfl) ?_
  refine lv_sipush (v := nI 144) hx hb dX2_init_19 (by decide) ?_
  refine x_newI hx hb (hts (.arrayClass .int) (by decide +kernel)) hK hP hD hS hA (n := 144) (by omega) (Nat.le_of_ble_eq_true rfl) (Nat.le_of_ble_eq_true rfl) dX2_init_22 (fun q2 H hP hD hS => ?_)
  have hP : va_P G.1 vwCl ([(h0, .inr (2, [.ref q1, .int (nI 0), .null, .null, .null, .int (nI 0), .null, .int (nI 0)])), (q1, .inl (G.2.2.2, 12, .inr (.inr (.inr (.inr (fun _ => none)))))), (q2, .inl (G.2.1, 144, .inl (fun _ => nI 0)))]) H := hP
  have hD : va_D _ ([(h0, .inr (2, [.ref q1, .int (nI 0), .null, .null, .null, .int (nI 0), .null, .int (nI 0)])), (q1, .inl (G.2.2.2, 12, .inr (.inr (.inr (.inr (fun _ => none)))))), (q2, .inl (G.2.1, 144, .inl (fun _ => nI 0)))]) := hD
  refine va_putF (D := G.1) (ci := 2) (v := .ref q2) (ty := .array .int) (C := RX2) (T := TX2) (N := 8) hx hb hts inX2 tyX2 tyX2_ok nmX2 hown hK.1 hP hD hS 0 rfl rfl 2 (by decide) fl21 (fun _ h9 => h9) rfl hin rfl (by decide +kernel) rfl rfl (Nat.le_of_ble_eq_true rfl) dX2_init_24 (fun H locs hP hD hS => ?_)
  have hP : va_P G.1 vwCl ([(h0, .inr (2, [.ref q1, .int (nI 0), .ref q2, .null, .null, .int (nI 0), .null, .int (nI 0)])), (q1, .inl (G.2.2.2, 12, .inr (.inr (.inr (.inr (fun _ => none)))))), (q2, .inl (G.2.1, 144, .inl (fun _ => nI 0)))]) H := hP
  have hD : va_D _ ([(h0, .inr (2, [.ref q1, .int (nI 0), .ref q2, .null, .null, .int (nI 0), .null, .int (nI 0)])), (q1, .inl (G.2.2.2, 12, .inr (.inr (.inr (.inr (fun _ => none)))))), (q2, .inl (G.2.1, 144, .inl (fun _ => nI 0)))]) := hD
  refine lv_aload_n hx hb dX2_init_27 rfl (lv_at hl 0 rfl) ?_
  refine lv_bipush (v := nI 12) hx hb dX2_init_28 (by decide) ?_
  refine x_newZ hx hb (hts (.arrayClass .boolean) (by decide +kernel)) hK hP hD hS hA (n := 12) (by omega) (Nat.le_of_ble_eq_true rfl) (Nat.le_of_ble_eq_true rfl) dX2_init_30 (fun q3 H hP hD hS => ?_)
  have hP : va_P G.1 vwCl ([(h0, .inr (2, [.ref q1, .int (nI 0), .ref q2, .null, .null, .int (nI 0), .null, .int (nI 0)])), (q1, .inl (G.2.2.2, 12, .inr (.inr (.inr (.inr (fun _ => none)))))), (q2, .inl (G.2.1, 144, .inl (fun _ => nI 0))), (q3, .inl (G.2.2.1, 12, .inl (fun _ => nI 0)))]) H := hP
  have hD : va_D _ ([(h0, .inr (2, [.ref q1, .int (nI 0), .ref q2, .null, .null, .int (nI 0), .null, .int (nI 0)])), (q1, .inl (G.2.2.2, 12, .inr (.inr (.inr (.inr (fun _ => none)))))), (q2, .inl (G.2.1, 144, .inl (fun _ => nI 0))), (q3, .inl (G.2.2.1, 12, .inl (fun _ => nI 0)))]) := hD
  refine va_putF (D := G.1) (ci := 2) (v := .ref q3) (ty := .array .boolean) (C := RX2) (T := TX2) (N := 8) hx hb hts inX2 tyX2 tyX2_ok nmX2 hown hK.1 hP hD hS 0 rfl rfl 3 (by decide) fl25 (fun _ h9 => h9) rfl hin rfl (by decide +kernel) rfl rfl (Nat.le_of_ble_eq_true rfl) dX2_init_32 (fun H locs hP hD hS => ?_)
  have hP : va_P G.1 vwCl ([(h0, .inr (2, [.ref q1, .int (nI 0), .ref q2, .ref q3, .null, .int (nI 0), .null, .int (nI 0)])), (q1, .inl (G.2.2.2, 12, .inr (.inr (.inr (.inr (fun _ => none)))))), (q2, .inl (G.2.1, 144, .inl (fun _ => nI 0))), (q3, .inl (G.2.2.1, 12, .inl (fun _ => nI 0)))]) H := hP
  have hD : va_D _ ([(h0, .inr (2, [.ref q1, .int (nI 0), .ref q2, .ref q3, .null, .int (nI 0), .null, .int (nI 0)])), (q1, .inl (G.2.2.2, 12, .inr (.inr (.inr (.inr (fun _ => none)))))), (q2, .inl (G.2.1, 144, .inl (fun _ => nI 0))), (q3, .inl (G.2.2.1, 12, .inl (fun _ => nI 0)))]) := hD
  refine lv_aload_n hx hb dX2_init_35 rfl (lv_at hl 0 rfl) ?_
  refine lv_iconst (v := nI 0) hx hb dX2_init_36 (by decide) ?_
  refine x_newI hx hb (hts (.arrayClass .int) (by decide +kernel)) hK hP hD hS hA (n := 0) (by omega) (Nat.le_of_ble_eq_true rfl) (Nat.le_of_ble_eq_true rfl) dX2_init_37 (fun q4 H hP hD hS => ?_)
  have hP : va_P G.1 vwCl ([(h0, .inr (2, [.ref q1, .int (nI 0), .ref q2, .ref q3, .null, .int (nI 0), .null, .int (nI 0)])), (q1, .inl (G.2.2.2, 12, .inr (.inr (.inr (.inr (fun _ => none)))))), (q2, .inl (G.2.1, 144, .inl (fun _ => nI 0))), (q3, .inl (G.2.2.1, 12, .inl (fun _ => nI 0))), (q4, .inl (G.2.1, 0, .inl (fun _ => nI 0)))]) H := hP
  have hD : va_D _ ([(h0, .inr (2, [.ref q1, .int (nI 0), .ref q2, .ref q3, .null, .int (nI 0), .null, .int (nI 0)])), (q1, .inl (G.2.2.2, 12, .inr (.inr (.inr (.inr (fun _ => none)))))), (q2, .inl (G.2.1, 144, .inl (fun _ => nI 0))), (q3, .inl (G.2.2.1, 12, .inl (fun _ => nI 0))), (q4, .inl (G.2.1, 0, .inl (fun _ => nI 0)))]) := hD
  refine va_put (D := G.1) (ci := 2) (v := .ref q4) (ty := .array .int) (C := RX2) (T := TX2) (N := 8) hx hb hts inX2 tyX2 tyX2_ok nmX2 hown hK.1 hP hD hS 0 rfl rfl 4 (by decide) fl29 (fun _ h9 => h9) rfl (by decide +kernel) rfl rfl (Nat.le_of_ble_eq_true rfl) dX2_init_39 (fun H locs hP hD hS => ?_)
  have hP : va_P G.1 vwCl ([(h0, .inr (2, [.ref q1, .int (nI 0), .ref q2, .ref q3, .ref q4, .int (nI 0), .null, .int (nI 0)])), (q1, .inl (G.2.2.2, 12, .inr (.inr (.inr (.inr (fun _ => none)))))), (q2, .inl (G.2.1, 144, .inl (fun _ => nI 0))), (q3, .inl (G.2.2.1, 12, .inl (fun _ => nI 0))), (q4, .inl (G.2.1, 0, .inl (fun _ => nI 0)))]) H := hP
  have hD : va_D _ ([(h0, .inr (2, [.ref q1, .int (nI 0), .ref q2, .ref q3, .ref q4, .int (nI 0), .null, .int (nI 0)])), (q1, .inl (G.2.2.2, 12, .inr (.inr (.inr (.inr (fun _ => none)))))), (q2, .inl (G.2.1, 144, .inl (fun _ => nI 0))), (q3, .inl (G.2.2.1, 12, .inl (fun _ => nI 0))), (q4, .inl (G.2.1, 0, .inl (fun _ => nI 0)))]) := hD
  refine lv_aload_n hx hb dX2_init_42 rfl (lv_at hl 0 rfl) ?_
  refine lv_ldc hx hb hown ck32 dX2_init_43 ?_
  refine x_top (y := nI 1073741824) (by decide) ?_
  refine va_put (D := G.1) (ci := 2) (v := .int (nI 1073741824)) (ty := .int) (C := RX2) (T := TX2) (N := 8) hx hb hts inX2 tyX2 tyX2_ok nmX2 hown hK.1 hP hD hS 0 rfl rfl 5 (by decide) fl33 (fun _ h9 => h9) rfl (by decide +kernel) rfl rfl (Nat.le_of_ble_eq_true rfl) dX2_init_45 (fun H locs hP hD hS => ?_)
  have hP : va_P G.1 vwCl ([(h0, .inr (2, [.ref q1, .int (nI 0), .ref q2, .ref q3, .ref q4, .int (nI 1073741824), .null, .int (nI 0)])), (q1, .inl (G.2.2.2, 12, .inr (.inr (.inr (.inr (fun _ => none)))))), (q2, .inl (G.2.1, 144, .inl (fun _ => nI 0))), (q3, .inl (G.2.2.1, 12, .inl (fun _ => nI 0))), (q4, .inl (G.2.1, 0, .inl (fun _ => nI 0)))]) H := hP
  have hD : va_D _ ([(h0, .inr (2, [.ref q1, .int (nI 0), .ref q2, .ref q3, .ref q4, .int (nI 1073741824), .null, .int (nI 0)])), (q1, .inl (G.2.2.2, 12, .inr (.inr (.inr (.inr (fun _ => none)))))), (q2, .inl (G.2.1, 144, .inl (fun _ => nI 0))), (q3, .inl (G.2.2.1, 12, .inl (fun _ => nI 0))), (q4, .inl (G.2.1, 0, .inl (fun _ => nI 0)))]) := hD
  refine lv_aload_n hx hb dX2_init_48 rfl (lv_at hl 0 rfl) ?_
  refine lv_bipush (v := nI 12) hx hb dX2_init_49 (by decide) ?_
  refine x_newI hx hb (hts (.arrayClass .int) (by decide +kernel)) hK hP hD hS hA (n := 12) (by omega) (Nat.le_of_ble_eq_true rfl) (Nat.le_of_ble_eq_true rfl) dX2_init_51 (fun q5 H hP hD hS => ?_)
  have hP : va_P G.1 vwCl ([(h0, .inr (2, [.ref q1, .int (nI 0), .ref q2, .ref q3, .ref q4, .int (nI 1073741824), .null, .int (nI 0)])), (q1, .inl (G.2.2.2, 12, .inr (.inr (.inr (.inr (fun _ => none)))))), (q2, .inl (G.2.1, 144, .inl (fun _ => nI 0))), (q3, .inl (G.2.2.1, 12, .inl (fun _ => nI 0))), (q4, .inl (G.2.1, 0, .inl (fun _ => nI 0))), (q5, .inl (G.2.1, 12, .inl (fun _ => nI 0)))]) H := hP
  have hD : va_D _ ([(h0, .inr (2, [.ref q1, .int (nI 0), .ref q2, .ref q3, .ref q4, .int (nI 1073741824), .null, .int (nI 0)])), (q1, .inl (G.2.2.2, 12, .inr (.inr (.inr (.inr (fun _ => none)))))), (q2, .inl (G.2.1, 144, .inl (fun _ => nI 0))), (q3, .inl (G.2.2.1, 12, .inl (fun _ => nI 0))), (q4, .inl (G.2.1, 0, .inl (fun _ => nI 0))), (q5, .inl (G.2.1, 12, .inl (fun _ => nI 0)))]) := hD
  refine va_putF (D := G.1) (ci := 2) (v := .ref q5) (ty := .array .int) (C := RX2) (T := TX2) (N := 8) hx hb hts inX2 tyX2 tyX2_ok nmX2 hown hK.1 hP hD hS 0 rfl rfl 6 (by decide) fl36 (fun _ h9 => h9) rfl hin rfl (by decide +kernel) rfl rfl (Nat.le_of_ble_eq_true rfl) dX2_init_53 (fun H locs hP hD hS => ?_)
  have hP : va_P G.1 vwCl ([(h0, .inr (2, [.ref q1, .int (nI 0), .ref q2, .ref q3, .ref q4, .int (nI 1073741824), .ref q5, .int (nI 0)])), (q1, .inl (G.2.2.2, 12, .inr (.inr (.inr (.inr (fun _ => none)))))), (q2, .inl (G.2.1, 144, .inl (fun _ => nI 0))), (q3, .inl (G.2.2.1, 12, .inl (fun _ => nI 0))), (q4, .inl (G.2.1, 0, .inl (fun _ => nI 0))), (q5, .inl (G.2.1, 12, .inl (fun _ => nI 0)))]) H := hP
  have hD : va_D _ ([(h0, .inr (2, [.ref q1, .int (nI 0), .ref q2, .ref q3, .ref q4, .int (nI 1073741824), .ref q5, .int (nI 0)])), (q1, .inl (G.2.2.2, 12, .inr (.inr (.inr (.inr (fun _ => none)))))), (q2, .inl (G.2.1, 144, .inl (fun _ => nI 0))), (q3, .inl (G.2.2.1, 12, .inl (fun _ => nI 0))), (q4, .inl (G.2.1, 0, .inl (fun _ => nI 0))), (q5, .inl (G.2.1, 12, .inl (fun _ => nI 0)))]) := hD
  refine lv_aload_n hx hb dX2_init_56 rfl (lv_at hl 0 rfl) ?_
  refine lv_iconst (v := nI 0) hx hb dX2_init_57 (by decide) ?_
  refine va_put (D := G.1) (ci := 2) (v := .int (nI 0)) (ty := .int) (C := RX2) (T := TX2) (N := 8) hx hb hts inX2 tyX2 tyX2_ok nmX2 hown hK.1 hP hD hS 0 rfl rfl 7 (by decide) fl39 (fun _ h9 => h9) rfl (by decide +kernel) rfl rfl (Nat.le_of_ble_eq_true rfl) dX2_init_58 (fun H locs hP hD hS => ?_)
  have hP : va_P G.1 vwCl ([(h0, .inr (2, [.ref q1, .int (nI 0), .ref q2, .ref q3, .ref q4, .int (nI 1073741824), .ref q5, .int (nI 0)])), (q1, .inl (G.2.2.2, 12, .inr (.inr (.inr (.inr (fun _ => none)))))), (q2, .inl (G.2.1, 144, .inl (fun _ => nI 0))), (q3, .inl (G.2.2.1, 12, .inl (fun _ => nI 0))), (q4, .inl (G.2.1, 0, .inl (fun _ => nI 0))), (q5, .inl (G.2.1, 12, .inl (fun _ => nI 0)))]) H := hP
  have hD : va_D _ ([(h0, .inr (2, [.ref q1, .int (nI 0), .ref q2, .ref q3, .ref q4, .int (nI 1073741824), .ref q5, .int (nI 0)])), (q1, .inl (G.2.2.2, 12, .inr (.inr (.inr (.inr (fun _ => none)))))), (q2, .inl (G.2.1, 144, .inl (fun _ => nI 0))), (q3, .inl (G.2.2.1, 12, .inl (fun _ => nI 0))), (q4, .inl (G.2.1, 0, .inl (fun _ => nI 0))), (q5, .inl (G.2.1, 12, .inl (fun _ => nI 0)))]) := hD
  refine W.widen (k := 5) (n := 180) (Nat.le_of_ble_eq_true rfl) (Nat.le_of_ble_eq_true rfl) ?_
  exact W.vret hx hb hr (fun t9 ht9 hW9 => ⟨⟨((fun i : Nat => match i with | 0 => h0 | 1 => q1 | 3 => q2 | 4 => q3 | 7 => q5 | _ => 0), q4), rfl, rfl, by rw [ht9]; exact hP, hD⟩, hS.F ht9⟩) hS.2.2 dX2_init_61
