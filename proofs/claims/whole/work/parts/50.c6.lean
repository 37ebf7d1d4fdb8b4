set_option maxHeartbeats 4000000 in
set_option maxRecDepth 100000 in
theorem c_X0_seekJoin (l : Launch) (G : mx_G) (aj : Nat → Nat) (FJ : Nat → Int32) (RJ : Nat → Nat → Int32)(a1 : Nat → Nat) (F1 : Nat → Int32) (R1 : Nat → Nat → Int32)(a2 : Nat → Nat) (F2 : Nat → Int32) (R2 : Nat → Nat → Int32) (σ τ : Sg) (n sl : Nat) (hN1 : soN F1 σ) (ok : sgOk σ) (hQ1 : soQ F1 R1 σ) (hN2 : soN F2 τ) (ok2 : sgOk τ) (hQ2 : soQ F2 R2 τ) (h1 : 1 ≤ n) (hn : n ≤ 8) (hsl : sl < 1152) (sz : Nat) : mx_EF l yX0_seekJoin wsX0_seekJoin 3 76 0 0 G [.ref (aj 0), .ref (a1 0), .ref (a2 0), .int (nI n), .int (nI sl)] sz ((JW G aj FJ RJ) ++ ((SW G a1 F1 R1) ++ (SW G a2 F2 R2))) (fun _ : (Nat → Int32) × (Nat → Int32) × (Nat → Int32) × (Nat → Int32) × (Nat → Int32) => none) (fun u : (Nat → Int32) × (Nat → Int32) × (Nat → Int32) × (Nat → Int32) × (Nat → Int32) => u.1 sl = cLeast (FJ 0) (FJ 1) (FJ 2) σ τ n ∧ (¬ (bestT (FJ 0) σ τ n).1 = nI 1000000000 → u.2.1 sl = nI (bestT (FJ 0) σ τ n).2.1 ∧ u.2.2.1 sl = nI (bestT (FJ 0) σ τ n).2.2) ∧ ∀ q, q ≠ sl → u.1 q = RJ 3 q ∧ u.2.1 q = RJ 4 q ∧ u.2.2.1 q = RJ 5 q) (fun u : (Nat → Int32) × (Nat → Int32) × (Nat → Int32) × (Nat → Int32) × (Nat → Int32) => JW G aj FJ (va_up (va_up (va_up (va_up (va_up RJ 3 u.1) 4 u.2.1) 5 u.2.2.1) 6 u.2.2.2.1) 7 u.2.2.2.2) ++ (SW G a1 F1 R1 ++ (SW G a2 F2 R2))) := by
  refine Met.ofW (cc := cX0_seekJoin) (maxL := 11) (ret := none) (by decide) rfl ?_
  intro p e s m args below meth c s₁ BB hml hv
  obtain ⟨rfl, ⟨hsz, hP, hD0⟩, hK⟩ := hv
  have hx := BB.exec
  have hb := BB.bytes
  have hr := BB.returns
  have hts := atoms_spec (ws := wsX0_seekJoin) BB.pre
  have hown : s.vm.findClass RX0 = some m.cls := findClass_of_methodNamed BB.named
  have hlocks := BB.notSynchronized
  subst hsz
  have hD := hD0.self (sz := s.heap.size)
  have hA : ∀ q : Nat, s.heap.size ≤ q → va_A ((JW G aj FJ RJ) ++ ((SW G a1 F1 R1) ++ (SW G a2 F2 R2))) s.heap.size q := fun q h => Or.inr h
  have hS : va_S (va_A ((JW G aj FJ RJ) ++ ((SW G a1 F1 R1) ++ (SW G a2 F2 R2))) s.heap.size) s.heap s.heap [] := va_S.rf
  have fl21 := hts (.fieldLink RX0 21 "MixDesk$Joins" "leastCost" "[I") (by decide +kernel)
  have fl25 := hts (.fieldLink RX0 25 "MixDesk$Joins" "leastP" "[I") (by decide +kernel)
  have fl28 := hts (.fieldLink RX0 28 "MixDesk$Joins" "leastQ" "[I") (by decide +kernel)
  have fl31 := hts (.fieldLink RX0 31 "MixDesk$Joins" "late" "[I") (by decide +kernel)
  have fl34 := hts (.fieldLink RX0 34 "MixDesk$Joins" "early" "[I") (by decide +kernel)
  have inX0 : ∀ w ∈ wsX00, w ∈ wsX0_seekJoin := by decide +kernel
  have ck72 := hts (.constant RX0 72 (1073741824)) (by decide +kernel)
  have hl := lv_entry ([.ref (aj 0), .ref (a1 0), .ref (a2 0), .int (nI n), .int (nI sl)]) (n := 11) (Nat.le_of_ble_eq_true rfl)
  rw [lg_entry_eq]
  generalize (lg_sl ([.ref (aj 0), .ref (a1 0), .ref (a2 0), .int (nI n), .int (nI sl)]) ++ List.replicate (11 - (lg_sl ([.ref (aj 0), .ref (a1 0), .ref (a2 0), .int (nI n), .int (nI sl)])).length) Slot.unset).toArray = ls at hl ⊢
  have hl : lv_has ls 11 [(0, .ref (aj 0)), (1, .ref (a1 0)), (2, .ref (a2 0)), (3, .int (nI n)), (4, .int (nI sl))] := hl
  refine lv_aload_n hx hb dX0_seekJoin_0 rfl (lv_at hl 0 rfl) ?_
  refine lv_aload_n hx hb dX0_seekJoin_1 rfl (lv_at hl 1 rfl) ?_
  refine lv_iload_n hx hb dX0_seekJoin_2 rfl (lv_at hl 3 rfl) ?_
  refine mx_callEi (va_runV (As := [.ref (a1 0), .int (nI n)]) (rest := []) ⟨hx, hb, hml, hown, hts⟩ (c_X0_listLate l G aj FJ RJ a1 F1 R1 σ n hN1 ok hQ1 h1 hn _) (cwV 2 hts gX0_seekJoin_X0_listLate rfl rfl rfl (by decide +kernel) ⟨Nat.le_of_ble_eq_true rfl, Nat.le_of_ble_eq_true rfl⟩) (mx_preV hK ⟨rfl, mx_cut hP hD (a := (JW G aj FJ RJ) ++ (SW G a1 F1 R1)) (b := SW G a2 F2 R2) (mx_perm (fun n9 hn9 => by simp only [hn9, List.append_nil]; omega))⟩ (va_recv hK.1 hP (ci := 0) (q0 := 0) rfl rfl)) rfl rfl hl.1 rfl (lv_room (Nat.le_of_ble_eq_true rfl)) dX0_seekJoin_3 ⟨Nat.zero_le _, Nat.zero_le _⟩) hP hD hS hA (((mx_perm (fun n9 hn9 => by simp only [hn9, List.append_nil]; omega)) : List.Perm _ (((JW G aj FJ RJ) ++ (SW G a1 F1 R1)) ++ (SW G a2 F2 R2)))) (fun uL H locs huL hP hD hS => ?_)
  have hP : va_P G.1 vwCl ((JW G aj FJ (va_up RJ 6 uL)) ++ ((SW G a1 F1 R1) ++ (SW G a2 F2 R2))) H := mx_Pperm hP (mx_perm (fun n9 hn9 => by simp only [hn9, List.append_nil]; omega))
  have hD : va_D _ ((JW G aj FJ (va_up RJ 6 uL)) ++ ((SW G a1 F1 R1) ++ (SW G a2 F2 R2))) := mx_Dperm hD (mx_perm (fun n9 hn9 => by simp only [hn9, List.append_nil]; omega))
  refine lv_istore (lv' := [(5, .int (nI ((kS (alC (R1 18) n) (fun d => gPB σ + 1 - n - 1 - d) (cuC σ n) (gPB σ + 1 - n)).1))), (0, .ref (aj 0)), (1, .ref (a1 0)), (2, .ref (a2 0)), (3, .int (nI n)), (4, .int (nI sl))]) hx hb dX0_seekJoin_6 hl (by decide) rfl (fun ls hl => ?_)
  refine lv_aload_n hx hb dX0_seekJoin_8 rfl (lv_at hl 1 rfl) ?_
  refine lv_aload_n hx hb dX0_seekJoin_9 rfl (lv_at hl 3 rfl) ?_
  refine lv_iload_n hx hb dX0_seekJoin_10 rfl (lv_at hl 4 rfl) ?_
  refine mx_callEi (va_runV (As := [.ref (a2 0), .int (nI n)]) (rest := []) ⟨hx, hb, hml, hown, hts⟩ (c_X0_listEarly l G aj FJ (va_up RJ 6 uL) a2 F2 R2 τ n hN2 ok2 hQ2 h1 hn _) (cwV 2 hts gX0_seekJoin_X0_listEarly rfl rfl rfl (by decide +kernel) ⟨Nat.le_of_ble_eq_true rfl, Nat.le_of_ble_eq_true rfl⟩) (mx_preV hK ⟨rfl, mx_cut hP hD (a := (JW G aj FJ (va_up RJ 6 uL)) ++ (SW G a2 F2 R2)) (b := SW G a1 F1 R1) (mx_perm (fun n9 hn9 => by simp only [hn9, List.append_nil]; omega))⟩ (va_recv hK.1 hP (ci := 0) (q0 := 0) rfl rfl)) rfl rfl hl.1 rfl (lv_room (Nat.le_of_ble_eq_true rfl)) dX0_seekJoin_11 ⟨Nat.zero_le _, Nat.zero_le _⟩) hP hD hS hA (((mx_perm (fun n9 hn9 => by simp only [hn9, List.append_nil]; omega)) : List.Perm _ (((JW G aj FJ (va_up RJ 6 uL)) ++ (SW G a2 F2 R2)) ++ (SW G a1 F1 R1)))) (fun uE H locs huE hP hD hS => ?_)
  have hP : va_P G.1 vwCl ((JW G aj FJ (va_up (va_up RJ 6 uL) 7 uE)) ++ ((SW G a1 F1 R1) ++ (SW G a2 F2 R2))) H := mx_Pperm hP (mx_perm (fun n9 hn9 => by simp only [hn9, List.append_nil]; omega))
  have hD : va_D _ ((JW G aj FJ (va_up (va_up RJ 6 uL) 7 uE)) ++ ((SW G a1 F1 R1) ++ (SW G a2 F2 R2))) := mx_Dperm hD (mx_perm (fun n9 hn9 => by simp only [hn9, List.append_nil]; omega))
  refine lv_istore (lv' := [(6, .int (nI ((kS (alC (R2 18) n) (fun d => d) (cuC τ n) (gPB τ + 1 - n)).1))), (5, .int (nI ((kS (alC (R1 18) n) (fun d => gPB σ + 1 - n - 1 - d) (cuC σ n) (gPB σ + 1 - n)).1))), (0, .ref (aj 0)), (1, .ref (a1 0)), (2, .ref (a2 0)), (3, .int (nI n)), (4, .int (nI sl))]) hx hb dX0_seekJoin_14 hl (by decide) rfl (fun ls hl => ?_)
  have srel := seek_rel (bd := FJ 0) ok ok2 hQ1 hQ2 h1 hn
  have hfl := kS_le (al := alC (R1 18) n) (x := fun d => gPB σ + 1 - n - 1 - d) (cd := cuC σ n) (gPB σ + 1 - n)
  have hfe := kS_le (al := alC (R2 18) n) (x := fun d => d) (cd := cuC τ n) (gPB τ + 1 - n)
  have hpb := gPB_le ok
  have hpb2 := gPB_le ok2
  have hLk : ∀ i, i < (kS (alC (R1 18) n) (fun d => gPB σ + 1 - n - 1 - d) (cuC σ n) (gPB σ + 1 - n)).1 → (kS (alC (R1 18) n) (fun d => gPB σ + 1 - n - 1 - d) (cuC σ n) (gPB σ + 1 - n)).2 i + n ≤ gPB σ ∧ ∀ j, j < 4 * n → R1 18 (4 * (kS (alC (R1 18) n) (fun d => gPB σ + 1 - n - 1 - d) (cuC σ n) (gPB σ + 1 - n)).2 i + j) = gRow σ (4 * (kS (alC (R1 18) n) (fun d => gPB σ + 1 - n - 1 - d) (cuC σ n) (gPB σ + 1 - n)).2 i + j) := fun i hi => by obtain ⟨z9, -, y9, x9⟩ := kS_mem _ i hi; rw [y9]; exact la_row ok hQ1 h1 x9.1
  have hEk : ∀ i, i < (kS (alC (R2 18) n) (fun d => d) (cuC τ n) (gPB τ + 1 - n)).1 → (kS (alC (R2 18) n) (fun d => d) (cuC τ n) (gPB τ + 1 - n)).2 i + n ≤ gPB τ ∧ ∀ j, j < 4 * n → R2 18 (4 * (kS (alC (R2 18) n) (fun d => d) (cuC τ n) (gPB τ + 1 - n)).2 i + j) = gRow τ (4 * (kS (alC (R2 18) n) (fun d => d) (cuC τ n) (gPB τ + 1 - n)).2 i + j) := fun i hi => by obtain ⟨z9, -, y9, x9⟩ := kS_mem _ i hi; rw [y9]; exact la_row ok2 hQ2 h1 x9.1
  generalize (kS (alC (R1 18) n) (fun d => gPB σ + 1 - n - 1 - d) (cuC σ n) (gPB σ + 1 - n)) = fl at huL srel hfl hLk hl
  generalize (kS (alC (R2 18) n) (fun d => d) (cuC τ n) (gPB τ + 1 - n)) = fe at huE srel hfe hEk hl
  refine lv_ldc hx hb hown ck72 dX0_seekJoin_16 ?_
  refine x_top (y := nI 1073741824) (by decide) ?_
  refine lv_istore (lv' := [(7, .int (nI 1073741824)), (6, .int (nI fe.1)), (5, .int (nI fl.1)), (0, .ref (aj 0)), (1, .ref (a1 0)), (2, .ref (a2 0)), (3, .int (nI n)), (4, .int (nI sl))]) hx hb dX0_seekJoin_18 hl (by decide) rfl (fun ls hl => ?_)
  have hl : lv_has ls 11 [(7, .int ((cAll (jCost (FJ 0) σ τ n) fl.2 fe.2 fe.1 0).1)), (6, .int (nI fe.1)), (5, .int (nI fl.1)), (0, .ref (aj 0)), (1, .ref (a1 0)), (2, .ref (a2 0)), (3, .int (nI n)), (4, .int (nI sl))] := Eq.mp (congrArg (fun z9 : Int32 => lv_has ls 11 [(7, .int z9), (6, .int (nI fe.1)), (5, .int (nI fl.1)), (0, .ref (aj 0)), (1, .ref (a1 0)), (2, .ref (a2 0)), (3, .int (nI n)), (4, .int (nI sl))]) (show nI 1073741824 = (cAll (jCost (FJ 0) σ τ n) fl.2 fe.2 fe.1 0).1 from rfl)) hl
  refine lv_iconst (v := nI 0) hx hb dX0_seekJoin_20 (by decide) ?_
  refine lv_istore (lv' := [(8, .int (nI 0)), (7, .int ((cAll (jCost (FJ 0) σ τ n) fl.2 fe.2 fe.1 0).1)), (6, .int (nI fe.1)), (5, .int (nI fl.1)), (0, .ref (aj 0)), (1, .ref (a1 0)), (2, .ref (a2 0)), (3, .int (nI n)), (4, .int (nI sl))]) hx hb dX0_seekJoin_21 hl (by decide) rfl (fun ls hl => ?_)
  have lp23 : ∀ (nn : Nat) (i : Nat) (LP : Nat → Int32) (LQ : Nat → Int32), fl.1 - i < nn → (i ≤ fl.1) → (¬ (cAll (jCost (FJ 0) σ τ n) fl.2 fe.2 fe.1 i).1 = nI 1073741824 → LP sl = nI (cAll (jCost (FJ 0) σ τ n) fl.2 fe.2 fe.1 i).2.1 ∧ LQ sl = nI (cAll (jCost (FJ 0) σ τ n) fl.2 fe.2 fe.1 i).2.2) → (∀ q, q ≠ sl → LP q = RJ 4 q ∧ LQ q = RJ 5 q) → ∀ (H : Heap) (locs : List Loc), va_P G.1 vwCl ((JW G aj FJ (va_up (va_up (va_up (va_up RJ 6 uL) 7 uE) 4 LP) 5 LQ)) ++ ((SW G a1 F1 R1) ++ (SW G a2 F2 R2))) H → va_D (va_A ((JW G aj FJ RJ) ++ ((SW G a1 F1 R1) ++ (SW G a2 F2 R2))) s.heap.size) ((JW G aj FJ (va_up (va_up (va_up (va_up RJ 6 uL) 7 uE) 4 LP) 5 LQ)) ++ ((SW G a1 F1 R1) ++ (SW G a2 F2 R2))) → va_S (va_A ((JW G aj FJ RJ) ++ ((SW G a1 F1 R1) ++ (SW G a2 F2 R2))) s.heap.size) s.heap H locs → ∀ ls : Array Slot, lv_has ls 11 [(0, .ref (aj 0)), (1, .ref (a1 0)), (2, .ref (a2 0)), (3, .int (nI n)), (4, .int (nI sl)), (5, .int (nI fl.1)), (6, .int (nI fe.1)), (7, .int ((cAll (jCost (FJ 0) σ τ n) fl.2 fe.2 fe.1 i).1)), (8, .int (nI i))] → mx_WE l wsX0_seekJoin 3 76 0 0 G p e s m (([.ref (aj 0), .ref (a1 0), .ref (a2 0), .int (nI n), .int (nI sl)] : List Value).toArray) below meth c ((JW G aj FJ RJ) ++ ((SW G a1 F1 R1) ++ (SW G a2 F2 R2))) (fun _ : (Nat → Int32) × (Nat → Int32) × (Nat → Int32) × (Nat → Int32) × (Nat → Int32) => none) (fun u : (Nat → Int32) × (Nat → Int32) × (Nat → Int32) × (Nat → Int32) × (Nat → Int32) => u.1 sl = cLeast (FJ 0) (FJ 1) (FJ 2) σ τ n ∧ (¬ (bestT (FJ 0) σ τ n).1 = nI 1000000000 → u.2.1 sl = nI (bestT (FJ 0) σ τ n).2.1 ∧ u.2.2.1 sl = nI (bestT (FJ 0) σ τ n).2.2) ∧ ∀ q, q ≠ sl → u.1 q = RJ 3 q ∧ u.2.1 q = RJ 4 q ∧ u.2.2.1 q = RJ 5 q) (fun u : (Nat → Int32) × (Nat → Int32) × (Nat → Int32) × (Nat → Int32) × (Nat → Int32) => JW G aj FJ (va_up (va_up (va_up (va_up (va_up RJ 3 u.1) 4 u.2.1) 5 u.2.2.1) 6 u.2.2.2.1) 7 u.2.2.2.2) ++ (SW G a1 F1 R1 ++ (SW G a2 F2 R2))) H locs 0 0 (F0 m 23 ls []) := by
    intro nn
    induction nn with
    | zero => intro i LP LQ hmu; exact absurd hmu (Nat.not_lt_zero _)
    | succ nn ih23 =>
      intro i LP LQ hmu hi hF hKp H locs hP hD hS ls hl
      refine lv_iload hx hb dX0_seekJoin_23 (lv_at hl 8 rfl) ?_
      refine lv_iload hx hb dX0_seekJoin_25 (lv_at hl 5 rfl) ?_
      refine x_icmp_ge (tgt := 116) hx hb (by omega) (by omega) dX0_seekJoin_27 (by decide) (fun c_27 => ?_) (fun c_27 => ?_)
      · have hl : lv_has ls 11 [(0, .ref (aj 0)), (1, .ref (a1 0)), (2, .ref (a2 0)), (3, .int (nI n)), (4, .int (nI sl)), (5, .int (nI fl.1)), (6, .int (nI fe.1)), (7, .int ((cAll (jCost (FJ 0) σ τ n) fl.2 fe.2 fe.1 fl.1).1)), (8, .int (nI i))] := Eq.mp (congrArg (fun z9 : Int32 => lv_has ls 11 [(0, .ref (aj 0)), (1, .ref (a1 0)), (2, .ref (a2 0)), (3, .int (nI n)), (4, .int (nI sl)), (5, .int (nI fl.1)), (6, .int (nI fe.1)), (7, .int z9), (8, .int (nI i))]) (show (cAll (jCost (FJ 0) σ τ n) fl.2 fe.2 fe.1 i).1 = (cAll (jCost (FJ 0) σ τ n) fl.2 fe.2 fe.1 fl.1).1 from by rw [show i = fl.1 by omega])) hl
        refine lv_aload_n hx hb dX0_seekJoin_116 rfl (lv_at hl 0 rfl) ?_
        refine va_get (D := G.1) (ci := 0) (v := .ref (aj 4)) (C := RX0) (T := TX0) (N := 8) hx hb hts inX0 hown hK.1 hP 0 rfl rfl 3 (by decide) fl21 (fun _ h9 => h9) rfl dX0_seekJoin_117 ?_
        refine lv_iload hx hb dX0_seekJoin_120 (lv_at hl 4 rfl) ?_
        refine lv_iload hx hb dX0_seekJoin_122 (lv_at hl 7 rfl) ?_
        refine lv_ldc hx hb hown ck72 dX0_seekJoin_124 ?_
        refine x_top (y := nI 1073741824) (by decide) ?_
        refine lv_icmp_ne (tgt := 134) hx hb dX0_seekJoin_126 (by decide) (fun c_126 => ?_) (fun c_126 => ?_)
        · refine lv_iload hx hb dX0_seekJoin_134 (lv_at hl 7 rfl) ?_
          refine lv_aload_n hx hb dX0_seekJoin_136 rfl (lv_at hl 0 rfl) ?_
          refine lv_aload_n hx hb dX0_seekJoin_137 rfl (lv_at hl 1 rfl) ?_
          refine lv_aload_n hx hb dX0_seekJoin_138 rfl (lv_at hl 2 rfl) ?_
          refine mx_callRO (v := .int (malways (FJ 1) (FJ 2) σ τ)) (va_runV (As := [.ref (a1 0), .ref (a2 0)]) (rest := [.int ((cAll (jCost (FJ 0) σ τ n) fl.2 fe.2 fe.1 fl.1).1), .int (nI sl), .ref (aj 4)]) ⟨hx, hb, hml, hown, hts⟩ (c_X0_apart l G aj FJ (va_up (va_up (va_up (va_up RJ 6 uL) 7 uE) 4 LP) 5 LQ) a1 F1 R1 a2 F2 R2 σ τ hN1.2.2.2.2.1 hN1.2.2.2.2.2.1 hN2.2.2.2.2.1 hN2.2.2.2.2.2.1) (cwV 2 hts gX0_seekJoin_X0_apart rfl rfl rfl (by decide +kernel) ⟨Nat.le_of_ble_eq_true rfl, Nat.le_of_ble_eq_true rfl⟩) (mx_preV hK hP (va_recv hK.1 hP (ci := 0) (q0 := 0) rfl rfl)) rfl rfl hl.1 rfl (lv_room (Nat.le_of_ble_eq_true rfl)) dX0_seekJoin_139 ⟨Nat.zero_le _, Nat.zero_le _⟩) ?_
          refine lv_iadd hx hb dX0_seekJoin_142 ?_
          refine x_iast hx hb hK.1 hP hD hS 1 0 (n := 1152) (f := RJ 3) rfl rfl (k := sl) (by omega) (by omega) dX0_seekJoin_143 ((JW G aj FJ (va_up (va_up (va_up (va_up (va_up RJ 6 uL) 7 uE) 4 LP) 5 LQ) 3 (upd (RJ 3) sl (((cAll (jCost (FJ 0) σ τ n) fl.2 fe.2 fe.1 fl.1).1) + (malways (FJ 1) (FJ 2) σ τ))))) ++ ((SW G a1 F1 R1) ++ (SW G a2 F2 R2))) rfl (fun H locs hP hD hS => ?_)
          exact W.vret hx hb hr (fun t9 ht9 hW9 => ⟨⟨(upd (RJ 3) sl (((cAll (jCost (FJ 0) σ τ n) fl.2 fe.2 fe.1 fl.1).1) + (malways (FJ 1) (FJ 2) σ τ)), LP, LQ, uL, uE), rfl, ⟨(if_pos rfl).trans (sk_2 srel c_126), sk_3 srel (by rw [show fl.1 = i by omega]; exact hF), fun q hq => ⟨if_neg hq, (hKp q hq).1, (hKp q hq).2⟩⟩, by rw [ht9]; exact hP, hD⟩, hS.F ht9⟩) hS.2.2 dX0_seekJoin_144
        · refine lv_ldc hx hb hown ck72 dX0_seekJoin_129 ?_
          refine x_top (y := nI 1073741824) (by decide) ?_
          refine lv_goto (tgt := 143) hx hb dX0_seekJoin_131 (by decide) ?_
          refine x_iast hx hb hK.1 hP hD hS 1 0 (n := 1152) (f := RJ 3) rfl rfl (k := sl) (by omega) (by omega) dX0_seekJoin_143 ((JW G aj FJ (va_up (va_up (va_up (va_up (va_up RJ 6 uL) 7 uE) 4 LP) 5 LQ) 3 (upd (RJ 3) sl (nI 1073741824)))) ++ ((SW G a1 F1 R1) ++ (SW G a2 F2 R2))) rfl (fun H locs hP hD hS => ?_)
          exact W.vret hx hb hr (fun t9 ht9 hW9 => ⟨⟨(upd (RJ 3) sl (nI 1073741824), LP, LQ, uL, uE), rfl, ⟨(if_pos rfl).trans (sk_1 srel c_126), sk_3 srel (by rw [show fl.1 = i by omega]; exact hF), fun q hq => ⟨if_neg hq, (hKp q hq).1, (hKp q hq).2⟩⟩, by rw [ht9]; exact hP, hD⟩, hS.F ht9⟩) hS.2.2 dX0_seekJoin_144
      · have hl : lv_has ls 11 [(0, .ref (aj 0)), (1, .ref (a1 0)), (2, .ref (a2 0)), (3, .int (nI n)), (4, .int (nI sl)), (5, .int (nI fl.1)), (6, .int (nI fe.1)), (7, .int ((cAll (jCost (FJ 0) σ τ n) fl.2 fe.2 fe.1 i).1)), (8, .int (nI i))] := Eq.mp (congrArg (fun z9 : Int32 => lv_has ls 11 [(0, .ref (aj 0)), (1, .ref (a1 0)), (2, .ref (a2 0)), (3, .int (nI n)), (4, .int (nI sl)), (5, .int (nI fl.1)), (6, .int (nI fe.1)), (7, .int z9), (8, .int (nI i))]) (show (cAll (jCost (FJ 0) σ τ n) fl.2 fe.2 fe.1 i).1 = (cAll (jCost (FJ 0) σ τ n) fl.2 fe.2 fe.1 i).1 from rfl)) hl
        refine lv_iconst (v := nI 0) hx hb dX0_seekJoin_30 (by decide) ?_
        refine lv_istore (lv' := [(9, .int (nI 0)), (0, .ref (aj 0)), (1, .ref (a1 0)), (2, .ref (a2 0)), (3, .int (nI n)), (4, .int (nI sl)), (5, .int (nI fl.1)), (6, .int (nI fe.1)), (7, .int ((cAll (jCost (FJ 0) σ τ n) fl.2 fe.2 fe.1 i).1)), (8, .int (nI i))]) hx hb dX0_seekJoin_31 hl (by decide) rfl (fun ls hl => ?_)
        have lp33 : ∀ (nn : Nat) (k : Nat) (LP2 : Nat → Int32) (LQ2 : Nat → Int32), fe.1 - k < nn → (k ≤ fe.1) → (¬ (cRow (jCost (FJ 0) σ τ n) (fl.2 i) fe.2 (cAll (jCost (FJ 0) σ τ n) fl.2 fe.2 fe.1 i) k).1 = nI 1073741824 → LP2 sl = nI (cRow (jCost (FJ 0) σ τ n) (fl.2 i) fe.2 (cAll (jCost (FJ 0) σ τ n) fl.2 fe.2 fe.1 i) k).2.1 ∧ LQ2 sl = nI (cRow (jCost (FJ 0) σ τ n) (fl.2 i) fe.2 (cAll (jCost (FJ 0) σ τ n) fl.2 fe.2 fe.1 i) k).2.2) → (∀ q, q ≠ sl → LP2 q = RJ 4 q ∧ LQ2 q = RJ 5 q) → ∀ (H : Heap) (locs : List Loc), va_P G.1 vwCl ((JW G aj FJ (va_up (va_up (va_up (va_up RJ 6 uL) 7 uE) 4 LP2) 5 LQ2)) ++ ((SW G a1 F1 R1) ++ (SW G a2 F2 R2))) H → va_D (va_A ((JW G aj FJ RJ) ++ ((SW G a1 F1 R1) ++ (SW G a2 F2 R2))) s.heap.size) ((JW G aj FJ (va_up (va_up (va_up (va_up RJ 6 uL) 7 uE) 4 LP2) 5 LQ2)) ++ ((SW G a1 F1 R1) ++ (SW G a2 F2 R2))) → va_S (va_A ((JW G aj FJ RJ) ++ ((SW G a1 F1 R1) ++ (SW G a2 F2 R2))) s.heap.size) s.heap H locs → ∀ ls : Array Slot, lv_has ls 11 [(0, .ref (aj 0)), (1, .ref (a1 0)), (2, .ref (a2 0)), (3, .int (nI n)), (4, .int (nI sl)), (5, .int (nI fl.1)), (6, .int (nI fe.1)), (7, .int ((cRow (jCost (FJ 0) σ τ n) (fl.2 i) fe.2 (cAll (jCost (FJ 0) σ τ n) fl.2 fe.2 fe.1 i) k).1)), (8, .int (nI i)), (9, .int (nI k))] → mx_WE l wsX0_seekJoin 3 76 0 0 G p e s m (([.ref (aj 0), .ref (a1 0), .ref (a2 0), .int (nI n), .int (nI sl)] : List Value).toArray) below meth c ((JW G aj FJ RJ) ++ ((SW G a1 F1 R1) ++ (SW G a2 F2 R2))) (fun _ : (Nat → Int32) × (Nat → Int32) × (Nat → Int32) × (Nat → Int32) × (Nat → Int32) => none) (fun u : (Nat → Int32) × (Nat → Int32) × (Nat → Int32) × (Nat → Int32) × (Nat → Int32) => u.1 sl = cLeast (FJ 0) (FJ 1) (FJ 2) σ τ n ∧ (¬ (bestT (FJ 0) σ τ n).1 = nI 1000000000 → u.2.1 sl = nI (bestT (FJ 0) σ τ n).2.1 ∧ u.2.2.1 sl = nI (bestT (FJ 0) σ τ n).2.2) ∧ ∀ q, q ≠ sl → u.1 q = RJ 3 q ∧ u.2.1 q = RJ 4 q ∧ u.2.2.1 q = RJ 5 q) (fun u : (Nat → Int32) × (Nat → Int32) × (Nat → Int32) × (Nat → Int32) × (Nat → Int32) => JW G aj FJ (va_up (va_up (va_up (va_up (va_up RJ 3 u.1) 4 u.2.1) 5 u.2.2.1) 6 u.2.2.2.1) 7 u.2.2.2.2) ++ (SW G a1 F1 R1 ++ (SW G a2 F2 R2))) H locs 0 0 (F0 m 33 ls []) := by
          intro nn
          induction nn with
          | zero => intro k LP2 LQ2 hmu; exact absurd hmu (Nat.not_lt_zero _)
          | succ nn ih33 =>
            intro k LP2 LQ2 hmu hk hF2 hK2 H locs hP hD hS ls hl
            refine lv_iload hx hb dX0_seekJoin_33 (lv_at hl 9 rfl) ?_
            refine lv_iload hx hb dX0_seekJoin_35 (lv_at hl 6 rfl) ?_
            refine x_icmp_ge (tgt := 110) hx hb (by omega) (by omega) dX0_seekJoin_37 (by decide) (fun c_37 => ?_) (fun c_37 => ?_)
            · have hl : lv_has ls 11 [(0, .ref (aj 0)), (1, .ref (a1 0)), (2, .ref (a2 0)), (3, .int (nI n)), (4, .int (nI sl)), (5, .int (nI fl.1)), (6, .int (nI fe.1)), (7, .int ((cAll (jCost (FJ 0) σ τ n) fl.2 fe.2 fe.1 (i + 1)).1)), (8, .int (nI i)), (9, .int (nI k))] := Eq.mp (congrArg (fun z9 : Int32 => lv_has ls 11 [(0, .ref (aj 0)), (1, .ref (a1 0)), (2, .ref (a2 0)), (3, .int (nI n)), (4, .int (nI sl)), (5, .int (nI fl.1)), (6, .int (nI fe.1)), (7, .int z9), (8, .int (nI i)), (9, .int (nI k))]) (show (cRow (jCost (FJ 0) σ τ n) (fl.2 i) fe.2 (cAll (jCost (FJ 0) σ τ n) fl.2 fe.2 fe.1 i) k).1 = (cAll (jCost (FJ 0) σ τ n) fl.2 fe.2 fe.1 (i + 1)).1 from by rw [show k = fe.1 by omega]; rfl)) hl
              refine x_iinc (lv' := [(8, .int (nI (i + 1))), (0, .ref (aj 0)), (1, .ref (a1 0)), (2, .ref (a2 0)), (3, .int (nI n)), (4, .int (nI sl)), (5, .int (nI fl.1)), (6, .int (nI fe.1)), (7, .int ((cAll (jCost (FJ 0) σ τ n) fl.2 fe.2 fe.1 (i + 1)).1)), (9, .int (nI k))]) hx hb dX0_seekJoin_110 hl (k := 8) rfl (x_inc1 _) (by decide) rfl (fun ls hl => ?_)
              refine lv_goto (tgt := 23) hx hb dX0_seekJoin_113 (by decide) ?_
              exact ih23 (i + 1) LP2 LQ2 (by omega) (by omega) (by have h9 := hF2; rw [show k = fe.1 by omega] at h9; exact h9) (hK2) _ _ hP hD hS _ (lv_sub hl [1, 2, 3, 4, 5, 6, 7, 8, 0] rfl)
            · have hL9 := hLk i (by omega)
              have hE9 := hEk k (by omega)
              refine lv_aload_n hx hb dX0_seekJoin_40 rfl (lv_at hl 0 rfl) ?_
              refine lv_aload_n hx hb dX0_seekJoin_41 rfl (lv_at hl 1 rfl) ?_
              refine lv_aload_n hx hb dX0_seekJoin_42 rfl (lv_at hl 2 rfl) ?_
              refine lv_iload_n hx hb dX0_seekJoin_43 rfl (lv_at hl 3 rfl) ?_
              refine lv_aload_n hx hb dX0_seekJoin_44 rfl (lv_at hl 0 rfl) ?_
              refine va_get (D := G.1) (ci := 0) (v := .ref (aj 7)) (C := RX0) (T := TX0) (N := 8) hx hb hts inX0 hown hK.1 hP 0 rfl rfl 6 (by decide) fl31 (fun _ h9 => h9) rfl dX0_seekJoin_45 ?_
              refine lv_iload hx hb dX0_seekJoin_48 (lv_at hl 8 rfl) ?_
              refine x_iald hx hb hK.1 hP 4 0 (n := 64) (f := uL) rfl rfl (k := i) (by omega) (by omega) dX0_seekJoin_50 ?_
              refine x_top (y := nI (fl.2 i)) (huL i (by omega)) ?_
              refine lv_aload_n hx hb dX0_seekJoin_51 rfl (lv_at hl 0 rfl) ?_
              refine va_get (D := G.1) (ci := 0) (v := .ref (aj 8)) (C := RX0) (T := TX0) (N := 8) hx hb hts inX0 hown hK.1 hP 0 rfl rfl 7 (by decide) fl34 (fun _ h9 => h9) rfl dX0_seekJoin_52 ?_
              refine lv_iload hx hb dX0_seekJoin_55 (lv_at hl 9 rfl) ?_
              refine x_iald hx hb hK.1 hP 5 0 (n := 64) (f := uE) rfl rfl (k := k) (by omega) (by omega) dX0_seekJoin_57 ?_
              refine x_top (y := nI (fe.2 k)) (huE k (by omega)) ?_
              refine lv_iload hx hb dX0_seekJoin_58 (lv_at hl 7 rfl) ?_
              refine mx_callRO (v := .int (bentL (jCost (FJ 0) σ τ n (fl.2 i) (fe.2 k)) ((cRow (jCost (FJ 0) σ τ n) (fl.2 i) fe.2 (cAll (jCost (FJ 0) σ τ n) fl.2 fe.2 fe.1 i) k).1))) (va_runV (As := [.ref (a1 0), .ref (a2 0), .int (nI n), .int (nI (fl.2 i)), .int (nI (fe.2 k)), .int ((cRow (jCost (FJ 0) σ τ n) (fl.2 i) fe.2 (cAll (jCost (FJ 0) σ τ n) fl.2 fe.2 fe.1 i) k).1)]) (rest := []) ⟨hx, hb, hml, hown, hts⟩ (c_X0_bentBy l G aj FJ (va_up (va_up (va_up (va_up RJ 6 uL) 7 uE) 4 LP2) 5 LQ2) a1 F1 R1 a2 F2 R2 σ τ n (fl.2 i) (fe.2 k) ((cRow (jCost (FJ 0) σ τ n) (fl.2 i) fe.2 (cAll (jCost (FJ 0) σ τ n) fl.2 fe.2 fe.1 i) k).1) ok ok2 h1 hn (by omega) (by omega) hL9.2 hE9.2) (cwV 6 hts gX0_seekJoin_X0_bentBy rfl rfl rfl (by decide +kernel) ⟨Nat.le_of_ble_eq_true rfl, Nat.le_of_ble_eq_true rfl⟩) (mx_preV hK hP (va_recv hK.1 hP (ci := 0) (q0 := 0) rfl rfl)) rfl rfl hl.1 rfl (lv_room (Nat.le_of_ble_eq_true rfl)) dX0_seekJoin_60 ⟨Nat.zero_le _, Nat.zero_le _⟩) ?_
              refine lv_istore (lv' := [(10, .int (bentL (jCost (FJ 0) σ τ n (fl.2 i) (fe.2 k)) ((cRow (jCost (FJ 0) σ τ n) (fl.2 i) fe.2 (cAll (jCost (FJ 0) σ τ n) fl.2 fe.2 fe.1 i) k).1))), (0, .ref (aj 0)), (1, .ref (a1 0)), (2, .ref (a2 0)), (3, .int (nI n)), (4, .int (nI sl)), (5, .int (nI fl.1)), (6, .int (nI fe.1)), (7, .int ((cRow (jCost (FJ 0) σ τ n) (fl.2 i) fe.2 (cAll (jCost (FJ 0) σ τ n) fl.2 fe.2 fe.1 i) k).1)), (8, .int (nI i)), (9, .int (nI k))]) hx hb dX0_seekJoin_63 hl (by decide) rfl (fun ls hl => ?_)
              refine lv_iload hx hb dX0_seekJoin_65 (lv_at hl 0 rfl) ?_
              refine lv_iload hx hb dX0_seekJoin_67 (lv_at hl 8 rfl) ?_
              refine lv_icmp_ge (tgt := 104) hx hb dX0_seekJoin_69 (by decide) (fun c_69 => ?_) (fun c_69 => ?_)
              · have hl : lv_has ls 11 [(10, .int (bentL (jCost (FJ 0) σ τ n (fl.2 i) (fe.2 k)) ((cRow (jCost (FJ 0) σ τ n) (fl.2 i) fe.2 (cAll (jCost (FJ 0) σ τ n) fl.2 fe.2 fe.1 i) k).1))), (0, .ref (aj 0)), (1, .ref (a1 0)), (2, .ref (a2 0)), (3, .int (nI n)), (4, .int (nI sl)), (5, .int (nI fl.1)), (6, .int (nI fe.1)), (7, .int ((cRow (jCost (FJ 0) σ τ n) (fl.2 i) fe.2 (cAll (jCost (FJ 0) σ τ n) fl.2 fe.2 fe.1 i) (k + 1)).1)), (8, .int (nI i)), (9, .int (nI k))] := Eq.mp (congrArg (fun z9 : Int32 => lv_has ls 11 [(10, .int (bentL (jCost (FJ 0) σ τ n (fl.2 i) (fe.2 k)) ((cRow (jCost (FJ 0) σ τ n) (fl.2 i) fe.2 (cAll (jCost (FJ 0) σ τ n) fl.2 fe.2 fe.1 i) k).1))), (0, .ref (aj 0)), (1, .ref (a1 0)), (2, .ref (a2 0)), (3, .int (nI n)), (4, .int (nI sl)), (5, .int (nI fl.1)), (6, .int (nI fe.1)), (7, .int z9), (8, .int (nI i)), (9, .int (nI k))]) (show (cRow (jCost (FJ 0) σ τ n) (fl.2 i) fe.2 (cAll (jCost (FJ 0) σ τ n) fl.2 fe.2 fe.1 i) k).1 = (cRow (jCost (FJ 0) σ τ n) (fl.2 i) fe.2 (cAll (jCost (FJ 0) σ τ n) fl.2 fe.2 fe.1 i) (k + 1)).1 from (congrArg Prod.fst (sC_no (Int32.not_lt.mpr c_69))).symm)) hl
                refine x_iinc (lv' := [(9, .int (nI (k + 1))), (10, .int (bentL (jCost (FJ 0) σ τ n (fl.2 i) (fe.2 k)) ((cRow (jCost (FJ 0) σ τ n) (fl.2 i) fe.2 (cAll (jCost (FJ 0) σ τ n) fl.2 fe.2 fe.1 i) k).1))), (0, .ref (aj 0)), (1, .ref (a1 0)), (2, .ref (a2 0)), (3, .int (nI n)), (4, .int (nI sl)), (5, .int (nI fl.1)), (6, .int (nI fe.1)), (7, .int ((cRow (jCost (FJ 0) σ τ n) (fl.2 i) fe.2 (cAll (jCost (FJ 0) σ τ n) fl.2 fe.2 fe.1 i) (k + 1)).1)), (8, .int (nI i))]) hx hb dX0_seekJoin_104 hl (k := 10) rfl (x_inc1 _) (by decide) rfl (fun ls hl => ?_)
                refine lv_goto (tgt := 33) hx hb dX0_seekJoin_107 (by decide) ?_
                exact ih33 (k + 1) LP2 LQ2 (by omega) (by omega) (by rw [show (cRow (jCost (FJ 0) σ τ n) (fl.2 i) fe.2 (cAll (jCost (FJ 0) σ τ n) fl.2 fe.2 fe.1 i) (k + 1)) = (cRow (jCost (FJ 0) σ τ n) (fl.2 i) fe.2 (cAll (jCost (FJ 0) σ τ n) fl.2 fe.2 fe.1 i) k) from sC_no (Int32.not_lt.mpr c_69)]; exact hF2) (hK2) _ _ hP hD hS _ (lv_sub hl [2, 3, 4, 5, 6, 7, 8, 9, 10, 0] rfl)
              · refine lv_iload hx hb dX0_seekJoin_72 (lv_at hl 0 rfl) ?_
                refine lv_istore (lv' := [(7, .int (bentL (jCost (FJ 0) σ τ n (fl.2 i) (fe.2 k)) ((cRow (jCost (FJ 0) σ τ n) (fl.2 i) fe.2 (cAll (jCost (FJ 0) σ τ n) fl.2 fe.2 fe.1 i) k).1))), (10, .int (bentL (jCost (FJ 0) σ τ n (fl.2 i) (fe.2 k)) ((cRow (jCost (FJ 0) σ τ n) (fl.2 i) fe.2 (cAll (jCost (FJ 0) σ τ n) fl.2 fe.2 fe.1 i) k).1))), (0, .ref (aj 0)), (1, .ref (a1 0)), (2, .ref (a2 0)), (3, .int (nI n)), (4, .int (nI sl)), (5, .int (nI fl.1)), (6, .int (nI fe.1)), (8, .int (nI i)), (9, .int (nI k))]) hx hb dX0_seekJoin_74 hl (by decide) rfl (fun ls hl => ?_)
                refine lv_aload_n hx hb dX0_seekJoin_76 rfl (lv_at hl 2 rfl) ?_
                refine va_get (D := G.1) (ci := 0) (v := .ref (aj 5)) (C := RX0) (T := TX0) (N := 8) hx hb hts inX0 hown hK.1 hP 0 rfl rfl 4 (by decide) fl25 (fun _ h9 => h9) rfl dX0_seekJoin_77 ?_
                refine lv_iload hx hb dX0_seekJoin_80 (lv_at hl 6 rfl) ?_
                refine lv_aload_n hx hb dX0_seekJoin_82 rfl (lv_at hl 2 rfl) ?_
                refine va_get (D := G.1) (ci := 0) (v := .ref (aj 7)) (C := RX0) (T := TX0) (N := 8) hx hb hts inX0 hown hK.1 hP 0 rfl rfl 6 (by decide) fl31 (fun _ h9 => h9) rfl dX0_seekJoin_83 ?_
                refine lv_iload hx hb dX0_seekJoin_86 (lv_at hl 9 rfl) ?_
                refine x_iald hx hb hK.1 hP 4 0 (n := 64) (f := uL) rfl rfl (k := i) (by omega) (by omega) dX0_seekJoin_88 ?_
                refine x_top (y := nI (fl.2 i)) (huL i (by omega)) ?_
                refine x_iast hx hb hK.1 hP hD hS 2 0 (n := 1152) (f := LP2) rfl rfl (k := sl) (by omega) (by omega) dX0_seekJoin_89 ((JW G aj FJ (va_up (va_up (va_up (va_up RJ 6 uL) 7 uE) 5 LQ2) 4 (upd LP2 sl (nI (fl.2 i))))) ++ ((SW G a1 F1 R1) ++ (SW G a2 F2 R2))) rfl (fun H locs hP hD hS => ?_)
                refine lv_aload_n hx hb dX0_seekJoin_90 rfl (lv_at hl 2 rfl) ?_
                refine va_get (D := G.1) (ci := 0) (v := .ref (aj 6)) (C := RX0) (T := TX0) (N := 8) hx hb hts inX0 hown hK.1 hP 0 rfl rfl 5 (by decide) fl28 (fun _ h9 => h9) rfl dX0_seekJoin_91 ?_
                refine lv_iload hx hb dX0_seekJoin_94 (lv_at hl 6 rfl) ?_
                refine lv_aload_n hx hb dX0_seekJoin_96 rfl (lv_at hl 2 rfl) ?_
                refine va_get (D := G.1) (ci := 0) (v := .ref (aj 8)) (C := RX0) (T := TX0) (N := 8) hx hb hts inX0 hown hK.1 hP 0 rfl rfl 7 (by decide) fl34 (fun _ h9 => h9) rfl dX0_seekJoin_97 ?_
                refine lv_iload hx hb dX0_seekJoin_100 (lv_at hl 10 rfl) ?_
                refine x_iald hx hb hK.1 hP 5 0 (n := 64) (f := uE) rfl rfl (k := k) (by omega) (by omega) dX0_seekJoin_102 ?_
                refine x_top (y := nI (fe.2 k)) (huE k (by omega)) ?_
                refine x_iast hx hb hK.1 hP hD hS 3 0 (n := 1152) (f := LQ2) rfl rfl (k := sl) (by omega) (by omega) dX0_seekJoin_103 ((JW G aj FJ (va_up (va_up (va_up (va_up RJ 6 uL) 7 uE) 4 (upd LP2 sl (nI (fl.2 i)))) 5 (upd LQ2 sl (nI (fe.2 k))))) ++ ((SW G a1 F1 R1) ++ (SW G a2 F2 R2))) rfl (fun H locs hP hD hS => ?_)
                have hl : lv_has ls 11 [(7, .int ((cRow (jCost (FJ 0) σ τ n) (fl.2 i) fe.2 (cAll (jCost (FJ 0) σ τ n) fl.2 fe.2 fe.1 i) (k + 1)).1)), (10, .int (bentL (jCost (FJ 0) σ τ n (fl.2 i) (fe.2 k)) ((cRow (jCost (FJ 0) σ τ n) (fl.2 i) fe.2 (cAll (jCost (FJ 0) σ τ n) fl.2 fe.2 fe.1 i) k).1))), (0, .ref (aj 0)), (1, .ref (a1 0)), (2, .ref (a2 0)), (3, .int (nI n)), (4, .int (nI sl)), (5, .int (nI fl.1)), (6, .int (nI fe.1)), (8, .int (nI i)), (9, .int (nI k))] := Eq.mp (congrArg (fun z9 : Int32 => lv_has ls 11 [(7, .int z9), (10, .int (bentL (jCost (FJ 0) σ τ n (fl.2 i) (fe.2 k)) ((cRow (jCost (FJ 0) σ τ n) (fl.2 i) fe.2 (cAll (jCost (FJ 0) σ τ n) fl.2 fe.2 fe.1 i) k).1))), (0, .ref (aj 0)), (1, .ref (a1 0)), (2, .ref (a2 0)), (3, .int (nI n)), (4, .int (nI sl)), (5, .int (nI fl.1)), (6, .int (nI fe.1)), (8, .int (nI i)), (9, .int (nI k))]) (show bentL (jCost (FJ 0) σ τ n (fl.2 i) (fe.2 k)) ((cRow (jCost (FJ 0) σ τ n) (fl.2 i) fe.2 (cAll (jCost (FJ 0) σ τ n) fl.2 fe.2 fe.1 i) k).1) = (cRow (jCost (FJ 0) σ τ n) (fl.2 i) fe.2 (cAll (jCost (FJ 0) σ τ n) fl.2 fe.2 fe.1 i) (k + 1)).1 from (congrArg Prod.fst (sC_yes (Int32.not_le.mp c_69))).symm)) hl
                refine x_iinc (lv' := [(9, .int (nI (k + 1))), (7, .int ((cRow (jCost (FJ 0) σ τ n) (fl.2 i) fe.2 (cAll (jCost (FJ 0) σ τ n) fl.2 fe.2 fe.1 i) (k + 1)).1)), (10, .int (bentL (jCost (FJ 0) σ τ n (fl.2 i) (fe.2 k)) ((cRow (jCost (FJ 0) σ τ n) (fl.2 i) fe.2 (cAll (jCost (FJ 0) σ τ n) fl.2 fe.2 fe.1 i) k).1))), (0, .ref (aj 0)), (1, .ref (a1 0)), (2, .ref (a2 0)), (3, .int (nI n)), (4, .int (nI sl)), (5, .int (nI fl.1)), (6, .int (nI fe.1)), (8, .int (nI i))]) hx hb dX0_seekJoin_104 hl (k := 10) rfl (x_inc1 _) (by decide) rfl (fun ls hl => ?_)
                refine lv_goto (tgt := 33) hx hb dX0_seekJoin_107 (by decide) ?_
                exact ih33 (k + 1) (upd LP2 sl (nI (fl.2 i))) (upd LQ2 sl (nI (fe.2 k))) (by omega) (by omega) (fun _ => by rw [show (cRow (jCost (FJ 0) σ τ n) (fl.2 i) fe.2 (cAll (jCost (FJ 0) σ τ n) fl.2 fe.2 fe.1 i) (k + 1)) = (bentL ((jCost (FJ 0) σ τ n) (fl.2 i) (fe.2 k)) (cRow (jCost (FJ 0) σ τ n) (fl.2 i) fe.2 (cAll (jCost (FJ 0) σ τ n) fl.2 fe.2 fe.1 i) k).1, fl.2 i, fe.2 k) from sC_yes (Int32.not_le.mp c_69)]; exact ⟨if_pos rfl, if_pos rfl⟩) (fun q hq => ⟨(if_neg hq).trans (hK2 q hq).1, (if_neg hq).trans (hK2 q hq).2⟩) _ _ hP hD hS _ (lv_sub hl [3, 4, 5, 6, 7, 8, 9, 1, 10, 0] rfl)
        exact lp33 (fe.1 - 0 + 1) 0 LP LQ (Nat.lt_succ_self _) (by omega) (hF) (hKp) _ _ hP hD hS _ (lv_sub hl [1, 2, 3, 4, 5, 6, 7, 8, 9, 0] rfl)
  exact lp23 (fl.1 - 0 + 1) 0 (RJ 4) (RJ 5) (Nat.lt_succ_self _) (by omega) (fun q => absurd rfl q) (fun q hq => ⟨rfl, rfl⟩) _ _ hP hD hS _ (lv_sub hl [4, 5, 6, 7, 8, 3, 2, 1, 0] rfl)

set_option maxHeartbeats 4000000 in
set_option maxRecDepth 100000 in
theorem c_X0_slotOf (l : Launch) (G : mx_G) (aj : Nat → Nat) (FJ : Nat → Int32) (RJ : Nat → Nat → Int32)(a1 : Nat → Nat) (F1 : Nat → Int32) (R1 : Nat → Nat → Int32)(a2 : Nat → Nat) (F2 : Nat → Int32) (R2 : Nat → Nat → Int32) (σ τ : Sg) (n a b : Nat) (hN1 : soN F1 σ) (ok : sgOk σ) (hQ1 : soQ F1 R1 σ) (hN2 : soN F2 τ) (ok2 : sgOk τ) (hQ2 : soQ F2 R2 τ) (h1 : 1 ≤ n) (hn : n ≤ 8) (ha : a < 12) (hb9 : b < 12) (g1 : F1 0 = nI a) (g2 : F2 0 = nI b) (hC : RJ 3 (slotN a b n) = (-1) ∨ cellOk (FJ 0) (FJ 1) (FJ 2) σ τ n (RJ 3 (slotN a b n)) (RJ 4 (slotN a b n)) (RJ 5 (slotN a b n))) (sz : Nat) : mx_EF l yX0_slotOf wsX0_slotOf 4 106 0 0 G [.ref (aj 0), .ref (a1 0), .ref (a2 0), .int (nI n)] sz ((JW G aj FJ RJ) ++ ((SW G a1 F1 R1) ++ (SW G a2 F2 R2))) (fun _ : (Nat → Int32) × (Nat → Int32) × (Nat → Int32) × (Nat → Int32) × (Nat → Int32) => some (.int (nI (slotN a b n)))) (fun u : (Nat → Int32) × (Nat → Int32) × (Nat → Int32) × (Nat → Int32) × (Nat → Int32) => cellOk (FJ 0) (FJ 1) (FJ 2) σ τ n (u.1 (slotN a b n)) (u.2.1 (slotN a b n)) (u.2.2.1 (slotN a b n)) ∧ ∀ q, q ≠ (slotN a b n) → u.1 q = RJ 3 q ∧ u.2.1 q = RJ 4 q ∧ u.2.2.1 q = RJ 5 q) (fun u : (Nat → Int32) × (Nat → Int32) × (Nat → Int32) × (Nat → Int32) × (Nat → Int32) => JW G aj FJ (va_up (va_up (va_up (va_up (va_up RJ 3 u.1) 4 u.2.1) 5 u.2.2.1) 6 u.2.2.2.1) 7 u.2.2.2.2) ++ (SW G a1 F1 R1 ++ (SW G a2 F2 R2))) := by
  refine Met.ofW (cc := cX0_slotOf) (maxL := 5) (ret := (some .int)) (by decide) rfl ?_
  intro p e s m args below meth c s₁ BB hml hv
  obtain ⟨rfl, ⟨hsz, hP, hD0⟩, hK⟩ := hv
  have hx := BB.exec
  have hb := BB.bytes
  have hr := BB.returns
  have hts := atoms_spec (ws := wsX0_slotOf) BB.pre
  have hown : s.vm.findClass RX0 = some m.cls := findClass_of_methodNamed BB.named
  have hlocks := BB.notSynchronized
  subst hsz
  have hD := hD0.self (sz := s.heap.size)
  have hA : ∀ q : Nat, s.heap.size ≤ q → va_A ((JW G aj FJ RJ) ++ ((SW G a1 F1 R1) ++ (SW G a2 F2 R2))) s.heap.size q := fun q h => Or.inr h
  have hS : va_S (va_A ((JW G aj FJ RJ) ++ ((SW G a1 F1 R1) ++ (SW G a2 F2 R2))) s.heap.size) s.heap s.heap [] := va_S.rf
  have hslt := slotN_lt ha hb9 hn
  have fl21 := hts (.fieldLink RX0 21 "MixDesk$Joins" "leastCost" "[I") (by decide +kernel)
  have fl47 := hts (.fieldLink RX0 47 "MixDesk$Song" "number" "I") (by decide +kernel)
  have inX0 : ∀ w ∈ wsX00, w ∈ wsX0_slotOf := by decide +kernel
  have inX3 : ∀ w ∈ wsX30, w ∈ wsX0_slotOf := by decide +kernel
  have hl := lv_entry ([.ref (aj 0), .ref (a1 0), .ref (a2 0), .int (nI n)]) (n := 5) (Nat.le_of_ble_eq_true rfl)
  rw [lg_entry_eq]
  generalize (lg_sl ([.ref (aj 0), .ref (a1 0), .ref (a2 0), .int (nI n)]) ++ List.replicate (5 - (lg_sl ([.ref (aj 0), .ref (a1 0), .ref (a2 0), .int (nI n)])).length) Slot.unset).toArray = ls at hl ⊢
  have hl : lv_has ls 5 [(0, .ref (aj 0)), (1, .ref (a1 0)), (2, .ref (a2 0)), (3, .int (nI n))] := hl
  refine lv_aload_n hx hb dX0_slotOf_0 rfl (lv_at hl 1 rfl) ?_
  refine va_get (D := G.1) (ci := 3) (v := .int (F1 0)) (C := RX3) (T := TX3) (N := 19) hx hb hts inX3 hown hK.1 hP 6 rfl rfl 0 (by decide) fl47 (fun _ h9 => h9) rfl dX0_slotOf_1 ?_
  refine x_top (y := nI a) (g1) ?_
  refine lv_aload_n hx hb dX0_slotOf_4 rfl (lv_at hl 2 rfl) ?_
  refine va_get (D := G.1) (ci := 3) (v := .int (F2 0)) (C := RX3) (T := TX3) (N := 19) hx hb hts inX3 hown hK.1 hP 14 rfl rfl 0 (by decide) fl47 (fun _ h9 => h9) rfl dX0_slotOf_5 ?_
  refine x_top (y := nI b) (g2) ?_
  refine lv_iload_n hx hb dX0_slotOf_8 rfl (lv_at hl 3 rfl) ?_
  refine mx_callRO (v := .int (nI (slotN a b n))) (va_runS (As := [.int (nI a), .int (nI b), .int (nI n)]) (rest := []) ⟨hx, hb, hml, hown, hts⟩ (c_X0_slot l G a b n (by omega)) (va_cwS 3 hts gX0_slotOf_X0_slot rfl rfl rfl (by decide +kernel) ⟨Nat.le_of_ble_eq_true rfl, Nat.le_of_ble_eq_true rfl⟩) (mx_preS hK trivial) rfl rfl hl.1 rfl (lv_room (Nat.le_of_ble_eq_true rfl)) dX0_slotOf_9 ⟨Nat.zero_le _, Nat.zero_le _⟩) ?_
  refine lv_istore (lv' := [(4, .int (nI (slotN a b n))), (0, .ref (aj 0)), (1, .ref (a1 0)), (2, .ref (a2 0)), (3, .int (nI n))]) hx hb dX0_slotOf_12 hl (by decide) rfl (fun ls hl => ?_)
  refine lv_aload_n hx hb dX0_slotOf_14 rfl (lv_at hl 1 rfl) ?_
  refine va_get (D := G.1) (ci := 0) (v := .ref (aj 4)) (C := RX0) (T := TX0) (N := 8) hx hb hts inX0 hown hK.1 hP 0 rfl rfl 3 (by decide) fl21 (fun _ h9 => h9) rfl dX0_slotOf_15 ?_
  refine lv_iload hx hb dX0_slotOf_18 (lv_at hl 0 rfl) ?_
  refine x_iald hx hb hK.1 hP 1 0 (n := 1152) (f := RJ 3) rfl rfl (k := slotN a b n) (by omega) (by omega) dX0_slotOf_20 ?_
  refine lv_iconst (v := (-1)) hx hb dX0_slotOf_21 (by decide) ?_
  refine lv_icmp_ne (tgt := 34) hx hb dX0_slotOf_22 (by decide) (fun c_22 => ?_) (fun c_22 => ?_)
  · refine lv_iload hx hb dX0_slotOf_34 (lv_at hl 0 rfl) ?_
    exact W.iret (v := nI (slotN a b n)) hx hb hr (fun t9 ht9 hW9 => ⟨⟨(RJ 3, RJ 4, RJ 5, RJ 6, RJ 7), rfl, ⟨hC.elim (fun q => absurd q c_22) id, fun q _ => ⟨rfl, rfl, rfl⟩⟩, by rw [ht9]; exact hP, hD⟩, hS.F ht9⟩) hS.2.2 dX0_slotOf_36
  · refine lv_aload_n hx hb dX0_slotOf_25 rfl (lv_at hl 1 rfl) ?_
    refine lv_aload_n hx hb dX0_slotOf_26 rfl (lv_at hl 2 rfl) ?_
    refine lv_aload_n hx hb dX0_slotOf_27 rfl (lv_at hl 3 rfl) ?_
    refine lv_iload_n hx hb dX0_slotOf_28 rfl (lv_at hl 4 rfl) ?_
    refine lv_iload hx hb dX0_slotOf_29 (lv_at hl 0 rfl) ?_
    refine mx_callEv (va_runV (As := [.ref (a1 0), .ref (a2 0), .int (nI n), .int (nI (slotN a b n))]) (rest := []) ⟨hx, hb, hml, hown, hts⟩ (c_X0_seekJoin l G aj FJ RJ a1 F1 R1 a2 F2 R2 σ τ n (slotN a b n) hN1 ok hQ1 hN2 ok2 hQ2 h1 hn (by assumption) _) (cwV 4 hts gX0_slotOf_X0_seekJoin rfl rfl rfl (by decide +kernel) ⟨Nat.le_of_ble_eq_true rfl, Nat.le_of_ble_eq_true rfl⟩) (mx_preV hK ⟨rfl, hP, mx_any hD (fun _ _ => trivial)⟩ (va_recv hK.1 hP (ci := 0) (q0 := 0) rfl rfl)) rfl rfl hl.1 rfl (lv_room (Nat.le_of_ble_eq_true rfl)) dX0_slotOf_31 ⟨Nat.zero_le _, Nat.zero_le _⟩) hP hD hS hA (mx_perm0) (fun us H locs hus hP hD hS => ?_)
    rw [List.append_nil] at hP hD
    have hP : va_P G.1 vwCl ((JW G aj FJ (va_up (va_up (va_up (va_up (va_up RJ 3 us.1) 4 us.2.1) 5 us.2.2.1) 6 us.2.2.2.1) 7 us.2.2.2.2)) ++ ((SW G a1 F1 R1) ++ (SW G a2 F2 R2))) H := hP
    have hD : va_D _ ((JW G aj FJ (va_up (va_up (va_up (va_up (va_up RJ 3 us.1) 4 us.2.1) 5 us.2.2.1) 6 us.2.2.2.1) 7 us.2.2.2.2)) ++ ((SW G a1 F1 R1) ++ (SW G a2 F2 R2))) := hD
    refine lv_iload hx hb dX0_slotOf_34 (lv_at hl 0 rfl) ?_
    exact W.iret (v := nI (slotN a b n)) hx hb hr (fun t9 ht9 hW9 => ⟨⟨us, rfl, ⟨⟨hus.1, hus.2.1⟩, hus.2.2⟩, by rw [ht9]; exact hP, hD⟩, hS.F ht9⟩) hS.2.2 dX0_slotOf_36

set_option maxHeartbeats 4000000 in
set_option maxRecDepth 100000 in
theorem c_X0_forgetJoinsOf (l : Launch) (G : mx_G) (aj : Nat → Nat) (FJ : Nat → Int32) (RJ : Nat → Nat → Int32) (s9 : Nat) (hs9 : s9 < 12) (sz : Nat) : mx_EF l yX0_forgetJoinsOf wsX0_forgetJoinsOf 1 22 0 0 G [.ref (aj 0), .int (nI s9)] sz (JW G aj FJ RJ) (fun _ : Nat → Int32 => none) (fun u : Nat → Int32 => ∀ n a b, 1 ≤ n → n ≤ 8 → a < 12 → b < 12 → u (slotN a b n) = if a = s9 ∨ b = s9 then (-1) else RJ 3 (slotN a b n)) (fun u : Nat → Int32 => JW G aj FJ (va_up RJ 3 u)) := by
  refine Met.ofW (cc := cX0_forgetJoinsOf) (maxL := 4) (ret := none) (by decide) rfl ?_
  intro p e s m args below meth c s₁ BB hml hv
  obtain ⟨rfl, ⟨hsz, hP, hD0⟩, hK⟩ := hv
  have hx := BB.exec
  have hb := BB.bytes
  have hr := BB.returns
  have hts := atoms_spec (ws := wsX0_forgetJoinsOf) BB.pre
  have hown : s.vm.findClass RX0 = some m.cls := findClass_of_methodNamed BB.named
  have hlocks := BB.notSynchronized
  subst hsz
  have hD := hD0.self (sz := s.heap.size)
  have hA : ∀ q : Nat, s.heap.size ≤ q → va_A (JW G aj FJ RJ) s.heap.size q := fun q h => Or.inr h
  have hS : va_S (va_A (JW G aj FJ RJ) s.heap.size) s.heap s.heap [] := va_S.rf
  have fl21 := hts (.fieldLink RX0 21 "MixDesk$Joins" "leastCost" "[I") (by decide +kernel)
  have inX0 : ∀ w ∈ wsX00, w ∈ wsX0_forgetJoinsOf := by decide +kernel
  have hl := lv_entry ([.ref (aj 0), .int (nI s9)]) (n := 4) (Nat.le_of_ble_eq_true rfl)
  rw [lg_entry_eq]
  generalize (lg_sl ([.ref (aj 0), .int (nI s9)]) ++ List.replicate (4 - (lg_sl ([.ref (aj 0), .int (nI s9)])).length) Slot.unset).toArray = ls at hl ⊢
  have hl : lv_has ls 4 [(0, .ref (aj 0)), (1, .int (nI s9))] := hl
  refine lv_iconst (v := nI 1) hx hb dX0_forgetJoinsOf_0 (by decide) ?_
  refine lv_istore_n (lv' := [(2, .int (nI 1)), (0, .ref (aj 0)), (1, .int (nI s9))]) hx hb dX0_forgetJoinsOf_1 rfl hl (by decide) rfl (fun ls hl => ?_)
  have lp2 : ∀ (nn : Nat) (n : Nat) (LC : Nat → Int32), 9 - n < nn → (1 ≤ n) → (n ≤ 9) → (forgC LC (RJ 3) s9 n 0) → ∀ (H : Heap) (locs : List Loc), va_P G.1 vwCl (JW G aj FJ (va_up RJ 3 LC)) H → va_D (va_A (JW G aj FJ RJ) s.heap.size) (JW G aj FJ (va_up RJ 3 LC)) → va_S (va_A (JW G aj FJ RJ) s.heap.size) s.heap H locs → ∀ ls : Array Slot, lv_has ls 4 [(0, .ref (aj 0)), (1, .int (nI s9)), (2, .int (nI n))] → mx_WE l wsX0_forgetJoinsOf 1 22 0 0 G p e s m (([.ref (aj 0), .int (nI s9)] : List Value).toArray) below meth c (JW G aj FJ RJ) (fun _ : Nat → Int32 => none) (fun u : Nat → Int32 => ∀ n a b, 1 ≤ n → n ≤ 8 → a < 12 → b < 12 → u (slotN a b n) = if a = s9 ∨ b = s9 then (-1) else RJ 3 (slotN a b n)) (fun u : Nat → Int32 => JW G aj FJ (va_up RJ 3 u)) H locs 0 0 (F0 m 2 ls []) := by
    intro nn
    induction nn with
    | zero => intro n LC hmu; exact absurd hmu (Nat.not_lt_zero _)
    | succ nn ih2 =>
      intro n LC hmu hn1 hn9 hfc H locs hP hD hS ls hl
      refine lv_iload_n hx hb dX0_forgetJoinsOf_2 rfl (lv_at hl 2 rfl) ?_
      refine lv_bipush (v := nI 8) hx hb dX0_forgetJoinsOf_3 (by decide) ?_
      refine x_icmp_gt (tgt := 52) hx hb (by omega) (by omega) dX0_forgetJoinsOf_5 (by decide) (fun c_5 => ?_) (fun c_5 => ?_)
      · exact W.vret hx hb hr (fun t9 ht9 hW9 => ⟨⟨LC, rfl, forgC_e (by omega) hfc, by rw [ht9]; exact hP, hD⟩, hS.F ht9⟩) hS.2.2 dX0_forgetJoinsOf_52
      · refine lv_iconst (v := nI 0) hx hb dX0_forgetJoinsOf_8 (by decide) ?_
        refine lv_istore_n (lv' := [(3, .int (nI 0)), (0, .ref (aj 0)), (1, .int (nI s9)), (2, .int (nI n))]) hx hb dX0_forgetJoinsOf_9 rfl hl (by decide) rfl (fun ls hl => ?_)
        have lp10 : ∀ (nn : Nat) (o : Nat) (LC2 : Nat → Int32), 12 - o < nn → (o ≤ 12) → (forgC LC2 (RJ 3) s9 n o) → ∀ (H : Heap) (locs : List Loc), va_P G.1 vwCl (JW G aj FJ (va_up RJ 3 LC2)) H → va_D (va_A (JW G aj FJ RJ) s.heap.size) (JW G aj FJ (va_up RJ 3 LC2)) → va_S (va_A (JW G aj FJ RJ) s.heap.size) s.heap H locs → ∀ ls : Array Slot, lv_has ls 4 [(0, .ref (aj 0)), (1, .int (nI s9)), (2, .int (nI n)), (3, .int (nI o))] → mx_WE l wsX0_forgetJoinsOf 1 22 0 0 G p e s m (([.ref (aj 0), .int (nI s9)] : List Value).toArray) below meth c (JW G aj FJ RJ) (fun _ : Nat → Int32 => none) (fun u : Nat → Int32 => ∀ n a b, 1 ≤ n → n ≤ 8 → a < 12 → b < 12 → u (slotN a b n) = if a = s9 ∨ b = s9 then (-1) else RJ 3 (slotN a b n)) (fun u : Nat → Int32 => JW G aj FJ (va_up RJ 3 u)) H locs 0 0 (F0 m 10 ls []) := by
          intro nn
          induction nn with
          | zero => intro o LC2 hmu; exact absurd hmu (Nat.not_lt_zero _)
          | succ nn ih10 =>
            intro o LC2 hmu ho hfo H locs hP hD hS ls hl
            refine lv_iload_n hx hb dX0_forgetJoinsOf_10 rfl (lv_at hl 3 rfl) ?_
            refine lv_bipush (v := nI 12) hx hb dX0_forgetJoinsOf_11 (by decide) ?_
            refine x_icmp_ge (tgt := 46) hx hb (by omega) (by omega) dX0_forgetJoinsOf_13 (by decide) (fun c_13 => ?_) (fun c_13 => ?_)
            · refine x_iinc (lv' := [(2, .int (nI (n + 1))), (0, .ref (aj 0)), (1, .int (nI s9)), (3, .int (nI o))]) hx hb dX0_forgetJoinsOf_46 hl (k := 2) rfl (x_inc1 _) (by decide) rfl (fun ls hl => ?_)
              refine lv_goto (tgt := 2) hx hb dX0_forgetJoinsOf_49 (by decide) ?_
              exact ih2 (n + 1) LC2 (by omega) (by omega) (by omega) (forgC_n (by omega) hfo) _ _ hP hD hS _ (lv_sub hl [1, 2, 0] rfl)
            · refine lv_aload_n hx hb dX0_forgetJoinsOf_16 rfl (lv_at hl 0 rfl) ?_
              refine va_get (D := G.1) (ci := 0) (v := .ref (aj 4)) (C := RX0) (T := TX0) (N := 8) hx hb hts inX0 hown hK.1 hP 0 rfl rfl 3 (by decide) fl21 (fun _ h9 => h9) rfl dX0_forgetJoinsOf_17 ?_
              refine lv_iload_n hx hb dX0_forgetJoinsOf_20 rfl (lv_at hl 1 rfl) ?_
              refine lv_iload_n hx hb dX0_forgetJoinsOf_21 rfl (lv_at hl 3 rfl) ?_
              refine lv_iload_n hx hb dX0_forgetJoinsOf_22 rfl (lv_at hl 2 rfl) ?_
              refine mx_callRO (v := .int (nI (slotN s9 o n))) (va_runS (As := [.int (nI s9), .int (nI o), .int (nI n)]) (rest := [.ref (aj 4)]) ⟨hx, hb, hml, hown, hts⟩ (c_X0_slot l G s9 o n (by omega)) (va_cwS 3 hts gX0_forgetJoinsOf_X0_slot rfl rfl rfl (by decide +kernel) ⟨Nat.le_of_ble_eq_true rfl, Nat.le_of_ble_eq_true rfl⟩) (mx_preS hK trivial) rfl rfl hl.1 rfl (lv_room (Nat.le_of_ble_eq_true rfl)) dX0_forgetJoinsOf_23 ⟨Nat.zero_le _, Nat.zero_le _⟩) ?_
              refine lv_iconst (v := (-1)) hx hb dX0_forgetJoinsOf_26 (by decide) ?_
              refine x_iast hx hb hK.1 hP hD hS 1 0 (n := 1152) (f := LC2) rfl rfl (k := slotN s9 o n) (slotN_lt (by omega) (by omega) (by omega)) (by omega) dX0_forgetJoinsOf_27 (JW G aj FJ (va_up RJ 3 (upd LC2 (slotN s9 o n) (-1)))) rfl (fun H locs hP hD hS => ?_)
              refine lv_aload_n hx hb dX0_forgetJoinsOf_28 rfl (lv_at hl 0 rfl) ?_
              refine va_get (D := G.1) (ci := 0) (v := .ref (aj 4)) (C := RX0) (T := TX0) (N := 8) hx hb hts inX0 hown hK.1 hP 0 rfl rfl 3 (by decide) fl21 (fun _ h9 => h9) rfl dX0_forgetJoinsOf_29 ?_
              refine lv_iload_n hx hb dX0_forgetJoinsOf_32 rfl (lv_at hl 3 rfl) ?_
              refine lv_iload_n hx hb dX0_forgetJoinsOf_33 rfl (lv_at hl 1 rfl) ?_
              refine lv_iload_n hx hb dX0_forgetJoinsOf_34 rfl (lv_at hl 2 rfl) ?_
              refine mx_callRO (v := .int (nI (slotN o s9 n))) (va_runS (As := [.int (nI o), .int (nI s9), .int (nI n)]) (rest := [.ref (aj 4)]) ⟨hx, hb, hml, hown, hts⟩ (c_X0_slot l G o s9 n (by omega)) (va_cwS 3 hts gX0_forgetJoinsOf_X0_slot rfl rfl rfl (by decide +kernel) ⟨Nat.le_of_ble_eq_true rfl, Nat.le_of_ble_eq_true rfl⟩) (mx_preS hK trivial) rfl rfl hl.1 rfl (lv_room (Nat.le_of_ble_eq_true rfl)) dX0_forgetJoinsOf_35 ⟨Nat.zero_le _, Nat.zero_le _⟩) ?_
              refine lv_iconst (v := (-1)) hx hb dX0_forgetJoinsOf_38 (by decide) ?_
              refine x_iast hx hb hK.1 hP hD hS 1 0 (n := 1152) (f := upd LC2 (slotN s9 o n) (-1)) rfl rfl (k := slotN o s9 n) (slotN_lt (by omega) (by omega) (by omega)) (by omega) dX0_forgetJoinsOf_39 (JW G aj FJ (va_up RJ 3 (upd (upd LC2 (slotN s9 o n) (-1)) (slotN o s9 n) (-1)))) rfl (fun H locs hP hD hS => ?_)
              refine x_iinc (lv' := [(3, .int (nI (o + 1))), (0, .ref (aj 0)), (1, .int (nI s9)), (2, .int (nI n))]) hx hb dX0_forgetJoinsOf_40 hl (k := 3) rfl (x_inc1 _) (by decide) rfl (fun ls hl => ?_)
              refine lv_goto (tgt := 10) hx hb dX0_forgetJoinsOf_43 (by decide) ?_
              exact ih10 (o + 1) (upd (upd LC2 (slotN s9 o n) (-1)) (slotN o s9 n) (-1)) (by omega) (by omega) (forgC_s hs9 hn1 (by omega) (by omega) hfo) _ _ hP hD hS _ (lv_sub hl [1, 2, 3, 0] rfl)
        exact lp10 (12 - 0 + 1) 0 LC (Nat.lt_succ_self _) (by omega) (hfc) _ _ hP hD hS _ (lv_sub hl [1, 2, 3, 0] rfl)
  exact lp2 (9 - 1 + 1) 1 (RJ 3) (Nat.lt_succ_self _) (by omega) (by omega) (forgC_0) _ _ hP hD hS _ (lv_sub hl [1, 2, 0] rfl)

set_option maxHeartbeats 4000000 in
set_option maxRecDepth 100000 in
theorem c_X0_setCosts (l : Launch) (G : mx_G) (aj : Nat → Nat) (FJ : Nat → Int32) (RJ : Nat → Nat → Int32) (b k h : Int32) (sz : Nat) : mx_EF l yX0_setCosts wsX0_setCosts 1 23 0 0 G [.ref (aj 0), .int b, .int k, .int h] sz (JW G aj FJ RJ) (fun _ : Nat → Int32 => none) (fun u : Nat → Int32 => ∀ q, q < 1152 → u q = (-1)) (fun u : Nat → Int32 => JW G aj (va_up (va_up (va_up FJ 0 b) 1 k) 2 h) (va_up RJ 3 u)) := by
  refine Met.ofW (cc := cX0_setCosts) (maxL := 4) (ret := none) (by decide) rfl ?_
  intro p e s m args below meth c s₁ BB hml hv
  obtain ⟨rfl, ⟨hsz, hP, hD0⟩, hK⟩ := hv
  have hx := BB.exec
  have hb := BB.bytes
  have hr := BB.returns
  have hts := atoms_spec (ws := wsX0_setCosts) BB.pre
  have hown : s.vm.findClass RX0 = some m.cls := findClass_of_methodNamed BB.named
  have hlocks := BB.notSynchronized
  subst hsz
  have hD := hD0.self (sz := s.heap.size)
  have hA : ∀ q : Nat, s.heap.size ≤ q → va_A (JW G aj FJ RJ) s.heap.size q := fun q h => Or.inr h
  have hS : va_S (va_A (JW G aj FJ RJ) s.heap.size) s.heap s.heap [] := va_S.rf
  have fl15 := hts (.fieldLink RX0 15 "MixDesk$Joins" "keyCost" "I") (by decide +kernel)
  have fl18 := hts (.fieldLink RX0 18 "MixDesk$Joins" "heatCost" "I") (by decide +kernel)
  have fl21 := hts (.fieldLink RX0 21 "MixDesk$Joins" "leastCost" "[I") (by decide +kernel)
  have fl9 := hts (.fieldLink RX0 9 "MixDesk$Joins" "bound" "I") (by decide +kernel)
  have inX0 : ∀ w ∈ wsX00, w ∈ wsX0_setCosts := by decide +kernel
  have hl := lv_entry ([.ref (aj 0), .int b, .int k, .int h]) (n := 4) (Nat.le_of_ble_eq_true rfl)
  rw [lg_entry_eq]
  generalize (lg_sl ([.ref (aj 0), .int b, .int k, .int h]) ++ List.replicate (4 - (lg_sl ([.ref (aj 0), .int b, .int k, .int h])).length) Slot.unset).toArray = ls at hl ⊢
  have hl : lv_has ls 4 [(0, .ref (aj 0)), (1, .int b), (2, .int k), (3, .int h)] := hl
  refine lv_aload_n hx hb dX0_setCosts_0 rfl (lv_at hl 0 rfl) ?_
  refine lv_iload_n hx hb dX0_setCosts_1 rfl (lv_at hl 1 rfl) ?_
  refine va_put (D := G.1) (ci := 0) (v := .int b) (ty := .int) (C := RX0) (T := TX0) (N := 8) hx hb hts inX0 tyX0 tyX0_ok nmX0 hown hK.1 hP hD hS 0 rfl rfl 0 (by decide) fl9 (fun _ h9 => h9) rfl (by decide +kernel) rfl rfl (Nat.le_of_ble_eq_true rfl) dX0_setCosts_2 (fun H locs hP hD hS => ?_)
  have hP : va_P G.1 vwCl (JW G aj (va_up FJ 0 b) RJ) H := hP
  have hD : va_D _ (JW G aj (va_up FJ 0 b) RJ) := hD
  refine lv_aload_n hx hb dX0_setCosts_5 rfl (lv_at hl 0 rfl) ?_
  refine lv_iload_n hx hb dX0_setCosts_6 rfl (lv_at hl 2 rfl) ?_
  refine va_put (D := G.1) (ci := 0) (v := .int k) (ty := .int) (C := RX0) (T := TX0) (N := 8) hx hb hts inX0 tyX0 tyX0_ok nmX0 hown hK.1 hP hD hS 0 rfl rfl 1 (by decide) fl15 (fun _ h9 => h9) rfl (by decide +kernel) rfl rfl (Nat.le_of_ble_eq_true rfl) dX0_setCosts_7 (fun H locs hP hD hS => ?_)
  have hP : va_P G.1 vwCl (JW G aj (va_up (va_up FJ 0 b) 1 k) RJ) H := hP
  have hD : va_D _ (JW G aj (va_up (va_up FJ 0 b) 1 k) RJ) := hD
  refine lv_aload_n hx hb dX0_setCosts_10 rfl (lv_at hl 0 rfl) ?_
  refine lv_iload_n hx hb dX0_setCosts_11 rfl (lv_at hl 3 rfl) ?_
  refine va_put (D := G.1) (ci := 0) (v := .int h) (ty := .int) (C := RX0) (T := TX0) (N := 8) hx hb hts inX0 tyX0 tyX0_ok nmX0 hown hK.1 hP hD hS 0 rfl rfl 2 (by decide) fl18 (fun _ h9 => h9) rfl (by decide +kernel) rfl rfl (Nat.le_of_ble_eq_true rfl) dX0_setCosts_12 (fun H locs hP hD hS => ?_)
  have hP : va_P G.1 vwCl (JW G aj (va_up (va_up (va_up FJ 0 b) 1 k) 2 h) RJ) H := hP
  have hD : va_D _ (JW G aj (va_up (va_up (va_up FJ 0 b) 1 k) 2 h) RJ) := hD
  refine lv_aload_n hx hb dX0_setCosts_15 rfl (lv_at hl 0 rfl) ?_
  refine va_get (D := G.1) (ci := 0) (v := .ref (aj 4)) (C := RX0) (T := TX0) (N := 8) hx hb hts inX0 hown hK.1 hP 0 rfl rfl 3 (by decide) fl21 (fun _ h9 => h9) rfl dX0_setCosts_16 ?_
  refine lv_iconst (v := (-1)) hx hb dX0_setCosts_19 (by decide) ?_
  refine mx_callEv (va_runS (As := [.ref (aj 4), .int (-1)]) (rest := []) ⟨hx, hb, hml, hown, hts⟩ (c_J7_fill l G (aj 4) 1152 (RJ 3) (-1) (by omega) _) (va_cwS 2 hts gX0_setCosts_J7_fill_53178 rfl rfl rfl (by decide +kernel) ⟨Nat.le_of_ble_eq_true rfl, Nat.le_of_ble_eq_true rfl⟩) (mx_preS hK ⟨rfl, mx_cut (a := ([(aj 4, .inl (G.2.1, 1152, .inl (RJ 3)))] : va_W)) (b := ([(aj 0, .inr (0, [.int b, .int k, .int h, .ref (aj 4), .ref (aj 5), .ref (aj 6), .ref (aj 7), .ref (aj 8)]))] : va_W) ++ ([(aj 5, .inl (G.2.1, 1152, .inl (RJ 4))), (aj 6, .inl (G.2.1, 1152, .inl (RJ 5))), (aj 7, .inl (G.2.1, 64, .inl (RJ 6))), (aj 8, .inl (G.2.1, 64, .inl (RJ 7)))] : va_W)) hP hD (mx_perm (fun n9 hn9 => by simp only [hn9]; omega) : List.Perm (([(aj 0, .inr (0, [.int b, .int k, .int h, .ref (aj 4), .ref (aj 5), .ref (aj 6), .ref (aj 7), .ref (aj 8)]))] : va_W) ++ (([(aj 4, .inl (G.2.1, 1152, .inl (RJ 3)))] : va_W) ++ ([(aj 5, .inl (G.2.1, 1152, .inl (RJ 4))), (aj 6, .inl (G.2.1, 1152, .inl (RJ 5))), (aj 7, .inl (G.2.1, 64, .inl (RJ 6))), (aj 8, .inl (G.2.1, 64, .inl (RJ 7)))] : va_W))) (([(aj 4, .inl (G.2.1, 1152, .inl (RJ 3)))] : va_W) ++ (([(aj 0, .inr (0, [.int b, .int k, .int h, .ref (aj 4), .ref (aj 5), .ref (aj 6), .ref (aj 7), .ref (aj 8)]))] : va_W) ++ ([(aj 5, .inl (G.2.1, 1152, .inl (RJ 4))), (aj 6, .inl (G.2.1, 1152, .inl (RJ 5))), (aj 7, .inl (G.2.1, 64, .inl (RJ 6))), (aj 8, .inl (G.2.1, 64, .inl (RJ 7)))] : va_W))))⟩) rfl rfl hl.1 rfl (lv_room (Nat.le_of_ble_eq_true rfl)) dX0_setCosts_20 ⟨Nat.le_of_ble_eq_true rfl, Nat.le_of_ble_eq_true rfl⟩) hP hD hS hA ((mx_perm (fun n9 hn9 => by simp only [hn9]; omega) : List.Perm (([(aj 0, .inr (0, [.int b, .int k, .int h, .ref (aj 4), .ref (aj 5), .ref (aj 6), .ref (aj 7), .ref (aj 8)]))] : va_W) ++ (([(aj 4, .inl (G.2.1, 1152, .inl (RJ 3)))] : va_W) ++ ([(aj 5, .inl (G.2.1, 1152, .inl (RJ 4))), (aj 6, .inl (G.2.1, 1152, .inl (RJ 5))), (aj 7, .inl (G.2.1, 64, .inl (RJ 6))), (aj 8, .inl (G.2.1, 64, .inl (RJ 7)))] : va_W))) (([(aj 4, .inl (G.2.1, 1152, .inl (RJ 3)))] : va_W) ++ (([(aj 0, .inr (0, [.int b, .int k, .int h, .ref (aj 4), .ref (aj 5), .ref (aj 6), .ref (aj 7), .ref (aj 8)]))] : va_W) ++ ([(aj 5, .inl (G.2.1, 1152, .inl (RJ 4))), (aj 6, .inl (G.2.1, 1152, .inl (RJ 5))), (aj 7, .inl (G.2.1, 64, .inl (RJ 6))), (aj 8, .inl (G.2.1, 64, .inl (RJ 7)))] : va_W))))) (fun uf H locs huf hP hD hS => ?_)
  have hP : va_P G.1 vwCl (JW G aj (va_up (va_up (va_up FJ 0 b) 1 k) 2 h) (va_up RJ 3 uf)) H := mx_Pperm hP (mx_perm (fun n9 hn9 => by simp only [hn9]; omega) : List.Perm (([(aj 4, .inl (G.2.1, 1152, .inl (uf)))] : va_W) ++ (([(aj 0, .inr (0, [.int b, .int k, .int h, .ref (aj 4), .ref (aj 5), .ref (aj 6), .ref (aj 7), .ref (aj 8)]))] : va_W) ++ ([(aj 5, .inl (G.2.1, 1152, .inl (RJ 4))), (aj 6, .inl (G.2.1, 1152, .inl (RJ 5))), (aj 7, .inl (G.2.1, 64, .inl (RJ 6))), (aj 8, .inl (G.2.1, 64, .inl (RJ 7)))] : va_W))) (([(aj 0, .inr (0, [.int b, .int k, .int h, .ref (aj 4), .ref (aj 5), .ref (aj 6), .ref (aj 7), .ref (aj 8)]))] : va_W) ++ (([(aj 4, .inl (G.2.1, 1152, .inl (uf)))] : va_W) ++ ([(aj 5, .inl (G.2.1, 1152, .inl (RJ 4))), (aj 6, .inl (G.2.1, 1152, .inl (RJ 5))), (aj 7, .inl (G.2.1, 64, .inl (RJ 6))), (aj 8, .inl (G.2.1, 64, .inl (RJ 7)))] : va_W))))
  have hD : va_D _ (JW G aj (va_up (va_up (va_up FJ 0 b) 1 k) 2 h) (va_up RJ 3 uf)) := mx_Dperm hD (mx_perm (fun n9 hn9 => by simp only [hn9]; omega) : List.Perm (([(aj 4, .inl (G.2.1, 1152, .inl (uf)))] : va_W) ++ (([(aj 0, .inr (0, [.int b, .int k, .int h, .ref (aj 4), .ref (aj 5), .ref (aj 6), .ref (aj 7), .ref (aj 8)]))] : va_W) ++ ([(aj 5, .inl (G.2.1, 1152, .inl (RJ 4))), (aj 6, .inl (G.2.1, 1152, .inl (RJ 5))), (aj 7, .inl (G.2.1, 64, .inl (RJ 6))), (aj 8, .inl (G.2.1, 64, .inl (RJ 7)))] : va_W))) (([(aj 0, .inr (0, [.int b, .int k, .int h, .ref (aj 4), .ref (aj 5), .ref (aj 6), .ref (aj 7), .ref (aj 8)]))] : va_W) ++ (([(aj 4, .inl (G.2.1, 1152, .inl (uf)))] : va_W) ++ ([(aj 5, .inl (G.2.1, 1152, .inl (RJ 4))), (aj 6, .inl (G.2.1, 1152, .inl (RJ 5))), (aj 7, .inl (G.2.1, 64, .inl (RJ 6))), (aj 8, .inl (G.2.1, 64, .inl (RJ 7)))] : va_W))))
  exact W.vret hx hb hr (fun t9 ht9 hW9 => ⟨⟨uf, rfl, huf, by rw [ht9]; exact hP, hD⟩, hS.F ht9⟩) hS.2.2 dX0_setCosts_23

set_option maxHeartbeats 4000000 in
set_option maxRecDepth 100000 in
theorem c_X0_init (l : Launch) (G : mx_G) (h0 : Nat) (sz : Nat) : mx_EF l yX0_init wsX0_init 1 23 5 3584 G [.ref h0] sz ([(h0, .inr (0, [.int (nI 0), .int (nI 0), .int (nI 0), .null, .null, .null, .null, .null]))]) (fun _ : (Nat → Nat) × (Nat → Int32) => none) (fun u : (Nat → Nat) × (Nat → Int32) => u.1 0 = h0 ∧ ∀ q, q < 1152 → u.2 q = (-1)) (fun u : (Nat → Nat) × (Nat → Int32) => JW G u.1 jF0 (va_up (fun _ _ => nI 0) 3 u.2)) := by
  refine Met.ofW (cc := cX0_init) (maxL := 1) (ret := none) (by decide) rfl ?_
  intro p e s m args below meth c s₁ BB hml hv
  obtain ⟨rfl, ⟨hsz, hP, hD0⟩, hK⟩ := hv
  have hx := BB.exec
  have hb := BB.bytes
  have hr := BB.returns
  have hts := atoms_spec (ws := wsX0_init) BB.pre
  have hown : s.vm.findClass RX0 = some m.cls := findClass_of_methodNamed BB.named
  have hlocks := BB.notSynchronized
  have hin : meth.name = "<init>" := (name_of_methodNamed BB.named BB.method).1
  subst hsz
  have hD := hD0.self (sz := s.heap.size)
  have hA : ∀ q : Nat, s.heap.size ≤ q → va_A ([(h0, .inr (0, [.int (nI 0), .int (nI 0), .int (nI 0), .null, .null, .null, .null, .null]))]) s.heap.size q := fun q h => Or.inr h
  have hS : va_S (va_A ([(h0, .inr (0, [.int (nI 0), .int (nI 0), .int (nI 0), .null, .null, .null, .null, .null]))]) s.heap.size) s.heap s.heap [] := va_S.rf
  have fl15 := hts (.fieldLink RX0 15 "MixDesk$Joins" "keyCost" "I") (by decide +kernel)
  have fl18 := hts (.fieldLink RX0 18 "MixDesk$Joins" "heatCost" "I") (by decide +kernel)
  have fl21 := hts (.fieldLink RX0 21 "MixDesk$Joins" "leastCost" "[I") (by decide +kernel)
  have fl25 := hts (.fieldLink RX0 25 "MixDesk$Joins" "leastP" "[I") (by decide +kernel)
  have fl28 := hts (.fieldLink RX0 28 "MixDesk$Joins" "leastQ" "[I") (by decide +kernel)
  have fl31 := hts (.fieldLink RX0 31 "MixDesk$Joins" "late" "[I") (by decide +kernel)
  have fl34 := hts (.fieldLink RX0 34 "MixDesk$Joins" "early" "[I") (by decide +kernel)
  have fl9 := hts (.fieldLink RX0 9 "MixDesk$Joins" "bound" "I") (by decide +kernel)
  have inX0 : ∀ w ∈ wsX00, w ∈ wsX0_init := by decide +kernel
  have hl := lv_entry ([.ref h0]) (n := 1) (Nat.le_of_ble_eq_true rfl)
  rw [lg_entry_eq]
  generalize (lg_sl ([.ref h0]) ++ List.replicate (1 - (lg_sl ([.ref h0])).length) Slot.unset).toArray = ls at hl ⊢
  have hl : lv_has ls 1 [(0, .ref h0)] := hl
  refine lv_aload_n hx hb dX0_init_0 rfl (lv_at hl 0 rfl) ?_
  refine W.objInit hx hb hown (hts (.methodLink RX0 3 objectInit) (by decide +kernel)) (hts (.instanceMethod objectInit) (by decide +kernel)) (hts (.code objectInit ⟨#[0xb1]⟩ 1 none) (by decide +kernel)) rfl (by rw [hml]; exact hl.1) rfl dX0_init_1 (Nat.le_of_ble_eq_true rfl) (Nat.le_of_ble_eq_true rfl) ?_
  refine W.eq (g2 := F0 m 4 ls []) rfl ?_
  refine lv_aload_n hx hb dX0_init_4 rfl (lv_at hl 0 rfl) ?_
  refine lv_bipush (v := nI 80) hx hb dX0_init_5 (by decide) ?_
  refine va_put (D := G.1) (ci := 0) (v := .int (nI 80)) (ty := .int) (C := RX0) (T := TX0) (N := 8) hx hb hts inX0 tyX0 tyX0_ok nmX0 hown hK.1 hP hD hS 0 rfl rfl 0 (by decide) fl9 (fun _ h9 => h9) rfl (by decide +kernel) rfl rfl (Nat.le_of_ble_eq_true rfl) dX0_init_7 (fun H locs hP hD hS => ?_)
  have hP : va_P G.1 vwCl ([(h0, .inr (0, [.int (nI 80), .int (nI 0), .int (nI 0), .null, .null, .null, .null, .null]))]) H := hP
  have hD : va_D _ ([(h0, .inr (0, [.int (nI 80), .int (nI 0), .int (nI 0), .null, .null, .null, .null, .null]))]) := hD
  refine lv_aload_n hx hb dX0_init_10 rfl (lv_at hl 0 rfl) ?_
  refine lv_bipush (v := nI 10) hx hb dX0_init_11 (by decide) ?_
  refine va_put (D := G.1) (ci := 0) (v := .int (nI 10)) (ty := .int) (C := RX0) (T := TX0) (N := 8) hx hb hts inX0 tyX0 tyX0_ok nmX0 hown hK.1 hP hD hS 0 rfl rfl 1 (by decide) fl15 (fun _ h9 => h9) rfl (by decide +kernel) rfl rfl (Nat.le_of_ble_eq_true rfl) dX0_init_13 (fun H locs hP hD hS => ?_)
  have hP : va_P G.1 vwCl ([(h0, .inr (0, [.int (nI 80), .int (nI 10), .int (nI 0), .null, .null, .null, .null, .null]))]) H := hP
  have hD : va_D _ ([(h0, .inr (0, [.int (nI 80), .int (nI 10), .int (nI 0), .null, .null, .null, .null, .null]))]) := hD
  refine lv_aload_n hx hb dX0_init_16 rfl (lv_at hl 0 rfl) ?_
  refine lv_iconst (v := nI 5) hx hb dX0_init_17 (by decide) ?_
  refine va_put (D := G.1) (ci := 0) (v := .int (nI 5)) (ty := .int) (C := RX0) (T := TX0) (N := 8) hx hb hts inX0 tyX0 tyX0_ok nmX0 hown hK.1 hP hD hS 0 rfl rfl 2 (by decide) fl18 (fun _ h9 => h9) rfl (by decide +kernel) rfl rfl (Nat.le_of_ble_eq_true rfl) dX0_init_18 (fun H locs hP hD hS => ?_)
  have hP : va_P G.1 vwCl ([(h0, .inr (0, [.int (nI 80), .int (nI 10), .int (nI 5), .null, .null, .null, .null, .null]))]) H := hP
  have hD : va_D _ ([(h0, .inr (0, [.int (nI 80), .int (nI 10), .int (nI 5), .null, .null, .null, .null, .null]))]) := hD
  refine lv_aload_n hx hb dX0_init_21 rfl (lv_at hl 0 rfl) ?_
  refine lv_sipush (v := nI 1152) hx hb dX0_init_22 (by decide) ?_
  refine x_newI hx hb (hts (.arrayClass .int) (by decide +kernel)) hK hP hD hS hA (n := 1152) (by omega) (Nat.le_of_ble_eq_true rfl) (Nat.le_of_ble_eq_true rfl) dX0_init_25 (fun q1 H hP hD hS => ?_)
  have hP : va_P G.1 vwCl ([(h0, .inr (0, [.int (nI 80), .int (nI 10), .int (nI 5), .null, .null, .null, .null, .null])), (q1, .inl (G.2.1, 1152, .inl (fun _ => nI 0)))]) H := hP
  have hD : va_D _ ([(h0, .inr (0, [.int (nI 80), .int (nI 10), .int (nI 5), .null, .null, .null, .null, .null])), (q1, .inl (G.2.1, 1152, .inl (fun _ => nI 0)))]) := hD
  refine va_putF (D := G.1) (ci := 0) (v := .ref q1) (ty := .array .int) (C := RX0) (T := TX0) (N := 8) hx hb hts inX0 tyX0 tyX0_ok nmX0 hown hK.1 hP hD hS 0 rfl rfl 3 (by decide) fl21 (fun _ h9 => h9) rfl hin rfl (by decide +kernel) rfl rfl (Nat.le_of_ble_eq_true rfl) dX0_init_27 (fun H locs hP hD hS => ?_)
  have hP : va_P G.1 vwCl ([(h0, .inr (0, [.int (nI 80), .int (nI 10), .int (nI 5), .ref q1, .null, .null, .null, .null])), (q1, .inl (G.2.1, 1152, .inl (fun _ => nI 0)))]) H := hP
  have hD : va_D _ ([(h0, .inr (0, [.int (nI 80), .int (nI 10), .int (nI 5), .ref q1, .null, .null, .null, .null])), (q1, .inl (G.2.1, 1152, .inl (fun _ => nI 0)))]) := hD
  refine lv_aload_n hx hb dX0_init_30 rfl (lv_at hl 0 rfl) ?_
  refine lv_sipush (v := nI 1152) hx hb dX0_init_31 (by decide) ?_
  refine x_newI hx hb (hts (.arrayClass .int) (by decide +kernel)) hK hP hD hS hA (n := 1152) (by omega) (Nat.le_of_ble_eq_true rfl) (Nat.le_of_ble_eq_true rfl) dX0_init_34 (fun q2 H hP hD hS => ?_)
  have hP : va_P G.1 vwCl ([(h0, .inr (0, [.int (nI 80), .int (nI 10), .int (nI 5), .ref q1, .null, .null, .null, .null])), (q1, .inl (G.2.1, 1152, .inl (fun _ => nI 0))), (q2, .inl (G.2.1, 1152, .inl (fun _ => nI 0)))]) H := hP
  have hD : va_D _ ([(h0, .inr (0, [.int (nI 80), .int (nI 10), .int (nI 5), .ref q1, .null, .null, .null, .null])), (q1, .inl (G.2.1, 1152, .inl (fun _ => nI 0))), (q2, .inl (G.2.1, 1152, .inl (fun _ => nI 0)))]) := hD
  refine va_putF (D := G.1) (ci := 0) (v := .ref q2) (ty := .array .int) (C := RX0) (T := TX0) (N := 8) hx hb hts inX0 tyX0 tyX0_ok nmX0 hown hK.1 hP hD hS 0 rfl rfl 4 (by decide) fl25 (fun _ h9 => h9) rfl hin rfl (by decide +kernel) rfl rfl (Nat.le_of_ble_eq_true rfl) dX0_init_36 (fun H locs hP hD hS => ?_)
  have hP : va_P G.1 vwCl ([(h0, .inr (0, [.int (nI 80), .int (nI 10), .int (nI 5), .ref q1, .ref q2, .null, .null, .null])), (q1, .inl (G.2.1, 1152, .inl (fun _ => nI 0))), (q2, .inl (G.2.1, 1152, .inl (fun _ => nI 0)))]) H := hP
  have hD : va_D _ ([(h0, .inr (0, [.int (nI 80), .int (nI 10), .int (nI 5), .ref q1, .ref q2, .null, .null, .null])), (q1, .inl (G.2.1, 1152, .inl (fun _ => nI 0))), (q2, .inl (G.2.1, 1152, .inl (fun _ => nI 0)))]) := hD
  refine lv_aload_n hx hb dX0_init_39 rfl (lv_at hl 0 rfl) ?_
  refine lv_sipush (v := nI 1152) hx hb dX0_init_40 (by decide) ?_
  refine x_newI hx hb (hts (.arrayClass .int) (by decide +kernel)) hK hP hD hS hA (n := 1152) (by omega) (Nat.le_of_ble_eq_true rfl) (Nat.le_of_ble_eq_true rfl) dX0_init_43 (fun q3 H hP hD hS => ?_)
  have hP : va_P G.1 vwCl ([(h0, .inr (0, [.int (nI 80), .int (nI 10), .int (nI 5), .ref q1, .ref q2, .null, .null, .null])), (q1, .inl (G.2.1, 1152, .inl (fun _ => nI 0))), (q2, .inl (G.2.1, 1152, .inl (fun _ => nI 0))), (q3, .inl (G.2.1, 1152, .inl (fun _ => nI 0)))]) H := hP
  have hD : va_D _ ([(h0, .inr (0, [.int (nI 80), .int (nI 10), .int (nI 5), .ref q1, .ref q2, .null, .null, .null])), (q1, .inl (G.2.1, 1152, .inl (fun _ => nI 0))), (q2, .inl (G.2.1, 1152, .inl (fun _ => nI 0))), (q3, .inl (G.2.1, 1152, .inl (fun _ => nI 0)))]) := hD
  refine va_putF (D := G.1) (ci := 0) (v := .ref q3) (ty := .array .int) (C := RX0) (T := TX0) (N := 8) hx hb hts inX0 tyX0 tyX0_ok nmX0 hown hK.1 hP hD hS 0 rfl rfl 5 (by decide) fl28 (fun _ h9 => h9) rfl hin rfl (by decide +kernel) rfl rfl (Nat.le_of_ble_eq_true rfl) dX0_init_45 (fun H locs hP hD hS => ?_)
  have hP : va_P G.1 vwCl ([(h0, .inr (0, [.int (nI 80), .int (nI 10), .int (nI 5), .ref q1, .ref q2, .ref q3, .null, .null])), (q1, .inl (G.2.1, 1152, .inl (fun _ => nI 0))), (q2, .inl (G.2.1, 1152, .inl (fun _ => nI 0))), (q3, .inl (G.2.1, 1152, .inl (fun _ => nI 0)))]) H := hP
  have hD : va_D _ ([(h0, .inr (0, [.int (nI 80), .int (nI 10), .int (nI 5), .ref q1, .ref q2, .ref q3, .null, .null])), (q1, .inl (G.2.1, 1152, .inl (fun _ => nI 0))), (q2, .inl (G.2.1, 1152, .inl (fun _ => nI 0))), (q3, .inl (G.2.1, 1152, .inl (fun _ => nI 0)))]) := hD
  refine lv_aload_n hx hb dX0_init_48 rfl (lv_at hl 0 rfl) ?_
  refine lv_bipush (v := nI 64) hx hb dX0_init_49 (by decide) ?_
  refine x_newI hx hb (hts (.arrayClass .int) (by decide +kernel)) hK hP hD hS hA (n := 64) (by omega) (Nat.le_of_ble_eq_true rfl) (Nat.le_of_ble_eq_true rfl) dX0_init_51 (fun q4 H hP hD hS => ?_)
  have hP : va_P G.1 vwCl ([(h0, .inr (0, [.int (nI 80), .int (nI 10), .int (nI 5), .ref q1, .ref q2, .ref q3, .null, .null])), (q1, .inl (G.2.1, 1152, .inl (fun _ => nI 0))), (q2, .inl (G.2.1, 1152, .inl (fun _ => nI 0))), (q3, .inl (G.2.1, 1152, .inl (fun _ => nI 0))), (q4, .inl (G.2.1, 64, .inl (fun _ => nI 0)))]) H := hP
  have hD : va_D _ ([(h0, .inr (0, [.int (nI 80), .int (nI 10), .int (nI 5), .ref q1, .ref q2, .ref q3, .null, .null])), (q1, .inl (G.2.1, 1152, .inl (fun _ => nI 0))), (q2, .inl (G.2.1, 1152, .inl (fun _ => nI 0))), (q3, .inl (G.2.1, 1152, .inl (fun _ => nI 0))), (q4, .inl (G.2.1, 64, .inl (fun _ => nI 0)))]) := hD
  refine va_putF (D := G.1) (ci := 0) (v := .ref q4) (ty := .array .int) (C := RX0) (T := TX0) (N := 8) hx hb hts inX0 tyX0 tyX0_ok nmX0 hown hK.1 hP hD hS 0 rfl rfl 6 (by decide) fl31 (fun _ h9 => h9) rfl hin rfl (by decide +kernel) rfl rfl (Nat.le_of_ble_eq_true rfl) dX0_init_53 (fun H locs hP hD hS => ?_)
  have hP : va_P G.1 vwCl ([(h0, .inr (0, [.int (nI 80), .int (nI 10), .int (nI 5), .ref q1, .ref q2, .ref q3, .ref q4, .null])), (q1, .inl (G.2.1, 1152, .inl (fun _ => nI 0))), (q2, .inl (G.2.1, 1152, .inl (fun _ => nI 0))), (q3, .inl (G.2.1, 1152, .inl (fun _ => nI 0))), (q4, .inl (G.2.1, 64, .inl (fun _ => nI 0)))]) H := hP
  have hD : va_D _ ([(h0, .inr (0, [.int (nI 80), .int (nI 10), .int (nI 5), .ref q1, .ref q2, .ref q3, .ref q4, .null])), (q1, .inl (G.2.1, 1152, .inl (fun _ => nI 0))), (q2, .inl (G.2.1, 1152, .inl (fun _ => nI 0))), (q3, .inl (G.2.1, 1152, .inl (fun _ => nI 0))), (q4, .inl (G.2.1, 64, .inl (fun _ => nI 0)))]) := hD
  refine lv_aload_n hx hb dX0_init_56 rfl (lv_at hl 0 rfl) ?_
  refine lv_bipush (v := nI 64) hx hb dX0_init_57 (by decide) ?_
  refine x_newI hx hb (hts (.arrayClass .int) (by decide +kernel)) hK hP hD hS hA (n := 64) (by omega) (Nat.le_of_ble_eq_true rfl) (Nat.le_of_ble_eq_true rfl) dX0_init_59 (fun q5 H hP hD hS => ?_)
  have hP : va_P G.1 vwCl ([(h0, .inr (0, [.int (nI 80), .int (nI 10), .int (nI 5), .ref q1, .ref q2, .ref q3, .ref q4, .null])), (q1, .inl (G.2.1, 1152, .inl (fun _ => nI 0))), (q2, .inl (G.2.1, 1152, .inl (fun _ => nI 0))), (q3, .inl (G.2.1, 1152, .inl (fun _ => nI 0))), (q4, .inl (G.2.1, 64, .inl (fun _ => nI 0))), (q5, .inl (G.2.1, 64, .inl (fun _ => nI 0)))]) H := hP
  have hD : va_D _ ([(h0, .inr (0, [.int (nI 80), .int (nI 10), .int (nI 5), .ref q1, .ref q2, .ref q3, .ref q4, .null])), (q1, .inl (G.2.1, 1152, .inl (fun _ => nI 0))), (q2, .inl (G.2.1, 1152, .inl (fun _ => nI 0))), (q3, .inl (G.2.1, 1152, .inl (fun _ => nI 0))), (q4, .inl (G.2.1, 64, .inl (fun _ => nI 0))), (q5, .inl (G.2.1, 64, .inl (fun _ => nI 0)))]) := hD
  refine va_putF (D := G.1) (ci := 0) (v := .ref q5) (ty := .array .int) (C := RX0) (T := TX0) (N := 8) hx hb hts inX0 tyX0 tyX0_ok nmX0 hown hK.1 hP hD hS 0 rfl rfl 7 (by decide) fl34 (fun _ h9 => h9) rfl hin rfl (by decide +kernel) rfl rfl (Nat.le_of_ble_eq_true rfl) dX0_init_61 (fun H locs hP hD hS => ?_)
  have hP : va_P G.1 vwCl ([(h0, .inr (0, [.int (nI 80), .int (nI 10), .int (nI 5), .ref q1, .ref q2, .ref q3, .ref q4, .ref q5])), (q1, .inl (G.2.1, 1152, .inl (fun _ => nI 0))), (q2, .inl (G.2.1, 1152, .inl (fun _ => nI 0))), (q3, .inl (G.2.1, 1152, .inl (fun _ => nI 0))), (q4, .inl (G.2.1, 64, .inl (fun _ => nI 0))), (q5, .inl (G.2.1, 64, .inl (fun _ => nI 0)))]) H := hP
  have hD : va_D _ ([(h0, .inr (0, [.int (nI 80), .int (nI 10), .int (nI 5), .ref q1, .ref q2, .ref q3, .ref q4, .ref q5])), (q1, .inl (G.2.1, 1152, .inl (fun _ => nI 0))), (q2, .inl (G.2.1, 1152, .inl (fun _ => nI 0))), (q3, .inl (G.2.1, 1152, .inl (fun _ => nI 0))), (q4, .inl (G.2.1, 64, .inl (fun _ => nI 0))), (q5, .inl (G.2.1, 64, .inl (fun _ => nI 0)))]) := hD
  refine lv_aload_n hx hb dX0_init_64 rfl (lv_at hl 0 rfl) ?_
  refine va_get (D := G.1) (ci := 0) (v := .ref q1) (C := RX0) (T := TX0) (N := 8) hx hb hts inX0 hown hK.1 hP 0 rfl rfl 3 (by decide) fl21 (fun _ h9 => h9) rfl dX0_init_65 ?_
  refine lv_iconst (v := (-1)) hx hb dX0_init_68 (by decide) ?_
  refine mx_callEv (va_runS (As := [.ref q1, .int (-1)]) (rest := []) ⟨hx, hb, hml, hown, hts⟩ (c_J7_fill l G q1 1152 (fun _ => nI 0) (-1) (by omega) _) (va_cwS 2 hts gX0_init_J7_fill_53178 rfl rfl rfl (by decide +kernel) ⟨Nat.le_of_ble_eq_true rfl, Nat.le_of_ble_eq_true rfl⟩) (mx_preS hK ⟨rfl, mx_cut (a := ([(q1, .inl (G.2.1, 1152, .inl (fun _ => nI 0)))] : va_W)) (b := ([(h0, .inr (0, [.int (nI 80), .int (nI 10), .int (nI 5), .ref q1, .ref q2, .ref q3, .ref q4, .ref q5]))] : va_W) ++ ([(q2, .inl (G.2.1, 1152, .inl (fun _ => nI 0))), (q3, .inl (G.2.1, 1152, .inl (fun _ => nI 0))), (q4, .inl (G.2.1, 64, .inl (fun _ => nI 0))), (q5, .inl (G.2.1, 64, .inl (fun _ => nI 0)))] : va_W)) hP hD (mx_perm (fun n9 hn9 => by simp only [hn9]; omega) : List.Perm (([(h0, .inr (0, [.int (nI 80), .int (nI 10), .int (nI 5), .ref q1, .ref q2, .ref q3, .ref q4, .ref q5]))] : va_W) ++ (([(q1, .inl (G.2.1, 1152, .inl (fun _ => nI 0)))] : va_W) ++ ([(q2, .inl (G.2.1, 1152, .inl (fun _ => nI 0))), (q3, .inl (G.2.1, 1152, .inl (fun _ => nI 0))), (q4, .inl (G.2.1, 64, .inl (fun _ => nI 0))), (q5, .inl (G.2.1, 64, .inl (fun _ => nI 0)))] : va_W))) (([(q1, .inl (G.2.1, 1152, .inl (fun _ => nI 0)))] : va_W) ++ (([(h0, .inr (0, [.int (nI 80), .int (nI 10), .int (nI 5), .ref q1, .ref q2, .ref q3, .ref q4, .ref q5]))] : va_W) ++ ([(q2, .inl (G.2.1, 1152, .inl (fun _ => nI 0))), (q3, .inl (G.2.1, 1152, .inl (fun _ => nI 0))), (q4, .inl (G.2.1, 64, .inl (fun _ => nI 0))), (q5, .inl (G.2.1, 64, .inl (fun _ => nI 0)))] : va_W))))⟩) rfl rfl hl.1 rfl (lv_room (Nat.le_of_ble_eq_true rfl)) dX0_init_69 ⟨Nat.le_of_ble_eq_true rfl, Nat.le_of_ble_eq_true rfl⟩) hP hD hS hA ((mx_perm (fun n9 hn9 => by simp only [hn9]; omega) : List.Perm (([(h0, .inr (0, [.int (nI 80), .int (nI 10), .int (nI 5), .ref q1, .ref q2, .ref q3, .ref q4, .ref q5]))] : va_W) ++ (([(q1, .inl (G.2.1, 1152, .inl (fun _ => nI 0)))] : va_W) ++ ([(q2, .inl (G.2.1, 1152, .inl (fun _ => nI 0))), (q3, .inl (G.2.1, 1152, .inl (fun _ => nI 0))), (q4, .inl (G.2.1, 64, .inl (fun _ => nI 0))), (q5, .inl (G.2.1, 64, .inl (fun _ => nI 0)))] : va_W))) (([(q1, .inl (G.2.1, 1152, .inl (fun _ => nI 0)))] : va_W) ++ (([(h0, .inr (0, [.int (nI 80), .int (nI 10), .int (nI 5), .ref q1, .ref q2, .ref q3, .ref q4, .ref q5]))] : va_W) ++ ([(q2, .inl (G.2.1, 1152, .inl (fun _ => nI 0))), (q3, .inl (G.2.1, 1152, .inl (fun _ => nI 0))), (q4, .inl (G.2.1, 64, .inl (fun _ => nI 0))), (q5, .inl (G.2.1, 64, .inl (fun _ => nI 0)))] : va_W))))) (fun uf H locs huf hP hD hS => ?_)
  have hP : va_P G.1 vwCl ([(h0, .inr (0, [.int (nI 80), .int (nI 10), .int (nI 5), .ref q1, .ref q2, .ref q3, .ref q4, .ref q5])), (q1, .inl (G.2.1, 1152, .inl (uf))), (q2, .inl (G.2.1, 1152, .inl (fun _ => nI 0))), (q3, .inl (G.2.1, 1152, .inl (fun _ => nI 0))), (q4, .inl (G.2.1, 64, .inl (fun _ => nI 0))), (q5, .inl (G.2.1, 64, .inl (fun _ => nI 0)))]) H := mx_Pperm hP (mx_perm (fun n9 hn9 => by simp only [hn9]; omega) : List.Perm (([(q1, .inl (G.2.1, 1152, .inl (uf)))] : va_W) ++ (([(h0, .inr (0, [.int (nI 80), .int (nI 10), .int (nI 5), .ref q1, .ref q2, .ref q3, .ref q4, .ref q5]))] : va_W) ++ ([(q2, .inl (G.2.1, 1152, .inl (fun _ => nI 0))), (q3, .inl (G.2.1, 1152, .inl (fun _ => nI 0))), (q4, .inl (G.2.1, 64, .inl (fun _ => nI 0))), (q5, .inl (G.2.1, 64, .inl (fun _ => nI 0)))] : va_W))) (([(h0, .inr (0, [.int (nI 80), .int (nI 10), .int (nI 5), .ref q1, .ref q2, .ref q3, .ref q4, .ref q5]))] : va_W) ++ (([(q1, .inl (G.2.1, 1152, .inl (uf)))] : va_W) ++ ([(q2, .inl (G.2.1, 1152, .inl (fun _ => nI 0))), (q3, .inl (G.2.1, 1152, .inl (fun _ => nI 0))), (q4, .inl (G.2.1, 64, .inl (fun _ => nI 0))), (q5, .inl (G.2.1, 64, .inl (fun _ => nI 0)))] : va_W))))
  have hD : va_D _ ([(h0, .inr (0, [.int (nI 80), .int (nI 10), .int (nI 5), .ref q1, .ref q2, .ref q3, .ref q4, .ref q5])), (q1, .inl (G.2.1, 1152, .inl (uf))), (q2, .inl (G.2.1, 1152, .inl (fun _ => nI 0))), (q3, .inl (G.2.1, 1152, .inl (fun _ => nI 0))), (q4, .inl (G.2.1, 64, .inl (fun _ => nI 0))), (q5, .inl (G.2.1, 64, .inl (fun _ => nI 0)))]) := mx_Dperm hD (mx_perm (fun n9 hn9 => by simp only [hn9]; omega) : List.Perm (([(q1, .inl (G.2.1, 1152, .inl (uf)))] : va_W) ++ (([(h0, .inr (0, [.int (nI 80), .int (nI 10), .int (nI 5), .ref q1, .ref q2, .ref q3, .ref q4, .ref q5]))] : va_W) ++ ([(q2, .inl (G.2.1, 1152, .inl (fun _ => nI 0))), (q3, .inl (G.2.1, 1152, .inl (fun _ => nI 0))), (q4, .inl (G.2.1, 64, .inl (fun _ => nI 0))), (q5, .inl (G.2.1, 64, .inl (fun _ => nI 0)))] : va_W))) (([(h0, .inr (0, [.int (nI 80), .int (nI 10), .int (nI 5), .ref q1, .ref q2, .ref q3, .ref q4, .ref q5]))] : va_W) ++ (([(q1, .inl (G.2.1, 1152, .inl (uf)))] : va_W) ++ ([(q2, .inl (G.2.1, 1152, .inl (fun _ => nI 0))), (q3, .inl (G.2.1, 1152, .inl (fun _ => nI 0))), (q4, .inl (G.2.1, 64, .inl (fun _ => nI 0))), (q5, .inl (G.2.1, 64, .inl (fun _ => nI 0)))] : va_W))))
  refine W.widen (k := 5) (n := 3584) (Nat.le_of_ble_eq_true rfl) (Nat.le_of_ble_eq_true rfl) ?_
  exact W.vret hx hb hr (fun t9 ht9 hW9 => ⟨⟨(fun i : Nat => match i with | 0 => h0 | 4 => q1 | 5 => q2 | 6 => q3 | 7 => q4 | 8 => q5 | _ => 0, uf), rfl, ⟨rfl, huf⟩, by rw [ht9]; exact hP, hD⟩, hS.F ht9⟩) hS.2.2 dX0_init_72

set_option maxHeartbeats 4000000 in
set_option maxRecDepth 100000 in
theorem c_X4_init (l : Launch) (G : mx_G) (h0 : Nat) (sz : Nat) : mx_EF l yX4_init wsX4_init 1 21 4 240 G [.ref h0] sz ([(h0, .inr (4, [.null, .int (nI 0), .null, .null, .null, .int (nI 0)]))]) (fun _ : Nat → Nat => none) (fun u : Nat → Nat => u 0 = h0) (fun u : Nat → Nat => KW G u (fun _ => nI 0) (fun _ _ => nI 0)) := by
  refine Met.ofW (cc := cX4_init) (maxL := 1) (ret := none) (by decide) rfl ?_
  intro p e s m args below meth c s₁ BB hml hv
  obtain ⟨rfl, ⟨hsz, hP, hD0⟩, hK⟩ := hv
  have hx := BB.exec
  have hb := BB.bytes
  have hr := BB.returns
  have hts := atoms_spec (ws := wsX4_init) BB.pre
  have hown : s.vm.findClass RX4 = some m.cls := findClass_of_methodNamed BB.named
  have hlocks := BB.notSynchronized
  have hin : meth.name = "<init>" := (name_of_methodNamed BB.named BB.method).1
  subst hsz
  have hD := hD0.self (sz := s.heap.size)
  have hA : ∀ q : Nat, s.heap.size ≤ q → va_A ([(h0, .inr (4, [.null, .int (nI 0), .null, .null, .null, .int (nI 0)]))]) s.heap.size q := fun q h => Or.inr h
  have hS : va_S (va_A ([(h0, .inr (4, [.null, .int (nI 0), .null, .null, .null, .int (nI 0)]))]) s.heap.size) s.heap s.heap [] := va_S.rf
  have fl11 := hts (.fieldLink RX4 11 "MixDesk$Strokes" "ticks" "[I") (by decide +kernel)
  have fl15 := hts (.fieldLink RX4 15 "MixDesk$Strokes" "count" "I") (by decide +kernel)
  have fl19 := hts (.fieldLink RX4 19 "MixDesk$Strokes" "restCost" "[I") (by decide +kernel)
  have fl22 := hts (.fieldLink RX4 22 "MixDesk$Strokes" "nextTaken" "[I") (by decide +kernel)
  have fl25 := hts (.fieldLink RX4 25 "MixDesk$Strokes" "taken" "[I") (by decide +kernel)
  have fl28 := hts (.fieldLink RX4 28 "MixDesk$Strokes" "takenCount" "I") (by decide +kernel)
  have inX4 : ∀ w ∈ wsX40, w ∈ wsX4_init := by decide +kernel
  have hl := lv_entry ([.ref h0]) (n := 1) (Nat.le_of_ble_eq_true rfl)
  rw [lg_entry_eq]
  generalize (lg_sl ([.ref h0]) ++ List.replicate (1 - (lg_sl ([.ref h0])).length) Slot.unset).toArray = ls at hl ⊢
  have hl : lv_has ls 1 [(0, .ref h0)] := hl
  refine lv_aload_n hx hb dX4_init_0 rfl (lv_at hl 0 rfl) ?_
  refine W.objInit hx hb hown (hts (.methodLink RX4 3 objectInit) (by decide +kernel)) (hts (.instanceMethod objectInit) (by decide +kernel)) (hts (.code objectInit ⟨#[0xb1]⟩ 1 none) (by decide +kernel)) rfl (by rw [hml]; exact hl.1) rfl dX4_init_1 (Nat.le_of_ble_eq_true rfl) (Nat.le_of_ble_eq_true rfl) ?_
  refine W.eq (g2 := F0 m 4 ls []) rfl ?_
  refine lv_aload_n hx hb dX4_init_4 rfl (lv_at hl 0 rfl) ?_
  refine lv_bipush (v := nI 60) hx hb dX4_init_5 (by decide) ?_
  refine x_newI hx hb (hts (.arrayClass .int) (by decide +kernel)) hK hP hD hS hA (n := 60) (by omega) (Nat.le_of_ble_eq_true rfl) (Nat.le_of_ble_eq_true rfl) dX4_init_7 (fun q1 H hP hD hS => ?_)
  have hP : va_P G.1 vwCl ([(h0, .inr (4, [.null, .int (nI 0), .null, .null, .null, .int (nI 0)])), (q1, .inl (G.2.1, 60, .inl (fun _ => nI 0)))]) H := hP
  have hD : va_D _ ([(h0, .inr (4, [.null, .int (nI 0), .null, .null, .null, .int (nI 0)])), (q1, .inl (G.2.1, 60, .inl (fun _ => nI 0)))]) := hD
  refine va_putF (D := G.1) (ci := 4) (v := .ref q1) (ty := .array .int) (C := RX4) (T := TX4) (N := 6) hx hb hts inX4 tyX4 tyX4_ok nmX4 hown hK.1 hP hD hS 0 rfl rfl 0 (by decide) fl11 (fun _ h9 => h9) rfl hin rfl (by decide +kernel) rfl rfl (Nat.le_of_ble_eq_true rfl) dX4_init_9 (fun H locs hP hD hS => ?_)
  have hP : va_P G.1 vwCl ([(h0, .inr (4, [.ref q1, .int (nI 0), .null, .null, .null, .int (nI 0)])), (q1, .inl (G.2.1, 60, .inl (fun _ => nI 0)))]) H := hP
  have hD : va_D _ ([(h0, .inr (4, [.ref q1, .int (nI 0), .null, .null, .null, .int (nI 0)])), (q1, .inl (G.2.1, 60, .inl (fun _ => nI 0)))]) := hD
  refine lv_aload_n hx hb dX4_init_12 rfl (lv_at hl 0 rfl) ?_
  refine lv_iconst (v := nI 0) hx hb dX4_init_13 (by decide) ?_
  refine va_put (D := G.1) (ci := 4) (v := .int (nI 0)) (ty := .int) (C := RX4) (T := TX4) (N := 6) hx hb hts inX4 tyX4 tyX4_ok nmX4 hown hK.1 hP hD hS 0 rfl rfl 1 (by decide) fl15 (fun _ h9 => h9) rfl (by decide +kernel) rfl rfl (Nat.le_of_ble_eq_true rfl) dX4_init_14 (fun H locs hP hD hS => ?_)
  have hP : va_P G.1 vwCl ([(h0, .inr (4, [.ref q1, .int (nI 0), .null, .null, .null, .int (nI 0)])), (q1, .inl (G.2.1, 60, .inl (fun _ => nI 0)))]) H := hP
  have hD : va_D _ ([(h0, .inr (4, [.ref q1, .int (nI 0), .null, .null, .null, .int (nI 0)])), (q1, .inl (G.2.1, 60, .inl (fun _ => nI 0)))]) := hD
  refine lv_aload_n hx hb dX4_init_17 rfl (lv_at hl 0 rfl) ?_
  refine lv_bipush (v := nI 60) hx hb dX4_init_18 (by decide) ?_
  refine x_newI hx hb (hts (.arrayClass .int) (by decide +kernel)) hK hP hD hS hA (n := 60) (by omega) (Nat.le_of_ble_eq_true rfl) (Nat.le_of_ble_eq_true rfl) dX4_init_20 (fun q2 H hP hD hS => ?_)
  have hP : va_P G.1 vwCl ([(h0, .inr (4, [.ref q1, .int (nI 0), .null, .null, .null, .int (nI 0)])), (q1, .inl (G.2.1, 60, .inl (fun _ => nI 0))), (q2, .inl (G.2.1, 60, .inl (fun _ => nI 0)))]) H := hP
  have hD : va_D _ ([(h0, .inr (4, [.ref q1, .int (nI 0), .null, .null, .null, .int (nI 0)])), (q1, .inl (G.2.1, 60, .inl (fun _ => nI 0))), (q2, .inl (G.2.1, 60, .inl (fun _ => nI 0)))]) := hD
  refine va_putF (D := G.1) (ci := 4) (v := .ref q2) (ty := .array .int) (C := RX4) (T := TX4) (N := 6) hx hb hts inX4 tyX4 tyX4_ok nmX4 hown hK.1 hP hD hS 0 rfl rfl 2 (by decide) fl19 (fun _ h9 => h9) rfl hin rfl (by decide +kernel) rfl rfl (Nat.le_of_ble_eq_true rfl) dX4_init_22 (fun H locs hP hD hS => ?_)
  have hP : va_P G.1 vwCl ([(h0, .inr (4, [.ref q1, .int (nI 0), .ref q2, .null, .null, .int (nI 0)])), (q1, .inl (G.2.1, 60, .inl (fun _ => nI 0))), (q2, .inl (G.2.1, 60, .inl (fun _ => nI 0)))]) H := hP
  have hD : va_D _ ([(h0, .inr (4, [.ref q1, .int (nI 0), .ref q2, .null, .null, .int (nI 0)])), (q1, .inl (G.2.1, 60, .inl (fun _ => nI 0))), (q2, .inl (G.2.1, 60, .inl (fun _ => nI 0)))]) := hD
  refine lv_aload_n hx hb dX4_init_25 rfl (lv_at hl 0 rfl) ?_
  refine lv_bipush (v := nI 60) hx hb dX4_init_26 (by decide) ?_
  refine x_newI hx hb (hts (.arrayClass .int) (by decide +kernel)) hK hP hD hS hA (n := 60) (by omega) (Nat.le_of_ble_eq_true rfl) (Nat.le_of_ble_eq_true rfl) dX4_init_28 (fun q3 H hP hD hS => ?_)
  have hP : va_P G.1 vwCl ([(h0, .inr (4, [.ref q1, .int (nI 0), .ref q2, .null, .null, .int (nI 0)])), (q1, .inl (G.2.1, 60, .inl (fun _ => nI 0))), (q2, .inl (G.2.1, 60, .inl (fun _ => nI 0))), (q3, .inl (G.2.1, 60, .inl (fun _ => nI 0)))]) H := hP
  have hD : va_D _ ([(h0, .inr (4, [.ref q1, .int (nI 0), .ref q2, .null, .null, .int (nI 0)])), (q1, .inl (G.2.1, 60, .inl (fun _ => nI 0))), (q2, .inl (G.2.1, 60, .inl (fun _ => nI 0))), (q3, .inl (G.2.1, 60, .inl (fun _ => nI 0)))]) := hD
  refine va_putF (D := G.1) (ci := 4) (v := .ref q3) (ty := .array .int) (C := RX4) (T := TX4) (N := 6) hx hb hts inX4 tyX4 tyX4_ok nmX4 hown hK.1 hP hD hS 0 rfl rfl 3 (by decide) fl22 (fun _ h9 => h9) rfl hin rfl (by decide +kernel) rfl rfl (Nat.le_of_ble_eq_true rfl) dX4_init_30 (fun H locs hP hD hS => ?_)
  have hP : va_P G.1 vwCl ([(h0, .inr (4, [.ref q1, .int (nI 0), .ref q2, .ref q3, .null, .int (nI 0)])), (q1, .inl (G.2.1, 60, .inl (fun _ => nI 0))), (q2, .inl (G.2.1, 60, .inl (fun _ => nI 0))), (q3, .inl (G.2.1, 60, .inl (fun _ => nI 0)))]) H := hP
  have hD : va_D _ ([(h0, .inr (4, [.ref q1, .int (nI 0), .ref q2, .ref q3, .null, .int (nI 0)])), (q1, .inl (G.2.1, 60, .inl (fun _ => nI 0))), (q2, .inl (G.2.1, 60, .inl (fun _ => nI 0))), (q3, .inl (G.2.1, 60, .inl (fun _ => nI 0)))]) := hD
  refine lv_aload_n hx hb dX4_init_33 rfl (lv_at hl 0 rfl) ?_
  refine lv_bipush (v := nI 60) hx hb dX4_init_34 (by decide) ?_
  refine x_newI hx hb (hts (.arrayClass .int) (by decide +kernel)) hK hP hD hS hA (n := 60) (by omega) (Nat.le_of_ble_eq_true rfl) (Nat.le_of_ble_eq_true rfl) dX4_init_36 (fun q4 H hP hD hS => ?_)
  have hP : va_P G.1 vwCl ([(h0, .inr (4, [.ref q1, .int (nI 0), .ref q2, .ref q3, .null, .int (nI 0)])), (q1, .inl (G.2.1, 60, .inl (fun _ => nI 0))), (q2, .inl (G.2.1, 60, .inl (fun _ => nI 0))), (q3, .inl (G.2.1, 60, .inl (fun _ => nI 0))), (q4, .inl (G.2.1, 60, .inl (fun _ => nI 0)))]) H := hP
  have hD : va_D _ ([(h0, .inr (4, [.ref q1, .int (nI 0), .ref q2, .ref q3, .null, .int (nI 0)])), (q1, .inl (G.2.1, 60, .inl (fun _ => nI 0))), (q2, .inl (G.2.1, 60, .inl (fun _ => nI 0))), (q3, .inl (G.2.1, 60, .inl (fun _ => nI 0))), (q4, .inl (G.2.1, 60, .inl (fun _ => nI 0)))]) := hD
  refine va_putF (D := G.1) (ci := 4) (v := .ref q4) (ty := .array .int) (C := RX4) (T := TX4) (N := 6) hx hb hts inX4 tyX4 tyX4_ok nmX4 hown hK.1 hP hD hS 0 rfl rfl 4 (by decide) fl25 (fun _ h9 => h9) rfl hin rfl (by decide +kernel) rfl rfl (Nat.le_of_ble_eq_true rfl) dX4_init_38 (fun H locs hP hD hS => ?_)
  have hP : va_P G.1 vwCl ([(h0, .inr (4, [.ref q1, .int (nI 0), .ref q2, .ref q3, .ref q4, .int (nI 0)])), (q1, .inl (G.2.1, 60, .inl (fun _ => nI 0))), (q2, .inl (G.2.1, 60, .inl (fun _ => nI 0))), (q3, .inl (G.2.1, 60, .inl (fun _ => nI 0))), (q4, .inl (G.2.1, 60, .inl (fun _ => nI 0)))]) H := hP
  have hD : va_D _ ([(h0, .inr (4, [.ref q1, .int (nI 0), .ref q2, .ref q3, .ref q4, .int (nI 0)])), (q1, .inl (G.2.1, 60, .inl (fun _ => nI 0))), (q2, .inl (G.2.1, 60, .inl (fun _ => nI 0))), (q3, .inl (G.2.1, 60, .inl (fun _ => nI 0))), (q4, .inl (G.2.1, 60, .inl (fun _ => nI 0)))]) := hD
  refine lv_aload_n hx hb dX4_init_41 rfl (lv_at hl 0 rfl) ?_
  refine lv_iconst (v := nI 0) hx hb dX4_init_42 (by decide) ?_
  refine va_put (D := G.1) (ci := 4) (v := .int (nI 0)) (ty := .int) (C := RX4) (T := TX4) (N := 6) hx hb hts inX4 tyX4 tyX4_ok nmX4 hown hK.1 hP hD hS 0 rfl rfl 5 (by decide) fl28 (fun _ h9 => h9) rfl (by decide +kernel) rfl rfl (Nat.le_of_ble_eq_true rfl) dX4_init_43 (fun H locs hP hD hS => ?_)
  have hP : va_P G.1 vwCl ([(h0, .inr (4, [.ref q1, .int (nI 0), .ref q2, .ref q3, .ref q4, .int (nI 0)])), (q1, .inl (G.2.1, 60, .inl (fun _ => nI 0))), (q2, .inl (G.2.1, 60, .inl (fun _ => nI 0))), (q3, .inl (G.2.1, 60, .inl (fun _ => nI 0))), (q4, .inl (G.2.1, 60, .inl (fun _ => nI 0)))]) H := hP
  have hD : va_D _ ([(h0, .inr (4, [.ref q1, .int (nI 0), .ref q2, .ref q3, .ref q4, .int (nI 0)])), (q1, .inl (G.2.1, 60, .inl (fun _ => nI 0))), (q2, .inl (G.2.1, 60, .inl (fun _ => nI 0))), (q3, .inl (G.2.1, 60, .inl (fun _ => nI 0))), (q4, .inl (G.2.1, 60, .inl (fun _ => nI 0)))]) := hD
  refine W.widen (k := 4) (n := 240) (Nat.le_of_ble_eq_true rfl) (Nat.le_of_ble_eq_true rfl) ?_
  exact W.vret hx hb hr (fun t9 ht9 hW9 => ⟨⟨(fun i : Nat => match i with | 0 => h0 | 1 => q1 | 3 => q2 | 4 => q3 | 5 => q4 | _ => 0), rfl, rfl, by rw [ht9]; exact hP, hD⟩, hS.F ht9⟩) hS.2.2 dX4_init_46

set_option maxHeartbeats 4000000 in
set_option maxRecDepth 100000 in
theorem c_X1_init (l : Launch) (G : mx_G) (h0 : Nat) (sz : Nat) : mx_EF l yX1_init wsX1_init 1 21 3 97 G [.ref h0] sz ([(h0, .inr (1, [.int (nI 0), .null, .null, .null]))]) (fun _ : Nat → Nat => none) (fun u : Nat → Nat => u 0 = h0) (fun u : Nat → Nat => TW G u (fun _ => nI 0) (fun _ _ => nI 0)) := by
  refine Met.ofW (cc := cX1_init) (maxL := 1) (ret := none) (by decide) rfl ?_
  intro p e s m args below meth c s₁ BB hml hv
  obtain ⟨rfl, ⟨hsz, hP, hD0⟩, hK⟩ := hv
  have hx := BB.exec
  have hb := BB.bytes
  have hr := BB.returns
  have hts := atoms_spec (ws := wsX1_init) BB.pre
  have hown : s.vm.findClass RX1 = some m.cls := findClass_of_methodNamed BB.named
  have hlocks := BB.notSynchronized
  have hin : meth.name = "<init>" := (name_of_methodNamed BB.named BB.method).1
  subst hsz
  have hD := hD0.self (sz := s.heap.size)
  have hA : ∀ q : Nat, s.heap.size ≤ q → va_A ([(h0, .inr (1, [.int (nI 0), .null, .null, .null]))]) s.heap.size q := fun q h => Or.inr h
  have hS : va_S (va_A ([(h0, .inr (1, [.int (nI 0), .null, .null, .null]))]) s.heap.size) s.heap s.heap [] := va_S.rf
  have fl15 := hts (.fieldLink RX1 15 "MixDesk$Meeting" "begins" "[I") (by decide +kernel)
  have fl19 := hts (.fieldLink RX1 19 "MixDesk$Meeting" "lasts" "[I") (by decide +kernel)
  have fl22 := hts (.fieldLink RX1 22 "MixDesk$Meeting" "bends" "[I") (by decide +kernel)
  have fl9 := hts (.fieldLink RX1 9 "MixDesk$Meeting" "beats" "I") (by decide +kernel)
  have inX1 : ∀ w ∈ wsX10, w ∈ wsX1_init := by decide +kernel
  have hl := lv_entry ([.ref h0]) (n := 1) (Nat.le_of_ble_eq_true rfl)
  rw [lg_entry_eq]
  generalize (lg_sl ([.ref h0]) ++ List.replicate (1 - (lg_sl ([.ref h0])).length) Slot.unset).toArray = ls at hl ⊢
  have hl : lv_has ls 1 [(0, .ref h0)] := hl
  refine lv_aload_n hx hb dX1_init_0 rfl (lv_at hl 0 rfl) ?_
  refine W.objInit hx hb hown (hts (.methodLink RX1 3 objectInit) (by decide +kernel)) (hts (.instanceMethod objectInit) (by decide +kernel)) (hts (.code objectInit ⟨#[0xb1]⟩ 1 none) (by decide +kernel)) rfl (by rw [hml]; exact hl.1) rfl dX1_init_1 (Nat.le_of_ble_eq_true rfl) (Nat.le_of_ble_eq_true rfl) ?_
  refine W.eq (g2 := F0 m 4 ls []) rfl ?_
  refine lv_aload_n hx hb dX1_init_4 rfl (lv_at hl 0 rfl) ?_
  refine lv_iconst (v := nI 0) hx hb dX1_init_5 (by decide) ?_
  refine va_put (D := G.1) (ci := 1) (v := .int (nI 0)) (ty := .int) (C := RX1) (T := TX1) (N := 4) hx hb hts inX1 tyX1 tyX1_ok nmX1 hown hK.1 hP hD hS 0 rfl rfl 0 (by decide) fl9 (fun _ h9 => h9) rfl (by decide +kernel) rfl rfl (Nat.le_of_ble_eq_true rfl) dX1_init_6 (fun H locs hP hD hS => ?_)
  have hP : va_P G.1 vwCl ([(h0, .inr (1, [.int (nI 0), .null, .null, .null]))]) H := hP
  have hD : va_D _ ([(h0, .inr (1, [.int (nI 0), .null, .null, .null]))]) := hD
  refine lv_aload_n hx hb dX1_init_9 rfl (lv_at hl 0 rfl) ?_
  refine lv_bipush (v := nI 33) hx hb dX1_init_10 (by decide) ?_
  refine x_newI hx hb (hts (.arrayClass .int) (by decide +kernel)) hK hP hD hS hA (n := 33) (by omega) (Nat.le_of_ble_eq_true rfl) (Nat.le_of_ble_eq_true rfl) dX1_init_12 (fun q1 H hP hD hS => ?_)
  have hP : va_P G.1 vwCl ([(h0, .inr (1, [.int (nI 0), .null, .null, .null])), (q1, .inl (G.2.1, 33, .inl (fun _ => nI 0)))]) H := hP
  have hD : va_D _ ([(h0, .inr (1, [.int (nI 0), .null, .null, .null])), (q1, .inl (G.2.1, 33, .inl (fun _ => nI 0)))]) := hD
  refine va_putF (D := G.1) (ci := 1) (v := .ref q1) (ty := .array .int) (C := RX1) (T := TX1) (N := 4) hx hb hts inX1 tyX1 tyX1_ok nmX1 hown hK.1 hP hD hS 0 rfl rfl 1 (by decide) fl15 (fun _ h9 => h9) rfl hin rfl (by decide +kernel) rfl rfl (Nat.le_of_ble_eq_true rfl) dX1_init_14 (fun H locs hP hD hS => ?_)
  have hP : va_P G.1 vwCl ([(h0, .inr (1, [.int (nI 0), .ref q1, .null, .null])), (q1, .inl (G.2.1, 33, .inl (fun _ => nI 0)))]) H := hP
  have hD : va_D _ ([(h0, .inr (1, [.int (nI 0), .ref q1, .null, .null])), (q1, .inl (G.2.1, 33, .inl (fun _ => nI 0)))]) := hD
  refine lv_aload_n hx hb dX1_init_17 rfl (lv_at hl 0 rfl) ?_
  refine lv_bipush (v := nI 32) hx hb dX1_init_18 (by decide) ?_
  refine x_newI hx hb (hts (.arrayClass .int) (by decide +kernel)) hK hP hD hS hA (n := 32) (by omega) (Nat.le_of_ble_eq_true rfl) (Nat.le_of_ble_eq_true rfl) dX1_init_20 (fun q2 H hP hD hS => ?_)
  have hP : va_P G.1 vwCl ([(h0, .inr (1, [.int (nI 0), .ref q1, .null, .null])), (q1, .inl (G.2.1, 33, .inl (fun _ => nI 0))), (q2, .inl (G.2.1, 32, .inl (fun _ => nI 0)))]) H := hP
  have hD : va_D _ ([(h0, .inr (1, [.int (nI 0), .ref q1, .null, .null])), (q1, .inl (G.2.1, 33, .inl (fun _ => nI 0))), (q2, .inl (G.2.1, 32, .inl (fun _ => nI 0)))]) := hD
  refine va_putF (D := G.1) (ci := 1) (v := .ref q2) (ty := .array .int) (C := RX1) (T := TX1) (N := 4) hx hb hts inX1 tyX1 tyX1_ok nmX1 hown hK.1 hP hD hS 0 rfl rfl 2 (by decide) fl19 (fun _ h9 => h9) rfl hin rfl (by decide +kernel) rfl rfl (Nat.le_of_ble_eq_true rfl) dX1_init_22 (fun H locs hP hD hS => ?_)
  have hP : va_P G.1 vwCl ([(h0, .inr (1, [.int (nI 0), .ref q1, .ref q2, .null])), (q1, .inl (G.2.1, 33, .inl (fun _ => nI 0))), (q2, .inl (G.2.1, 32, .inl (fun _ => nI 0)))]) H := hP
  have hD : va_D _ ([(h0, .inr (1, [.int (nI 0), .ref q1, .ref q2, .null])), (q1, .inl (G.2.1, 33, .inl (fun _ => nI 0))), (q2, .inl (G.2.1, 32, .inl (fun _ => nI 0)))]) := hD
  refine lv_aload_n hx hb dX1_init_25 rfl (lv_at hl 0 rfl) ?_
  refine lv_bipush (v := nI 32) hx hb dX1_init_26 (by decide) ?_
  refine x_newI hx hb (hts (.arrayClass .int) (by decide +kernel)) hK hP hD hS hA (n := 32) (by omega) (Nat.le_of_ble_eq_true rfl) (Nat.le_of_ble_eq_true rfl) dX1_init_28 (fun q3 H hP hD hS => ?_)
  have hP : va_P G.1 vwCl ([(h0, .inr (1, [.int (nI 0), .ref q1, .ref q2, .null])), (q1, .inl (G.2.1, 33, .inl (fun _ => nI 0))), (q2, .inl (G.2.1, 32, .inl (fun _ => nI 0))), (q3, .inl (G.2.1, 32, .inl (fun _ => nI 0)))]) H := hP
  have hD : va_D _ ([(h0, .inr (1, [.int (nI 0), .ref q1, .ref q2, .null])), (q1, .inl (G.2.1, 33, .inl (fun _ => nI 0))), (q2, .inl (G.2.1, 32, .inl (fun _ => nI 0))), (q3, .inl (G.2.1, 32, .inl (fun _ => nI 0)))]) := hD
  refine va_putF (D := G.1) (ci := 1) (v := .ref q3) (ty := .array .int) (C := RX1) (T := TX1) (N := 4) hx hb hts inX1 tyX1 tyX1_ok nmX1 hown hK.1 hP hD hS 0 rfl rfl 3 (by decide) fl22 (fun _ h9 => h9) rfl hin rfl (by decide +kernel) rfl rfl (Nat.le_of_ble_eq_true rfl) dX1_init_30 (fun H locs hP hD hS => ?_)
  have hP : va_P G.1 vwCl ([(h0, .inr (1, [.int (nI 0), .ref q1, .ref q2, .ref q3])), (q1, .inl (G.2.1, 33, .inl (fun _ => nI 0))), (q2, .inl (G.2.1, 32, .inl (fun _ => nI 0))), (q3, .inl (G.2.1, 32, .inl (fun _ => nI 0)))]) H := hP
  have hD : va_D _ ([(h0, .inr (1, [.int (nI 0), .ref q1, .ref q2, .ref q3])), (q1, .inl (G.2.1, 33, .inl (fun _ => nI 0))), (q2, .inl (G.2.1, 32, .inl (fun _ => nI 0))), (q3, .inl (G.2.1, 32, .inl (fun _ => nI 0)))]) := hD
  refine W.widen (k := 3) (n := 97) (Nat.le_of_ble_eq_true rfl) (Nat.le_of_ble_eq_true rfl) ?_
  exact W.vret hx hb hr (fun t9 ht9 hW9 => ⟨⟨(fun i : Nat => match i with | 0 => h0 | 2 => q1 | 3 => q2 | 4 => q3 | _ => 0), rfl, rfl, by rw [ht9]; exact hP, hD⟩, hS.F ht9⟩) hS.2.2 dX1_init_33
