set_option maxHeartbeats 4000000 in
set_option maxRecDepth 100000 in
theorem c_X6_loads (l : Launch) (G : mx_G) (ad : Nat → Nat) (F : Nat → Int32) (R : Nat → Nat → Int32) (j k : Nat) (σ τ : Sg) (hs : j < 12) (ks : k < 12) (hm : moSg R j σ) (km : moSg R k τ) (ok : sgOk σ) (kok : sgOk τ) (sz : Nat) : mx_EF l yX6_loads wsX6_loads 3 72 0 0 G [.ref (ad 0), .int (nI j), .int (nI k)] sz (MW G ad F R) (fun _ : Nat → Nat → Int32 => none) (fun U : Nat → Nat → Int32 => keepX U R ∧ rowsOk U σ τ) (fun U : Nat → Nat → Int32 => MW G ad F U) := by
  refine Met.ofW (cc := cX6_loads) (maxL := 3) (ret := none) (by decide) rfl ?_
  intro p e s m args below meth c s₁ BB hml hv
  obtain ⟨rfl, ⟨hsz, hP, hD0⟩, hK⟩ := hv
  have hx := BB.exec
  have hb := BB.bytes
  have hr := BB.returns
  have hts := atoms_spec (ws := wsX6_loads) BB.pre
  have hown : s.vm.findClass RX6 = some m.cls := findClass_of_methodNamed BB.named
  have hlocks := BB.notSynchronized
  subst hsz
  have hD := hD0.self (sz := s.heap.size)
  have hA : ∀ q : Nat, s.heap.size ≤ q → va_A (MW G ad F R) s.heap.size q := fun q h => Or.inr h
  have hS : va_S (va_A (MW G ad F R) s.heap.size) s.heap s.heap [] := va_S.rf
  have fl69 := hts (.fieldLink RX6 69 "MixDeskModel" "rowX" "[I") (by decide +kernel)
  have fl72 := hts (.fieldLink RX6 72 "MixDeskModel" "rowY" "[I") (by decide +kernel)
  have fl75 := hts (.fieldLink RX6 75 "MixDeskModel" "brokenX" "[Z") (by decide +kernel)
  have fl78 := hts (.fieldLink RX6 78 "MixDeskModel" "brokenY" "[Z") (by decide +kernel)
  have fl81 := hts (.fieldLink RX6 81 "MixDeskModel" "phraseX" "[Z") (by decide +kernel)
  have fl84 := hts (.fieldLink RX6 84 "MixDeskModel" "phraseY" "[Z") (by decide +kernel)
  have inX6 : ∀ w ∈ wsX60, w ∈ wsX6_loads := by decide +kernel
  have hl := lv_entry ([.ref (ad 0), .int (nI j), .int (nI k)]) (n := 3) (Nat.le_of_ble_eq_true rfl)
  rw [lg_entry_eq]
  generalize (lg_sl ([.ref (ad 0), .int (nI j), .int (nI k)]) ++ List.replicate (3 - (lg_sl ([.ref (ad 0), .int (nI j), .int (nI k)])).length) Slot.unset).toArray = ls at hl ⊢
  have hl : lv_has ls 3 [(0, .ref (ad 0)), (1, .int (nI j)), (2, .int (nI k))] := hl
  refine lv_aload_n hx hb dX6_loads_0 rfl (lv_at hl 0 rfl) ?_
  refine lv_iload_n hx hb dX6_loads_1 rfl (lv_at hl 1 rfl) ?_
  refine lv_aload_n hx hb dX6_loads_2 rfl (lv_at hl 0 rfl) ?_
  refine va_get (D := G.1) (ci := 6) (v := .ref (ad 22)) (C := RX6) (T := TX6) (N := 36) hx hb hts inX6 hown hK.1 hP 0 rfl rfl 21 (by decide) fl69 (fun _ h9 => h9) rfl dX6_loads_3 ?_
  refine lv_aload_n hx hb dX6_loads_6 rfl (lv_at hl 0 rfl) ?_
  refine va_get (D := G.1) (ci := 6) (v := .ref (ad 24)) (C := RX6) (T := TX6) (N := 36) hx hb hts inX6 hown hK.1 hP 0 rfl rfl 23 (by decide) fl75 (fun _ h9 => h9) rfl dX6_loads_7 ?_
  refine lv_aload_n hx hb dX6_loads_10 rfl (lv_at hl 0 rfl) ?_
  refine va_get (D := G.1) (ci := 6) (v := .ref (ad 26)) (C := RX6) (T := TX6) (N := 36) hx hb hts inX6 hown hK.1 hP 0 rfl rfl 25 (by decide) fl81 (fun _ h9 => h9) rfl dX6_loads_11 ?_
  refine mx_callEv (va_runV (As := [.int (nI j), .ref (ad 22), .ref (ad 24), .ref (ad 26)]) (rest := []) ⟨hx, hb, hml, hown, hts⟩ (c_X6_playsX l G ad F R j σ hs hm ok _) (cwV 4 hts gX6_loads_X6_plays rfl rfl rfl (by decide +kernel) ⟨Nat.le_of_ble_eq_true rfl, Nat.le_of_ble_eq_true rfl⟩) (mx_preV hK ⟨rfl, hP, mx_any hD (fun _ _ => trivial)⟩ (va_recv hK.1 hP (ci := 6) (q0 := 0) rfl rfl)) rfl rfl hl.1 rfl (lv_room (Nat.le_of_ble_eq_true rfl)) dX6_loads_14 ⟨Nat.zero_le _, Nat.zero_le _⟩) hP hD hS hA (mx_perm0) (fun ux H locs hpx hP hD hS => ?_)
  rw [List.append_nil] at hP hD
  have hP : va_P G.1 vwCl (MW G ad F (va_up (va_up (va_up R 21 ux.1) 23 ux.2.1) 25 ux.2.2)) H := hP
  have hD : va_D _ (MW G ad F (va_up (va_up (va_up R 21 ux.1) 23 ux.2.1) 25 ux.2.2)) := hD
  refine lv_aload_n hx hb dX6_loads_17 rfl (lv_at hl 0 rfl) ?_
  refine lv_iload_n hx hb dX6_loads_18 rfl (lv_at hl 2 rfl) ?_
  refine lv_aload_n hx hb dX6_loads_19 rfl (lv_at hl 0 rfl) ?_
  refine va_get (D := G.1) (ci := 6) (v := .ref (ad 23)) (C := RX6) (T := TX6) (N := 36) hx hb hts inX6 hown hK.1 hP 0 rfl rfl 22 (by decide) fl72 (fun _ h9 => h9) rfl dX6_loads_20 ?_
  refine lv_aload_n hx hb dX6_loads_23 rfl (lv_at hl 0 rfl) ?_
  refine va_get (D := G.1) (ci := 6) (v := .ref (ad 25)) (C := RX6) (T := TX6) (N := 36) hx hb hts inX6 hown hK.1 hP 0 rfl rfl 24 (by decide) fl78 (fun _ h9 => h9) rfl dX6_loads_24 ?_
  refine lv_aload_n hx hb dX6_loads_27 rfl (lv_at hl 0 rfl) ?_
  refine va_get (D := G.1) (ci := 6) (v := .ref (ad 27)) (C := RX6) (T := TX6) (N := 36) hx hb hts inX6 hown hK.1 hP 0 rfl rfl 26 (by decide) fl84 (fun _ h9 => h9) rfl dX6_loads_28 ?_
  refine mx_callEv (va_runV (As := [.int (nI k), .ref (ad 23), .ref (ad 25), .ref (ad 27)]) (rest := []) ⟨hx, hb, hml, hown, hts⟩ (c_X6_playsY l G ad F (va_up (va_up (va_up R 21 ux.1) 23 ux.2.1) 25 ux.2.2) k τ ks km kok _) (cwV 4 hts gX6_loads_X6_plays rfl rfl rfl (by decide +kernel) ⟨Nat.le_of_ble_eq_true rfl, Nat.le_of_ble_eq_true rfl⟩) (mx_preV hK ⟨rfl, hP, mx_any hD (fun _ _ => trivial)⟩ (va_recv hK.1 hP (ci := 6) (q0 := 0) rfl rfl)) rfl rfl hl.1 rfl (lv_room (Nat.le_of_ble_eq_true rfl)) dX6_loads_31 ⟨Nat.zero_le _, Nat.zero_le _⟩) hP hD hS hA (mx_perm0) (fun uy H locs hpy hP hD hS => ?_)
  rw [List.append_nil] at hP hD
  have hP : va_P G.1 vwCl (MW G ad F (va_up (va_up (va_up (va_up (va_up (va_up R 21 ux.1) 23 ux.2.1) 25 ux.2.2) 22 uy.1) 24 uy.2.1) 26 uy.2.2)) H := hP
  have hD : va_D _ (MW G ad F (va_up (va_up (va_up (va_up (va_up (va_up R 21 ux.1) 23 ux.2.1) 25 ux.2.2) 22 uy.1) 24 uy.2.1) 26 uy.2.2)) := hD
  exact W.vret hx hb hr (fun t9 ht9 hW9 => ⟨⟨va_up (va_up (va_up (va_up (va_up (va_up R 21 ux.1) 23 ux.2.1) 25 ux.2.2) 22 uy.1) 24 uy.2.1) 26 uy.2.2, rfl, ⟨fun i hi => by simp only [va_up]; (repeat rw [if_neg (by omega)]), hpx.1, hpy.1, hpx.2.1, hpy.2.1, hpx.2.2, hpy.2.2⟩, by rw [ht9]; exact hP, hD⟩, hS.F ht9⟩) hS.2.2 dX6_loads_34

set_option maxHeartbeats 4000000 in
set_option maxRecDepth 100000 in
theorem c_X6_bestOf (l : Launch) (G : mx_G) (ad : Nat → Nat) (F : Nat → Int32) (R : Nat → Nat → Int32) (j k : Nat) (σ τ : Sg) (n : Nat) (hs : j < 12) (ks : k < 12) (hm : moSg R j σ) (km : moSg R k τ) (ok : sgOk σ) (kok : sgOk τ) (hn1 : 1 ≤ n) (hn8 : n ≤ 8) (sz : Nat) : mx_EF l yX6_bestOf wsX6_bestOf 4 94 0 0 G [.ref (ad 0), .int (nI j), .int (nI k), .int (nI n)] sz (MW G ad F R) (fun _ : (Nat → Int32) × (Nat → Nat → Int32) => some (.int (bestV (F 18) (F 19) (F 20) σ τ n))) (fun u : (Nat → Int32) × (Nat → Nat → Int32) => keepF u.1 F ∧ keepX u.2 R ∧ bestF u.1 (bestT (F 18) σ τ n)) (fun u : (Nat → Int32) × (Nat → Nat → Int32) => MW G ad u.1 u.2) := by
  refine Met.ofW (cc := cX6_bestOf) (maxL := 10) (ret := (some .int)) (by decide) rfl ?_
  intro p e s m args below meth c s₁ BB hml hv
  obtain ⟨rfl, ⟨hsz, hP, hD0⟩, hK⟩ := hv
  have hx := BB.exec
  have hb := BB.bytes
  have hr := BB.returns
  have hts := atoms_spec (ws := wsX6_bestOf) BB.pre
  have hown : s.vm.findClass RX6 = some m.cls := findClass_of_methodNamed BB.named
  have hlocks := BB.notSynchronized
  subst hsz
  have hD := hD0.self (sz := s.heap.size)
  have hA : ∀ q : Nat, s.heap.size ≤ q → va_A (MW G ad F R) s.heap.size q := fun q h => Or.inr h
  have hS : va_S (va_A (MW G ad F R) s.heap.size) s.heap s.heap [] := va_S.rf
  have hpa := gPB_le ok
  have hpb := gPB_le kok
  have fl186 := hts (.fieldLink RX6 186 "MixDeskModel" "bestP" "I") (by decide +kernel)
  have fl189 := hts (.fieldLink RX6 189 "MixDeskModel" "bestQ" "I") (by decide +kernel)
  have fl75 := hts (.fieldLink RX6 75 "MixDeskModel" "brokenX" "[Z") (by decide +kernel)
  have fl78 := hts (.fieldLink RX6 78 "MixDeskModel" "brokenY" "[Z") (by decide +kernel)
  have fl81 := hts (.fieldLink RX6 81 "MixDeskModel" "phraseX" "[Z") (by decide +kernel)
  have fl84 := hts (.fieldLink RX6 84 "MixDeskModel" "phraseY" "[Z") (by decide +kernel)
  have inX6 : ∀ w ∈ wsX60, w ∈ wsX6_bestOf := by decide +kernel
  have ck164 := hts (.constant RX6 164 (1000000000)) (by decide +kernel)
  have hl := lv_entry ([.ref (ad 0), .int (nI j), .int (nI k), .int (nI n)]) (n := 10) (Nat.le_of_ble_eq_true rfl)
  rw [lg_entry_eq]
  generalize (lg_sl ([.ref (ad 0), .int (nI j), .int (nI k), .int (nI n)]) ++ List.replicate (10 - (lg_sl ([.ref (ad 0), .int (nI j), .int (nI k), .int (nI n)])).length) Slot.unset).toArray = ls at hl ⊢
  have hl : lv_has ls 10 [(0, .ref (ad 0)), (1, .int (nI j)), (2, .int (nI k)), (3, .int (nI n))] := hl
  refine lv_aload_n hx hb dX6_bestOf_0 rfl (lv_at hl 0 rfl) ?_
  refine lv_iload_n hx hb dX6_bestOf_1 rfl (lv_at hl 1 rfl) ?_
  refine lv_iload_n hx hb dX6_bestOf_2 rfl (lv_at hl 2 rfl) ?_
  refine mx_callEv (va_runV (As := [.int (nI j), .int (nI k)]) (rest := []) ⟨hx, hb, hml, hown, hts⟩ (c_X6_loads l G ad F R j k σ τ hs ks hm km ok kok _) (cwV 2 hts gX6_bestOf_X6_loads rfl rfl rfl (by decide +kernel) ⟨Nat.le_of_ble_eq_true rfl, Nat.le_of_ble_eq_true rfl⟩) (mx_preV hK ⟨rfl, hP, mx_any hD (fun _ _ => trivial)⟩ (va_recv hK.1 hP (ci := 6) (q0 := 0) rfl rfl)) rfl rfl hl.1 rfl (lv_room (Nat.le_of_ble_eq_true rfl)) dX6_bestOf_3 ⟨Nat.zero_le _, Nat.zero_le _⟩) hP hD hS hA (mx_perm0) (fun U H locs hU hP hD hS => ?_)
  rw [List.append_nil] at hP hD
  obtain ⟨hkp, hr1, hr2, hr3, hr4, hr5, hr6⟩ := hU
  have hm := moSg_eq hm (fun i hi => hkp i (Or.inl (by omega)))
  have km := moSg_eq km (fun i hi => hkp i (Or.inl (by omega)))
  have hP : va_P G.1 vwCl (MW G ad F U) H := hP
  have hD : va_D _ (MW G ad F U) := hD
  refine lv_ldc hx hb hown ck164 dX6_bestOf_6 ?_
  refine x_top (y := nI 1000000000) (by decide) ?_
  refine lv_istore (lv' := [(4, .int (nI 1000000000)), (0, .ref (ad 0)), (1, .int (nI j)), (2, .int (nI k)), (3, .int (nI n))]) hx hb dX6_bestOf_8 hl (by decide) rfl (fun ls hl => ?_)
  refine lv_aload_n hx hb dX6_bestOf_10 rfl (lv_at hl 1 rfl) ?_
  refine lv_iload_n hx hb dX6_bestOf_11 rfl (lv_at hl 2 rfl) ?_
  refine mx_callRO (v := .int (nI (gPB σ))) (va_runV (As := [.int (nI j)]) (rest := []) ⟨hx, hb, hml, hown, hts⟩ (c_X6_playedBars l G ad F U j σ  hs hm ok ) (cwV 1 hts gX6_bestOf_X6_playedBars rfl rfl rfl (by decide +kernel) ⟨Nat.le_of_ble_eq_true rfl, Nat.le_of_ble_eq_true rfl⟩) (mx_preV hK hP (va_recv hK.1 hP (ci := 6) (q0 := 0) rfl rfl)) rfl rfl hl.1 rfl (lv_room (Nat.le_of_ble_eq_true rfl)) dX6_bestOf_12 ⟨Nat.zero_le _, Nat.zero_le _⟩) ?_
  refine lv_istore (lv' := [(5, .int (nI (gPB σ))), (4, .int (nI 1000000000)), (0, .ref (ad 0)), (1, .int (nI j)), (2, .int (nI k)), (3, .int (nI n))]) hx hb dX6_bestOf_15 hl (by decide) rfl (fun ls hl => ?_)
  refine lv_aload_n hx hb dX6_bestOf_17 rfl (lv_at hl 2 rfl) ?_
  refine lv_iload_n hx hb dX6_bestOf_18 rfl (lv_at hl 4 rfl) ?_
  refine mx_callRO (v := .int (nI (gPB τ))) (va_runV (As := [.int (nI k)]) (rest := []) ⟨hx, hb, hml, hown, hts⟩ (c_X6_playedBars l G ad F U k τ  ks km kok ) (cwV 1 hts gX6_bestOf_X6_playedBars rfl rfl rfl (by decide +kernel) ⟨Nat.le_of_ble_eq_true rfl, Nat.le_of_ble_eq_true rfl⟩) (mx_preV hK hP (va_recv hK.1 hP (ci := 6) (q0 := 0) rfl rfl)) rfl rfl hl.1 rfl (lv_room (Nat.le_of_ble_eq_true rfl)) dX6_bestOf_19 ⟨Nat.zero_le _, Nat.zero_le _⟩) ?_
  refine lv_istore (lv' := [(6, .int (nI (gPB τ))), (5, .int (nI (gPB σ))), (4, .int (nI 1000000000)), (0, .ref (ad 0)), (1, .int (nI j)), (2, .int (nI k)), (3, .int (nI n))]) hx hb dX6_bestOf_22 hl (by decide) rfl (fun ls hl => ?_)
  refine lv_iload hx hb dX6_bestOf_24 (lv_at hl 1 rfl) ?_
  refine lv_iload_n hx hb dX6_bestOf_26 rfl (lv_at hl 6 rfl) ?_
  refine lv_isub hx hb dX6_bestOf_27 ?_
  refine x_top (y := pz (gPB σ) n 0) (by unfold pz; show _ = _ - 0; grind) ?_
  refine lv_istore (lv' := [(7, .int (pz (gPB σ) n 0)), (6, .int (nI (gPB τ))), (5, .int (nI (gPB σ))), (4, .int (nI 1000000000)), (0, .ref (ad 0)), (1, .int (nI j)), (2, .int (nI k)), (3, .int (nI n))]) hx hb dX6_bestOf_28 hl (by decide) rfl (fun ls hl => ?_)
  have lp30 : ∀ (nn : Nat) (d : Nat) (F1 : Nat → Int32), gPB σ + 1 - n - d < nn → (d ≤ gPB σ + 1 - n) → (keepF F1 F) → (bestF F1 (allB (candJ σ τ n) (jCost (F 18) σ τ n) (gPB σ + 1 - n) (gPB τ + 1 - n) d)) → ∀ (H : Heap) (locs : List Loc), va_P G.1 vwCl (MW G ad F1 U) H → va_D (va_A (MW G ad F R) s.heap.size) (MW G ad F1 U) → va_S (va_A (MW G ad F R) s.heap.size) s.heap H locs → ∀ ls : Array Slot, lv_has ls 10 [(0, .ref (ad 0)), (1, .int (nI j)), (2, .int (nI k)), (3, .int (nI n)), (5, .int (nI (gPB σ))), (6, .int (nI (gPB τ))), (4, .int ((allB (candJ σ τ n) (jCost (F 18) σ τ n) (gPB σ + 1 - n) (gPB τ + 1 - n) d).1)), (7, .int (pz (gPB σ) n d))] → mx_WE l wsX6_bestOf 4 94 0 0 G p e s m (([.ref (ad 0), .int (nI j), .int (nI k), .int (nI n)] : List Value).toArray) below meth c (MW G ad F R) (fun _ : (Nat → Int32) × (Nat → Nat → Int32) => some (.int (bestV (F 18) (F 19) (F 20) σ τ n))) (fun u : (Nat → Int32) × (Nat → Nat → Int32) => keepF u.1 F ∧ keepX u.2 R ∧ bestF u.1 (bestT (F 18) σ τ n)) (fun u : (Nat → Int32) × (Nat → Nat → Int32) => MW G ad u.1 u.2) H locs 0 0 (F0 m 30 ls []) := by
    intro nn
    induction nn with
    | zero => intro d F1 hmu; exact absurd hmu (Nat.not_lt_zero _)
    | succ nn ih30 =>
      intro d F1 hmu hd hk1 hf1 H locs hP hD hS ls hl
      refine lv_iload hx hb dX6_bestOf_30 (lv_at hl 7 rfl) ?_
      refine lv_if_lt (tgt := 152) hx hb dX6_bestOf_32 (by decide) (fun c_32 => ?_) (fun c_32 => ?_)
      · obtain rfl : d = gPB σ + 1 - n := by have := (pz_neg (by omega) (by omega) (by omega)).mp c_32; omega
        refine lv_iload hx hb dX6_bestOf_152 (lv_at hl 6 rfl) ?_
        refine lv_ldc hx hb hown ck164 dX6_bestOf_154 ?_
        refine x_top (y := nI 1000000000) (by decide) ?_
        refine lv_icmp_ne (tgt := 164) hx hb dX6_bestOf_156 (by decide) (fun c_156 => ?_) (fun c_156 => ?_)
        · refine lv_iload hx hb dX6_bestOf_164 (lv_at hl 6 rfl) ?_
          refine lv_aload_n hx hb dX6_bestOf_166 rfl (lv_at hl 0 rfl) ?_
          refine lv_iload_n hx hb dX6_bestOf_167 rfl (lv_at hl 1 rfl) ?_
          refine lv_iload_n hx hb dX6_bestOf_168 rfl (lv_at hl 2 rfl) ?_
          refine mx_callRO (v := .int (malways (F1 19) (F1 20) σ τ)) (va_runV (As := [.int (nI j), .int (nI k)]) (rest := [.int ((allB (candJ σ τ n) (jCost (F 18) σ τ n) (gPB σ + 1 - n) (gPB τ + 1 - n) (gPB σ + 1 - n)).1)]) ⟨hx, hb, hml, hown, hts⟩ (c_X6_always l G ad F1 U j k σ τ hs ks hm km) (cwV 2 hts gX6_bestOf_X6_always rfl rfl rfl (by decide +kernel) ⟨Nat.le_of_ble_eq_true rfl, Nat.le_of_ble_eq_true rfl⟩) (mx_preV hK hP (va_recv hK.1 hP (ci := 6) (q0 := 0) rfl rfl)) rfl rfl hl.1 rfl (lv_room (Nat.le_of_ble_eq_true rfl)) dX6_bestOf_169 ⟨Nat.zero_le _, Nat.zero_le _⟩) ?_
          refine lv_iadd hx hb dX6_bestOf_172 ?_
          refine x_top (y := bestV (F 18) (F 19) (F 20) σ τ n) (by unfold bestV bestT; rw [if_neg c_156, hk1 19 (by decide) (by decide), hk1 20 (by decide) (by decide)]) ?_
          exact W.iret (v := bestV (F 18) (F 19) (F 20) σ τ n) hx hb hr (fun t9 ht9 hW9 => ⟨⟨(F1, U), rfl, ⟨hk1, hkp, hf1⟩, by rw [ht9]; exact hP, hD⟩, hS.F ht9⟩) hS.2.2 dX6_bestOf_173
        · refine lv_ldc hx hb hown ck164 dX6_bestOf_159 ?_
          refine x_top (y := nI 1000000000) (by decide) ?_
          refine lv_goto (tgt := 173) hx hb dX6_bestOf_161 (by decide) ?_
          refine x_top (y := bestV (F 18) (F 19) (F 20) σ τ n) (by unfold bestV bestT; rw [if_pos c_156]) ?_
          exact W.iret (v := bestV (F 18) (F 19) (F 20) σ τ n) hx hb hr (fun t9 ht9 hW9 => ⟨⟨(F1, U), rfl, ⟨hk1, hkp, hf1⟩, by rw [ht9]; exact hP, hD⟩, hS.F ht9⟩) hS.2.2 dX6_bestOf_173
      · have hpd : n + d ≤ gPB σ := Nat.le_of_not_lt (fun q => c_32 ((pz_neg (by omega) (by omega) (by omega)).mpr q))
        have hl : lv_has ls 10 [(0, .ref (ad 0)), (1, .int (nI j)), (2, .int (nI k)), (3, .int (nI n)), (5, .int (nI (gPB σ))), (6, .int (nI (gPB τ))), (4, .int ((allB (candJ σ τ n) (jCost (F 18) σ τ n) (gPB σ + 1 - n) (gPB τ + 1 - n) d).1)), (7, .int (nI (gPB σ - n - d)))] := Eq.mp (congrArg (fun z9 : Int32 => lv_has ls 10 [(0, .ref (ad 0)), (1, .int (nI j)), (2, .int (nI k)), (3, .int (nI n)), (5, .int (nI (gPB σ))), (6, .int (nI (gPB τ))), (4, .int ((allB (candJ σ τ n) (jCost (F 18) σ τ n) (gPB σ + 1 - n) (gPB τ + 1 - n) d).1)), (7, .int z9)]) (show pz (gPB σ) n d = nI (gPB σ - n - d) from pz_pos hpd)) hl
        refine lv_aload_n hx hb dX6_bestOf_35 rfl (lv_at hl 0 rfl) ?_
        refine va_get (D := G.1) (ci := 6) (v := .ref (ad 26)) (C := RX6) (T := TX6) (N := 36) hx hb hts inX6 hown hK.1 hP 0 rfl rfl 25 (by decide) fl81 (fun _ h9 => h9) rfl dX6_bestOf_36 ?_
        refine lv_iload hx hb dX6_bestOf_39 (lv_at hl 7 rfl) ?_
        refine x_zald hx hb hK.1 hP 21 1 (n := 64) (f := U 25) rfl rfl (k := gPB σ - n - d) (by omega) (by omega) dX6_bestOf_41 ?_
        refine x_top (y := gPhr σ (gPB σ - n - d)) (hr5 _ (by omega)) ?_
        refine lv_if_eq (tgt := 146) hx hb dX6_bestOf_42 (by decide) (fun c_42 => ?_) (fun c_42 => ?_)
        · have e146 : allB (candJ σ τ n) (jCost (F 18) σ τ n) (gPB σ + 1 - n) (gPB τ + 1 - n) (d + 1) = allB (candJ σ τ n) (jCost (F 18) σ τ n) (gPB σ + 1 - n) (gPB τ + 1 - n) d := (by rw [allB_s (show (gPB σ - n - d) = gPB σ + 1 - n - 1 - d by omega), rowB_none (fun w h => h.1.1 c_42)])
          have hl : lv_has ls 10 [(0, .ref (ad 0)), (1, .int (nI j)), (2, .int (nI k)), (3, .int (nI n)), (5, .int (nI (gPB σ))), (6, .int (nI (gPB τ))), (4, .int ((allB (candJ σ τ n) (jCost (F 18) σ τ n) (gPB σ + 1 - n) (gPB τ + 1 - n) (d + 1)).1)), (7, .int (nI (gPB σ - n - d)))] := Eq.mp (congrArg (fun z9 : Int32 => lv_has ls 10 [(0, .ref (ad 0)), (1, .int (nI j)), (2, .int (nI k)), (3, .int (nI n)), (5, .int (nI (gPB σ))), (6, .int (nI (gPB τ))), (4, .int z9), (7, .int (nI (gPB σ - n - d)))]) (show (allB (candJ σ τ n) (jCost (F 18) σ τ n) (gPB σ + 1 - n) (gPB τ + 1 - n) d).1 = (allB (candJ σ τ n) (jCost (F 18) σ τ n) (gPB σ + 1 - n) (gPB τ + 1 - n) (d + 1)).1 from by rw [e146])) hl
          refine lv_iinc (v := pz (gPB σ) n (d + 1)) (lv' := [(7, .int (pz (gPB σ) n (d + 1))), (0, .ref (ad 0)), (1, .int (nI j)), (2, .int (nI k)), (3, .int (nI n)), (5, .int (nI (gPB σ))), (6, .int (nI (gPB τ))), (4, .int ((allB (candJ σ τ n) (jCost (F 18) σ τ n) (gPB σ + 1 - n) (gPB τ + 1 - n) (d + 1)).1))]) hx hb dX6_bestOf_146 hl (k := 7) rfl (by rw [← pz_pos hpd]; exact pz_dec) (by decide) rfl (fun ls hl => ?_)
          refine lv_goto (tgt := 30) hx hb dX6_bestOf_149 (by decide) ?_
          exact ih30 (d + 1) F1 (by omega) (by omega) (hk1) (by rw [e146]; exact hf1) _ _ hP hD hS _ (lv_sub hl [1, 2, 3, 4, 5, 6, 7, 0] rfl)
        · refine lv_aload_n hx hb dX6_bestOf_45 rfl (lv_at hl 0 rfl) ?_
          refine va_get (D := G.1) (ci := 6) (v := .ref (ad 24)) (C := RX6) (T := TX6) (N := 36) hx hb hts inX6 hown hK.1 hP 0 rfl rfl 23 (by decide) fl75 (fun _ h9 => h9) rfl dX6_bestOf_46 ?_
          refine lv_iload hx hb dX6_bestOf_49 (lv_at hl 4 rfl) ?_
          refine lv_iload hx hb dX6_bestOf_51 (lv_at hl 7 rfl) ?_
          refine lv_iload_n hx hb dX6_bestOf_53 rfl (lv_at hl 3 rfl) ?_
          refine mx_callRO (v := .int (wholeV (U 23) (gPB σ) (gPB σ - n - d) n)) (va_runS (As := [.ref (ad 24), .int (nI (gPB σ)), .int (nI (gPB σ - n - d)), .int (nI n)]) (rest := []) ⟨hx, hb, hml, hown, hts⟩ (c_X6_isWhole l G (ad 24) (U 23) (gPB σ) (gPB σ - n - d) n (by omega) (by omega) (by omega)) (va_cwS 4 hts gX6_bestOf_X6_isWhole rfl rfl rfl (by decide +kernel) ⟨Nat.le_of_ble_eq_true rfl, Nat.le_of_ble_eq_true rfl⟩) (mx_preS hK (hP.sub (ws' := [(ad 24, .inl (G.2.2.1, 64, .inl (U 23)))]) [19] rfl)) rfl rfl hl.1 rfl (lv_room (Nat.le_of_ble_eq_true rfl)) dX6_bestOf_54 ⟨Nat.zero_le _, Nat.zero_le _⟩) ?_
          refine x_top (y := wholeV (gBrk σ) (gPB σ) (gPB σ - n - d) n) (wholeV_congr hr3) ?_
          refine lv_if_ne (tgt := 63) hx hb dX6_bestOf_57 (by decide) (fun c_57 => ?_) (fun c_57 => ?_)
          · refine lv_iconst (v := nI 0) hx hb dX6_bestOf_63 (by decide) ?_
            refine lv_istore (lv' := [(8, .int (nI 0)), (0, .ref (ad 0)), (1, .int (nI j)), (2, .int (nI k)), (3, .int (nI n)), (5, .int (nI (gPB σ))), (6, .int (nI (gPB τ))), (4, .int ((allB (candJ σ τ n) (jCost (F 18) σ τ n) (gPB σ + 1 - n) (gPB τ + 1 - n) d).1)), (7, .int (nI (gPB σ - n - d)))]) hx hb dX6_bestOf_64 hl (by decide) rfl (fun ls hl => ?_)
            have lp66 : ∀ (nn : Nat) (w : Nat) (F2 : Nat → Int32), gPB τ + 1 - n - w < nn → (w ≤ gPB τ + 1 - n) → (keepF F2 F) → (bestF F2 (rowB (candJ σ τ n) (jCost (F 18) σ τ n) (gPB σ - n - d) (allB (candJ σ τ n) (jCost (F 18) σ τ n) (gPB σ + 1 - n) (gPB τ + 1 - n) d) w)) → ∀ (H : Heap) (locs : List Loc), va_P G.1 vwCl (MW G ad F2 U) H → va_D (va_A (MW G ad F R) s.heap.size) (MW G ad F2 U) → va_S (va_A (MW G ad F R) s.heap.size) s.heap H locs → ∀ ls : Array Slot, lv_has ls 10 [(0, .ref (ad 0)), (1, .int (nI j)), (2, .int (nI k)), (3, .int (nI n)), (5, .int (nI (gPB σ))), (6, .int (nI (gPB τ))), (4, .int ((rowB (candJ σ τ n) (jCost (F 18) σ τ n) (gPB σ - n - d) (allB (candJ σ τ n) (jCost (F 18) σ τ n) (gPB σ + 1 - n) (gPB τ + 1 - n) d) w).1)), (7, .int (nI (gPB σ - n - d))), (8, .int (nI w))] → mx_WE l wsX6_bestOf 4 94 0 0 G p e s m (([.ref (ad 0), .int (nI j), .int (nI k), .int (nI n)] : List Value).toArray) below meth c (MW G ad F R) (fun _ : (Nat → Int32) × (Nat → Nat → Int32) => some (.int (bestV (F 18) (F 19) (F 20) σ τ n))) (fun u : (Nat → Int32) × (Nat → Nat → Int32) => keepF u.1 F ∧ keepX u.2 R ∧ bestF u.1 (bestT (F 18) σ τ n)) (fun u : (Nat → Int32) × (Nat → Nat → Int32) => MW G ad u.1 u.2) H locs 0 0 (F0 m 66 ls []) := by
              intro nn
              induction nn with
              | zero => intro w F2 hmu; exact absurd hmu (Nat.not_lt_zero _)
              | succ nn ih66 =>
                intro w F2 hmu hw hk2 hf2 H locs hP hD hS ls hl
                refine lv_iload hx hb dX6_bestOf_66 (lv_at hl 8 rfl) ?_
                refine lv_iload_n hx hb dX6_bestOf_68 rfl (lv_at hl 3 rfl) ?_
                refine x_iadd (r := w + n) hx hb dX6_bestOf_69 (rfl) ?_
                refine lv_iload hx hb dX6_bestOf_70 (lv_at hl 5 rfl) ?_
                refine x_icmp_gt (tgt := 146) hx hb (by omega) (by omega) dX6_bestOf_72 (by decide) (fun c_72 => ?_) (fun c_72 => ?_)
                · have e146 : allB (candJ σ τ n) (jCost (F 18) σ τ n) (gPB σ + 1 - n) (gPB τ + 1 - n) (d + 1) = rowB (candJ σ τ n) (jCost (F 18) σ τ n) (gPB σ - n - d) (allB (candJ σ τ n) (jCost (F 18) σ τ n) (gPB σ + 1 - n) (gPB τ + 1 - n) d) w := (by rw [allB_s (show (gPB σ - n - d) = gPB σ + 1 - n - 1 - d by omega), show gPB τ + 1 - n = w by omega])
                  have hl : lv_has ls 10 [(0, .ref (ad 0)), (1, .int (nI j)), (2, .int (nI k)), (3, .int (nI n)), (5, .int (nI (gPB σ))), (6, .int (nI (gPB τ))), (4, .int ((allB (candJ σ τ n) (jCost (F 18) σ τ n) (gPB σ + 1 - n) (gPB τ + 1 - n) (d + 1)).1)), (7, .int (nI (gPB σ - n - d))), (8, .int (nI w))] := Eq.mp (congrArg (fun z9 : Int32 => lv_has ls 10 [(0, .ref (ad 0)), (1, .int (nI j)), (2, .int (nI k)), (3, .int (nI n)), (5, .int (nI (gPB σ))), (6, .int (nI (gPB τ))), (4, .int z9), (7, .int (nI (gPB σ - n - d))), (8, .int (nI w))]) (show (rowB (candJ σ τ n) (jCost (F 18) σ τ n) (gPB σ - n - d) (allB (candJ σ τ n) (jCost (F 18) σ τ n) (gPB σ + 1 - n) (gPB τ + 1 - n) d) w).1 = (allB (candJ σ τ n) (jCost (F 18) σ τ n) (gPB σ + 1 - n) (gPB τ + 1 - n) (d + 1)).1 from by rw [e146])) hl
                  refine lv_iinc (v := pz (gPB σ) n (d + 1)) (lv' := [(7, .int (pz (gPB σ) n (d + 1))), (0, .ref (ad 0)), (1, .int (nI j)), (2, .int (nI k)), (3, .int (nI n)), (5, .int (nI (gPB σ))), (6, .int (nI (gPB τ))), (4, .int ((allB (candJ σ τ n) (jCost (F 18) σ τ n) (gPB σ + 1 - n) (gPB τ + 1 - n) (d + 1)).1)), (8, .int (nI w))]) hx hb dX6_bestOf_146 hl (k := 7) rfl (by rw [← pz_pos hpd]; exact pz_dec) (by decide) rfl (fun ls hl => ?_)
                  refine lv_goto (tgt := 30) hx hb dX6_bestOf_149 (by decide) ?_
                  exact ih30 (d + 1) F2 (by omega) (by omega) (hk2) (by rw [e146]; exact hf2) _ _ hP hD hS _ (lv_sub hl [1, 2, 3, 4, 5, 6, 7, 0] rfl)
                · refine lv_aload_n hx hb dX6_bestOf_75 rfl (lv_at hl 0 rfl) ?_
                  refine va_get (D := G.1) (ci := 6) (v := .ref (ad 27)) (C := RX6) (T := TX6) (N := 36) hx hb hts inX6 hown hK.1 hP 0 rfl rfl 26 (by decide) fl84 (fun _ h9 => h9) rfl dX6_bestOf_76 ?_
                  refine lv_iload hx hb dX6_bestOf_79 (lv_at hl 8 rfl) ?_
                  refine x_zald hx hb hK.1 hP 22 1 (n := 64) (f := U 26) rfl rfl (k := w) (by omega) (by omega) dX6_bestOf_81 ?_
                  refine x_top (y := gPhr τ w) (hr6 _ (by omega)) ?_
                  refine lv_if_eq (tgt := 140) hx hb dX6_bestOf_82 (by decide) (fun c_82 => ?_) (fun c_82 => ?_)
                  · have e140 : rowB (candJ σ τ n) (jCost (F 18) σ τ n) (gPB σ - n - d) (allB (candJ σ τ n) (jCost (F 18) σ τ n) (gPB σ + 1 - n) (gPB τ + 1 - n) d) (w + 1) = rowB (candJ σ τ n) (jCost (F 18) σ τ n) (gPB σ - n - d) (allB (candJ σ τ n) (jCost (F 18) σ τ n) (gPB σ + 1 - n) (gPB τ + 1 - n) d) w := rowB_no (fun h => h.2.1 c_82)
                    have hl : lv_has ls 10 [(0, .ref (ad 0)), (1, .int (nI j)), (2, .int (nI k)), (3, .int (nI n)), (5, .int (nI (gPB σ))), (6, .int (nI (gPB τ))), (4, .int ((rowB (candJ σ τ n) (jCost (F 18) σ τ n) (gPB σ - n - d) (allB (candJ σ τ n) (jCost (F 18) σ τ n) (gPB σ + 1 - n) (gPB τ + 1 - n) d) (w + 1)).1)), (7, .int (nI (gPB σ - n - d))), (8, .int (nI w))] := Eq.mp (congrArg (fun z9 : Int32 => lv_has ls 10 [(0, .ref (ad 0)), (1, .int (nI j)), (2, .int (nI k)), (3, .int (nI n)), (5, .int (nI (gPB σ))), (6, .int (nI (gPB τ))), (4, .int z9), (7, .int (nI (gPB σ - n - d))), (8, .int (nI w))]) (show (rowB (candJ σ τ n) (jCost (F 18) σ τ n) (gPB σ - n - d) (allB (candJ σ τ n) (jCost (F 18) σ τ n) (gPB σ + 1 - n) (gPB τ + 1 - n) d) w).1 = (rowB (candJ σ τ n) (jCost (F 18) σ τ n) (gPB σ - n - d) (allB (candJ σ τ n) (jCost (F 18) σ τ n) (gPB σ + 1 - n) (gPB τ + 1 - n) d) (w + 1)).1 from by rw [e140])) hl
                    refine x_iinc (lv' := [(8, .int (nI (w + 1))), (0, .ref (ad 0)), (1, .int (nI j)), (2, .int (nI k)), (3, .int (nI n)), (5, .int (nI (gPB σ))), (6, .int (nI (gPB τ))), (4, .int ((rowB (candJ σ τ n) (jCost (F 18) σ τ n) (gPB σ - n - d) (allB (candJ σ τ n) (jCost (F 18) σ τ n) (gPB σ + 1 - n) (gPB τ + 1 - n) d) (w + 1)).1)), (7, .int (nI (gPB σ - n - d)))]) hx hb dX6_bestOf_140 hl (k := 8) rfl (x_inc1 _) (by decide) rfl (fun ls hl => ?_)
                    refine lv_goto (tgt := 66) hx hb dX6_bestOf_143 (by decide) ?_
                    exact ih66 (w + 1) F2 (by omega) (by omega) (hk2) (by rw [e140]; exact hf2) _ _ hP hD hS _ (lv_sub hl [1, 2, 3, 4, 5, 6, 7, 8, 0] rfl)
                  · have hw9 := wholeV_le c_57
                    refine lv_aload_n hx hb dX6_bestOf_85 rfl (lv_at hl 0 rfl) ?_
                    refine va_get (D := G.1) (ci := 6) (v := .ref (ad 25)) (C := RX6) (T := TX6) (N := 36) hx hb hts inX6 hown hK.1 hP 0 rfl rfl 24 (by decide) fl78 (fun _ h9 => h9) rfl dX6_bestOf_86 ?_
                    refine lv_iload hx hb dX6_bestOf_89 (lv_at hl 5 rfl) ?_
                    refine lv_iload hx hb dX6_bestOf_91 (lv_at hl 8 rfl) ?_
                    refine lv_iload_n hx hb dX6_bestOf_93 rfl (lv_at hl 3 rfl) ?_
                    refine mx_callRO (v := .int (wholeV (U 24) (gPB τ) w n)) (va_runS (As := [.ref (ad 25), .int (nI (gPB τ)), .int (nI w), .int (nI n)]) (rest := []) ⟨hx, hb, hml, hown, hts⟩ (c_X6_isWhole l G (ad 25) (U 24) (gPB τ) w n (by omega) (by omega) (by omega)) (va_cwS 4 hts gX6_bestOf_X6_isWhole rfl rfl rfl (by decide +kernel) ⟨Nat.le_of_ble_eq_true rfl, Nat.le_of_ble_eq_true rfl⟩) (mx_preS hK (hP.sub (ws' := [(ad 25, .inl (G.2.2.1, 64, .inl (U 24)))]) [20] rfl)) rfl rfl hl.1 rfl (lv_room (Nat.le_of_ble_eq_true rfl)) dX6_bestOf_94 ⟨Nat.zero_le _, Nat.zero_le _⟩) ?_
                    refine x_top (y := wholeV (gBrk τ) (gPB τ) w n) (wholeV_congr hr4) ?_
                    refine lv_if_ne (tgt := 103) hx hb dX6_bestOf_97 (by decide) (fun c_97 => ?_) (fun c_97 => ?_)
                    · have hw8 := wholeV_le c_97
                      have hw9 := wholeV_le c_57
                      refine lv_aload_n hx hb dX6_bestOf_103 rfl (lv_at hl 0 rfl) ?_
                      refine lv_iload hx hb dX6_bestOf_104 (lv_at hl 7 rfl) ?_
                      refine lv_iload hx hb dX6_bestOf_106 (lv_at hl 8 rfl) ?_
                      refine lv_iload_n hx hb dX6_bestOf_108 rfl (lv_at hl 3 rfl) ?_
                      refine mx_callRO (v := .int (mcost (F2 18) (fun j => U 21 (4 * (gPB σ - n - d) + j)) (fun j => U 22 (4 * w + j)) n)) (va_runV (As := [.int (nI (gPB σ - n - d)), .int (nI w), .int (nI n)]) (rest := []) ⟨hx, hb, hml, hown, hts⟩ (c_X6_beatsCost l G ad F2 U (gPB σ - n - d) w n (by omega) (by omega) (by omega) (fun i hi => ⟨by rw [hr1 _ (by omega)]; exact gRow_ne ok _, by rw [hr2 _ (by omega)]; exact gRow_ne kok _⟩)) (cwV 3 hts gX6_bestOf_X6_beatsCost rfl rfl rfl (by decide +kernel) ⟨Nat.le_of_ble_eq_true rfl, Nat.le_of_ble_eq_true rfl⟩) (mx_preV hK hP (va_recv hK.1 hP (ci := 6) (q0 := 0) rfl rfl)) rfl rfl hl.1 rfl (lv_room (Nat.le_of_ble_eq_true rfl)) dX6_bestOf_109 ⟨Nat.zero_le _, Nat.zero_le _⟩) ?_
                      refine x_top (y := jCost (F 18) σ τ n (gPB σ - n - d) w) (by rw [hk2 18 (by decide) (by decide)]; exact mcost_congr (fun i hi => hr1 _ (by omega)) (fun i hi => hr2 _ (by omega))) ?_
                      refine lv_istore (lv' := [(9, .int (jCost (F 18) σ τ n (gPB σ - n - d) w)), (0, .ref (ad 0)), (1, .int (nI j)), (2, .int (nI k)), (3, .int (nI n)), (5, .int (nI (gPB σ))), (6, .int (nI (gPB τ))), (4, .int ((rowB (candJ σ τ n) (jCost (F 18) σ τ n) (gPB σ - n - d) (allB (candJ σ τ n) (jCost (F 18) σ τ n) (gPB σ + 1 - n) (gPB τ + 1 - n) d) w).1)), (7, .int (nI (gPB σ - n - d))), (8, .int (nI w))]) hx hb dX6_bestOf_112 hl (by decide) rfl (fun ls hl => ?_)
                      refine lv_iload hx hb dX6_bestOf_114 (lv_at hl 0 rfl) ?_
                      refine lv_iload hx hb dX6_bestOf_116 (lv_at hl 7 rfl) ?_
                      refine lv_icmp_lt (tgt := 124) hx hb dX6_bestOf_118 (by decide) (fun c_118 => ?_) (fun c_118 => ?_)
                      · refine lv_iload hx hb dX6_bestOf_124 (lv_at hl 0 rfl) ?_
                        refine lv_istore (lv' := [(4, .int (jCost (F 18) σ τ n (gPB σ - n - d) w)), (9, .int (jCost (F 18) σ τ n (gPB σ - n - d) w)), (0, .ref (ad 0)), (1, .int (nI j)), (2, .int (nI k)), (3, .int (nI n)), (5, .int (nI (gPB σ))), (6, .int (nI (gPB τ))), (7, .int (nI (gPB σ - n - d))), (8, .int (nI w))]) hx hb dX6_bestOf_126 hl (by decide) rfl (fun ls hl => ?_)
                        refine lv_aload_n hx hb dX6_bestOf_128 rfl (lv_at hl 2 rfl) ?_
                        refine lv_iload hx hb dX6_bestOf_129 (lv_at hl 8 rfl) ?_
                        refine va_put (D := G.1) (ci := 6) (v := .int (nI (gPB σ - n - d))) (ty := .int) (C := RX6) (T := TX6) (N := 36) hx hb hts inX6 tyX6 tyX6_ok nmX6 hown hK.1 hP hD hS 0 rfl rfl 30 (by decide) fl186 (fun _ h9 => h9) rfl (by decide +kernel) rfl rfl (Nat.le_of_ble_eq_true rfl) dX6_bestOf_131 (fun H locs hP hD hS => ?_)
                        have hP : va_P G.1 vwCl (MW G ad (va_up F2 30 (nI (gPB σ - n - d))) U) H := hP
                        have hD : va_D _ (MW G ad (va_up F2 30 (nI (gPB σ - n - d))) U) := hD
                        refine lv_aload_n hx hb dX6_bestOf_134 rfl (lv_at hl 2 rfl) ?_
                        refine lv_iload hx hb dX6_bestOf_135 (lv_at hl 9 rfl) ?_
                        refine va_put (D := G.1) (ci := 6) (v := .int (nI w)) (ty := .int) (C := RX6) (T := TX6) (N := 36) hx hb hts inX6 tyX6 tyX6_ok nmX6 hown hK.1 hP hD hS 0 rfl rfl 31 (by decide) fl189 (fun _ h9 => h9) rfl (by decide +kernel) rfl rfl (Nat.le_of_ble_eq_true rfl) dX6_bestOf_137 (fun H locs hP hD hS => ?_)
                        have hP : va_P G.1 vwCl (MW G ad (va_up (va_up F2 30 (nI (gPB σ - n - d))) 31 (nI w)) U) H := hP
                        have hD : va_D _ (MW G ad (va_up (va_up F2 30 (nI (gPB σ - n - d))) 31 (nI w)) U) := hD
                        have e140 : rowB (candJ σ τ n) (jCost (F 18) σ τ n) (gPB σ - n - d) (allB (candJ σ τ n) (jCost (F 18) σ τ n) (gPB σ + 1 - n) (gPB τ + 1 - n) d) (w + 1) = (jCost (F 18) σ τ n (gPB σ - n - d) w, (gPB σ - n - d), w) := rowB_lt ⟨⟨c_42, c_57⟩, c_82, c_97⟩ (Int32.not_le.mpr c_118)
                        have hl : lv_has ls 10 [(4, .int ((rowB (candJ σ τ n) (jCost (F 18) σ τ n) (gPB σ - n - d) (allB (candJ σ τ n) (jCost (F 18) σ τ n) (gPB σ + 1 - n) (gPB τ + 1 - n) d) (w + 1)).1)), (9, .int (jCost (F 18) σ τ n (gPB σ - n - d) w)), (0, .ref (ad 0)), (1, .int (nI j)), (2, .int (nI k)), (3, .int (nI n)), (5, .int (nI (gPB σ))), (6, .int (nI (gPB τ))), (7, .int (nI (gPB σ - n - d))), (8, .int (nI w))] := Eq.mp (congrArg (fun z9 : Int32 => lv_has ls 10 [(4, .int z9), (9, .int (jCost (F 18) σ τ n (gPB σ - n - d) w)), (0, .ref (ad 0)), (1, .int (nI j)), (2, .int (nI k)), (3, .int (nI n)), (5, .int (nI (gPB σ))), (6, .int (nI (gPB τ))), (7, .int (nI (gPB σ - n - d))), (8, .int (nI w))]) (show jCost (F 18) σ τ n (gPB σ - n - d) w = (rowB (candJ σ τ n) (jCost (F 18) σ τ n) (gPB σ - n - d) (allB (candJ σ τ n) (jCost (F 18) σ τ n) (gPB σ + 1 - n) (gPB τ + 1 - n) d) (w + 1)).1 from by rw [e140])) hl
                        refine x_iinc (lv' := [(8, .int (nI (w + 1))), (4, .int ((rowB (candJ σ τ n) (jCost (F 18) σ τ n) (gPB σ - n - d) (allB (candJ σ τ n) (jCost (F 18) σ τ n) (gPB σ + 1 - n) (gPB τ + 1 - n) d) (w + 1)).1)), (9, .int (jCost (F 18) σ τ n (gPB σ - n - d) w)), (0, .ref (ad 0)), (1, .int (nI j)), (2, .int (nI k)), (3, .int (nI n)), (5, .int (nI (gPB σ))), (6, .int (nI (gPB τ))), (7, .int (nI (gPB σ - n - d)))]) hx hb dX6_bestOf_140 hl (k := 9) rfl (x_inc1 _) (by decide) rfl (fun ls hl => ?_)
                        refine lv_goto (tgt := 66) hx hb dX6_bestOf_143 (by decide) ?_
                        exact ih66 (w + 1) (va_up (va_up F2 30 (nI (gPB σ - n - d))) 31 (nI w)) (by omega) (by omega) (fun i h1 h2 => by simp only [va_up]; rw [if_neg h2, if_neg h1]; exact hk2 i h1 h2) (by rw [e140]; exact fun _ => ⟨rfl, rfl⟩) _ _ hP hD hS _ (lv_sub hl [3, 4, 5, 6, 7, 8, 1, 9, 0] rfl)
                      · refine lv_goto (tgt := 140) hx hb dX6_bestOf_121 (by decide) ?_
                        have e140 : rowB (candJ σ τ n) (jCost (F 18) σ τ n) (gPB σ - n - d) (allB (candJ σ τ n) (jCost (F 18) σ τ n) (gPB σ + 1 - n) (gPB τ + 1 - n) d) (w + 1) = rowB (candJ σ τ n) (jCost (F 18) σ τ n) (gPB σ - n - d) (allB (candJ σ τ n) (jCost (F 18) σ τ n) (gPB σ + 1 - n) (gPB τ + 1 - n) d) w := rowB_le ⟨⟨c_42, c_57⟩, c_82, c_97⟩ (Int32.not_lt.mp c_118)
                        have hl : lv_has ls 10 [(9, .int (jCost (F 18) σ τ n (gPB σ - n - d) w)), (0, .ref (ad 0)), (1, .int (nI j)), (2, .int (nI k)), (3, .int (nI n)), (5, .int (nI (gPB σ))), (6, .int (nI (gPB τ))), (4, .int ((rowB (candJ σ τ n) (jCost (F 18) σ τ n) (gPB σ - n - d) (allB (candJ σ τ n) (jCost (F 18) σ τ n) (gPB σ + 1 - n) (gPB τ + 1 - n) d) (w + 1)).1)), (7, .int (nI (gPB σ - n - d))), (8, .int (nI w))] := Eq.mp (congrArg (fun z9 : Int32 => lv_has ls 10 [(9, .int (jCost (F 18) σ τ n (gPB σ - n - d) w)), (0, .ref (ad 0)), (1, .int (nI j)), (2, .int (nI k)), (3, .int (nI n)), (5, .int (nI (gPB σ))), (6, .int (nI (gPB τ))), (4, .int z9), (7, .int (nI (gPB σ - n - d))), (8, .int (nI w))]) (show (rowB (candJ σ τ n) (jCost (F 18) σ τ n) (gPB σ - n - d) (allB (candJ σ τ n) (jCost (F 18) σ τ n) (gPB σ + 1 - n) (gPB τ + 1 - n) d) w).1 = (rowB (candJ σ τ n) (jCost (F 18) σ τ n) (gPB σ - n - d) (allB (candJ σ τ n) (jCost (F 18) σ τ n) (gPB σ + 1 - n) (gPB τ + 1 - n) d) (w + 1)).1 from by rw [e140])) hl
                        refine x_iinc (lv' := [(8, .int (nI (w + 1))), (9, .int (jCost (F 18) σ τ n (gPB σ - n - d) w)), (0, .ref (ad 0)), (1, .int (nI j)), (2, .int (nI k)), (3, .int (nI n)), (5, .int (nI (gPB σ))), (6, .int (nI (gPB τ))), (4, .int ((rowB (candJ σ τ n) (jCost (F 18) σ τ n) (gPB σ - n - d) (allB (candJ σ τ n) (jCost (F 18) σ τ n) (gPB σ + 1 - n) (gPB τ + 1 - n) d) (w + 1)).1)), (7, .int (nI (gPB σ - n - d)))]) hx hb dX6_bestOf_140 hl (k := 9) rfl (x_inc1 _) (by decide) rfl (fun ls hl => ?_)
                        refine lv_goto (tgt := 66) hx hb dX6_bestOf_143 (by decide) ?_
                        exact ih66 (w + 1) F2 (by omega) (by omega) (hk2) (by rw [e140]; exact hf2) _ _ hP hD hS _ (lv_sub hl [2, 3, 4, 5, 6, 7, 8, 9, 0] rfl)
                    · refine lv_goto (tgt := 140) hx hb dX6_bestOf_100 (by decide) ?_
                      have e140 : rowB (candJ σ τ n) (jCost (F 18) σ τ n) (gPB σ - n - d) (allB (candJ σ τ n) (jCost (F 18) σ τ n) (gPB σ + 1 - n) (gPB τ + 1 - n) d) (w + 1) = rowB (candJ σ τ n) (jCost (F 18) σ τ n) (gPB σ - n - d) (allB (candJ σ τ n) (jCost (F 18) σ τ n) (gPB σ + 1 - n) (gPB τ + 1 - n) d) w := rowB_no (fun h => h.2.2 c_97)
                      have hl : lv_has ls 10 [(0, .ref (ad 0)), (1, .int (nI j)), (2, .int (nI k)), (3, .int (nI n)), (5, .int (nI (gPB σ))), (6, .int (nI (gPB τ))), (4, .int ((rowB (candJ σ τ n) (jCost (F 18) σ τ n) (gPB σ - n - d) (allB (candJ σ τ n) (jCost (F 18) σ τ n) (gPB σ + 1 - n) (gPB τ + 1 - n) d) (w + 1)).1)), (7, .int (nI (gPB σ - n - d))), (8, .int (nI w))] := Eq.mp (congrArg (fun z9 : Int32 => lv_has ls 10 [(0, .ref (ad 0)), (1, .int (nI j)), (2, .int (nI k)), (3, .int (nI n)), (5, .int (nI (gPB σ))), (6, .int (nI (gPB τ))), (4, .int z9), (7, .int (nI (gPB σ - n - d))), (8, .int (nI w))]) (show (rowB (candJ σ τ n) (jCost (F 18) σ τ n) (gPB σ - n - d) (allB (candJ σ τ n) (jCost (F 18) σ τ n) (gPB σ + 1 - n) (gPB τ + 1 - n) d) w).1 = (rowB (candJ σ τ n) (jCost (F 18) σ τ n) (gPB σ - n - d) (allB (candJ σ τ n) (jCost (F 18) σ τ n) (gPB σ + 1 - n) (gPB τ + 1 - n) d) (w + 1)).1 from by rw [e140])) hl
                      refine x_iinc (lv' := [(8, .int (nI (w + 1))), (0, .ref (ad 0)), (1, .int (nI j)), (2, .int (nI k)), (3, .int (nI n)), (5, .int (nI (gPB σ))), (6, .int (nI (gPB τ))), (4, .int ((rowB (candJ σ τ n) (jCost (F 18) σ τ n) (gPB σ - n - d) (allB (candJ σ τ n) (jCost (F 18) σ τ n) (gPB σ + 1 - n) (gPB τ + 1 - n) d) (w + 1)).1)), (7, .int (nI (gPB σ - n - d)))]) hx hb dX6_bestOf_140 hl (k := 8) rfl (x_inc1 _) (by decide) rfl (fun ls hl => ?_)
                      refine lv_goto (tgt := 66) hx hb dX6_bestOf_143 (by decide) ?_
                      exact ih66 (w + 1) F2 (by omega) (by omega) (hk2) (by rw [e140]; exact hf2) _ _ hP hD hS _ (lv_sub hl [1, 2, 3, 4, 5, 6, 7, 8, 0] rfl)
            exact lp66 (gPB τ + 1 - n - 0 + 1) 0 F1 (Nat.lt_succ_self _) (by omega) (hk1) (hf1) _ _ hP hD hS _ (lv_sub hl [1, 2, 3, 4, 5, 6, 7, 8, 0] rfl)
          · refine lv_goto (tgt := 146) hx hb dX6_bestOf_60 (by decide) ?_
            have e146 : allB (candJ σ τ n) (jCost (F 18) σ τ n) (gPB σ + 1 - n) (gPB τ + 1 - n) (d + 1) = allB (candJ σ τ n) (jCost (F 18) σ τ n) (gPB σ + 1 - n) (gPB τ + 1 - n) d := (by rw [allB_s (show (gPB σ - n - d) = gPB σ + 1 - n - 1 - d by omega), rowB_none (fun w h => h.1.2 c_57)])
            have hl : lv_has ls 10 [(0, .ref (ad 0)), (1, .int (nI j)), (2, .int (nI k)), (3, .int (nI n)), (5, .int (nI (gPB σ))), (6, .int (nI (gPB τ))), (4, .int ((allB (candJ σ τ n) (jCost (F 18) σ τ n) (gPB σ + 1 - n) (gPB τ + 1 - n) (d + 1)).1)), (7, .int (nI (gPB σ - n - d)))] := Eq.mp (congrArg (fun z9 : Int32 => lv_has ls 10 [(0, .ref (ad 0)), (1, .int (nI j)), (2, .int (nI k)), (3, .int (nI n)), (5, .int (nI (gPB σ))), (6, .int (nI (gPB τ))), (4, .int z9), (7, .int (nI (gPB σ - n - d)))]) (show (allB (candJ σ τ n) (jCost (F 18) σ τ n) (gPB σ + 1 - n) (gPB τ + 1 - n) d).1 = (allB (candJ σ τ n) (jCost (F 18) σ τ n) (gPB σ + 1 - n) (gPB τ + 1 - n) (d + 1)).1 from by rw [e146])) hl
            refine lv_iinc (v := pz (gPB σ) n (d + 1)) (lv' := [(7, .int (pz (gPB σ) n (d + 1))), (0, .ref (ad 0)), (1, .int (nI j)), (2, .int (nI k)), (3, .int (nI n)), (5, .int (nI (gPB σ))), (6, .int (nI (gPB τ))), (4, .int ((allB (candJ σ τ n) (jCost (F 18) σ τ n) (gPB σ + 1 - n) (gPB τ + 1 - n) (d + 1)).1))]) hx hb dX6_bestOf_146 hl (k := 7) rfl (by rw [← pz_pos hpd]; exact pz_dec) (by decide) rfl (fun ls hl => ?_)
            refine lv_goto (tgt := 30) hx hb dX6_bestOf_149 (by decide) ?_
            exact ih30 (d + 1) F1 (by omega) (by omega) (hk1) (by rw [e146]; exact hf1) _ _ hP hD hS _ (lv_sub hl [1, 2, 3, 4, 5, 6, 7, 0] rfl)
  exact lp30 (gPB σ + 1 - n - 0 + 1) 0 F (Nat.lt_succ_self _) (by omega) (fun _ _ _ => rfl) (fun h => absurd rfl h) _ _ hP hD hS _ (lv_sub hl [4, 5, 6, 7, 2, 1, 3, 0] rfl)
