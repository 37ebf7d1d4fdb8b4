set_option maxHeartbeats 4000000 in
set_option maxRecDepth 100000 in
theorem c_X6_join (l : Launch) (G : mx_G) (ad : Nat → Nat) (F : Nat → Int32) (R : Nat → Nat → Int32) (so : So) (x y n u w ph : Int32) (hall : moAll R so) (sz : Nat) : mx_EF l yX6_join wsX6_join 4 94 0 0 G [.ref (ad 0), .int x, .int y, .int n, .int u, .int w, .int ph] sz (MW G ad F R) (fun _ : (Nat → Int32) × (Nat → Nat → Int32) => some (.int (aJoin (F 18) (F 19) (F 20) (jArg so x y n u w) ph))) (fun u9 : (Nat → Int32) × (Nat → Nat → Int32) => (∀ i, i ≠ 27 → u9.1 i = F i) ∧ (∀ i, (i < 21 ∨ 30 ≤ i) → u9.2 i = R i) ∧ jMeet (F 18) (jArg so x y n u w) ph (F 27) (u9.1 27) (R 28) (u9.2 28) (R 29) (u9.2 29)) (fun u9 : (Nat → Int32) × (Nat → Nat → Int32) => MW G ad u9.1 u9.2) := by
  refine Met.ofW (cc := cX6_join) (maxL := 11) (ret := (some .int)) (by decide) rfl ?_
  intro p e s m args below meth c s₁ BB hml hv
  obtain ⟨rfl, ⟨hsz, hP, hD0⟩, hK⟩ := hv
  have hx := BB.exec
  have hb := BB.bytes
  have hr := BB.returns
  have hts := atoms_spec (ws := wsX6_join) BB.pre
  have hown : s.vm.findClass RX6 = some m.cls := findClass_of_methodNamed BB.named
  have hlocks := BB.notSynchronized
  subst hsz
  have hD := hD0.self (sz := s.heap.size)
  have hA : ∀ q : Nat, s.heap.size ≤ q → va_A (MW G ad F R) s.heap.size q := fun q h => Or.inr h
  have hS : va_S (va_A (MW G ad F R) s.heap.size) s.heap s.heap [] := va_S.rf
  have fl180 := hts (.fieldLink RX6 180 "MixDeskModel" "meetMany" "I") (by decide +kernel)
  have fl69 := hts (.fieldLink RX6 69 "MixDeskModel" "rowX" "[I") (by decide +kernel)
  have fl72 := hts (.fieldLink RX6 72 "MixDeskModel" "rowY" "[I") (by decide +kernel)
  have fl75 := hts (.fieldLink RX6 75 "MixDeskModel" "brokenX" "[Z") (by decide +kernel)
  have fl78 := hts (.fieldLink RX6 78 "MixDeskModel" "brokenY" "[Z") (by decide +kernel)
  have fl81 := hts (.fieldLink RX6 81 "MixDeskModel" "phraseX" "[Z") (by decide +kernel)
  have fl84 := hts (.fieldLink RX6 84 "MixDeskModel" "phraseY" "[Z") (by decide +kernel)
  have fl87 := hts (.fieldLink RX6 87 "MixDeskModel" "meetLong" "[I") (by decide +kernel)
  have fl90 := hts (.fieldLink RX6 90 "MixDeskModel" "meetBend" "[I") (by decide +kernel)
  have inX6 : ∀ w ∈ wsX60, w ∈ wsX6_join := by decide +kernel
  have ck164 := hts (.constant RX6 164 (1000000000)) (by decide +kernel)
  have hl := lv_entry ([.ref (ad 0), .int x, .int y, .int n, .int u, .int w, .int ph]) (n := 11) (Nat.le_of_ble_eq_true rfl)
  rw [lg_entry_eq]
  generalize (lg_sl ([.ref (ad 0), .int x, .int y, .int n, .int u, .int w, .int ph]) ++ List.replicate (11 - (lg_sl ([.ref (ad 0), .int x, .int y, .int n, .int u, .int w, .int ph])).length) Slot.unset).toArray = ls at hl ⊢
  have hl : lv_has ls 11 [(0, .ref (ad 0)), (1, .int x), (2, .int y), (3, .int n), (4, .int u), (5, .int w), (6, .int ph)] := hl
  refine lv_aload_n hx hb dX6_join_0 rfl (lv_at hl 0 rfl) ?_
  refine lv_iload_n hx hb dX6_join_1 rfl (lv_at hl 1 rfl) ?_
  refine mx_callRO (v := .int (isSongV R x)) (va_runV (As := [.int x]) (rest := []) ⟨hx, hb, hml, hown, hts⟩ (c_X6_isSong l G ad F R x) (cwV 1 hts gX6_join_X6_isSong rfl rfl rfl (by decide +kernel) ⟨Nat.le_of_ble_eq_true rfl, Nat.le_of_ble_eq_true rfl⟩) (mx_preV hK hP (va_recv hK.1 hP (ci := 6) (q0 := 0) rfl rfl)) rfl rfl hl.1 rfl (lv_room (Nat.le_of_ble_eq_true rfl)) dX6_join_2 ⟨Nat.zero_le _, Nat.zero_le _⟩) ?_
  refine lv_if_eq (tgt := 62) hx hb dX6_join_5 (by decide) (fun c_5 => ?_) (fun c_5 => ?_)
  · have hJ : jArg so x y n u w = none := jArg_1 (song_no hall c_5)
    refine lv_iconst (v := (-1)) hx hb dX6_join_62 (by decide) ?_
    refine x_top (y := aJoin (F 18) (F 19) (F 20) (jArg so x y n u w) ph) (by rw [hJ]; rfl) ?_
    exact W.iret (v := aJoin (F 18) (F 19) (F 20) (jArg so x y n u w) ph) hx hb hr (fun t9 ht9 hW9 => ⟨⟨(F, R), rfl, ⟨fun _ _ => rfl, fun _ _ => rfl, by rw [hJ]; exact jMeet_n⟩, by rw [ht9]; exact hP, hD⟩, hS.F ht9⟩) hS.2.2 dX6_join_63
  · obtain ⟨j, σ, rfl, hs, hso, hσ, hth, hm, ok⟩ := song_of hall c_5
    refine lv_aload_n hx hb dX6_join_8 rfl (lv_at hl 0 rfl) ?_
    refine lv_iload_n hx hb dX6_join_9 rfl (lv_at hl 2 rfl) ?_
    refine mx_callRO (v := .int (isSongV R y)) (va_runV (As := [.int y]) (rest := []) ⟨hx, hb, hml, hown, hts⟩ (c_X6_isSong l G ad F R y) (cwV 1 hts gX6_join_X6_isSong rfl rfl rfl (by decide +kernel) ⟨Nat.le_of_ble_eq_true rfl, Nat.le_of_ble_eq_true rfl⟩) (mx_preV hK hP (va_recv hK.1 hP (ci := 6) (q0 := 0) rfl rfl)) rfl rfl hl.1 rfl (lv_room (Nat.le_of_ble_eq_true rfl)) dX6_join_10 ⟨Nat.zero_le _, Nat.zero_le _⟩) ?_
    refine lv_if_eq (tgt := 62) hx hb dX6_join_13 (by decide) (fun c_13 => ?_) (fun c_13 => ?_)
    · have hJ : jArg so (nI j) y n u w = none := jArg_2 hσ (song_no hall c_13)
      refine lv_iconst (v := (-1)) hx hb dX6_join_62 (by decide) ?_
      refine x_top (y := aJoin (F 18) (F 19) (F 20) (jArg so (nI j) y n u w) ph) (by rw [hJ]; rfl) ?_
      exact W.iret (v := aJoin (F 18) (F 19) (F 20) (jArg so (nI j) y n u w) ph) hx hb hr (fun t9 ht9 hW9 => ⟨⟨(F, R), rfl, ⟨fun _ _ => rfl, fun _ _ => rfl, by rw [hJ]; exact jMeet_n⟩, by rw [ht9]; exact hP, hD⟩, hS.F ht9⟩) hS.2.2 dX6_join_63
    · obtain ⟨k, τ, rfl, ks, kso, kσ, kth, km, kok⟩ := song_of hall c_13
      have hpa := gPB_le ok
      have hpb := gPB_le kok
      refine lv_iload_n hx hb dX6_join_16 rfl (lv_at hl 1 rfl) ?_
      refine lv_iload_n hx hb dX6_join_17 rfl (lv_at hl 2 rfl) ?_
      refine x_icmp_eq (tgt := 62) hx hb (by omega) (by omega) dX6_join_18 (by decide) (fun c_18 => ?_) (fun c_18 => ?_)
      · have hJ : jArg so (nI j) (nI k) n u w = none := jArg_3 hσ kσ (fun q => q.1 (congrArg nI c_18))
        refine lv_iconst (v := (-1)) hx hb dX6_join_62 (by decide) ?_
        refine x_top (y := aJoin (F 18) (F 19) (F 20) (jArg so (nI j) (nI k) n u w) ph) (by rw [hJ]; rfl) ?_
        exact W.iret (v := aJoin (F 18) (F 19) (F 20) (jArg so (nI j) (nI k) n u w) ph) hx hb hr (fun t9 ht9 hW9 => ⟨⟨(F, R), rfl, ⟨fun _ _ => rfl, fun _ _ => rfl, by rw [hJ]; exact jMeet_n⟩, by rw [ht9]; exact hP, hD⟩, hS.F ht9⟩) hS.2.2 dX6_join_63
      · refine lv_iload_n hx hb dX6_join_21 rfl (lv_at hl 3 rfl) ?_
        refine lv_iconst (v := nI 1) hx hb dX6_join_22 (by decide) ?_
        refine lv_icmp_lt (tgt := 62) hx hb dX6_join_23 (by decide) (fun c_23 => ?_) (fun c_23 => ?_)
        · have hJ : jArg so (nI j) (nI k) n u w = none := jArg_3 hσ kσ (fun q => q.2.1.1 c_23)
          refine lv_iconst (v := (-1)) hx hb dX6_join_62 (by decide) ?_
          refine x_top (y := aJoin (F 18) (F 19) (F 20) (jArg so (nI j) (nI k) n u w) ph) (by rw [hJ]; rfl) ?_
          exact W.iret (v := aJoin (F 18) (F 19) (F 20) (jArg so (nI j) (nI k) n u w) ph) hx hb hr (fun t9 ht9 hW9 => ⟨⟨(F, R), rfl, ⟨fun _ _ => rfl, fun _ _ => rfl, by rw [hJ]; exact jMeet_n⟩, by rw [ht9]; exact hP, hD⟩, hS.F ht9⟩) hS.2.2 dX6_join_63
        · refine lv_iload_n hx hb dX6_join_26 rfl (lv_at hl 3 rfl) ?_
          refine lv_bipush (v := nI 8) hx hb dX6_join_27 (by decide) ?_
          refine lv_icmp_gt (tgt := 62) hx hb dX6_join_29 (by decide) (fun c_29 => ?_) (fun c_29 => ?_)
          · have hJ : jArg so (nI j) (nI k) n u w = none := jArg_3 hσ kσ (fun q => q.2.1.2 c_29)
            refine lv_iconst (v := (-1)) hx hb dX6_join_62 (by decide) ?_
            refine x_top (y := aJoin (F 18) (F 19) (F 20) (jArg so (nI j) (nI k) n u w) ph) (by rw [hJ]; rfl) ?_
            exact W.iret (v := aJoin (F 18) (F 19) (F 20) (jArg so (nI j) (nI k) n u w) ph) hx hb hr (fun t9 ht9 hW9 => ⟨⟨(F, R), rfl, ⟨fun _ _ => rfl, fun _ _ => rfl, by rw [hJ]; exact jMeet_n⟩, by rw [ht9]; exact hP, hD⟩, hS.F ht9⟩) hS.2.2 dX6_join_63
          · obtain ⟨n0, hn8, rfl⟩ := le_of (n := 8) (by omega) (fun q => c_23 (Int32.lt_trans q (by decide))) c_29
            have hn1 : ¬ n0 < 1 := fun q => c_23 ((nI_ltI (by omega) (by omega)).mpr q)
            refine lv_iload hx hb dX6_join_32 (lv_at hl 4 rfl) ?_
            refine lv_if_lt (tgt := 62) hx hb dX6_join_34 (by decide) (fun c_34 => ?_) (fun c_34 => ?_)
            · have hJ : jArg so (nI j) (nI k) (nI n0) u w = none := jArg_3 hσ kσ (fun q => q.2.2.1.1 c_34)
              refine lv_iconst (v := (-1)) hx hb dX6_join_62 (by decide) ?_
              refine x_top (y := aJoin (F 18) (F 19) (F 20) (jArg so (nI j) (nI k) (nI n0) u w) ph) (by rw [hJ]; rfl) ?_
              exact W.iret (v := aJoin (F 18) (F 19) (F 20) (jArg so (nI j) (nI k) (nI n0) u w) ph) hx hb hr (fun t9 ht9 hW9 => ⟨⟨(F, R), rfl, ⟨fun _ _ => rfl, fun _ _ => rfl, by rw [hJ]; exact jMeet_n⟩, by rw [ht9]; exact hP, hD⟩, hS.F ht9⟩) hS.2.2 dX6_join_63
            · refine lv_iload hx hb dX6_join_37 (lv_at hl 4 rfl) ?_
              refine lv_aload_n hx hb dX6_join_39 rfl (lv_at hl 0 rfl) ?_
              refine lv_iload_n hx hb dX6_join_40 rfl (lv_at hl 1 rfl) ?_
              refine mx_callRO (v := .int (nI (gPB σ))) (va_runV (As := [.int (nI j)]) (rest := [.int u]) ⟨hx, hb, hml, hown, hts⟩ (c_X6_playedBars l G ad F R j σ  hs hm ok ) (cwV 1 hts gX6_join_X6_playedBars rfl rfl rfl (by decide +kernel) ⟨Nat.le_of_ble_eq_true rfl, Nat.le_of_ble_eq_true rfl⟩) (mx_preV hK hP (va_recv hK.1 hP (ci := 6) (q0 := 0) rfl rfl)) rfl rfl hl.1 rfl (lv_room (Nat.le_of_ble_eq_true rfl)) dX6_join_41 ⟨Nat.zero_le _, Nat.zero_le _⟩) ?_
              refine lv_icmp_ge (tgt := 62) hx hb dX6_join_44 (by decide) (fun c_44 => ?_) (fun c_44 => ?_)
              · have hJ : jArg so (nI j) (nI k) (nI n0) u w = none := jArg_3 hσ kσ (fun q => q.2.2.1.2 c_44)
                refine lv_iconst (v := (-1)) hx hb dX6_join_62 (by decide) ?_
                refine x_top (y := aJoin (F 18) (F 19) (F 20) (jArg so (nI j) (nI k) (nI n0) u w) ph) (by rw [hJ]; rfl) ?_
                exact W.iret (v := aJoin (F 18) (F 19) (F 20) (jArg so (nI j) (nI k) (nI n0) u w) ph) hx hb hr (fun t9 ht9 hW9 => ⟨⟨(F, R), rfl, ⟨fun _ _ => rfl, fun _ _ => rfl, by rw [hJ]; exact jMeet_n⟩, by rw [ht9]; exact hP, hD⟩, hS.F ht9⟩) hS.2.2 dX6_join_63
              · refine lv_iload hx hb dX6_join_47 (lv_at hl 5 rfl) ?_
                refine lv_if_lt (tgt := 62) hx hb dX6_join_49 (by decide) (fun c_49 => ?_) (fun c_49 => ?_)
                · have hJ : jArg so (nI j) (nI k) (nI n0) u w = none := jArg_3 hσ kσ (fun q => q.2.2.2.1 c_49)
                  refine lv_iconst (v := (-1)) hx hb dX6_join_62 (by decide) ?_
                  refine x_top (y := aJoin (F 18) (F 19) (F 20) (jArg so (nI j) (nI k) (nI n0) u w) ph) (by rw [hJ]; rfl) ?_
                  exact W.iret (v := aJoin (F 18) (F 19) (F 20) (jArg so (nI j) (nI k) (nI n0) u w) ph) hx hb hr (fun t9 ht9 hW9 => ⟨⟨(F, R), rfl, ⟨fun _ _ => rfl, fun _ _ => rfl, by rw [hJ]; exact jMeet_n⟩, by rw [ht9]; exact hP, hD⟩, hS.F ht9⟩) hS.2.2 dX6_join_63
                · refine lv_iload hx hb dX6_join_52 (lv_at hl 5 rfl) ?_
                  refine lv_aload_n hx hb dX6_join_54 rfl (lv_at hl 0 rfl) ?_
                  refine lv_iload_n hx hb dX6_join_55 rfl (lv_at hl 2 rfl) ?_
                  refine mx_callRO (v := .int (nI (gPB τ))) (va_runV (As := [.int (nI k)]) (rest := [.int w]) ⟨hx, hb, hml, hown, hts⟩ (c_X6_playedBars l G ad F R k τ  ks km kok ) (cwV 1 hts gX6_join_X6_playedBars rfl rfl rfl (by decide +kernel) ⟨Nat.le_of_ble_eq_true rfl, Nat.le_of_ble_eq_true rfl⟩) (mx_preV hK hP (va_recv hK.1 hP (ci := 6) (q0 := 0) rfl rfl)) rfl rfl hl.1 rfl (lv_room (Nat.le_of_ble_eq_true rfl)) dX6_join_56 ⟨Nat.zero_le _, Nat.zero_le _⟩) ?_
                  refine lv_icmp_lt (tgt := 64) hx hb dX6_join_59 (by decide) (fun c_59 => ?_) (fun c_59 => ?_)
                  · obtain ⟨u0, hu, rfl⟩ := lt_of (by omega) c_34 c_44
                    obtain ⟨w0, hw, rfl⟩ := lt_of (by omega) c_49 (Int32.not_le.mpr c_59)
                    have hJ : jArg so (nI j) (nI k) (nI n0) (nI u0) (nI w0) = some (σ, τ, n0, u0, w0) := by rw [jArg_4 hσ kσ ⟨fun e => c_18 ((nI_eq (by omega) (by omega)).mp e), ⟨c_23, c_29⟩, ⟨c_34, c_44⟩, c_49, Int32.not_le.mpr c_59⟩, nI_clamp (by omega), nI_clamp (by omega), nI_clamp (by omega)]
                    refine lv_aload_n hx hb dX6_join_64 rfl (lv_at hl 0 rfl) ?_
                    refine lv_iload_n hx hb dX6_join_65 rfl (lv_at hl 1 rfl) ?_
                    refine lv_iload_n hx hb dX6_join_66 rfl (lv_at hl 2 rfl) ?_
                    refine mx_callEv (va_runV (As := [.int (nI j), .int (nI k)]) (rest := []) ⟨hx, hb, hml, hown, hts⟩ (c_X6_loads l G ad F R j k σ τ hs ks hm km ok kok _) (cwV 2 hts gX6_join_X6_loads rfl rfl rfl (by decide +kernel) ⟨Nat.le_of_ble_eq_true rfl, Nat.le_of_ble_eq_true rfl⟩) (mx_preV hK ⟨rfl, hP, mx_any hD (fun _ _ => trivial)⟩ (va_recv hK.1 hP (ci := 6) (q0 := 0) rfl rfl)) rfl rfl hl.1 rfl (lv_room (Nat.le_of_ble_eq_true rfl)) dX6_join_67 ⟨Nat.zero_le _, Nat.zero_le _⟩) hP hD hS hA (mx_perm0) (fun U H locs hU hP hD hS => ?_)
                    rw [List.append_nil] at hP hD
                    obtain ⟨hkp, hr1, hr2, hr3, hr4, hr5, hr6⟩ := hU
                    have hm := moSg_eq hm (fun i hi => hkp i (Or.inl (by omega)))
                    have km := moSg_eq km (fun i hi => hkp i (Or.inl (by omega)))
                    have hP : va_P G.1 vwCl (MW G ad F U) H := hP
                    have hD : va_D _ (MW G ad F U) := hD
                    refine lv_aload_n hx hb dX6_join_70 rfl (lv_at hl 0 rfl) ?_
                    refine va_get (D := G.1) (ci := 6) (v := .ref (ad 24)) (C := RX6) (T := TX6) (N := 36) hx hb hts inX6 hown hK.1 hP 0 rfl rfl 23 (by decide) fl75 (fun _ h9 => h9) rfl dX6_join_71 ?_
                    refine lv_aload_n hx hb dX6_join_74 rfl (lv_at hl 0 rfl) ?_
                    refine lv_iload_n hx hb dX6_join_75 rfl (lv_at hl 1 rfl) ?_
                    refine mx_callRO (v := .int (nI (gPB σ))) (va_runV (As := [.int (nI j)]) (rest := [.ref (ad 24)]) ⟨hx, hb, hml, hown, hts⟩ (c_X6_playedBars l G ad F U j σ  hs hm ok ) (cwV 1 hts gX6_join_X6_playedBars rfl rfl rfl (by decide +kernel) ⟨Nat.le_of_ble_eq_true rfl, Nat.le_of_ble_eq_true rfl⟩) (mx_preV hK hP (va_recv hK.1 hP (ci := 6) (q0 := 0) rfl rfl)) rfl rfl hl.1 rfl (lv_room (Nat.le_of_ble_eq_true rfl)) dX6_join_76 ⟨Nat.zero_le _, Nat.zero_le _⟩) ?_
                    refine lv_iload hx hb dX6_join_79 (lv_at hl 4 rfl) ?_
                    refine lv_iload_n hx hb dX6_join_81 rfl (lv_at hl 3 rfl) ?_
                    refine mx_callRO (v := .int (wholeV (U 23) (gPB σ) u0 n0)) (va_runS (As := [.ref (ad 24), .int (nI (gPB σ)), .int (nI u0), .int (nI n0)]) (rest := []) ⟨hx, hb, hml, hown, hts⟩ (c_X6_isWhole l G (ad 24) (U 23) (gPB σ) u0 n0 (by omega) (by omega) (by omega)) (va_cwS 4 hts gX6_join_X6_isWhole rfl rfl rfl (by decide +kernel) ⟨Nat.le_of_ble_eq_true rfl, Nat.le_of_ble_eq_true rfl⟩) (mx_preS hK (hP.sub (ws' := [(ad 24, .inl (G.2.2.1, 64, .inl (U 23)))]) [19] rfl)) rfl rfl hl.1 rfl (lv_room (Nat.le_of_ble_eq_true rfl)) dX6_join_82 ⟨Nat.zero_le _, Nat.zero_le _⟩) ?_
                    refine x_top (y := wholeV (gBrk σ) (gPB σ) u0 n0) (wholeV_congr hr3) ?_
                    refine lv_if_eq (tgt := 106) hx hb dX6_join_85 (by decide) (fun c_85 => ?_) (fun c_85 => ?_)
                    · have hway : jWay (F 18) (σ, τ, n0, u0, w0) ph = 2 := way_2a c_85
                      refine lv_bipush (v := (-2)) hx hb dX6_join_106 (by decide) ?_
                      refine x_top (y := aJoin (F 18) (F 19) (F 20) (jArg so (nI j) (nI k) (nI n0) (nI u0) (nI w0)) ph) (by rw [hJ]; exact (if_pos hway).symm) ?_
                      exact W.iret (v := aJoin (F 18) (F 19) (F 20) (jArg so (nI j) (nI k) (nI n0) (nI u0) (nI w0)) ph) hx hb hr (fun t9 ht9 hW9 => ⟨⟨(F, U), rfl, ⟨fun _ _ => rfl, fun i hi => hkp i (by omega), by rw [hJ, show (F, U).2 28 = R 28 from hkp 28 (by decide), show (F, U).2 29 = R 29 from hkp 29 (by decide)]; exact jMeet_s (by rw [hway]; decide)⟩, by rw [ht9]; exact hP, hD⟩, hS.F ht9⟩) hS.2.2 dX6_join_108
                    · refine lv_aload_n hx hb dX6_join_88 rfl (lv_at hl 0 rfl) ?_
                      refine va_get (D := G.1) (ci := 6) (v := .ref (ad 25)) (C := RX6) (T := TX6) (N := 36) hx hb hts inX6 hown hK.1 hP 0 rfl rfl 24 (by decide) fl78 (fun _ h9 => h9) rfl dX6_join_89 ?_
                      refine lv_aload_n hx hb dX6_join_92 rfl (lv_at hl 0 rfl) ?_
                      refine lv_iload_n hx hb dX6_join_93 rfl (lv_at hl 2 rfl) ?_
                      refine mx_callRO (v := .int (nI (gPB τ))) (va_runV (As := [.int (nI k)]) (rest := [.ref (ad 25)]) ⟨hx, hb, hml, hown, hts⟩ (c_X6_playedBars l G ad F U k τ  ks km kok ) (cwV 1 hts gX6_join_X6_playedBars rfl rfl rfl (by decide +kernel) ⟨Nat.le_of_ble_eq_true rfl, Nat.le_of_ble_eq_true rfl⟩) (mx_preV hK hP (va_recv hK.1 hP (ci := 6) (q0 := 0) rfl rfl)) rfl rfl hl.1 rfl (lv_room (Nat.le_of_ble_eq_true rfl)) dX6_join_94 ⟨Nat.zero_le _, Nat.zero_le _⟩) ?_
                      refine lv_iload hx hb dX6_join_97 (lv_at hl 5 rfl) ?_
                      refine lv_iload_n hx hb dX6_join_99 rfl (lv_at hl 3 rfl) ?_
                      refine mx_callRO (v := .int (wholeV (U 24) (gPB τ) w0 n0)) (va_runS (As := [.ref (ad 25), .int (nI (gPB τ)), .int (nI w0), .int (nI n0)]) (rest := []) ⟨hx, hb, hml, hown, hts⟩ (c_X6_isWhole l G (ad 25) (U 24) (gPB τ) w0 n0 (by omega) (by omega) (by omega)) (va_cwS 4 hts gX6_join_X6_isWhole rfl rfl rfl (by decide +kernel) ⟨Nat.le_of_ble_eq_true rfl, Nat.le_of_ble_eq_true rfl⟩) (mx_preS hK (hP.sub (ws' := [(ad 25, .inl (G.2.2.1, 64, .inl (U 24)))]) [20] rfl)) rfl rfl hl.1 rfl (lv_room (Nat.le_of_ble_eq_true rfl)) dX6_join_100 ⟨Nat.zero_le _, Nat.zero_le _⟩) ?_
                      refine x_top (y := wholeV (gBrk τ) (gPB τ) w0 n0) (wholeV_congr hr4) ?_
                      refine lv_if_ne (tgt := 109) hx hb dX6_join_103 (by decide) (fun c_103 => ?_) (fun c_103 => ?_)
                      · refine lv_iload hx hb dX6_join_109 (lv_at hl 6 rfl) ?_
                        refine lv_if_eq (tgt := 137) hx hb dX6_join_111 (by decide) (fun c_111 => ?_) (fun c_111 => ?_)
                        · have hw9 := wholeV_le c_85
                          have hw8 := wholeV_le c_103
                          refine lv_aload_n hx hb dX6_join_137 rfl (lv_at hl 0 rfl) ?_
                          refine lv_iload hx hb dX6_join_138 (lv_at hl 4 rfl) ?_
                          refine lv_iload hx hb dX6_join_140 (lv_at hl 5 rfl) ?_
                          refine lv_iload_n hx hb dX6_join_142 rfl (lv_at hl 3 rfl) ?_
                          refine mx_callRO (v := .int (mcost (F 18) (fun j => U 21 (4 * u0 + j)) (fun j => U 22 (4 * w0 + j)) n0)) (va_runV (As := [.int (nI u0), .int (nI w0), .int (nI n0)]) (rest := []) ⟨hx, hb, hml, hown, hts⟩ (c_X6_beatsCost l G ad F U u0 w0 n0 (by omega) (by omega) (by omega) (fun i hi => ⟨by rw [hr1 _ (by omega)]; exact gRow_ne ok _, by rw [hr2 _ (by omega)]; exact gRow_ne kok _⟩)) (cwV 3 hts gX6_join_X6_beatsCost rfl rfl rfl (by decide +kernel) ⟨Nat.le_of_ble_eq_true rfl, Nat.le_of_ble_eq_true rfl⟩) (mx_preV hK hP (va_recv hK.1 hP (ci := 6) (q0 := 0) rfl rfl)) rfl rfl hl.1 rfl (lv_room (Nat.le_of_ble_eq_true rfl)) dX6_join_143 ⟨Nat.zero_le _, Nat.zero_le _⟩) ?_
                          refine x_top (y := jCost (F 18) σ τ n0 u0 w0) (mcost_congr (fun i hi => hr1 _ (by omega)) (fun i hi => hr2 _ (by omega))) ?_
                          refine lv_istore (lv' := [(7, .int (jCost (F 18) σ τ n0 u0 w0)), (0, .ref (ad 0)), (1, .int (nI j)), (2, .int (nI k)), (3, .int (nI n0)), (4, .int (nI u0)), (5, .int (nI w0)), (6, .int ph)]) hx hb dX6_join_146 hl (by decide) rfl (fun ls hl => ?_)
                          refine lv_iload hx hb dX6_join_148 (lv_at hl 0 rfl) ?_
                          refine lv_ldc hx hb hown ck164 dX6_join_150 ?_
                          refine x_top (y := nI 1000000000) (by decide) ?_
                          refine lv_icmp_ne (tgt := 158) hx hb dX6_join_152 (by decide) (fun c_152 => ?_) (fun c_152 => ?_)
                          · have hway : jWay (F 18) (σ, τ, n0, u0, w0) ph = 0 := way_0 c_85 c_103 (fun q => q.1 c_111) c_152
                            refine lv_aload_n hx hb dX6_join_158 rfl (lv_at hl 1 rfl) ?_
                            refine lv_iconst (v := nI 4) hx hb dX6_join_159 (by decide) ?_
                            refine lv_iload_n hx hb dX6_join_160 rfl (lv_at hl 4 rfl) ?_
                            refine x_imul (r := 4 * n0) hx hb dX6_join_161 (rfl) ?_
                            refine va_put (D := G.1) (ci := 6) (v := .int (nI (4 * n0))) (ty := .int) (C := RX6) (T := TX6) (N := 36) hx hb hts inX6 tyX6 tyX6_ok nmX6 hown hK.1 hP hD hS 0 rfl rfl 27 (by decide) fl180 (fun _ h9 => h9) rfl (by decide +kernel) rfl rfl (Nat.le_of_ble_eq_true rfl) dX6_join_162 (fun H locs hP hD hS => ?_)
                            have hP : va_P G.1 vwCl (MW G ad (va_up F 27 (nI (4 * n0))) U) H := hP
                            have hD : va_D _ (MW G ad (va_up F 27 (nI (4 * n0))) U) := hD
                            refine lv_iconst (v := nI 0) hx hb dX6_join_165 (by decide) ?_
                            refine lv_istore (lv' := [(8, .int (nI 0)), (7, .int (jCost (F 18) σ τ n0 u0 w0)), (0, .ref (ad 0)), (1, .int (nI j)), (2, .int (nI k)), (3, .int (nI n0)), (4, .int (nI u0)), (5, .int (nI w0)), (6, .int ph)]) hx hb dX6_join_166 hl (by decide) rfl (fun ls hl => ?_)
                            have lp168 : ∀ (nn : Nat) (i : Nat) (ML : Nat → Int32) (MB : Nat → Int32), 4 * n0 - i < nn → (i ≤ 4 * n0) → (∀ z, z < i → ML z = mlast (jX (σ, τ, n0, u0, w0)) (jY (σ, τ, n0, u0, w0)) n0 z ∧ MB z = mbend (mlast (jX (σ, τ, n0, u0, w0)) (jY (σ, τ, n0, u0, w0)) n0 z) ((jX (σ, τ, n0, u0, w0)) z) ((jY (σ, τ, n0, u0, w0)) z)) → ∀ (H : Heap) (locs : List Loc), va_P G.1 vwCl (MW G ad (va_up F 27 (nI (4 * n0))) (va_up (va_up U 28 ML) 29 MB)) H → va_D (va_A (MW G ad F R) s.heap.size) (MW G ad (va_up F 27 (nI (4 * n0))) (va_up (va_up U 28 ML) 29 MB)) → va_S (va_A (MW G ad F R) s.heap.size) s.heap H locs → ∀ ls : Array Slot, lv_has ls 11 [(0, .ref (ad 0)), (1, .int (nI j)), (2, .int (nI k)), (3, .int (nI n0)), (4, .int (nI u0)), (5, .int (nI w0)), (6, .int ph), (7, .int (jCost (F 18) σ τ n0 u0 w0)), (8, .int (nI i))] → mx_WE l wsX6_join 4 94 0 0 G p e s m (([.ref (ad 0), .int (nI j), .int (nI k), .int (nI n0), .int (nI u0), .int (nI w0), .int ph] : List Value).toArray) below meth c (MW G ad F R) (fun _ : (Nat → Int32) × (Nat → Nat → Int32) => some (.int (aJoin (F 18) (F 19) (F 20) (jArg so (nI j) (nI k) (nI n0) (nI u0) (nI w0)) ph))) (fun u9 : (Nat → Int32) × (Nat → Nat → Int32) => (∀ i, i ≠ 27 → u9.1 i = F i) ∧ (∀ i, (i < 21 ∨ 30 ≤ i) → u9.2 i = R i) ∧ jMeet (F 18) (jArg so (nI j) (nI k) (nI n0) (nI u0) (nI w0)) ph (F 27) (u9.1 27) (R 28) (u9.2 28) (R 29) (u9.2 29)) (fun u9 : (Nat → Int32) × (Nat → Nat → Int32) => MW G ad u9.1 u9.2) H locs 0 0 (F0 m 168 ls []) := by
                              intro nn
                              induction nn with
                              | zero => intro i ML MB hmu; exact absurd hmu (Nat.not_lt_zero _)
                              | succ nn ih168 =>
                                intro i ML MB hmu hi hmt H locs hP hD hS ls hl
                                refine lv_iload hx hb dX6_join_168 (lv_at hl 8 rfl) ?_
                                refine lv_aload_n hx hb dX6_join_170 rfl (lv_at hl 0 rfl) ?_
                                refine va_get (D := G.1) (ci := 6) (v := .int (nI (4 * n0))) (C := RX6) (T := TX6) (N := 36) hx hb hts inX6 hown hK.1 hP 0 rfl rfl 27 (by decide) fl180 (fun _ h9 => h9) rfl dX6_join_171 ?_
                                refine x_icmp_ge (tgt := 249) hx hb (by omega) (by omega) dX6_join_174 (by decide) (fun c_174 => ?_) (fun c_174 => ?_)
                                · refine lv_iload hx hb dX6_join_249 (lv_at hl 7 rfl) ?_
                                  refine lv_aload_n hx hb dX6_join_251 rfl (lv_at hl 0 rfl) ?_
                                  refine lv_iload_n hx hb dX6_join_252 rfl (lv_at hl 1 rfl) ?_
                                  refine lv_iload_n hx hb dX6_join_253 rfl (lv_at hl 2 rfl) ?_
                                  refine mx_callRO (v := .int (malways (F 19) (F 20) σ τ)) (va_runV (As := [.int (nI j), .int (nI k)]) (rest := [.int (jCost (F 18) σ τ n0 u0 w0)]) ⟨hx, hb, hml, hown, hts⟩ (c_X6_always l G ad (va_up F 27 (nI (4 * n0))) (va_up (va_up U 28 ML) 29 MB) j k σ τ hs ks hm km) (cwV 2 hts gX6_join_X6_always rfl rfl rfl (by decide +kernel) ⟨Nat.le_of_ble_eq_true rfl, Nat.le_of_ble_eq_true rfl⟩) (mx_preV hK hP (va_recv hK.1 hP (ci := 6) (q0 := 0) rfl rfl)) rfl rfl hl.1 rfl (lv_room (Nat.le_of_ble_eq_true rfl)) dX6_join_254 ⟨Nat.zero_le _, Nat.zero_le _⟩) ?_
                                  refine lv_iadd hx hb dX6_join_257 ?_
                                  refine x_top (y := aJoin (F 18) (F 19) (F 20) (jArg so (nI j) (nI k) (nI n0) (nI u0) (nI w0)) ph) (by rw [hJ]; exact ((if_neg (by rw [hway]; decide)).trans ((if_neg (by rw [hway]; decide)).trans (if_neg (by rw [hway]; decide)))).symm) ?_
                                  exact W.iret (v := aJoin (F 18) (F 19) (F 20) (jArg so (nI j) (nI k) (nI n0) (nI u0) (nI w0)) ph) hx hb hr (fun t9 ht9 hW9 => ⟨⟨(va_up F 27 (nI (4 * n0)), va_up (va_up U 28 ML) 29 MB), rfl, ⟨fun i hi => by simp only [va_up]; rw [if_neg hi], fun i hi => by simp only [va_up]; rw [if_neg (by omega), if_neg (by omega)]; exact hkp i (by omega), by rw [hJ]; exact jMeet_y hway (fun z hz => hmt z (show z < i by have : z < 4 * n0 := hz; omega))⟩, by rw [ht9]; exact hP, hD⟩, hS.F ht9⟩) hS.2.2 dX6_join_258
                                · refine lv_aload_n hx hb dX6_join_177 rfl (lv_at hl 0 rfl) ?_
                                  refine va_get (D := G.1) (ci := 6) (v := .ref (ad 22)) (C := RX6) (T := TX6) (N := 36) hx hb hts inX6 hown hK.1 hP 0 rfl rfl 21 (by decide) fl69 (fun _ h9 => h9) rfl dX6_join_178 ?_
                                  refine lv_iconst (v := nI 4) hx hb dX6_join_181 (by decide) ?_
                                  refine lv_iload hx hb dX6_join_182 (lv_at hl 4 rfl) ?_
                                  refine x_imul (r := 4 * u0) hx hb dX6_join_184 (rfl) ?_
                                  refine lv_iload hx hb dX6_join_185 (lv_at hl 8 rfl) ?_
                                  refine x_iadd (r := 4 * u0 + i) hx hb dX6_join_187 (rfl) ?_
                                  refine x_iald hx hb hK.1 hP 17 0 (n := 256) (f := U 21) rfl rfl (k := 4 * u0 + i) (by omega) (by omega) dX6_join_188 ?_
                                  refine x_top (y := gRow σ (4 * u0 + i)) (hr1 _ (by omega)) ?_
                                  refine lv_istore (lv' := [(9, .int (gRow σ (4 * u0 + i))), (0, .ref (ad 0)), (1, .int (nI j)), (2, .int (nI k)), (3, .int (nI n0)), (4, .int (nI u0)), (5, .int (nI w0)), (6, .int ph), (7, .int (jCost (F 18) σ τ n0 u0 w0)), (8, .int (nI i))]) hx hb dX6_join_189 hl (by decide) rfl (fun ls hl => ?_)
                                  refine lv_aload_n hx hb dX6_join_191 rfl (lv_at hl 1 rfl) ?_
                                  refine va_get (D := G.1) (ci := 6) (v := .ref (ad 23)) (C := RX6) (T := TX6) (N := 36) hx hb hts inX6 hown hK.1 hP 0 rfl rfl 22 (by decide) fl72 (fun _ h9 => h9) rfl dX6_join_192 ?_
                                  refine lv_iconst (v := nI 4) hx hb dX6_join_195 (by decide) ?_
                                  refine lv_iload hx hb dX6_join_196 (lv_at hl 6 rfl) ?_
                                  refine x_imul (r := 4 * w0) hx hb dX6_join_198 (rfl) ?_
                                  refine lv_iload hx hb dX6_join_199 (lv_at hl 9 rfl) ?_
                                  refine x_iadd (r := 4 * w0 + i) hx hb dX6_join_201 (rfl) ?_
                                  refine x_iald hx hb hK.1 hP 18 0 (n := 256) (f := U 22) rfl rfl (k := 4 * w0 + i) (by omega) (by omega) dX6_join_202 ?_
                                  refine x_top (y := gRow τ (4 * w0 + i)) (hr2 _ (by omega)) ?_
                                  refine lv_istore (lv' := [(10, .int (gRow τ (4 * w0 + i))), (9, .int (gRow σ (4 * u0 + i))), (0, .ref (ad 0)), (1, .int (nI j)), (2, .int (nI k)), (3, .int (nI n0)), (4, .int (nI u0)), (5, .int (nI w0)), (6, .int ph), (7, .int (jCost (F 18) σ τ n0 u0 w0)), (8, .int (nI i))]) hx hb dX6_join_203 hl (by decide) rfl (fun ls hl => ?_)
                                  refine lv_aload_n hx hb dX6_join_205 rfl (lv_at hl 2 rfl) ?_
                                  refine va_get (D := G.1) (ci := 6) (v := .ref (ad 29)) (C := RX6) (T := TX6) (N := 36) hx hb hts inX6 hown hK.1 hP 0 rfl rfl 28 (by decide) fl87 (fun _ h9 => h9) rfl dX6_join_206 ?_
                                  refine lv_iload hx hb dX6_join_209 (lv_at hl 10 rfl) ?_
                                  refine lv_iload hx hb dX6_join_211 (lv_at hl 1 rfl) ?_
                                  refine lv_iload hx hb dX6_join_213 (lv_at hl 0 rfl) ?_
                                  refine lv_iload hx hb dX6_join_215 (lv_at hl 10 rfl) ?_
                                  refine lv_iload_n hx hb dX6_join_217 rfl (lv_at hl 5 rfl) ?_
                                  refine mx_callRO (v := .int (mjoin (gRow σ (4 * u0 + i)) (gRow τ (4 * w0 + i)) i n0)) (va_runS (As := [.int (gRow σ (4 * u0 + i)), .int (gRow τ (4 * w0 + i)), .int (nI i), .int (nI n0)]) (rest := [.int (nI i), .ref (ad 29)]) ⟨hx, hb, hml, hown, hts⟩ (c_X6_joined l G (gRow σ (4 * u0 + i)) (gRow τ (4 * w0 + i)) i n0 (by omega) (by omega)) (va_cwS 4 hts gX6_join_X6_joined rfl rfl rfl (by decide +kernel) ⟨Nat.le_of_ble_eq_true rfl, Nat.le_of_ble_eq_true rfl⟩) (mx_preS hK trivial) rfl rfl hl.1 rfl (lv_room (Nat.le_of_ble_eq_true rfl)) dX6_join_218 ⟨Nat.zero_le _, Nat.zero_le _⟩) ?_
                                  refine x_iast hx hb hK.1 hP hD hS 23 0 (n := 32) (f := ML) rfl rfl (k := i) (by omega) (by omega) dX6_join_221 (MW G ad (va_up F 27 (nI (4 * n0))) (va_up (va_up U 29 MB) 28 (upd ML i (mjoin (gRow σ (4 * u0 + i)) (gRow τ (4 * w0 + i)) i n0)))) rfl (fun H locs hP hD hS => ?_)
                                  refine lv_aload_n hx hb dX6_join_222 rfl (lv_at hl 2 rfl) ?_
                                  refine va_get (D := G.1) (ci := 6) (v := .ref (ad 30)) (C := RX6) (T := TX6) (N := 36) hx hb hts inX6 hown hK.1 hP 0 rfl rfl 29 (by decide) fl90 (fun _ h9 => h9) rfl dX6_join_223 ?_
                                  refine lv_iload hx hb dX6_join_226 (lv_at hl 10 rfl) ?_
                                  refine lv_aload_n hx hb dX6_join_228 rfl (lv_at hl 2 rfl) ?_
                                  refine va_get (D := G.1) (ci := 6) (v := .ref (ad 29)) (C := RX6) (T := TX6) (N := 36) hx hb hts inX6 hown hK.1 hP 0 rfl rfl 28 (by decide) fl87 (fun _ h9 => h9) rfl dX6_join_229 ?_
                                  refine lv_iload hx hb dX6_join_232 (lv_at hl 10 rfl) ?_
                                  refine x_iald hx hb hK.1 hP 23 0 (n := 32) (f := upd ML i (mjoin (gRow σ (4 * u0 + i)) (gRow τ (4 * w0 + i)) i n0)) rfl rfl (k := i) (by omega) (by omega) dX6_join_234 ?_
                                  refine x_top (y := mjoin (gRow σ (4 * u0 + i)) (gRow τ (4 * w0 + i)) i n0) (if_pos rfl) ?_
                                  refine lv_iload hx hb dX6_join_235 (lv_at hl 1 rfl) ?_
                                  refine lv_iload hx hb dX6_join_237 (lv_at hl 0 rfl) ?_
                                  refine mx_callRO (v := .int (mbend (mjoin (gRow σ (4 * u0 + i)) (gRow τ (4 * w0 + i)) i n0) (gRow σ (4 * u0 + i)) (gRow τ (4 * w0 + i)))) (va_runS (As := [.int (mjoin (gRow σ (4 * u0 + i)) (gRow τ (4 * w0 + i)) i n0), .int (gRow σ (4 * u0 + i)), .int (gRow τ (4 * w0 + i))]) (rest := [.int (nI i), .ref (ad 30)]) ⟨hx, hb, hml, hown, hts⟩ (c_X6_bend l G (mjoin (gRow σ (4 * u0 + i)) (gRow τ (4 * w0 + i)) i n0) (gRow σ (4 * u0 + i)) (gRow τ (4 * w0 + i)) (gRow_ne ok _) (gRow_ne kok _)) (va_cwS 3 hts gX6_join_X6_bend rfl rfl rfl (by decide +kernel) ⟨Nat.le_of_ble_eq_true rfl, Nat.le_of_ble_eq_true rfl⟩) (mx_preS hK trivial) rfl rfl hl.1 rfl (lv_room (Nat.le_of_ble_eq_true rfl)) dX6_join_239 ⟨Nat.zero_le _, Nat.zero_le _⟩) ?_
                                  refine x_iast hx hb hK.1 hP hD hS 24 0 (n := 32) (f := MB) rfl rfl (k := i) (by omega) (by omega) dX6_join_242 (MW G ad (va_up F 27 (nI (4 * n0))) (va_up (va_up U 28 (upd ML i (mjoin (gRow σ (4 * u0 + i)) (gRow τ (4 * w0 + i)) i n0))) 29 (upd MB i (mbend (mjoin (gRow σ (4 * u0 + i)) (gRow τ (4 * w0 + i)) i n0) (gRow σ (4 * u0 + i)) (gRow τ (4 * w0 + i)))))) rfl (fun H locs hP hD hS => ?_)
                                  refine x_iinc (lv' := [(8, .int (nI (i + 1))), (10, .int (gRow τ (4 * w0 + i))), (9, .int (gRow σ (4 * u0 + i))), (0, .ref (ad 0)), (1, .int (nI j)), (2, .int (nI k)), (3, .int (nI n0)), (4, .int (nI u0)), (5, .int (nI w0)), (6, .int ph), (7, .int (jCost (F 18) σ τ n0 u0 w0))]) hx hb dX6_join_243 hl (k := 10) rfl (x_inc1 _) (by decide) rfl (fun ls hl => ?_)
                                  refine lv_goto (tgt := 168) hx hb dX6_join_246 (by decide) ?_
                                  exact ih168 (i + 1) (upd ML i (mjoin (gRow σ (4 * u0 + i)) (gRow τ (4 * w0 + i)) i n0)) (upd MB i (mbend (mjoin (gRow σ (4 * u0 + i)) (gRow τ (4 * w0 + i)) i n0) (gRow σ (4 * u0 + i)) (gRow τ (4 * w0 + i)))) (by omega) (by omega) (pair_s hmt rfl rfl) _ _ hP hD hS _ (lv_sub hl [3, 4, 5, 6, 7, 8, 9, 10, 0] rfl)
                            exact lp168 (4 * n0 - 0 + 1) 0 (U 28) (U 29) (Nat.lt_succ_self _) (by omega) (lt_0) _ _ hP hD hS _ (lv_sub hl [2, 3, 4, 5, 6, 7, 8, 1, 0] rfl)
                          · have hway : jWay (F 18) (σ, τ, n0, u0, w0) ph = 4 := way_4 c_85 c_103 (fun q => q.1 c_111) c_152
                            refine lv_bipush (v := (-4)) hx hb dX6_join_155 (by decide) ?_
                            refine x_top (y := aJoin (F 18) (F 19) (F 20) (jArg so (nI j) (nI k) (nI n0) (nI u0) (nI w0)) ph) (by rw [hJ]; exact ((if_neg (by rw [hway]; decide)).trans ((if_neg (by rw [hway]; decide)).trans (if_pos hway))).symm) ?_
                            exact W.iret (v := aJoin (F 18) (F 19) (F 20) (jArg so (nI j) (nI k) (nI n0) (nI u0) (nI w0)) ph) hx hb hr (fun t9 ht9 hW9 => ⟨⟨(F, U), rfl, ⟨fun _ _ => rfl, fun i hi => hkp i (by omega), by rw [hJ, show (F, U).2 28 = R 28 from hkp 28 (by decide), show (F, U).2 29 = R 29 from hkp 29 (by decide)]; exact jMeet_s (by rw [hway]; decide)⟩, by rw [ht9]; exact hP, hD⟩, hS.F ht9⟩) hS.2.2 dX6_join_157
                        · refine lv_aload_n hx hb dX6_join_114 rfl (lv_at hl 0 rfl) ?_
                          refine va_get (D := G.1) (ci := 6) (v := .ref (ad 26)) (C := RX6) (T := TX6) (N := 36) hx hb hts inX6 hown hK.1 hP 0 rfl rfl 25 (by decide) fl81 (fun _ h9 => h9) rfl dX6_join_115 ?_
                          refine lv_iload hx hb dX6_join_118 (lv_at hl 4 rfl) ?_
                          refine x_zald hx hb hK.1 hP 21 1 (n := 64) (f := U 25) rfl rfl (k := u0) (by omega) (by omega) dX6_join_120 ?_
                          refine x_top (y := gPhr σ u0) (hr5 _ (by omega)) ?_
                          refine lv_if_eq (tgt := 134) hx hb dX6_join_121 (by decide) (fun c_121 => ?_) (fun c_121 => ?_)
                          · have hway : jWay (F 18) (σ, τ, n0, u0, w0) ph = 3 := way_3 c_85 c_103 ⟨c_111, Or.inl c_121⟩
                            refine lv_bipush (v := (-3)) hx hb dX6_join_134 (by decide) ?_
                            refine x_top (y := aJoin (F 18) (F 19) (F 20) (jArg so (nI j) (nI k) (nI n0) (nI u0) (nI w0)) ph) (by rw [hJ]; exact ((if_neg (by rw [hway]; decide)).trans (if_pos hway)).symm) ?_
                            exact W.iret (v := aJoin (F 18) (F 19) (F 20) (jArg so (nI j) (nI k) (nI n0) (nI u0) (nI w0)) ph) hx hb hr (fun t9 ht9 hW9 => ⟨⟨(F, U), rfl, ⟨fun _ _ => rfl, fun i hi => hkp i (by omega), by rw [hJ, show (F, U).2 28 = R 28 from hkp 28 (by decide), show (F, U).2 29 = R 29 from hkp 29 (by decide)]; exact jMeet_s (by rw [hway]; decide)⟩, by rw [ht9]; exact hP, hD⟩, hS.F ht9⟩) hS.2.2 dX6_join_136
                          · refine lv_aload_n hx hb dX6_join_124 rfl (lv_at hl 0 rfl) ?_
                            refine va_get (D := G.1) (ci := 6) (v := .ref (ad 27)) (C := RX6) (T := TX6) (N := 36) hx hb hts inX6 hown hK.1 hP 0 rfl rfl 26 (by decide) fl84 (fun _ h9 => h9) rfl dX6_join_125 ?_
                            refine lv_iload hx hb dX6_join_128 (lv_at hl 5 rfl) ?_
                            refine x_zald hx hb hK.1 hP 22 1 (n := 64) (f := U 26) rfl rfl (k := w0) (by omega) (by omega) dX6_join_130 ?_
                            refine x_top (y := gPhr τ w0) (hr6 _ (by omega)) ?_
                            refine lv_if_ne (tgt := 137) hx hb dX6_join_131 (by decide) (fun c_131 => ?_) (fun c_131 => ?_)
                            · have hw9 := wholeV_le c_85
                              have hw8 := wholeV_le c_103
                              refine lv_aload_n hx hb dX6_join_137 rfl (lv_at hl 0 rfl) ?_
                              refine lv_iload hx hb dX6_join_138 (lv_at hl 4 rfl) ?_
                              refine lv_iload hx hb dX6_join_140 (lv_at hl 5 rfl) ?_
                              refine lv_iload_n hx hb dX6_join_142 rfl (lv_at hl 3 rfl) ?_
                              refine mx_callRO (v := .int (mcost (F 18) (fun j => U 21 (4 * u0 + j)) (fun j => U 22 (4 * w0 + j)) n0)) (va_runV (As := [.int (nI u0), .int (nI w0), .int (nI n0)]) (rest := []) ⟨hx, hb, hml, hown, hts⟩ (c_X6_beatsCost l G ad F U u0 w0 n0 (by omega) (by omega) (by omega) (fun i hi => ⟨by rw [hr1 _ (by omega)]; exact gRow_ne ok _, by rw [hr2 _ (by omega)]; exact gRow_ne kok _⟩)) (cwV 3 hts gX6_join_X6_beatsCost rfl rfl rfl (by decide +kernel) ⟨Nat.le_of_ble_eq_true rfl, Nat.le_of_ble_eq_true rfl⟩) (mx_preV hK hP (va_recv hK.1 hP (ci := 6) (q0 := 0) rfl rfl)) rfl rfl hl.1 rfl (lv_room (Nat.le_of_ble_eq_true rfl)) dX6_join_143 ⟨Nat.zero_le _, Nat.zero_le _⟩) ?_
                              refine x_top (y := jCost (F 18) σ τ n0 u0 w0) (mcost_congr (fun i hi => hr1 _ (by omega)) (fun i hi => hr2 _ (by omega))) ?_
                              refine lv_istore (lv' := [(7, .int (jCost (F 18) σ τ n0 u0 w0)), (0, .ref (ad 0)), (1, .int (nI j)), (2, .int (nI k)), (3, .int (nI n0)), (4, .int (nI u0)), (5, .int (nI w0)), (6, .int ph)]) hx hb dX6_join_146 hl (by decide) rfl (fun ls hl => ?_)
                              refine lv_iload hx hb dX6_join_148 (lv_at hl 0 rfl) ?_
                              refine lv_ldc hx hb hown ck164 dX6_join_150 ?_
                              refine x_top (y := nI 1000000000) (by decide) ?_
                              refine lv_icmp_ne (tgt := 158) hx hb dX6_join_152 (by decide) (fun c_152 => ?_) (fun c_152 => ?_)
                              · have hway : jWay (F 18) (σ, τ, n0, u0, w0) ph = 0 := way_0 c_85 c_103 (fun q => q.2.elim c_121 c_131) c_152
                                refine lv_aload_n hx hb dX6_join_158 rfl (lv_at hl 1 rfl) ?_
                                refine lv_iconst (v := nI 4) hx hb dX6_join_159 (by decide) ?_
                                refine lv_iload_n hx hb dX6_join_160 rfl (lv_at hl 4 rfl) ?_
                                refine x_imul (r := 4 * n0) hx hb dX6_join_161 (rfl) ?_
                                refine va_put (D := G.1) (ci := 6) (v := .int (nI (4 * n0))) (ty := .int) (C := RX6) (T := TX6) (N := 36) hx hb hts inX6 tyX6 tyX6_ok nmX6 hown hK.1 hP hD hS 0 rfl rfl 27 (by decide) fl180 (fun _ h9 => h9) rfl (by decide +kernel) rfl rfl (Nat.le_of_ble_eq_true rfl) dX6_join_162 (fun H locs hP hD hS => ?_)
                                have hP : va_P G.1 vwCl (MW G ad (va_up F 27 (nI (4 * n0))) U) H := hP
                                have hD : va_D _ (MW G ad (va_up F 27 (nI (4 * n0))) U) := hD
                                refine lv_iconst (v := nI 0) hx hb dX6_join_165 (by decide) ?_
                                refine lv_istore (lv' := [(8, .int (nI 0)), (7, .int (jCost (F 18) σ τ n0 u0 w0)), (0, .ref (ad 0)), (1, .int (nI j)), (2, .int (nI k)), (3, .int (nI n0)), (4, .int (nI u0)), (5, .int (nI w0)), (6, .int ph)]) hx hb dX6_join_166 hl (by decide) rfl (fun ls hl => ?_)
                                have lp168 : ∀ (nn : Nat) (i : Nat) (ML : Nat → Int32) (MB : Nat → Int32), 4 * n0 - i < nn → (i ≤ 4 * n0) → (∀ z, z < i → ML z = mlast (jX (σ, τ, n0, u0, w0)) (jY (σ, τ, n0, u0, w0)) n0 z ∧ MB z = mbend (mlast (jX (σ, τ, n0, u0, w0)) (jY (σ, τ, n0, u0, w0)) n0 z) ((jX (σ, τ, n0, u0, w0)) z) ((jY (σ, τ, n0, u0, w0)) z)) → ∀ (H : Heap) (locs : List Loc), va_P G.1 vwCl (MW G ad (va_up F 27 (nI (4 * n0))) (va_up (va_up U 28 ML) 29 MB)) H → va_D (va_A (MW G ad F R) s.heap.size) (MW G ad (va_up F 27 (nI (4 * n0))) (va_up (va_up U 28 ML) 29 MB)) → va_S (va_A (MW G ad F R) s.heap.size) s.heap H locs → ∀ ls : Array Slot, lv_has ls 11 [(0, .ref (ad 0)), (1, .int (nI j)), (2, .int (nI k)), (3, .int (nI n0)), (4, .int (nI u0)), (5, .int (nI w0)), (6, .int ph), (7, .int (jCost (F 18) σ τ n0 u0 w0)), (8, .int (nI i))] → mx_WE l wsX6_join 4 94 0 0 G p e s m (([.ref (ad 0), .int (nI j), .int (nI k), .int (nI n0), .int (nI u0), .int (nI w0), .int ph] : List Value).toArray) below meth c (MW G ad F R) (fun _ : (Nat → Int32) × (Nat → Nat → Int32) => some (.int (aJoin (F 18) (F 19) (F 20) (jArg so (nI j) (nI k) (nI n0) (nI u0) (nI w0)) ph))) (fun u9 : (Nat → Int32) × (Nat → Nat → Int32) => (∀ i, i ≠ 27 → u9.1 i = F i) ∧ (∀ i, (i < 21 ∨ 30 ≤ i) → u9.2 i = R i) ∧ jMeet (F 18) (jArg so (nI j) (nI k) (nI n0) (nI u0) (nI w0)) ph (F 27) (u9.1 27) (R 28) (u9.2 28) (R 29) (u9.2 29)) (fun u9 : (Nat → Int32) × (Nat → Nat → Int32) => MW G ad u9.1 u9.2) H locs 0 0 (F0 m 168 ls []) := by
                                  intro nn
                                  induction nn with
                                  | zero => intro i ML MB hmu; exact absurd hmu (Nat.not_lt_zero _)
                                  | succ nn ih168 =>
                                    intro i ML MB hmu hi hmt H locs hP hD hS ls hl
                                    refine lv_iload hx hb dX6_join_168 (lv_at hl 8 rfl) ?_
                                    refine lv_aload_n hx hb dX6_join_170 rfl (lv_at hl 0 rfl) ?_
                                    refine va_get (D := G.1) (ci := 6) (v := .int (nI (4 * n0))) (C := RX6) (T := TX6) (N := 36) hx hb hts inX6 hown hK.1 hP 0 rfl rfl 27 (by decide) fl180 (fun _ h9 => h9) rfl dX6_join_171 ?_
                                    refine x_icmp_ge (tgt := 249) hx hb (by omega) (by omega) dX6_join_174 (by decide) (fun c_174 => ?_) (fun c_174 => ?_)
                                    · refine lv_iload hx hb dX6_join_249 (lv_at hl 7 rfl) ?_
                                      refine lv_aload_n hx hb dX6_join_251 rfl (lv_at hl 0 rfl) ?_
                                      refine lv_iload_n hx hb dX6_join_252 rfl (lv_at hl 1 rfl) ?_
                                      refine lv_iload_n hx hb dX6_join_253 rfl (lv_at hl 2 rfl) ?_
                                      refine mx_callRO (v := .int (malways (F 19) (F 20) σ τ)) (va_runV (As := [.int (nI j), .int (nI k)]) (rest := [.int (jCost (F 18) σ τ n0 u0 w0)]) ⟨hx, hb, hml, hown, hts⟩ (c_X6_always l G ad (va_up F 27 (nI (4 * n0))) (va_up (va_up U 28 ML) 29 MB) j k σ τ hs ks hm km) (cwV 2 hts gX6_join_X6_always rfl rfl rfl (by decide +kernel) ⟨Nat.le_of_ble_eq_true rfl, Nat.le_of_ble_eq_true rfl⟩) (mx_preV hK hP (va_recv hK.1 hP (ci := 6) (q0 := 0) rfl rfl)) rfl rfl hl.1 rfl (lv_room (Nat.le_of_ble_eq_true rfl)) dX6_join_254 ⟨Nat.zero_le _, Nat.zero_le _⟩) ?_
                                      refine lv_iadd hx hb dX6_join_257 ?_
                                      refine x_top (y := aJoin (F 18) (F 19) (F 20) (jArg so (nI j) (nI k) (nI n0) (nI u0) (nI w0)) ph) (by rw [hJ]; exact ((if_neg (by rw [hway]; decide)).trans ((if_neg (by rw [hway]; decide)).trans (if_neg (by rw [hway]; decide)))).symm) ?_
                                      exact W.iret (v := aJoin (F 18) (F 19) (F 20) (jArg so (nI j) (nI k) (nI n0) (nI u0) (nI w0)) ph) hx hb hr (fun t9 ht9 hW9 => ⟨⟨(va_up F 27 (nI (4 * n0)), va_up (va_up U 28 ML) 29 MB), rfl, ⟨fun i hi => by simp only [va_up]; rw [if_neg hi], fun i hi => by simp only [va_up]; rw [if_neg (by omega), if_neg (by omega)]; exact hkp i (by omega), by rw [hJ]; exact jMeet_y hway (fun z hz => hmt z (show z < i by have : z < 4 * n0 := hz; omega))⟩, by rw [ht9]; exact hP, hD⟩, hS.F ht9⟩) hS.2.2 dX6_join_258
                                    · refine lv_aload_n hx hb dX6_join_177 rfl (lv_at hl 0 rfl) ?_
                                      refine va_get (D := G.1) (ci := 6) (v := .ref (ad 22)) (C := RX6) (T := TX6) (N := 36) hx hb hts inX6 hown hK.1 hP 0 rfl rfl 21 (by decide) fl69 (fun _ h9 => h9) rfl dX6_join_178 ?_
                                      refine lv_iconst (v := nI 4) hx hb dX6_join_181 (by decide) ?_
                                      refine lv_iload hx hb dX6_join_182 (lv_at hl 4 rfl) ?_
                                      refine x_imul (r := 4 * u0) hx hb dX6_join_184 (rfl) ?_
                                      refine lv_iload hx hb dX6_join_185 (lv_at hl 8 rfl) ?_
                                      refine x_iadd (r := 4 * u0 + i) hx hb dX6_join_187 (rfl) ?_
                                      refine x_iald hx hb hK.1 hP 17 0 (n := 256) (f := U 21) rfl rfl (k := 4 * u0 + i) (by omega) (by omega) dX6_join_188 ?_
                                      refine x_top (y := gRow σ (4 * u0 + i)) (hr1 _ (by omega)) ?_
                                      refine lv_istore (lv' := [(9, .int (gRow σ (4 * u0 + i))), (0, .ref (ad 0)), (1, .int (nI j)), (2, .int (nI k)), (3, .int (nI n0)), (4, .int (nI u0)), (5, .int (nI w0)), (6, .int ph), (7, .int (jCost (F 18) σ τ n0 u0 w0)), (8, .int (nI i))]) hx hb dX6_join_189 hl (by decide) rfl (fun ls hl => ?_)
                                      refine lv_aload_n hx hb dX6_join_191 rfl (lv_at hl 1 rfl) ?_
                                      refine va_get (D := G.1) (ci := 6) (v := .ref (ad 23)) (C := RX6) (T := TX6) (N := 36) hx hb hts inX6 hown hK.1 hP 0 rfl rfl 22 (by decide) fl72 (fun _ h9 => h9) rfl dX6_join_192 ?_
                                      refine lv_iconst (v := nI 4) hx hb dX6_join_195 (by decide) ?_
                                      refine lv_iload hx hb dX6_join_196 (lv_at hl 6 rfl) ?_
                                      refine x_imul (r := 4 * w0) hx hb dX6_join_198 (rfl) ?_
                                      refine lv_iload hx hb dX6_join_199 (lv_at hl 9 rfl) ?_
                                      refine x_iadd (r := 4 * w0 + i) hx hb dX6_join_201 (rfl) ?_
                                      refine x_iald hx hb hK.1 hP 18 0 (n := 256) (f := U 22) rfl rfl (k := 4 * w0 + i) (by omega) (by omega) dX6_join_202 ?_
                                      refine x_top (y := gRow τ (4 * w0 + i)) (hr2 _ (by omega)) ?_
                                      refine lv_istore (lv' := [(10, .int (gRow τ (4 * w0 + i))), (9, .int (gRow σ (4 * u0 + i))), (0, .ref (ad 0)), (1, .int (nI j)), (2, .int (nI k)), (3, .int (nI n0)), (4, .int (nI u0)), (5, .int (nI w0)), (6, .int ph), (7, .int (jCost (F 18) σ τ n0 u0 w0)), (8, .int (nI i))]) hx hb dX6_join_203 hl (by decide) rfl (fun ls hl => ?_)
                                      refine lv_aload_n hx hb dX6_join_205 rfl (lv_at hl 2 rfl) ?_
                                      refine va_get (D := G.1) (ci := 6) (v := .ref (ad 29)) (C := RX6) (T := TX6) (N := 36) hx hb hts inX6 hown hK.1 hP 0 rfl rfl 28 (by decide) fl87 (fun _ h9 => h9) rfl dX6_join_206 ?_
                                      refine lv_iload hx hb dX6_join_209 (lv_at hl 10 rfl) ?_
                                      refine lv_iload hx hb dX6_join_211 (lv_at hl 1 rfl) ?_
                                      refine lv_iload hx hb dX6_join_213 (lv_at hl 0 rfl) ?_
                                      refine lv_iload hx hb dX6_join_215 (lv_at hl 10 rfl) ?_
                                      refine lv_iload_n hx hb dX6_join_217 rfl (lv_at hl 5 rfl) ?_
                                      refine mx_callRO (v := .int (mjoin (gRow σ (4 * u0 + i)) (gRow τ (4 * w0 + i)) i n0)) (va_runS (As := [.int (gRow σ (4 * u0 + i)), .int (gRow τ (4 * w0 + i)), .int (nI i), .int (nI n0)]) (rest := [.int (nI i), .ref (ad 29)]) ⟨hx, hb, hml, hown, hts⟩ (c_X6_joined l G (gRow σ (4 * u0 + i)) (gRow τ (4 * w0 + i)) i n0 (by omega) (by omega)) (va_cwS 4 hts gX6_join_X6_joined rfl rfl rfl (by decide +kernel) ⟨Nat.le_of_ble_eq_true rfl, Nat.le_of_ble_eq_true rfl⟩) (mx_preS hK trivial) rfl rfl hl.1 rfl (lv_room (Nat.le_of_ble_eq_true rfl)) dX6_join_218 ⟨Nat.zero_le _, Nat.zero_le _⟩) ?_
                                      refine x_iast hx hb hK.1 hP hD hS 23 0 (n := 32) (f := ML) rfl rfl (k := i) (by omega) (by omega) dX6_join_221 (MW G ad (va_up F 27 (nI (4 * n0))) (va_up (va_up U 29 MB) 28 (upd ML i (mjoin (gRow σ (4 * u0 + i)) (gRow τ (4 * w0 + i)) i n0)))) rfl (fun H locs hP hD hS => ?_)
                                      refine lv_aload_n hx hb dX6_join_222 rfl (lv_at hl 2 rfl) ?_
                                      refine va_get (D := G.1) (ci := 6) (v := .ref (ad 30)) (C := RX6) (T := TX6) (N := 36) hx hb hts inX6 hown hK.1 hP 0 rfl rfl 29 (by decide) fl90 (fun _ h9 => h9) rfl dX6_join_223 ?_
                                      refine lv_iload hx hb dX6_join_226 (lv_at hl 10 rfl) ?_
                                      refine lv_aload_n hx hb dX6_join_228 rfl (lv_at hl 2 rfl) ?_
                                      refine va_get (D := G.1) (ci := 6) (v := .ref (ad 29)) (C := RX6) (T := TX6) (N := 36) hx hb hts inX6 hown hK.1 hP 0 rfl rfl 28 (by decide) fl87 (fun _ h9 => h9) rfl dX6_join_229 ?_
                                      refine lv_iload hx hb dX6_join_232 (lv_at hl 10 rfl) ?_
                                      refine x_iald hx hb hK.1 hP 23 0 (n := 32) (f := upd ML i (mjoin (gRow σ (4 * u0 + i)) (gRow τ (4 * w0 + i)) i n0)) rfl rfl (k := i) (by omega) (by omega) dX6_join_234 ?_
                                      refine x_top (y := mjoin (gRow σ (4 * u0 + i)) (gRow τ (4 * w0 + i)) i n0) (if_pos rfl) ?_
                                      refine lv_iload hx hb dX6_join_235 (lv_at hl 1 rfl) ?_
                                      refine lv_iload hx hb dX6_join_237 (lv_at hl 0 rfl) ?_
                                      refine mx_callRO (v := .int (mbend (mjoin (gRow σ (4 * u0 + i)) (gRow τ (4 * w0 + i)) i n0) (gRow σ (4 * u0 + i)) (gRow τ (4 * w0 + i)))) (va_runS (As := [.int (mjoin (gRow σ (4 * u0 + i)) (gRow τ (4 * w0 + i)) i n0), .int (gRow σ (4 * u0 + i)), .int (gRow τ (4 * w0 + i))]) (rest := [.int (nI i), .ref (ad 30)]) ⟨hx, hb, hml, hown, hts⟩ (c_X6_bend l G (mjoin (gRow σ (4 * u0 + i)) (gRow τ (4 * w0 + i)) i n0) (gRow σ (4 * u0 + i)) (gRow τ (4 * w0 + i)) (gRow_ne ok _) (gRow_ne kok _)) (va_cwS 3 hts gX6_join_X6_bend rfl rfl rfl (by decide +kernel) ⟨Nat.le_of_ble_eq_true rfl, Nat.le_of_ble_eq_true rfl⟩) (mx_preS hK trivial) rfl rfl hl.1 rfl (lv_room (Nat.le_of_ble_eq_true rfl)) dX6_join_239 ⟨Nat.zero_le _, Nat.zero_le _⟩) ?_
                                      refine x_iast hx hb hK.1 hP hD hS 24 0 (n := 32) (f := MB) rfl rfl (k := i) (by omega) (by omega) dX6_join_242 (MW G ad (va_up F 27 (nI (4 * n0))) (va_up (va_up U 28 (upd ML i (mjoin (gRow σ (4 * u0 + i)) (gRow τ (4 * w0 + i)) i n0))) 29 (upd MB i (mbend (mjoin (gRow σ (4 * u0 + i)) (gRow τ (4 * w0 + i)) i n0) (gRow σ (4 * u0 + i)) (gRow τ (4 * w0 + i)))))) rfl (fun H locs hP hD hS => ?_)
                                      refine x_iinc (lv' := [(8, .int (nI (i + 1))), (10, .int (gRow τ (4 * w0 + i))), (9, .int (gRow σ (4 * u0 + i))), (0, .ref (ad 0)), (1, .int (nI j)), (2, .int (nI k)), (3, .int (nI n0)), (4, .int (nI u0)), (5, .int (nI w0)), (6, .int ph), (7, .int (jCost (F 18) σ τ n0 u0 w0))]) hx hb dX6_join_243 hl (k := 10) rfl (x_inc1 _) (by decide) rfl (fun ls hl => ?_)
                                      refine lv_goto (tgt := 168) hx hb dX6_join_246 (by decide) ?_
                                      exact ih168 (i + 1) (upd ML i (mjoin (gRow σ (4 * u0 + i)) (gRow τ (4 * w0 + i)) i n0)) (upd MB i (mbend (mjoin (gRow σ (4 * u0 + i)) (gRow τ (4 * w0 + i)) i n0) (gRow σ (4 * u0 + i)) (gRow τ (4 * w0 + i)))) (by omega) (by omega) (pair_s hmt rfl rfl) _ _ hP hD hS _ (lv_sub hl [3, 4, 5, 6, 7, 8, 9, 10, 0] rfl)
                                exact lp168 (4 * n0 - 0 + 1) 0 (U 28) (U 29) (Nat.lt_succ_self _) (by omega) (lt_0) _ _ hP hD hS _ (lv_sub hl [2, 3, 4, 5, 6, 7, 8, 1, 0] rfl)
                              · have hway : jWay (F 18) (σ, τ, n0, u0, w0) ph = 4 := way_4 c_85 c_103 (fun q => q.2.elim c_121 c_131) c_152
                                refine lv_bipush (v := (-4)) hx hb dX6_join_155 (by decide) ?_
                                refine x_top (y := aJoin (F 18) (F 19) (F 20) (jArg so (nI j) (nI k) (nI n0) (nI u0) (nI w0)) ph) (by rw [hJ]; exact ((if_neg (by rw [hway]; decide)).trans ((if_neg (by rw [hway]; decide)).trans (if_pos hway))).symm) ?_
                                exact W.iret (v := aJoin (F 18) (F 19) (F 20) (jArg so (nI j) (nI k) (nI n0) (nI u0) (nI w0)) ph) hx hb hr (fun t9 ht9 hW9 => ⟨⟨(F, U), rfl, ⟨fun _ _ => rfl, fun i hi => hkp i (by omega), by rw [hJ, show (F, U).2 28 = R 28 from hkp 28 (by decide), show (F, U).2 29 = R 29 from hkp 29 (by decide)]; exact jMeet_s (by rw [hway]; decide)⟩, by rw [ht9]; exact hP, hD⟩, hS.F ht9⟩) hS.2.2 dX6_join_157
                            · have hway : jWay (F 18) (σ, τ, n0, u0, w0) ph = 3 := way_3 c_85 c_103 ⟨c_111, Or.inr c_131⟩
                              refine lv_bipush (v := (-3)) hx hb dX6_join_134 (by decide) ?_
                              refine x_top (y := aJoin (F 18) (F 19) (F 20) (jArg so (nI j) (nI k) (nI n0) (nI u0) (nI w0)) ph) (by rw [hJ]; exact ((if_neg (by rw [hway]; decide)).trans (if_pos hway)).symm) ?_
                              exact W.iret (v := aJoin (F 18) (F 19) (F 20) (jArg so (nI j) (nI k) (nI n0) (nI u0) (nI w0)) ph) hx hb hr (fun t9 ht9 hW9 => ⟨⟨(F, U), rfl, ⟨fun _ _ => rfl, fun i hi => hkp i (by omega), by rw [hJ, show (F, U).2 28 = R 28 from hkp 28 (by decide), show (F, U).2 29 = R 29 from hkp 29 (by decide)]; exact jMeet_s (by rw [hway]; decide)⟩, by rw [ht9]; exact hP, hD⟩, hS.F ht9⟩) hS.2.2 dX6_join_136
                      · have hway : jWay (F 18) (σ, τ, n0, u0, w0) ph = 2 := way_2b c_85 c_103
                        refine lv_bipush (v := (-2)) hx hb dX6_join_106 (by decide) ?_
                        refine x_top (y := aJoin (F 18) (F 19) (F 20) (jArg so (nI j) (nI k) (nI n0) (nI u0) (nI w0)) ph) (by rw [hJ]; exact (if_pos hway).symm) ?_
                        exact W.iret (v := aJoin (F 18) (F 19) (F 20) (jArg so (nI j) (nI k) (nI n0) (nI u0) (nI w0)) ph) hx hb hr (fun t9 ht9 hW9 => ⟨⟨(F, U), rfl, ⟨fun _ _ => rfl, fun i hi => hkp i (by omega), by rw [hJ, show (F, U).2 28 = R 28 from hkp 28 (by decide), show (F, U).2 29 = R 29 from hkp 29 (by decide)]; exact jMeet_s (by rw [hway]; decide)⟩, by rw [ht9]; exact hP, hD⟩, hS.F ht9⟩) hS.2.2 dX6_join_108
                  · have hJ : jArg so (nI j) (nI k) (nI n0) u w = none := jArg_3 hσ kσ (fun q => q.2.2.2.2 (Int32.not_lt.mp c_59))
                    refine lv_iconst (v := (-1)) hx hb dX6_join_62 (by decide) ?_
                    refine x_top (y := aJoin (F 18) (F 19) (F 20) (jArg so (nI j) (nI k) (nI n0) u w) ph) (by rw [hJ]; rfl) ?_
                    exact W.iret (v := aJoin (F 18) (F 19) (F 20) (jArg so (nI j) (nI k) (nI n0) u w) ph) hx hb hr (fun t9 ht9 hW9 => ⟨⟨(F, R), rfl, ⟨fun _ _ => rfl, fun _ _ => rfl, by rw [hJ]; exact jMeet_n⟩, by rw [ht9]; exact hP, hD⟩, hS.F ht9⟩) hS.2.2 dX6_join_63

set_option maxHeartbeats 4000000 in
set_option maxRecDepth 100000 in
theorem c_X6_best (l : Launch) (G : mx_G) (ad : Nat → Nat) (F : Nat → Int32) (R : Nat → Nat → Int32) (so : So) (x y n w : Int32) (hall : moAll R so) (sz : Nat) : mx_EF l yX6_best wsX6_best 5 123 0 0 G [.ref (ad 0), .int x, .int y, .int n, .int w] sz (MW G ad F R) (fun _ : (Nat → Int32) × (Nat → Nat → Int32) => some (.int (aBest (F 18) (F 19) (F 20) (bArg so x y n w) w))) (fun u9 : (Nat → Int32) × (Nat → Nat → Int32) => keepF u9.1 F ∧ keepX u9.2 R) (fun u9 : (Nat → Int32) × (Nat → Nat → Int32) => MW G ad u9.1 u9.2) := by
  refine Met.ofW (cc := cX6_best) (maxL := 6) (ret := (some .int)) (by decide) rfl ?_
  intro p e s m args below meth c s₁ BB hml hv
  obtain ⟨rfl, ⟨hsz, hP, hD0⟩, hK⟩ := hv
  have hx := BB.exec
  have hb := BB.bytes
  have hr := BB.returns
  have hts := atoms_spec (ws := wsX6_best) BB.pre
  have hown : s.vm.findClass RX6 = some m.cls := findClass_of_methodNamed BB.named
  have hlocks := BB.notSynchronized
  subst hsz
  have hD := hD0.self (sz := s.heap.size)
  have hA : ∀ q : Nat, s.heap.size ≤ q → va_A (MW G ad F R) s.heap.size q := fun q h => Or.inr h
  have hS : va_S (va_A (MW G ad F R) s.heap.size) s.heap s.heap [] := va_S.rf
  have fl186 := hts (.fieldLink RX6 186 "MixDeskModel" "bestP" "I") (by decide +kernel)
  have fl189 := hts (.fieldLink RX6 189 "MixDeskModel" "bestQ" "I") (by decide +kernel)
  have inX6 : ∀ w ∈ wsX60, w ∈ wsX6_best := by decide +kernel
  have ck164 := hts (.constant RX6 164 (1000000000)) (by decide +kernel)
  have hl := lv_entry ([.ref (ad 0), .int x, .int y, .int n, .int w]) (n := 6) (Nat.le_of_ble_eq_true rfl)
  rw [lg_entry_eq]
  generalize (lg_sl ([.ref (ad 0), .int x, .int y, .int n, .int w]) ++ List.replicate (6 - (lg_sl ([.ref (ad 0), .int x, .int y, .int n, .int w])).length) Slot.unset).toArray = ls at hl ⊢
  have hl : lv_has ls 6 [(0, .ref (ad 0)), (1, .int x), (2, .int y), (3, .int n), (4, .int w)] := hl
  refine lv_aload_n hx hb dX6_best_0 rfl (lv_at hl 0 rfl) ?_
  refine lv_iload_n hx hb dX6_best_1 rfl (lv_at hl 1 rfl) ?_
  refine mx_callRO (v := .int (isSongV R x)) (va_runV (As := [.int x]) (rest := []) ⟨hx, hb, hml, hown, hts⟩ (c_X6_isSong l G ad F R x) (cwV 1 hts gX6_best_X6_isSong rfl rfl rfl (by decide +kernel) ⟨Nat.le_of_ble_eq_true rfl, Nat.le_of_ble_eq_true rfl⟩) (mx_preV hK hP (va_recv hK.1 hP (ci := 6) (q0 := 0) rfl rfl)) rfl rfl hl.1 rfl (lv_room (Nat.le_of_ble_eq_true rfl)) dX6_best_2 ⟨Nat.zero_le _, Nat.zero_le _⟩) ?_
  refine lv_if_eq (tgt := 43) hx hb dX6_best_5 (by decide) (fun c_5 => ?_) (fun c_5 => ?_)
  · have hJ : bArg so x y n w = none := bArg_1 (song_no hall c_5)
    refine lv_iconst (v := (-1)) hx hb dX6_best_43 (by decide) ?_
    refine x_top (y := aBest (F 18) (F 19) (F 20) (bArg so x y n w) w) (by rw [hJ]; rfl) ?_
    exact W.iret (v := aBest (F 18) (F 19) (F 20) (bArg so x y n w) w) hx hb hr (fun t9 ht9 hW9 => ⟨⟨(F, R), rfl, ⟨fun _ _ _ => rfl, fun _ _ => rfl⟩, by rw [ht9]; exact hP, hD⟩, hS.F ht9⟩) hS.2.2 dX6_best_44
  · obtain ⟨j, σ, rfl, hs, hso, hσ, hth, hm, ok⟩ := song_of hall c_5
    refine lv_aload_n hx hb dX6_best_8 rfl (lv_at hl 0 rfl) ?_
    refine lv_iload_n hx hb dX6_best_9 rfl (lv_at hl 2 rfl) ?_
    refine mx_callRO (v := .int (isSongV R y)) (va_runV (As := [.int y]) (rest := []) ⟨hx, hb, hml, hown, hts⟩ (c_X6_isSong l G ad F R y) (cwV 1 hts gX6_best_X6_isSong rfl rfl rfl (by decide +kernel) ⟨Nat.le_of_ble_eq_true rfl, Nat.le_of_ble_eq_true rfl⟩) (mx_preV hK hP (va_recv hK.1 hP (ci := 6) (q0 := 0) rfl rfl)) rfl rfl hl.1 rfl (lv_room (Nat.le_of_ble_eq_true rfl)) dX6_best_10 ⟨Nat.zero_le _, Nat.zero_le _⟩) ?_
    refine lv_if_eq (tgt := 43) hx hb dX6_best_13 (by decide) (fun c_13 => ?_) (fun c_13 => ?_)
    · have hJ : bArg so (nI j) y n w = none := bArg_2 hσ (song_no hall c_13)
      refine lv_iconst (v := (-1)) hx hb dX6_best_43 (by decide) ?_
      refine x_top (y := aBest (F 18) (F 19) (F 20) (bArg so (nI j) y n w) w) (by rw [hJ]; rfl) ?_
      exact W.iret (v := aBest (F 18) (F 19) (F 20) (bArg so (nI j) y n w) w) hx hb hr (fun t9 ht9 hW9 => ⟨⟨(F, R), rfl, ⟨fun _ _ _ => rfl, fun _ _ => rfl⟩, by rw [ht9]; exact hP, hD⟩, hS.F ht9⟩) hS.2.2 dX6_best_44
    · obtain ⟨k, τ, rfl, ks, kso, kσ, kth, km, kok⟩ := song_of hall c_13
      refine lv_iload_n hx hb dX6_best_16 rfl (lv_at hl 1 rfl) ?_
      refine lv_iload_n hx hb dX6_best_17 rfl (lv_at hl 2 rfl) ?_
      refine x_icmp_eq (tgt := 43) hx hb (by omega) (by omega) dX6_best_18 (by decide) (fun c_18 => ?_) (fun c_18 => ?_)
      · have hJ : bArg so (nI j) (nI k) n w = none := bArg_3 hσ kσ (fun q => q.1 (congrArg nI c_18))
        refine lv_iconst (v := (-1)) hx hb dX6_best_43 (by decide) ?_
        refine x_top (y := aBest (F 18) (F 19) (F 20) (bArg so (nI j) (nI k) n w) w) (by rw [hJ]; rfl) ?_
        exact W.iret (v := aBest (F 18) (F 19) (F 20) (bArg so (nI j) (nI k) n w) w) hx hb hr (fun t9 ht9 hW9 => ⟨⟨(F, R), rfl, ⟨fun _ _ _ => rfl, fun _ _ => rfl⟩, by rw [ht9]; exact hP, hD⟩, hS.F ht9⟩) hS.2.2 dX6_best_44
      · refine lv_iload_n hx hb dX6_best_21 rfl (lv_at hl 3 rfl) ?_
        refine lv_iconst (v := nI 1) hx hb dX6_best_22 (by decide) ?_
        refine lv_icmp_lt (tgt := 43) hx hb dX6_best_23 (by decide) (fun c_23 => ?_) (fun c_23 => ?_)
        · have hJ : bArg so (nI j) (nI k) n w = none := bArg_3 hσ kσ (fun q => q.2.1.1 c_23)
          refine lv_iconst (v := (-1)) hx hb dX6_best_43 (by decide) ?_
          refine x_top (y := aBest (F 18) (F 19) (F 20) (bArg so (nI j) (nI k) n w) w) (by rw [hJ]; rfl) ?_
          exact W.iret (v := aBest (F 18) (F 19) (F 20) (bArg so (nI j) (nI k) n w) w) hx hb hr (fun t9 ht9 hW9 => ⟨⟨(F, R), rfl, ⟨fun _ _ _ => rfl, fun _ _ => rfl⟩, by rw [ht9]; exact hP, hD⟩, hS.F ht9⟩) hS.2.2 dX6_best_44
        · refine lv_iload_n hx hb dX6_best_26 rfl (lv_at hl 3 rfl) ?_
          refine lv_bipush (v := nI 8) hx hb dX6_best_27 (by decide) ?_
          refine lv_icmp_gt (tgt := 43) hx hb dX6_best_29 (by decide) (fun c_29 => ?_) (fun c_29 => ?_)
          · have hJ : bArg so (nI j) (nI k) n w = none := bArg_3 hσ kσ (fun q => q.2.1.2 c_29)
            refine lv_iconst (v := (-1)) hx hb dX6_best_43 (by decide) ?_
            refine x_top (y := aBest (F 18) (F 19) (F 20) (bArg so (nI j) (nI k) n w) w) (by rw [hJ]; rfl) ?_
            exact W.iret (v := aBest (F 18) (F 19) (F 20) (bArg so (nI j) (nI k) n w) w) hx hb hr (fun t9 ht9 hW9 => ⟨⟨(F, R), rfl, ⟨fun _ _ _ => rfl, fun _ _ => rfl⟩, by rw [ht9]; exact hP, hD⟩, hS.F ht9⟩) hS.2.2 dX6_best_44
          · obtain ⟨n0, hn8, rfl⟩ := le_of (n := 8) (by omega) (fun q => c_23 (Int32.lt_trans q (by decide))) c_29
            have hn1 : ¬ n0 < 1 := fun q => c_23 ((nI_ltI (by omega) (by omega)).mpr q)
            refine lv_iload hx hb dX6_best_32 (lv_at hl 4 rfl) ?_
            refine lv_if_lt (tgt := 43) hx hb dX6_best_34 (by decide) (fun c_34 => ?_) (fun c_34 => ?_)
            · have hJ : bArg so (nI j) (nI k) (nI n0) w = none := bArg_3 hσ kσ (fun q => q.2.2.1 c_34)
              refine lv_iconst (v := (-1)) hx hb dX6_best_43 (by decide) ?_
              refine x_top (y := aBest (F 18) (F 19) (F 20) (bArg so (nI j) (nI k) (nI n0) w) w) (by rw [hJ]; rfl) ?_
              exact W.iret (v := aBest (F 18) (F 19) (F 20) (bArg so (nI j) (nI k) (nI n0) w) w) hx hb hr (fun t9 ht9 hW9 => ⟨⟨(F, R), rfl, ⟨fun _ _ _ => rfl, fun _ _ => rfl⟩, by rw [ht9]; exact hP, hD⟩, hS.F ht9⟩) hS.2.2 dX6_best_44
            · refine lv_iload hx hb dX6_best_37 (lv_at hl 4 rfl) ?_
              refine lv_iconst (v := nI 2) hx hb dX6_best_39 (by decide) ?_
              refine lv_icmp_le (tgt := 45) hx hb dX6_best_40 (by decide) (fun c_40 => ?_) (fun c_40 => ?_)
              · have hJ : bArg so (nI j) (nI k) (nI n0) w = some (σ, τ, n0) := by rw [bArg_4 hσ kσ ⟨fun e => c_18 ((nI_eq (by omega) (by omega)).mp e), ⟨c_23, c_29⟩, c_34, Int32.not_lt.mpr c_40⟩, nI_clamp (by omega)]
                refine lv_aload_n hx hb dX6_best_45 rfl (lv_at hl 0 rfl) ?_
                refine lv_iload_n hx hb dX6_best_46 rfl (lv_at hl 1 rfl) ?_
                refine lv_iload_n hx hb dX6_best_47 rfl (lv_at hl 2 rfl) ?_
                refine lv_iload_n hx hb dX6_best_48 rfl (lv_at hl 3 rfl) ?_
                refine mx_callEi (va_runV (As := [.int (nI j), .int (nI k), .int (nI n0)]) (rest := []) ⟨hx, hb, hml, hown, hts⟩ (c_X6_bestOf l G ad F R j k σ τ n0 hs ks hm km ok kok (by omega) (by omega) _) (cwV 3 hts gX6_best_X6_bestOf rfl rfl rfl (by decide +kernel) ⟨Nat.le_of_ble_eq_true rfl, Nat.le_of_ble_eq_true rfl⟩) (mx_preV hK ⟨rfl, hP, mx_any hD (fun _ _ => trivial)⟩ (va_recv hK.1 hP (ci := 6) (q0 := 0) rfl rfl)) rfl rfl hl.1 rfl (lv_room (Nat.le_of_ble_eq_true rfl)) dX6_best_49 ⟨Nat.zero_le _, Nat.zero_le _⟩) hP hD hS hA (mx_perm0) (fun u8 H locs hu8 hP hD hS => ?_)
                rw [List.append_nil] at hP hD
                obtain ⟨F8, U8⟩ := u8
                obtain ⟨hkf, hkx, hbf⟩ := hu8
                have hkf : keepF F8 F := hkf
                have hkx : keepX U8 R := hkx
                have hbf : bestF F8 (bestT (F 18) σ τ n0) := hbf
                have hP : va_P G.1 vwCl (MW G ad F8 U8) H := hP
                have hD : va_D _ (MW G ad F8 U8) := hD
                refine lv_istore (lv' := [(5, .int (bestV (F 18) (F 19) (F 20) σ τ n0)), (0, .ref (ad 0)), (1, .int (nI j)), (2, .int (nI k)), (3, .int (nI n0)), (4, .int w)]) hx hb dX6_best_52 hl (by decide) rfl (fun ls hl => ?_)
                refine lv_iload hx hb dX6_best_54 (lv_at hl 0 rfl) ?_
                refine lv_ldc hx hb hown ck164 dX6_best_56 ?_
                refine x_top (y := nI 1000000000) (by decide) ?_
                refine lv_icmp_ne (tgt := 65) hx hb dX6_best_58 (by decide) (fun c_58 => ?_) (fun c_58 => ?_)
                · refine lv_iload hx hb dX6_best_65 (lv_at hl 5 rfl) ?_
                  refine lv_if_ne (tgt := 75) hx hb dX6_best_67 (by decide) (fun c_67 => ?_) (fun c_67 => ?_)
                  · refine lv_iload hx hb dX6_best_75 (lv_at hl 5 rfl) ?_
                    refine lv_iconst (v := nI 1) hx hb dX6_best_77 (by decide) ?_
                    refine lv_icmp_ne (tgt := 88) hx hb dX6_best_78 (by decide) (fun c_78 => ?_) (fun c_78 => ?_)
                    · refine lv_aload_n hx hb dX6_best_88 rfl (lv_at hl 1 rfl) ?_
                      refine va_get (D := G.1) (ci := 6) (v := .int (F8 31)) (C := RX6) (T := TX6) (N := 36) hx hb hts inX6 hown hK.1 hP 0 rfl rfl 31 (by decide) fl189 (fun _ h9 => h9) rfl dX6_best_89 ?_
                      refine x_top (y := aBest (F 18) (F 19) (F 20) (bArg so (nI j) (nI k) (nI n0) w) w) (by rw [hJ, (hbf (bestV_far c_58)).2]; exact ((if_neg c_58).trans ((if_neg c_67).trans (if_neg c_78))).symm) ?_
                      exact W.iret (v := aBest (F 18) (F 19) (F 20) (bArg so (nI j) (nI k) (nI n0) w) w) hx hb hr (fun t9 ht9 hW9 => ⟨⟨(F8, U8), rfl, ⟨hkf, hkx⟩, by rw [ht9]; exact hP, hD⟩, hS.F ht9⟩) hS.2.2 dX6_best_92
                    · refine lv_aload_n hx hb dX6_best_81 rfl (lv_at hl 1 rfl) ?_
                      refine va_get (D := G.1) (ci := 6) (v := .int (F8 30)) (C := RX6) (T := TX6) (N := 36) hx hb hts inX6 hown hK.1 hP 0 rfl rfl 30 (by decide) fl186 (fun _ h9 => h9) rfl dX6_best_82 ?_
                      refine lv_goto (tgt := 92) hx hb dX6_best_85 (by decide) ?_
                      refine x_top (y := aBest (F 18) (F 19) (F 20) (bArg so (nI j) (nI k) (nI n0) w) w) (by rw [hJ, (hbf (bestV_far c_58)).1]; exact ((if_neg c_58).trans ((if_neg c_67).trans (if_pos c_78))).symm) ?_
                      exact W.iret (v := aBest (F 18) (F 19) (F 20) (bArg so (nI j) (nI k) (nI n0) w) w) hx hb hr (fun t9 ht9 hW9 => ⟨⟨(F8, U8), rfl, ⟨hkf, hkx⟩, by rw [ht9]; exact hP, hD⟩, hS.F ht9⟩) hS.2.2 dX6_best_92
                  · refine lv_iload hx hb dX6_best_70 (lv_at hl 0 rfl) ?_
                    refine lv_goto (tgt := 92) hx hb dX6_best_72 (by decide) ?_
                    refine x_top (y := aBest (F 18) (F 19) (F 20) (bArg so (nI j) (nI k) (nI n0) w) w) (by rw [hJ]; exact ((if_neg c_58).trans (if_pos c_67)).symm) ?_
                    exact W.iret (v := aBest (F 18) (F 19) (F 20) (bArg so (nI j) (nI k) (nI n0) w) w) hx hb hr (fun t9 ht9 hW9 => ⟨⟨(F8, U8), rfl, ⟨hkf, hkx⟩, by rw [ht9]; exact hP, hD⟩, hS.F ht9⟩) hS.2.2 dX6_best_92
                · refine lv_iconst (v := (-1)) hx hb dX6_best_61 (by decide) ?_
                  refine lv_goto (tgt := 92) hx hb dX6_best_62 (by decide) ?_
                  refine x_top (y := aBest (F 18) (F 19) (F 20) (bArg so (nI j) (nI k) (nI n0) w) w) (by rw [hJ]; exact (if_pos c_58).symm) ?_
                  exact W.iret (v := aBest (F 18) (F 19) (F 20) (bArg so (nI j) (nI k) (nI n0) w) w) hx hb hr (fun t9 ht9 hW9 => ⟨⟨(F8, U8), rfl, ⟨hkf, hkx⟩, by rw [ht9]; exact hP, hD⟩, hS.F ht9⟩) hS.2.2 dX6_best_92
              · have hJ : bArg so (nI j) (nI k) (nI n0) w = none := bArg_3 hσ kσ (fun q => q.2.2.2 (Int32.not_le.mp c_40))
                refine lv_iconst (v := (-1)) hx hb dX6_best_43 (by decide) ?_
                refine x_top (y := aBest (F 18) (F 19) (F 20) (bArg so (nI j) (nI k) (nI n0) w) w) (by rw [hJ]; rfl) ?_
                exact W.iret (v := aBest (F 18) (F 19) (F 20) (bArg so (nI j) (nI k) (nI n0) w) w) hx hb hr (fun t9 ht9 hW9 => ⟨⟨(F, R), rfl, ⟨fun _ _ _ => rfl, fun _ _ => rfl⟩, by rw [ht9]; exact hP, hD⟩, hS.F ht9⟩) hS.2.2 dX6_best_44
